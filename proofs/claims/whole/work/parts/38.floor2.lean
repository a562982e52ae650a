
/-! walks: what the class's FLOOR tells -/
theorem m9_le {j : Nat} (hj : j < 2 ^ 31) : (-9 : Int32) ≤ nI j := by
  apply Int32.le_iff_toInt_le.mpr
  rw [nI_toInt hj]
  have e : (-9 : Int32).toInt = -9 := rfl
  omega
theorem mtC_e {μ : Sx} (hb : MIb μ) (hl : MIl μ) {k f : Nat} (hk : k < μ.1 19) (hf : f ≤ 4) : metM μ k f 0 ≤ nI (10 * k + f) ↔ mtC μ k f = false := by
  have h10 := hl.1
  show _ ↔ (!decide (metM μ k f 0 / nI 10 ≤ nI k)) = false
  rw [Bool.not_eq_false', decide_eq_true_eq]
  rcases met_v hb hl (k := k) (f := f) (i := 0) (by decide) with q | ⟨o, g, h1, h2, h3, h4, h5, q⟩
  · rw [q]
    have e : (-9 : Int32) / nI 10 = nI 0 := by decide
    rw [e]
    exact ⟨fun _ => (nI_leI (by omega) (by omega)).mpr (Nat.zero_le _), fun _ => m9_le (by omega)⟩
  · rw [q, pk_div (by omega) (by omega) (by omega), nI_leI (by omega) (by omega), nI_leI (by omega) (by omega)]
    omega
theorem lf_n {μ : Sx} {k f : Nat} (h : metM μ k f 1 = -9) : lfB μ k f = false := by
  show (!decide (metM μ k f 1 < 0)) = false
  rw [h]
  decide
theorem lf_y {μ : Sx} (hb : MIb μ) (hl : MIl μ) {k f : Nat} (h : ¬ metM μ k f 1 = -9) : lfB μ k f = true := by
  have h10 := hl.1
  rcases met_v hb hl (k := k) (f := f) (i := 1) (by decide) with q | ⟨o, g, h1, h2, h3, h4, h5, q⟩
  · exact absurd q h
  · show (!decide (metM μ k f 1 < 0)) = true
    rw [q, decide_eq_false (n9_lt (by omega))]
    rfl

set_option maxHeartbeats 1000000 in
set_option maxRecDepth 100000 in
theorem c_X2_metBy (l : Launch) (G : Gt) (fl : Nat) (φ : Sx) (μ : Sx) (k : Nat) (f : Nat) (i : Nat) (hb0 : MIb μ) (hl0 : MIl μ) (hk8 : k < μ.1 19) (hf8 : f < fcL μ k) (hi2 : i < 100) : Cr l G yX2_metBy cX2_metBy 7 ((some .int)) 2 [.ref fl, .int (nI k), .int (nI f), .int (nI i)] (fun H => bk G fl (flL G fl φ) H ∧ FB G μ φ H) (some (.int (metM μ k f i))) := by
  refine cr_entry [(0, .ref fl), (1, .int (nI k)), (2, .int (nI f)), (3, .int (nI i))] (by decide) (Nat.le_of_ble_eq_true rfl) rfl ?_
  intro zp ze zs zm za zb zt zc Q S hK hPre hE ls hl
  have hx := S.1
  have hb := S.2.1
  obtain ⟨hF, hNB⟩ := hPre
  have h10 := hl0.1
  have hf3 := hNB.1
  have hg0 := mig hb0 hl0
  have hi0 : ¬ nI i < 0 := n9_lt (by omega)
  obtain ⟨i1, hq1⟩ := hg0 k hk8 f hf8
  have hi144 := (fnd_lt _ _ hq1).2.1
  refine lv_iconst (v := nI 0) hx hb dX2_metBy_0 (by decide) ?_
  refine lv_istore (lv' := [(4, .int (nI 0)), (0, .ref fl), (1, .int (nI k)), (2, .int (nI f)), (3, .int (nI i))]) hx hb dX2_metBy_1 hl (by decide) rfl (fun ls hl => ?_)
  refine lv_iconst (v := nI 0) hx hb dX2_metBy_3 (by decide) ?_
  refine lv_istore (lv' := [(5, .int (nI 0)), (4, .int (nI 0)), (0, .ref fl), (1, .int (nI k)), (2, .int (nI f)), (3, .int (nI i))]) hx hb dX2_metBy_4 hl (by decide) rfl (fun ls hl => ?_)
  have L6 : ∀ (fu : Nat), ∀ (vu : Nat) (vo : Nat) (vm : Nat), (vo ≤ μ.1 19) → (6 * (μ.1 19 - vo) + 1 ≤ vu) → (vm ≤ 5 * vo) → (frW (μ.1 19) (fcL μ) (mtZ μ k f) (nI i) (-9) vu vo 0 vm = metM μ k f i) → μ.1 19 - vo < fu → ∀ ls : Array Slot, lv_has ls 7 [(0, .ref fl), (1, .int (nI k)), (2, .int (nI f)), (3, .int (nI i)), (4, .int (nI vm)), (5, .int (nI vo))] → W zp l ze (rL 2 0 0) zs zm za zb zt zc zs.heap [] 0 0 Q (F0 zm 6 ls []) := by
    intro fu
    induction fu with
    | zero =>
      intro vu vo vm hvo hvu hvm hfin hmu ls hl
      exact absurd hmu (Nat.not_lt_zero _)
    | succ fu ih6 =>
      intro vu vo vm hvo hvu hvm hfin hmu ls hl
      refine lv_iload hx hb dX2_metBy_6 (lv_at hl 5 rfl) ?_
      refine lv_aload_n hx hb dX2_metBy_8 rfl (lv_at hl 0 rfl) ?_
      refine kg (C := RX2) (T := TX2) (N := 4) (ci := 1) (k := 3) (v := .int (nI (φ.1 3))) S hK rfl inX2 (by decide) q_111 dX2_metBy_9 hF rfl rfl ?_
      refine n_icmp_ge (tgt := 79) hx hb dX2_metBy_12 (by decide) (by omega) (by omega) (fun c_12 => ?_) (fun c_12 => ?_)
      ·
        obtain ⟨vv, rfl⟩ : ∃ z, vu = z + 1 := ⟨vu - 1, by omega⟩
        rw [frW_e (by omega), if_neg hi0] at hfin
        refine lv_bipush (v := (-9)) hx hb dX2_metBy_79 (by decide) ?_
        refine w_top (v' := .int (metM μ k f i)) (congrArg (fun z => Value.int z) (show (-9) = (metM μ k f i) from hfin)) ?_
        exact hE _ _ (kr_i dX2_metBy_81)
      ·
        have co : vo < μ.1 19 := by omega
        have hfo5 := fcL_5 hb0 hl0 co
        refine lv_iconst (v := nI 0) hx hb dX2_metBy_15 (by decide) ?_
        refine lv_istore (lv' := [(6, .int (nI 0)), (0, .ref fl), (1, .int (nI k)), (2, .int (nI f)), (3, .int (nI i)), (4, .int (nI vm)), (5, .int (nI vo))]) hx hb dX2_metBy_16 hl (by decide) rfl (fun ls hl => ?_)
        have L18 : ∀ (fu : Nat), ∀ (vw : Nat) (vg : Nat) (vm : Nat), (vg ≤ fcL μ vo) → (6 * (μ.1 19 - vo) + 1 ≤ vw + vg) → (vm ≤ 5 * vo + vg) → (frW (μ.1 19) (fcL μ) (mtZ μ k f) (nI i) (-9) vw vo vg vm = metM μ k f i) → fcL μ vo - vg < fu → ∀ ls : Array Slot, lv_has ls 7 [(0, .ref fl), (1, .int (nI k)), (2, .int (nI f)), (3, .int (nI i)), (4, .int (nI vm)), (5, .int (nI vo)), (6, .int (nI vg))] → W zp l ze (rL 2 0 0) zs zm za zb zt zc zs.heap [] 0 0 Q (F0 zm 18 ls []) := by
          intro fu
          induction fu with
          | zero =>
            intro vw vg vm hvg hvw hvm2 hfin2 hmu ls hl
            exact absurd hmu (Nat.not_lt_zero _)
          | succ fu ih18 =>
            intro vw vg vm hvg hvw hvm2 hfin2 hmu ls hl
            refine lv_iload hx hb dX2_metBy_18 (lv_at hl 5 rfl) ?_
            refine lv_iload_n hx hb dX2_metBy_20 rfl (lv_at hl 1 rfl) ?_
            refine n_icmp_eq (tgt := 73) hx hb dX2_metBy_21 (by decide) (by omega) (by omega) (fun c_21 => ?_) (fun c_21 => ?_)
            ·
              refine lv_iinc (v := (nI (vo + 1))) (lv' := [(5, .int (nI (vo + 1))), (0, .ref fl), (1, .int (nI k)), (2, .int (nI f)), (3, .int (nI i)), (4, .int (nI vm)), (6, .int (nI vg))]) hx hb dX2_metBy_73 hl (k := 5) rfl (inc1 _) (by decide) rfl (fun ls hl => ?_)
              refine lv_goto (tgt := 6) hx hb dX2_metBy_76 (by decide) ?_
              exact ih6 (vw - (fcL μ vo - vg) - 1) (vo + 1) vm (by omega) (by omega) (by omega) ((frW_sk (P := μ.1 19) (F := fcL μ) (Z := mtZ μ k f) (i := nI i) (last := -9) (k := vo) (by omega) (fun g _ => by unfold mtZ; rw [decide_eq_true c_21]; rfl) (fcL μ vo - vg) vg (vw - (fcL μ vo - vg) - 1) vm (by omega)).symm.trans ((congrArg (fun z => frW (μ.1 19) (fcL μ) (mtZ μ k f) (nI i) (-9) z vo vg vm) (show vw - (fcL μ vo - vg) - 1 + (fcL μ vo - vg) + 1 = vw by omega)).trans hfin2)) (by omega) ls (lv_sub hl [1, 2, 3, 4, 5, 0] rfl)
            ·
              obtain ⟨vv, rfl⟩ : ∃ z, vw = z + 1 := ⟨vw - 1, by omega⟩
              refine lv_iload hx hb dX2_metBy_24 (lv_at hl 6 rfl) ?_
              refine lv_aload_n hx hb dX2_metBy_26 rfl (lv_at hl 0 rfl) ?_
              refine lv_iload hx hb dX2_metBy_27 (lv_at hl 5 rfl) ?_
              refine crV (rest := [.int (nI vg)]) S hK (c_X2_facesOf_y l G fl φ μ vo (by first | assumption | omega | decide) (by first | assumption | omega | decide) co) cw_X2_28 rfl ⟨Nat.le_of_ble_eq_true rfl, Nat.le_of_ble_eq_true rfl⟩ ⟨Nat.le_of_ble_eq_true rfl, Nat.le_of_ble_eq_true rfl⟩ (bk.recv hK hF rfl rfl) hl.1 rfl (Nat.le_of_ble_eq_true rfl) dX2_metBy_29 ⟨hF, hNB⟩ ?_
              refine n_icmp_ge (tgt := 73) hx hb dX2_metBy_32 (by decide) (by omega) (by omega) (fun c_32 => ?_) (fun c_32 => ?_)
              ·
                refine lv_iinc (v := (nI (vo + 1))) (lv' := [(5, .int (nI (vo + 1))), (0, .ref fl), (1, .int (nI k)), (2, .int (nI f)), (3, .int (nI i)), (4, .int (nI vm)), (6, .int (nI vg))]) hx hb dX2_metBy_73 hl (k := 5) rfl (inc1 _) (by decide) rfl (fun ls hl => ?_)
                refine lv_goto (tgt := 6) hx hb dX2_metBy_76 (by decide) ?_
                exact ih6 vv (vo + 1) vm (by omega) (by omega) (by omega) ((frW_k (by omega) (by omega)).symm.trans hfin2) (by omega) ls (lv_sub hl [1, 2, 3, 4, 5, 0] rfl)
              ·
                obtain ⟨j1, hq2⟩ := hg0 vo co vg (by omega)
                have hj144 := (fnd_lt _ _ hq2).2.1
                have hbd := bes_d (a := i1 / 12) (b := i1 % 12) (c := j1 / 12) (d := j1 % 12) (by omega) (by omega) (by omega) (by omega)
                rw [← plN_s hq1, ← plN_s hq2] at hbd
                refine lv_aload_n hx hb dX2_metBy_35 rfl (lv_at hl 0 rfl) ?_
                refine lv_iload_n hx hb dX2_metBy_36 rfl (lv_at hl 1 rfl) ?_
                refine lv_iload_n hx hb dX2_metBy_37 rfl (lv_at hl 2 rfl) ?_
                refine lv_iload hx hb dX2_metBy_38 (lv_at hl 5 rfl) ?_
                refine lv_iload hx hb dX2_metBy_40 (lv_at hl 6 rfl) ?_
                refine crV (rest := []) S hK (c_X2_distance l G fl φ μ k f i1 vo vg j1 (by first | assumption | omega | decide) (by first | assumption | omega | decide) (by first | assumption | omega | decide) (by first | assumption | omega | decide) hq1 co (by omega) hq2) cw_X2_36 rfl ⟨Nat.le_of_ble_eq_true rfl, Nat.le_of_ble_eq_true rfl⟩ ⟨Nat.le_of_ble_eq_true rfl, Nat.le_of_ble_eq_true rfl⟩ (bk.recv hK hF rfl rfl) hl.1 rfl (Nat.le_of_ble_eq_true rfl) dX2_metBy_42 ⟨hF, hNB⟩ ?_
                refine lv_iconst (v := nI 1) hx hb dX2_metBy_45 (by decide) ?_
                refine n_icmp_ne (tgt := 67) hx hb dX2_metBy_46 (by decide) (by omega) (by decide) (fun c_46 => ?_) (fun c_46 => ?_)
                ·
                  have hz1 : mtZ μ k f vo vg = false := by
                    unfold mtZ
                    cases hz : besB (plN μ k f) (plN μ vo vg)
                    · exact Bool.and_false _
                    · exact absurd (hbd.mpr hz) (by omega)
                  refine lv_iinc (v := (nI (vg + 1))) (lv' := [(6, .int (nI (vg + 1))), (0, .ref fl), (1, .int (nI k)), (2, .int (nI f)), (3, .int (nI i)), (4, .int (nI vm)), (5, .int (nI vo))]) hx hb dX2_metBy_67 hl (k := 6) rfl (inc1 _) (by decide) rfl (fun ls hl => ?_)
                  refine lv_goto (tgt := 18) hx hb dX2_metBy_70 (by decide) ?_
                  exact ih18 vv (vg + 1) vm (by omega) (by omega) (by omega) ((frW_n co (by omega) hz1).symm.trans hfin2) (by omega) ls (lv_sub hl [1, 2, 3, 4, 5, 6, 0] rfl)
                ·
                  have hz1 : mtZ μ k f vo vg = true := by
                    unfold mtZ
                    rw [decide_eq_false c_21, hbd.mp (by omega)]
                    rfl
                  refine lv_iload hx hb dX2_metBy_49 (lv_at hl 4 rfl) ?_
                  refine lv_iload_n hx hb dX2_metBy_51 rfl (lv_at hl 3 rfl) ?_
                  refine n_icmp_ne (tgt := 64) hx hb dX2_metBy_52 (by decide) (by omega) (by omega) (fun c_52 => ?_) (fun c_52 => ?_)
                  ·
                    have c52 : ¬ nI vm = nI i := fun q => c_52 ((nI_eq (by omega) (by omega)).mp q)
                    refine lv_iinc (v := (nI (vm + 1))) (lv' := [(4, .int (nI (vm + 1))), (0, .ref fl), (1, .int (nI k)), (2, .int (nI f)), (3, .int (nI i)), (5, .int (nI vo)), (6, .int (nI vg))]) hx hb dX2_metBy_64 hl (k := 4) rfl (inc1 _) (by decide) rfl (fun ls hl => ?_)
                    refine lv_iinc (v := (nI (vg + 1))) (lv' := [(6, .int (nI (vg + 1))), (4, .int (nI (vm + 1))), (0, .ref fl), (1, .int (nI k)), (2, .int (nI f)), (3, .int (nI i)), (5, .int (nI vo))]) hx hb dX2_metBy_67 hl (k := 6) rfl (inc1 _) (by decide) rfl (fun ls hl => ?_)
                    refine lv_goto (tgt := 18) hx hb dX2_metBy_70 (by decide) ?_
                    exact ih18 vv (vg + 1) (vm + 1) (by omega) (by omega) (by omega) ((frW_y co (by omega) hz1 c52).symm.trans hfin2) (by omega) ls (lv_sub hl [2, 3, 4, 5, 1, 6, 0] rfl)
                  ·
                    have c52 : nI vm = nI i := by rw [show vm = i from by omega]
                    refine lv_bipush (v := nI 10) hx hb dX2_metBy_55 (by decide) ?_
                    refine lv_iload hx hb dX2_metBy_57 (lv_at hl 5 rfl) ?_
                    refine n_imul hx hb dX2_metBy_59 ?_
                    refine lv_iload hx hb dX2_metBy_60 (lv_at hl 6 rfl) ?_
                    refine n_iadd hx hb dX2_metBy_62 ?_
                    refine w_top (v' := .int (metM μ k f i)) (show (.int (nI ((10 * vo) + vg)) : Value) = .int (metM μ k f i) from (congrArg (fun z => Value.int z) ((frW_r co (by omega) hz1 c52).symm.trans hfin2))) ?_
                    exact hE _ _ (kr_i dX2_metBy_63)
        exact L18 ((fcL μ vo - 0) + 1) vu 0 vm (Nat.zero_le _) (by omega) (by omega) hfin (Nat.lt_succ_self _) ls (lv_sub hl [1, 2, 3, 4, 5, 6, 0] rfl)
  exact L6 ((μ.1 19 - 0) + 1) 100 0 0 (Nat.zero_le _) (by omega) (by omega) rfl (Nat.lt_succ_self _) ls (lv_sub hl [2, 3, 4, 5, 1, 0] rfl)

set_option maxHeartbeats 1000000 in
set_option maxRecDepth 100000 in
theorem c_X2_hasCrowdedFace (l : Launch) (G : Gt) (fl : Nat) (φ : Sx) (μ : Sx) (k : Nat) (hb0 : MIb μ) (hl0 : MIl μ) (hk8 : k < μ.1 19) : Cr l G yX2_hasCrowdedFace cX2_hasCrowdedFace 3 ((some .boolean)) 3 [.ref fl, .int (nI k)] (fun H => bk G fl (flL G fl φ) H ∧ FB G μ φ H) (some (.int (b2i ((fnd (lfB μ k) (fcL μ k) 0).isSome)))) := by
  refine cr_entry [(0, .ref fl), (1, .int (nI k))] (by decide) (Nat.le_of_ble_eq_true rfl) rfl ?_
  intro zp ze zs zm za zb zt zc Q S hK hPre hE ls hl
  have hx := S.1
  have hb := S.2.1
  obtain ⟨hF, hNB⟩ := hPre
  have h10 := hl0.1
  have hfo5 := fcL_5 hb0 hl0 hk8
  refine lv_iconst (v := nI 0) hx hb dX2_hasCrowdedFace_0 (by decide) ?_
  refine lv_istore_n (lv' := [(2, .int (nI 0)), (0, .ref fl), (1, .int (nI k))]) hx hb dX2_hasCrowdedFace_1 rfl hl (by decide) rfl (fun ls hl => ?_)
  have L2 : ∀ (fu : Nat), ∀ (vf : Nat), (vf ≤ fcL μ k) → (∀ f, f < vf → lfB μ k f = false) → fcL μ k - vf < fu → ∀ ls : Array Slot, lv_has ls 3 [(0, .ref fl), (1, .int (nI k)), (2, .int (nI vf))] → W zp l ze (rL 3 0 0) zs zm za zb zt zc zs.heap [] 0 0 Q (F0 zm 2 ls []) := by
    intro fu
    induction fu with
    | zero =>
      intro vf hvf hA hmu ls hl
      exact absurd hmu (Nat.not_lt_zero _)
    | succ fu ih2 =>
      intro vf hvf hA hmu ls hl
      refine lv_iload_n hx hb dX2_hasCrowdedFace_2 rfl (lv_at hl 2 rfl) ?_
      refine lv_aload_n hx hb dX2_hasCrowdedFace_3 rfl (lv_at hl 0 rfl) ?_
      refine lv_iload_n hx hb dX2_hasCrowdedFace_4 rfl (lv_at hl 1 rfl) ?_
      refine crV (rest := [.int (nI vf)]) S hK (c_X2_facesOf_y l G fl φ μ k (by first | assumption | omega | decide) (by first | assumption | omega | decide) (by first | assumption | omega | decide)) cw_X2_28 rfl ⟨Nat.le_of_ble_eq_true rfl, Nat.le_of_ble_eq_true rfl⟩ ⟨Nat.le_of_ble_eq_true rfl, Nat.le_of_ble_eq_true rfl⟩ (bk.recv hK hF rfl rfl) hl.1 rfl (Nat.le_of_ble_eq_true rfl) dX2_hasCrowdedFace_5 ⟨hF, hNB⟩ ?_
      refine n_icmp_ge (tgt := 31) hx hb dX2_hasCrowdedFace_8 (by decide) (by omega) (by omega) (fun c_8 => ?_) (fun c_8 => ?_)
      ·
        have hr : (fnd (lfB μ k) (fcL μ k) 0).isSome = false := fnd_all (fun i hi => hA i (by omega))
        refine lv_iconst (v := nI 0) hx hb dX2_hasCrowdedFace_31 (by decide) ?_
        refine w_top (v' := .int (b2i ((fnd (lfB μ k) (fcL μ k) 0).isSome))) (bz_f (show ((fnd (lfB μ k) (fcL μ k) 0).isSome) = false from hr)) ?_
        exact hE _ _ (kr_z dX2_hasCrowdedFace_32)
      ·
        refine lv_aload_n hx hb dX2_hasCrowdedFace_11 rfl (lv_at hl 0 rfl) ?_
        refine lv_iload_n hx hb dX2_hasCrowdedFace_12 rfl (lv_at hl 1 rfl) ?_
        refine lv_iload_n hx hb dX2_hasCrowdedFace_13 rfl (lv_at hl 2 rfl) ?_
        refine lv_iconst (v := nI 1) hx hb dX2_hasCrowdedFace_14 (by decide) ?_
        refine crV (rest := []) S hK (c_X2_metBy l G fl φ μ k vf 1 (by first | assumption | omega | decide) (by first | assumption | omega | decide) (by first | assumption | omega | decide) (by omega) (by first | assumption | omega | decide)) cw_X2_47 rfl ⟨Nat.le_of_ble_eq_true rfl, Nat.le_of_ble_eq_true rfl⟩ ⟨Nat.le_of_ble_eq_true rfl, Nat.le_of_ble_eq_true rfl⟩ (bk.recv hK hF rfl rfl) hl.1 rfl (Nat.le_of_ble_eq_true rfl) dX2_hasCrowdedFace_15 ⟨hF, hNB⟩ ?_
        refine lv_bipush (v := (-9)) hx hb dX2_hasCrowdedFace_18 (by decide) ?_
        refine lv_icmp_eq (tgt := 25) hx hb dX2_hasCrowdedFace_20 (by decide) (fun c_20 => ?_) (fun c_20 => ?_)
        ·
          refine lv_iinc (v := (nI (vf + 1))) (lv' := [(2, .int (nI (vf + 1))), (0, .ref fl), (1, .int (nI k))]) hx hb dX2_hasCrowdedFace_25 hl (k := 2) rfl (inc1 _) (by decide) rfl (fun ls hl => ?_)
          refine lv_goto (tgt := 2) hx hb dX2_hasCrowdedFace_28 (by decide) ?_
          exact ih2 (vf + 1) (by omega) (fun f hf => by
            by_cases e : f = vf
            · rw [e]; exact lf_n c_20
            · exact hA f (by omega)) (by omega) ls (lv_sub hl [1, 2, 0] rfl)
        ·
          have hr : (fnd (lfB μ k) (fcL μ k) 0).isSome = true := fnd_y (i := vf) (by omega) (lf_y hb0 hl0 c_20)
          refine lv_iconst (v := nI 1) hx hb dX2_hasCrowdedFace_23 (by decide) ?_
          refine w_top (v' := .int (b2i ((fnd (lfB μ k) (fcL μ k) 0).isSome))) (bz_t (show ((fnd (lfB μ k) (fcL μ k) 0).isSome) = true from hr)) ?_
          exact hE _ _ (kr_z dX2_hasCrowdedFace_24)
  exact L2 ((fcL μ k - 0) + 1) 0 (Nat.zero_le _) (fun f hf => absurd hf (Nat.not_lt_zero f)) (Nat.lt_succ_self _) ls (lv_sub hl [1, 2, 0] rfl)

set_option maxHeartbeats 1000000 in
set_option maxRecDepth 100000 in
theorem c_X2_isOthers (l : Launch) (G : Gt) (fl : Nat) (φ : Sx) (μ : Sx) (k : Nat) (x : Int32) (y : Int32) (hb0 : MIb μ) (hl0 : MIl μ) (hk8 : k < μ.1 19) (hx9 : rim x) (hy9 : rim y) : Cr l G yX2_isOthers cX2_isOthers 5 ((some .boolean)) 3 [.ref fl, .int (nI k), .int x, .int y] (fun H => bk G fl (flL G fl φ) H ∧ FB G μ φ H) (some (.int (b2i (othI μ k x y)))) := by
  refine cr_entry [(0, .ref fl), (1, .int (nI k)), (2, .int x), (3, .int y)] (by decide) (Nat.le_of_ble_eq_true rfl) rfl ?_
  intro zp ze zs zm za zb zt zc Q S hK hPre hE ls hl
  have hx := S.1
  have hb := S.2.1
  obtain ⟨hF, hNB⟩ := hPre
  have h10 := hl0.1
  have hf3 := hNB.1
  have hoe := othI_e (μ := μ) (k := k) (x := x) (y := y)
  refine lv_iconst (v := nI 0) hx hb dX2_isOthers_0 (by decide) ?_
  refine lv_istore (lv' := [(4, .int (nI 0)), (0, .ref fl), (1, .int (nI k)), (2, .int x), (3, .int y)]) hx hb dX2_isOthers_1 hl (by decide) rfl (fun ls hl => ?_)
  have L3 : ∀ (fu : Nat), ∀ (vo : Nat), (vo ≤ μ.1 19) → (∀ o, o < vo → (!decide (o = k) && !decide (onI μ o x y = 0)) = false) → μ.1 19 - vo < fu → ∀ ls : Array Slot, lv_has ls 5 [(0, .ref fl), (1, .int (nI k)), (2, .int x), (3, .int y), (4, .int (nI vo))] → W zp l ze (rL 3 0 0) zs zm za zb zt zc zs.heap [] 0 0 Q (F0 zm 3 ls []) := by
    intro fu
    induction fu with
    | zero =>
      intro vo hvo hA hmu ls hl
      exact absurd hmu (Nat.not_lt_zero _)
    | succ fu ih3 =>
      intro vo hvo hA hmu ls hl
      refine lv_iload hx hb dX2_isOthers_3 (lv_at hl 4 rfl) ?_
      refine lv_aload_n hx hb dX2_isOthers_5 rfl (lv_at hl 0 rfl) ?_
      refine kg (C := RX2) (T := TX2) (N := 4) (ci := 1) (k := 3) (v := .int (nI (φ.1 3))) S hK rfl inX2 (by decide) q_111 dX2_isOthers_6 hF rfl rfl ?_
      refine n_icmp_ge (tgt := 37) hx hb dX2_isOthers_9 (by decide) (by first | omega | exact Nat.lt_trans (onI_lt hb0 hl0 (by omega) _ _) (by decide)) (by first | omega | exact Nat.lt_trans (onI_lt hb0 hl0 (by omega) _ _) (by decide)) (fun c_9 => ?_) (fun c_9 => ?_)
      ·
        have hr : othI μ k x y = false := by rw [hoe]; exact fnd_all (fun i hi => hA i (by omega))
        refine lv_iconst (v := nI 0) hx hb dX2_isOthers_37 (by decide) ?_
        refine w_top (v' := .int (b2i (othI μ k x y))) (bz_f (show (othI μ k x y) = false from hr)) ?_
        exact hE _ _ (kr_z dX2_isOthers_38)
      ·
        refine lv_iload hx hb dX2_isOthers_12 (lv_at hl 4 rfl) ?_
        refine lv_iload_n hx hb dX2_isOthers_14 rfl (lv_at hl 1 rfl) ?_
        refine n_icmp_eq (tgt := 31) hx hb dX2_isOthers_15 (by decide) (by first | omega | exact Nat.lt_trans (onI_lt hb0 hl0 (by omega) _ _) (by decide)) (by first | omega | exact Nat.lt_trans (onI_lt hb0 hl0 (by omega) _ _) (by decide)) (fun c_15 => ?_) (fun c_15 => ?_)
        ·
          refine lv_iinc (v := (nI (vo + 1))) (lv' := [(4, .int (nI (vo + 1))), (0, .ref fl), (1, .int (nI k)), (2, .int x), (3, .int y)]) hx hb dX2_isOthers_31 hl (k := 4) rfl (inc1 _) (by decide) rfl (fun ls hl => ?_)
          refine lv_goto (tgt := 3) hx hb dX2_isOthers_34 (by decide) ?_
          exact ih3 (vo + 1) (by omega) (fun o ho => by
            by_cases e : o = vo
            · rw [e]; rw [decide_eq_true c_15]; rfl
            · exact hA o (by omega)) (by omega) ls (lv_sub hl [1, 2, 3, 4, 0] rfl)
        ·
          refine lv_aload_n hx hb dX2_isOthers_18 rfl (lv_at hl 0 rfl) ?_
          refine lv_iload hx hb dX2_isOthers_19 (lv_at hl 4 rfl) ?_
          refine lv_iload_n hx hb dX2_isOthers_21 rfl (lv_at hl 2 rfl) ?_
          refine lv_iload_n hx hb dX2_isOthers_22 rfl (lv_at hl 3 rfl) ?_
          refine crV (rest := []) S hK (c_X2_codeOn l G fl φ μ vo x y (by first | assumption | omega | decide) (by first | assumption | omega | decide) (by omega) hx9 hy9) cw_X2_68 rfl ⟨Nat.le_of_ble_eq_true rfl, Nat.le_of_ble_eq_true rfl⟩ ⟨Nat.le_of_ble_eq_true rfl, Nat.le_of_ble_eq_true rfl⟩ (bk.recv hK hF rfl rfl) hl.1 rfl (Nat.le_of_ble_eq_true rfl) dX2_isOthers_23 ⟨hF, hNB⟩ ?_
          refine n_if_eq (tgt := 31) hx hb dX2_isOthers_26 (by decide) (by first | omega | exact Nat.lt_trans (onI_lt hb0 hl0 (by omega) _ _) (by decide)) (fun c_26 => ?_) (fun c_26 => ?_)
          ·
            refine lv_iinc (v := (nI (vo + 1))) (lv' := [(4, .int (nI (vo + 1))), (0, .ref fl), (1, .int (nI k)), (2, .int x), (3, .int y)]) hx hb dX2_isOthers_31 hl (k := 4) rfl (inc1 _) (by decide) rfl (fun ls hl => ?_)
            refine lv_goto (tgt := 3) hx hb dX2_isOthers_34 (by decide) ?_
            exact ih3 (vo + 1) (by omega) (fun o ho => by
              by_cases e : o = vo
              · rw [e]; rw [decide_eq_true c_26, Bool.not_true, Bool.and_false]
              · exact hA o (by omega)) (by omega) ls (lv_sub hl [1, 2, 3, 4, 0] rfl)
          ·
            have hr : othI μ k x y = true := by rw [hoe]; exact fnd_y (i := vo) (by omega) (by rw [decide_eq_false c_15, decide_eq_false c_26]; rfl)
            refine lv_iconst (v := nI 1) hx hb dX2_isOthers_29 (by decide) ?_
            refine w_top (v' := .int (b2i (othI μ k x y))) (bz_t (show (othI μ k x y) = true from hr)) ?_
            exact hE _ _ (kr_z dX2_isOthers_30)
  exact L3 ((μ.1 19 - 0) + 1) 0 (Nat.zero_le _) (fun o ho => absurd ho (Nat.not_lt_zero o)) (Nat.lt_succ_self _) ls (lv_sub hl [1, 2, 3, 4, 0] rfl)

set_option maxHeartbeats 1000000 in
set_option maxRecDepth 100000 in
theorem c_X2_hasOpenSide (l : Launch) (G : Gt) (fl : Nat) (φ : Sx) (μ : Sx) (k : Nat) (hb0 : MIb μ) (hl0 : MIl μ) (hk8 : k < μ.1 19) : Cr l G yX2_hasOpenSide cX2_hasOpenSide 4 ((some .boolean)) 4 [.ref fl, .int (nI k)] (fun H => bk G fl (flL G fl φ) H ∧ FB G μ φ H) (some (.int (b2i ((fnd (lxB μ k) 144 0).isSome)))) := by
  refine cr_entry [(0, .ref fl), (1, .int (nI k))] (by decide) (Nat.le_of_ble_eq_true rfl) rfl ?_
  intro zp ze zs zm za zb zt zc Q S hK hPre hE ls hl
  have hx := S.1
  have hb := S.2.1
  obtain ⟨hF, hNB⟩ := hPre
  have h10 := hl0.1
  refine lv_iconst (v := nI 0) hx hb dX2_hasOpenSide_0 (by decide) ?_
  refine lv_istore_n (lv' := [(2, .int (nI 0)), (0, .ref fl), (1, .int (nI k))]) hx hb dX2_hasOpenSide_1 rfl hl (by decide) rfl (fun ls hl => ?_)
  have L2 : ∀ (fu : Nat), ∀ (vy : Nat), (vy ≤ 12) → (∀ y, y < vy → ∀ x, x < 12 → lxB μ k (12 * x + y) = false) → 12 - vy < fu → ∀ ls : Array Slot, lv_has ls 4 [(0, .ref fl), (1, .int (nI k)), (2, .int (nI vy))] → W zp l ze (rL 4 0 0) zs zm za zb zt zc zs.heap [] 0 0 Q (F0 zm 2 ls []) := by
    intro fu
    induction fu with
    | zero =>
      intro vy hvy hA hmu ls hl
      exact absurd hmu (Nat.not_lt_zero _)
    | succ fu ih2 =>
      intro vy hvy hA hmu ls hl
      refine lv_iload_n hx hb dX2_hasOpenSide_2 rfl (lv_at hl 2 rfl) ?_
      refine lv_bipush (v := nI 12) hx hb dX2_hasOpenSide_3 (by decide) ?_
      refine n_icmp_ge (tgt := 89) hx hb dX2_hasOpenSide_5 (by decide) (by first | omega | exact Nat.lt_trans (onI_lt hb0 hl0 (by omega) _ _) (by decide)) (by decide) (fun c_5 => ?_) (fun c_5 => ?_)
      ·
        have hr : (fnd (lxB μ k) 144 0).isSome = false := fnd_all (fun i hi => by
          have q := hA (i % 12) (by omega) (i / 12) (by omega)
          rw [show 12 * (i / 12) + i % 12 = i from by omega] at q
          exact q)
        refine lv_iconst (v := nI 0) hx hb dX2_hasOpenSide_89 (by decide) ?_
        refine w_top (v' := .int (b2i ((fnd (lxB μ k) 144 0).isSome))) (bz_f (show ((fnd (lxB μ k) 144 0).isSome) = false from hr)) ?_
        exact hE _ _ (kr_z dX2_hasOpenSide_90)
      ·
        refine lv_iconst (v := nI 0) hx hb dX2_hasOpenSide_8 (by decide) ?_
        refine lv_istore_n (lv' := [(3, .int (nI 0)), (0, .ref fl), (1, .int (nI k)), (2, .int (nI vy))]) hx hb dX2_hasOpenSide_9 rfl hl (by decide) rfl (fun ls hl => ?_)
        have L10 : ∀ (fu : Nat), ∀ (vx : Nat), (vx ≤ 12) → (∀ x, x < vx → lxB μ k (12 * x + vy) = false) → 12 - vx < fu → ∀ ls : Array Slot, lv_has ls 4 [(0, .ref fl), (1, .int (nI k)), (2, .int (nI vy)), (3, .int (nI vx))] → W zp l ze (rL 4 0 0) zs zm za zb zt zc zs.heap [] 0 0 Q (F0 zm 10 ls []) := by
          intro fu
          induction fu with
          | zero =>
            intro vx hvx hB2 hmu ls hl
            exact absurd hmu (Nat.not_lt_zero _)
          | succ fu ih10 =>
            intro vx hvx hB2 hmu ls hl
            refine lv_iload_n hx hb dX2_hasOpenSide_10 rfl (lv_at hl 3 rfl) ?_
            refine lv_bipush (v := nI 12) hx hb dX2_hasOpenSide_11 (by decide) ?_
            refine n_icmp_ge (tgt := 83) hx hb dX2_hasOpenSide_13 (by decide) (by first | omega | exact Nat.lt_trans (onI_lt hb0 hl0 (by omega) _ _) (by decide)) (by decide) (fun c_13 => ?_) (fun c_13 => ?_)
            ·
              refine lv_iinc (v := (nI (vy + 1))) (lv' := [(2, .int (nI (vy + 1))), (0, .ref fl), (1, .int (nI k)), (3, .int (nI vx))]) hx hb dX2_hasOpenSide_83 hl (k := 2) rfl (inc1 _) (by decide) rfl (fun ls hl => ?_)
              refine lv_goto (tgt := 2) hx hb dX2_hasOpenSide_86 (by decide) ?_
              exact ih2 (vy + 1) (by omega) (fun y hy x hx => by
                by_cases e : y = vy
                · rw [e]; exact hB2 x (by omega)
                · exact hA y (by omega) x hx) (by omega) ls (lv_sub hl [1, 2, 0] rfl)
            ·
              refine lv_aload_n hx hb dX2_hasOpenSide_16 rfl (lv_at hl 0 rfl) ?_
              refine lv_iload_n hx hb dX2_hasOpenSide_17 rfl (lv_at hl 1 rfl) ?_
              refine lv_iload_n hx hb dX2_hasOpenSide_18 rfl (lv_at hl 3 rfl) ?_
              refine lv_iload_n hx hb dX2_hasOpenSide_19 rfl (lv_at hl 2 rfl) ?_
              refine crV (rest := []) S hK (c_X2_codeOn l G fl φ μ k (nI vx) (nI vy) (by first | assumption | omega | decide) (by first | assumption | omega | decide) (by omega) (rim_n (by omega)) (rim_n (by omega))) cw_X2_68 rfl ⟨Nat.le_of_ble_eq_true rfl, Nat.le_of_ble_eq_true rfl⟩ ⟨Nat.le_of_ble_eq_true rfl, Nat.le_of_ble_eq_true rfl⟩ (bk.recv hK hF rfl rfl) hl.1 rfl (Nat.le_of_ble_eq_true rfl) dX2_hasOpenSide_20 ⟨hF, hNB⟩ ?_
              refine lv_iconst (v := nI 1) hx hb dX2_hasOpenSide_23 (by decide) ?_
              refine n_icmp_ne (tgt := 77) hx hb dX2_hasOpenSide_24 (by decide) (by first | omega | exact Nat.lt_trans (onI_lt hb0 hl0 (by omega) _ _) (by decide)) (by decide) (fun c_24 => ?_) (fun c_24 => ?_)
              ·
                have c24 : ¬ onM μ k vx vy = 1 := by rw [← onI_n (by omega) (by omega)]; exact c_24
                have hno : lxB μ k (12 * vx + vy) = false := by
                  show (decide _ && opS μ k ((12 * vx + vy) / 12) ((12 * vx + vy) % 12)) = false
                  rw [show (12 * vx + vy) / 12 = vx from by omega, show (12 * vx + vy) % 12 = vy from by omega, decide_eq_false c24]
                  rfl
                refine lv_iinc (v := (nI (vx + 1))) (lv' := [(3, .int (nI (vx + 1))), (0, .ref fl), (1, .int (nI k)), (2, .int (nI vy))]) hx hb dX2_hasOpenSide_77 hl (k := 3) rfl (inc1 _) (by decide) rfl (fun ls hl => ?_)
                refine lv_goto (tgt := 10) hx hb dX2_hasOpenSide_80 (by decide) ?_
                exact ih10 (vx + 1) (by omega) (fun x hx => by
                  by_cases e : x = vx
                  · rw [e]; exact hno
                  · exact hB2 x (by omega)) (by omega) ls (lv_sub hl [1, 2, 3, 0] rfl)
              ·
                have c24 : onM μ k vx vy = 1 := by rw [← onI_n (by omega) (by omega)]; exact c_24
                refine lv_aload_n hx hb dX2_hasOpenSide_27 rfl (lv_at hl 0 rfl) ?_
                refine lv_iload_n hx hb dX2_hasOpenSide_28 rfl (lv_at hl 1 rfl) ?_
                refine lv_iload_n hx hb dX2_hasOpenSide_29 rfl (lv_at hl 3 rfl) ?_
                refine lv_iconst (v := nI 1) hx hb dX2_hasOpenSide_30 (by decide) ?_
                refine n_iadd hx hb dX2_hasOpenSide_31 ?_
                refine lv_iload_n hx hb dX2_hasOpenSide_32 rfl (lv_at hl 2 rfl) ?_
                refine crV (rest := []) S hK (c_X2_isOthers l G fl φ μ k (nI (vx + 1)) (nI vy) (by first | assumption | omega | decide) (by first | assumption | omega | decide) (by first | assumption | omega | decide) (by first | exact rim_n (by omega) | exact rim_1 (by omega)) (by first | exact rim_n (by omega) | exact rim_1 (by omega))) cw_X2_85 rfl ⟨Nat.le_of_ble_eq_true rfl, Nat.le_of_ble_eq_true rfl⟩ ⟨Nat.le_of_ble_eq_true rfl, Nat.le_of_ble_eq_true rfl⟩ (bk.recv hK hF rfl rfl) hl.1 rfl (Nat.le_of_ble_eq_true rfl) dX2_hasOpenSide_33 ⟨hF, hNB⟩ ?_
                refine z_if_ne (tgt := 75) hx hb dX2_hasOpenSide_36 (by decide) (fun c_36 => ?_) (fun c_36 => ?_)
                ·
                  have hr : (fnd (lxB μ k) 144 0).isSome = true := fnd_y (i := 12 * vx + vy) (by omega) (by
                    show (decide _ && opS μ k ((12 * vx + vy) / 12) ((12 * vx + vy) % 12)) = true
                    rw [show (12 * vx + vy) / 12 = vx from by omega, show (12 * vx + vy) % 12 = vy from by omega, decide_eq_true c24]
                    unfold opS
                    simp [c_36])
                  refine lv_iconst (v := nI 1) hx hb dX2_hasOpenSide_75 (by decide) ?_
                  refine w_top (v' := .int (b2i ((fnd (lxB μ k) 144 0).isSome))) (bz_t (show ((fnd (lxB μ k) 144 0).isSome) = true from hr)) ?_
                  exact hE _ _ (kr_z dX2_hasOpenSide_76)
                ·
                  refine lv_aload_n hx hb dX2_hasOpenSide_39 rfl (lv_at hl 0 rfl) ?_
                  refine lv_iload_n hx hb dX2_hasOpenSide_40 rfl (lv_at hl 1 rfl) ?_
                  refine lv_iload_n hx hb dX2_hasOpenSide_41 rfl (lv_at hl 3 rfl) ?_
                  refine lv_iconst (v := nI 1) hx hb dX2_hasOpenSide_42 (by decide) ?_
                  refine lv_isub hx hb dX2_hasOpenSide_43 ?_
                  refine lv_iload_n hx hb dX2_hasOpenSide_44 rfl (lv_at hl 2 rfl) ?_
                  refine crV (rest := []) S hK (c_X2_isOthers l G fl φ μ k ((nI vx) - (nI 1)) (nI vy) (by first | assumption | omega | decide) (by first | assumption | omega | decide) (by first | assumption | omega | decide) (by first | exact rim_n (by omega) | exact rim_1 (by omega)) (by first | exact rim_n (by omega) | exact rim_1 (by omega))) cw_X2_85 rfl ⟨Nat.le_of_ble_eq_true rfl, Nat.le_of_ble_eq_true rfl⟩ ⟨Nat.le_of_ble_eq_true rfl, Nat.le_of_ble_eq_true rfl⟩ (bk.recv hK hF rfl rfl) hl.1 rfl (Nat.le_of_ble_eq_true rfl) dX2_hasOpenSide_45 ⟨hF, hNB⟩ ?_
                  refine z_if_ne (tgt := 75) hx hb dX2_hasOpenSide_48 (by decide) (fun c_48 => ?_) (fun c_48 => ?_)
                  ·
                    have hr : (fnd (lxB μ k) 144 0).isSome = true := fnd_y (i := 12 * vx + vy) (by omega) (by
                      show (decide _ && opS μ k ((12 * vx + vy) / 12) ((12 * vx + vy) % 12)) = true
                      rw [show (12 * vx + vy) / 12 = vx from by omega, show (12 * vx + vy) % 12 = vy from by omega, decide_eq_true c24]
                      unfold opS
                      simp [c_36, c_48])
                    refine lv_iconst (v := nI 1) hx hb dX2_hasOpenSide_75 (by decide) ?_
                    refine w_top (v' := .int (b2i ((fnd (lxB μ k) 144 0).isSome))) (bz_t (show ((fnd (lxB μ k) 144 0).isSome) = true from hr)) ?_
                    exact hE _ _ (kr_z dX2_hasOpenSide_76)
                  ·
                    refine lv_aload_n hx hb dX2_hasOpenSide_51 rfl (lv_at hl 0 rfl) ?_
                    refine lv_iload_n hx hb dX2_hasOpenSide_52 rfl (lv_at hl 1 rfl) ?_
                    refine lv_iload_n hx hb dX2_hasOpenSide_53 rfl (lv_at hl 3 rfl) ?_
                    refine lv_iload_n hx hb dX2_hasOpenSide_54 rfl (lv_at hl 2 rfl) ?_
                    refine lv_iconst (v := nI 1) hx hb dX2_hasOpenSide_55 (by decide) ?_
                    refine n_iadd hx hb dX2_hasOpenSide_56 ?_
                    refine crV (rest := []) S hK (c_X2_isOthers l G fl φ μ k (nI vx) (nI (vy + 1)) (by first | assumption | omega | decide) (by first | assumption | omega | decide) (by first | assumption | omega | decide) (by first | exact rim_n (by omega) | exact rim_1 (by omega)) (by first | exact rim_n (by omega) | exact rim_1 (by omega))) cw_X2_85 rfl ⟨Nat.le_of_ble_eq_true rfl, Nat.le_of_ble_eq_true rfl⟩ ⟨Nat.le_of_ble_eq_true rfl, Nat.le_of_ble_eq_true rfl⟩ (bk.recv hK hF rfl rfl) hl.1 rfl (Nat.le_of_ble_eq_true rfl) dX2_hasOpenSide_57 ⟨hF, hNB⟩ ?_
                    refine z_if_ne (tgt := 75) hx hb dX2_hasOpenSide_60 (by decide) (fun c_60 => ?_) (fun c_60 => ?_)
                    ·
                      have hr : (fnd (lxB μ k) 144 0).isSome = true := fnd_y (i := 12 * vx + vy) (by omega) (by
                        show (decide _ && opS μ k ((12 * vx + vy) / 12) ((12 * vx + vy) % 12)) = true
                        rw [show (12 * vx + vy) / 12 = vx from by omega, show (12 * vx + vy) % 12 = vy from by omega, decide_eq_true c24]
                        unfold opS
                        simp [c_36, c_48, c_60])
                      refine lv_iconst (v := nI 1) hx hb dX2_hasOpenSide_75 (by decide) ?_
                      refine w_top (v' := .int (b2i ((fnd (lxB μ k) 144 0).isSome))) (bz_t (show ((fnd (lxB μ k) 144 0).isSome) = true from hr)) ?_
                      exact hE _ _ (kr_z dX2_hasOpenSide_76)
                    ·
                      refine lv_aload_n hx hb dX2_hasOpenSide_63 rfl (lv_at hl 0 rfl) ?_
                      refine lv_iload_n hx hb dX2_hasOpenSide_64 rfl (lv_at hl 1 rfl) ?_
                      refine lv_iload_n hx hb dX2_hasOpenSide_65 rfl (lv_at hl 3 rfl) ?_
                      refine lv_iload_n hx hb dX2_hasOpenSide_66 rfl (lv_at hl 2 rfl) ?_
                      refine lv_iconst (v := nI 1) hx hb dX2_hasOpenSide_67 (by decide) ?_
                      refine lv_isub hx hb dX2_hasOpenSide_68 ?_
                      refine crV (rest := []) S hK (c_X2_isOthers l G fl φ μ k (nI vx) ((nI vy) - (nI 1)) (by first | assumption | omega | decide) (by first | assumption | omega | decide) (by first | assumption | omega | decide) (by first | exact rim_n (by omega) | exact rim_1 (by omega)) (by first | exact rim_n (by omega) | exact rim_1 (by omega))) cw_X2_85 rfl ⟨Nat.le_of_ble_eq_true rfl, Nat.le_of_ble_eq_true rfl⟩ ⟨Nat.le_of_ble_eq_true rfl, Nat.le_of_ble_eq_true rfl⟩ (bk.recv hK hF rfl rfl) hl.1 rfl (Nat.le_of_ble_eq_true rfl) dX2_hasOpenSide_69 ⟨hF, hNB⟩ ?_
                      refine z_if_eq (tgt := 77) hx hb dX2_hasOpenSide_72 (by decide) (fun c_72 => ?_) (fun c_72 => ?_)
                      ·
                        have hno : lxB μ k (12 * vx + vy) = false := by
                          show (decide _ && opS μ k ((12 * vx + vy) / 12) ((12 * vx + vy) % 12)) = false
                          rw [show (12 * vx + vy) / 12 = vx from by omega, show (12 * vx + vy) % 12 = vy from by omega]
                          unfold opS
                          rw [c_36, c_48, c_60, c_72]
                          simp
                        refine lv_iinc (v := (nI (vx + 1))) (lv' := [(3, .int (nI (vx + 1))), (0, .ref fl), (1, .int (nI k)), (2, .int (nI vy))]) hx hb dX2_hasOpenSide_77 hl (k := 3) rfl (inc1 _) (by decide) rfl (fun ls hl => ?_)
                        refine lv_goto (tgt := 10) hx hb dX2_hasOpenSide_80 (by decide) ?_
                        exact ih10 (vx + 1) (by omega) (fun x hx => by
                          by_cases e : x = vx
                          · rw [e]; exact hno
                          · exact hB2 x (by omega)) (by omega) ls (lv_sub hl [1, 2, 3, 0] rfl)
                      ·
                        have hr : (fnd (lxB μ k) 144 0).isSome = true := fnd_y (i := 12 * vx + vy) (by omega) (by
                          show (decide _ && opS μ k ((12 * vx + vy) / 12) ((12 * vx + vy) % 12)) = true
                          rw [show (12 * vx + vy) / 12 = vx from by omega, show (12 * vx + vy) % 12 = vy from by omega, decide_eq_true c24]
                          unfold opS
                          simp [c_36, c_48, c_60, c_72])
                        refine lv_iconst (v := nI 1) hx hb dX2_hasOpenSide_75 (by decide) ?_
                        refine w_top (v' := .int (b2i ((fnd (lxB μ k) 144 0).isSome))) (bz_t (show ((fnd (lxB μ k) 144 0).isSome) = true from hr)) ?_
                        exact hE _ _ (kr_z dX2_hasOpenSide_76)
        exact L10 ((12 - 0) + 1) 0 (Nat.zero_le _) (fun x hx => absurd hx (Nat.not_lt_zero x)) (Nat.lt_succ_self _) ls (lv_sub hl [1, 2, 3, 0] rfl)
  exact L2 ((12 - 0) + 1) 0 (Nat.zero_le _) (fun y hy => absurd hy (Nat.not_lt_zero y)) (Nat.lt_succ_self _) ls (lv_sub hl [1, 2, 0] rfl)

set_option maxHeartbeats 1000000 in
set_option maxRecDepth 100000 in
theorem c_X2_firstLeak (l : Launch) (G : Gt) (fl : Nat) (φ : Sx) (μ : Sx) (hb0 : MIb μ) (hl0 : MIl μ) : Cr l G yX2_firstLeak cX2_firstLeak 2 ((some .int)) 5 [.ref fl] (fun H => bk G fl (flL G fl φ) H ∧ FB G μ φ H) (some (.int (leak_M μ))) := by
  refine cr_entry [(0, .ref fl)] (by decide) (Nat.le_of_ble_eq_true rfl) rfl ?_
  intro zp ze zs zm za zb zt zc Q S hK hPre hE ls hl
  have hx := S.1
  have hb := S.2.1
  obtain ⟨hF, hNB⟩ := hPre
  have h10 := hl0.1
  have hf3 := hNB.1
  refine lv_iconst (v := nI 0) hx hb dX2_firstLeak_0 (by decide) ?_
  refine lv_istore_n (lv' := [(1, .int (nI 0)), (0, .ref fl)]) hx hb dX2_firstLeak_1 rfl hl (by decide) rfl (fun ls hl => ?_)
  have L2 : ∀ (fu : Nat), ∀ (vl : Nat), (vl ≤ μ.1 19) → (fnd (lkB μ) (μ.1 19) 0 = fnd (lkB μ) (μ.1 19 - vl) vl) → μ.1 19 - vl < fu → ∀ ls : Array Slot, lv_has ls 2 [(0, .ref fl), (1, .int (nI vl))] → W zp l ze (rL 5 0 0) zs zm za zb zt zc zs.heap [] 0 0 Q (F0 zm 2 ls []) := by
    intro fu
    induction fu with
    | zero =>
      intro vl hvl hA hmu ls hl
      exact absurd hmu (Nat.not_lt_zero _)
    | succ fu ih2 =>
      intro vl hvl hA hmu ls hl
      refine lv_iload_n hx hb dX2_firstLeak_2 rfl (lv_at hl 1 rfl) ?_
      refine lv_aload_n hx hb dX2_firstLeak_3 rfl (lv_at hl 0 rfl) ?_
      refine kg (C := RX2) (T := TX2) (N := 4) (ci := 1) (k := 3) (v := .int (nI (φ.1 3))) S hK rfl inX2 (by decide) q_111 dX2_firstLeak_4 hF rfl rfl ?_
      refine n_icmp_ge (tgt := 34) hx hb dX2_firstLeak_7 (by decide) (by omega) (by omega) (fun c_7 => ?_) (fun c_7 => ?_)
      ·
        have hr : leak_M μ = -9 := by show oI _ = _; rw [hA, show μ.1 19 - vl = 0 from by omega]; rfl
        refine lv_bipush (v := (-9)) hx hb dX2_firstLeak_34 (by decide) ?_
        refine w_top (v' := .int (leak_M μ)) (congrArg (fun z => Value.int z) (show (-9) = (leak_M μ) from hr.symm)) ?_
        exact hE _ _ (kr_i dX2_firstLeak_36)
      ·
        refine lv_aload_n hx hb dX2_firstLeak_10 rfl (lv_at hl 0 rfl) ?_
        refine lv_iload_n hx hb dX2_firstLeak_11 rfl (lv_at hl 1 rfl) ?_
        refine crV (rest := []) S hK (c_X2_hasCrowdedFace l G fl φ μ vl (by first | assumption | omega | decide) (by first | assumption | omega | decide) (by omega)) cw_X2_40 rfl ⟨Nat.le_of_ble_eq_true rfl, Nat.le_of_ble_eq_true rfl⟩ ⟨Nat.le_of_ble_eq_true rfl, Nat.le_of_ble_eq_true rfl⟩ (bk.recv hK hF rfl rfl) hl.1 rfl (Nat.le_of_ble_eq_true rfl) dX2_firstLeak_12 ⟨hF, hNB⟩ ?_
        refine z_if_ne (tgt := 26) hx hb dX2_firstLeak_15 (by decide) (fun c_15 => ?_) (fun c_15 => ?_)
        ·
          have hs : fnd (lkB μ) (μ.1 19) 0 = some vl := hA.trans (by rw [show μ.1 19 - vl = (μ.1 19 - (vl + 1)) + 1 from by omega]; exact fnd_t (P := lkB μ) (by show ((fnd (lfB μ vl) (fcL μ vl) 0).isSome || (fnd (lxB μ vl) 144 0).isSome) = true; rw [c_15]; rfl))
          have hr : leak_M μ = nI vl := by show oI _ = _; rw [hs]; rfl
          refine lv_iload_n hx hb dX2_firstLeak_26 rfl (lv_at hl 1 rfl) ?_
          refine w_top (v' := .int (leak_M μ)) (show (.int (nI vl) : Value) = .int (leak_M μ) from (congrArg (fun z => Value.int z) hr.symm)) ?_
          exact hE _ _ (kr_i dX2_firstLeak_27)
        ·
          refine lv_aload_n hx hb dX2_firstLeak_18 rfl (lv_at hl 0 rfl) ?_
          refine lv_iload_n hx hb dX2_firstLeak_19 rfl (lv_at hl 1 rfl) ?_
          refine crV (rest := []) S hK (c_X2_hasOpenSide l G fl φ μ vl (by first | assumption | omega | decide) (by first | assumption | omega | decide) (by omega)) cw_X2_44 rfl ⟨Nat.le_of_ble_eq_true rfl, Nat.le_of_ble_eq_true rfl⟩ ⟨Nat.le_of_ble_eq_true rfl, Nat.le_of_ble_eq_true rfl⟩ (bk.recv hK hF rfl rfl) hl.1 rfl (Nat.le_of_ble_eq_true rfl) dX2_firstLeak_20 ⟨hF, hNB⟩ ?_
          refine z_if_eq (tgt := 28) hx hb dX2_firstLeak_23 (by decide) (fun c_23 => ?_) (fun c_23 => ?_)
          ·
            refine lv_iinc (v := (nI (vl + 1))) (lv' := [(1, .int (nI (vl + 1))), (0, .ref fl)]) hx hb dX2_firstLeak_28 hl (k := 1) rfl (inc1 _) (by decide) rfl (fun ls hl => ?_)
            refine lv_goto (tgt := 2) hx hb dX2_firstLeak_31 (by decide) ?_
            exact ih2 (vl + 1) (by omega) (hA.trans (by rw [show μ.1 19 - vl = (μ.1 19 - (vl + 1)) + 1 from by omega]; exact fnd_f (P := lkB μ) (by show ((fnd (lfB μ vl) (fcL μ vl) 0).isSome || (fnd (lxB μ vl) 144 0).isSome) = false; rw [c_15, c_23]; rfl))) (by omega) ls (lv_sub hl [1, 0] rfl)
          ·
            have hs : fnd (lkB μ) (μ.1 19) 0 = some vl := hA.trans (by rw [show μ.1 19 - vl = (μ.1 19 - (vl + 1)) + 1 from by omega]; exact fnd_t (P := lkB μ) (by show ((fnd (lfB μ vl) (fcL μ vl) 0).isSome || (fnd (lxB μ vl) 144 0).isSome) = true; rw [c_23]; exact Bool.or_true _))
            have hr : leak_M μ = nI vl := by show oI _ = _; rw [hs]; rfl
            refine lv_iload_n hx hb dX2_firstLeak_26 rfl (lv_at hl 1 rfl) ?_
            refine w_top (v' := .int (leak_M μ)) (show (.int (nI vl) : Value) = .int (leak_M μ) from (congrArg (fun z => Value.int z) hr.symm)) ?_
            exact hE _ _ (kr_i dX2_firstLeak_27)
  exact L2 ((μ.1 19 - 0) + 1) 0 (Nat.zero_le _) rfl (Nat.lt_succ_self _) ls (lv_sub hl [1, 0] rfl)

set_option maxHeartbeats 1000000 in
set_option maxRecDepth 100000 in
theorem c_X2_meetings (l : Launch) (G : Gt) (fl : Nat) (φ : Sx) (μ : Sx) (hb0 : MIb μ) (hl0 : MIl μ) : Cr l G yX2_meetings cX2_meetings 4 ((some .int)) 3 [.ref fl] (fun H => bk G fl (flL G fl φ) H ∧ FB G μ φ H) (some (.int (nI (fcN (fcL μ) (mtC μ) (μ.1 19))))) := by
  refine cr_entry [(0, .ref fl)] (by decide) (Nat.le_of_ble_eq_true rfl) rfl ?_
  intro zp ze zs zm za zb zt zc Q S hK hPre hE ls hl
  have hx := S.1
  have hb := S.2.1
  obtain ⟨hF, hNB⟩ := hPre
  have h10 := hl0.1
  have hf3 := hNB.1
  refine lv_iconst (v := nI 0) hx hb dX2_meetings_0 (by decide) ?_
  refine lv_istore_n (lv' := [(1, .int (nI 0)), (0, .ref fl)]) hx hb dX2_meetings_1 rfl hl (by decide) rfl (fun ls hl => ?_)
  refine lv_iconst (v := nI 0) hx hb dX2_meetings_2 (by decide) ?_
  refine lv_istore_n (lv' := [(2, .int (nI 0)), (1, .int (nI 0)), (0, .ref fl)]) hx hb dX2_meetings_3 rfl hl (by decide) rfl (fun ls hl => ?_)
  have L4 : ∀ (fu : Nat), ∀ (vl : Nat), (vl ≤ μ.1 19) → μ.1 19 - vl < fu → ∀ ls : Array Slot, lv_has ls 4 [(0, .ref fl), (1, .int (nI (fcN (fcL μ) (mtC μ) vl))), (2, .int (nI vl))] → W zp l ze (rL 3 0 0) zs zm za zb zt zc zs.heap [] 0 0 Q (F0 zm 4 ls []) := by
    intro fu
    induction fu with
    | zero =>
      intro vl hvl hmu ls hl
      exact absurd hmu (Nat.not_lt_zero _)
    | succ fu ih4 =>
      intro vl hvl hmu ls hl
      refine lv_iload_n hx hb dX2_meetings_4 rfl (lv_at hl 2 rfl) ?_
      refine lv_aload_n hx hb dX2_meetings_5 rfl (lv_at hl 0 rfl) ?_
      refine kg (C := RX2) (T := TX2) (N := 4) (ci := 1) (k := 3) (v := .int (nI (φ.1 3))) S hK rfl inX2 (by decide) q_111 dX2_meetings_6 hF rfl rfl ?_
      refine n_icmp_ge (tgt := 59) hx hb dX2_meetings_9 (by decide) (by omega) (by omega) (fun c_9 => ?_) (fun c_9 => ?_)
      ·
        refine lv_iload_n hx hb dX2_meetings_59 rfl (lv_at hl 1 rfl) ?_
        refine w_top (v' := .int (nI (fcN (fcL μ) (mtC μ) (μ.1 19)))) (congrArg (fun z => Value.int (nI z)) (show (fcN (fcL μ) (mtC μ) vl) = (fcN (fcL μ) (mtC μ) (μ.1 19)) from by rw [show vl = μ.1 19 from by omega])) ?_
        exact hE _ _ (kr_i dX2_meetings_60)
      ·
        have hfo5 := fcL_5 hb0 hl0 (show vl < μ.1 19 by omega)
        refine lv_iconst (v := nI 0) hx hb dX2_meetings_12 (by decide) ?_
        refine lv_istore_n (lv' := [(3, .int (nI 0)), (0, .ref fl), (1, .int (nI (fcN (fcL μ) (mtC μ) vl))), (2, .int (nI vl))]) hx hb dX2_meetings_13 rfl hl (by decide) rfl (fun ls hl => ?_)
        have L14 : ∀ (fu : Nat), ∀ (vf : Nat), (vf ≤ fcL μ vl) → fcL μ vl - vf < fu → ∀ ls : Array Slot, lv_has ls 4 [(0, .ref fl), (1, .int (nI (fcN (fcL μ) (mtC μ) vl + fc1 (mtC μ) vl vf))), (2, .int (nI vl)), (3, .int (nI vf))] → W zp l ze (rL 3 0 0) zs zm za zb zt zc zs.heap [] 0 0 Q (F0 zm 14 ls []) := by
          intro fu
          induction fu with
          | zero =>
            intro vf hvf hmu ls hl
            exact absurd hmu (Nat.not_lt_zero _)
          | succ fu ih14 =>
            intro vf hvf hmu ls hl
            refine lv_iload_n hx hb dX2_meetings_14 rfl (lv_at hl 3 rfl) ?_
            refine lv_aload_n hx hb dX2_meetings_15 rfl (lv_at hl 0 rfl) ?_
            refine lv_iload_n hx hb dX2_meetings_16 rfl (lv_at hl 2 rfl) ?_
            refine crV (rest := [.int (nI vf)]) S hK (c_X2_facesOf_y l G fl φ μ vl (by first | assumption | omega | decide) (by first | assumption | omega | decide) (by omega)) cw_X2_28 rfl ⟨Nat.le_of_ble_eq_true rfl, Nat.le_of_ble_eq_true rfl⟩ ⟨Nat.le_of_ble_eq_true rfl, Nat.le_of_ble_eq_true rfl⟩ (bk.recv hK hF rfl rfl) hl.1 rfl (Nat.le_of_ble_eq_true rfl) dX2_meetings_17 ⟨hF, hNB⟩ ?_
            refine n_icmp_ge (tgt := 53) hx hb dX2_meetings_20 (by decide) (by omega) (by omega) (fun c_20 => ?_) (fun c_20 => ?_)
            ·
              refine lv_iinc (v := (nI (vl + 1))) (lv' := [(2, .int (nI (vl + 1))), (0, .ref fl), (1, .int (nI (fcN (fcL μ) (mtC μ) vl + fc1 (mtC μ) vl vf))), (3, .int (nI vf))]) hx hb dX2_meetings_53 hl (k := 2) rfl (inc1 _) (by decide) rfl (fun ls hl => ?_)
              refine lv_goto (tgt := 4) hx hb dX2_meetings_56 (by decide) ?_
              replace hl := lv_eq 2 hl rfl (v2 := .int (nI (fcN (fcL μ) (mtC μ) (vl + 1)))) (congrArg (fun z => Value.int (nI z)) (show (fcN (fcL μ) (mtC μ) vl + fc1 (mtC μ) vl vf) = (fcN (fcL μ) (mtC μ) (vl + 1)) from by rw [show vf = fcL μ vl from by omega]; rfl))
              exact ih4 (vl + 1) (by omega) (by omega) ls (lv_sub hl [1, 2, 0] rfl)
            ·
              refine lv_iload_n hx hb dX2_meetings_23 rfl (lv_at hl 1 rfl) ?_
              refine lv_aload_n hx hb dX2_meetings_24 rfl (lv_at hl 0 rfl) ?_
              refine lv_iload_n hx hb dX2_meetings_25 rfl (lv_at hl 2 rfl) ?_
              refine lv_iload_n hx hb dX2_meetings_26 rfl (lv_at hl 3 rfl) ?_
              refine lv_iconst (v := nI 0) hx hb dX2_meetings_27 (by decide) ?_
              refine crV (rest := [.int (nI (fcN (fcL μ) (mtC μ) vl + fc1 (mtC μ) vl vf))]) S hK (c_X2_metBy l G fl φ μ vl vf 0 (by first | assumption | omega | decide) (by first | assumption | omega | decide) (by omega) (by omega) (by first | assumption | omega | decide)) cw_X2_47 rfl ⟨Nat.le_of_ble_eq_true rfl, Nat.le_of_ble_eq_true rfl⟩ ⟨Nat.le_of_ble_eq_true rfl, Nat.le_of_ble_eq_true rfl⟩ (bk.recv hK hF rfl rfl) hl.1 rfl (Nat.le_of_ble_eq_true rfl) dX2_meetings_28 ⟨hF, hNB⟩ ?_
              refine lv_bipush (v := nI 10) hx hb dX2_meetings_31 (by decide) ?_
              refine lv_iload_n hx hb dX2_meetings_33 rfl (lv_at hl 2 rfl) ?_
              refine n_imul hx hb dX2_meetings_34 ?_
              refine lv_iload_n hx hb dX2_meetings_35 rfl (lv_at hl 3 rfl) ?_
              refine n_iadd hx hb dX2_meetings_36 ?_
              refine lv_icmp_le (tgt := 44) hx hb dX2_meetings_37 (by decide) (fun c_37 => ?_) (fun c_37 => ?_)
              ·
                have e1 := fc1_no (Z := mtC μ) (k := vl) (f := vf) ((mtC_e hb0 hl0 (by omega) (by omega)).mp c_37)
                refine lv_iconst (v := nI 0) hx hb dX2_meetings_44 (by decide) ?_
                refine n_iadd hx hb dX2_meetings_45 ?_
                refine lv_istore_n (lv' := [(1, .int (nI ((fcN (fcL μ) (mtC μ) vl + fc1 (mtC μ) vl vf) + 0))), (0, .ref fl), (2, .int (nI vl)), (3, .int (nI vf))]) hx hb dX2_meetings_46 rfl hl (by decide) rfl (fun ls hl => ?_)
                refine lv_iinc (v := (nI (vf + 1))) (lv' := [(3, .int (nI (vf + 1))), (1, .int (nI ((fcN (fcL μ) (mtC μ) vl + fc1 (mtC μ) vl vf) + 0))), (0, .ref fl), (2, .int (nI vl))]) hx hb dX2_meetings_47 hl (k := 3) rfl (inc1 _) (by decide) rfl (fun ls hl => ?_)
                refine lv_goto (tgt := 14) hx hb dX2_meetings_50 (by decide) ?_
                replace hl := lv_eq 1 hl rfl (v2 := .int (nI (fcN (fcL μ) (mtC μ) vl + fc1 (mtC μ) vl (vf + 1)))) (congrArg (fun z => Value.int (nI z)) (show ((fcN (fcL μ) (mtC μ) vl + fc1 (mtC μ) vl vf) + 0) = (fcN (fcL μ) (mtC μ) vl + fc1 (mtC μ) vl (vf + 1)) from by omega))
                exact ih14 (vf + 1) (by omega) (by omega) ls (lv_sub hl [2, 1, 3, 0] rfl)
              ·
                have e1 := fc1_yes (Z := mtC μ) (k := vl) (f := vf) (by
                  cases hz : mtC μ vl vf
                  · exact absurd ((mtC_e hb0 hl0 (by omega) (by omega)).mpr hz) c_37
                  · rfl)
                refine lv_iconst (v := nI 1) hx hb dX2_meetings_40 (by decide) ?_
                refine lv_goto (tgt := 45) hx hb dX2_meetings_41 (by decide) ?_
                refine n_iadd hx hb dX2_meetings_45 ?_
                refine lv_istore_n (lv' := [(1, .int (nI ((fcN (fcL μ) (mtC μ) vl + fc1 (mtC μ) vl vf) + 1))), (0, .ref fl), (2, .int (nI vl)), (3, .int (nI vf))]) hx hb dX2_meetings_46 rfl hl (by decide) rfl (fun ls hl => ?_)
                refine lv_iinc (v := (nI (vf + 1))) (lv' := [(3, .int (nI (vf + 1))), (1, .int (nI ((fcN (fcL μ) (mtC μ) vl + fc1 (mtC μ) vl vf) + 1))), (0, .ref fl), (2, .int (nI vl))]) hx hb dX2_meetings_47 hl (k := 3) rfl (inc1 _) (by decide) rfl (fun ls hl => ?_)
                refine lv_goto (tgt := 14) hx hb dX2_meetings_50 (by decide) ?_
                replace hl := lv_eq 1 hl rfl (v2 := .int (nI (fcN (fcL μ) (mtC μ) vl + fc1 (mtC μ) vl (vf + 1)))) (congrArg (fun z => Value.int (nI z)) (show ((fcN (fcL μ) (mtC μ) vl + fc1 (mtC μ) vl vf) + 1) = (fcN (fcL μ) (mtC μ) vl + fc1 (mtC μ) vl (vf + 1)) from by omega))
                exact ih14 (vf + 1) (by omega) (by omega) ls (lv_sub hl [2, 1, 3, 0] rfl)
        replace hl := lv_eq 2 hl rfl (v2 := .int (nI (fcN (fcL μ) (mtC μ) vl + fc1 (mtC μ) vl 0))) (congrArg (fun z => Value.int (nI z)) (show (fcN (fcL μ) (mtC μ) vl) = (fcN (fcL μ) (mtC μ) vl + fc1 (mtC μ) vl 0) from rfl))
        exact L14 ((fcL μ vl - 0) + 1) 0 (Nat.zero_le _) (Nat.lt_succ_self _) ls (lv_sub hl [1, 2, 3, 0] rfl)
  replace hl := lv_eq 1 hl rfl (v2 := .int (nI (fcN (fcL μ) (mtC μ) 0))) (congrArg (fun z => Value.int (nI z)) (show 0 = (fcN (fcL μ) (mtC μ) 0) from rfl))
  exact L4 ((μ.1 19 - 0) + 1) 0 (Nat.zero_le _) (Nat.lt_succ_self _) ls (lv_sub hl [2, 1, 0] rfl)

set_option maxHeartbeats 1000000 in
set_option maxRecDepth 100000 in
theorem c_X2_add (l : Launch) (G : Gt) (fl : Nat) (φ : Sx) (a : Nat) (β : Sx) (x : Nat) (y : Nat) (h10 : φ.1 3 < 10) (hap : a + 4 ≤ fl ∨ fl + 4 ≤ a) : Ct l G yX2_add cX2_add 4 ((some .int)) 0 0 0 [.ref fl, .ref a, .int (nI x), .int (nI y)] (fun H => bk G fl (flL G fl φ) H ∧ bk G a (bdL G a β) H) (some (.int (nI (φ.1 3)))) (fun H => bk G fl (flL G fl (uS (uA (uA (uQ φ 0 (φ.1 3) a) 1 (φ.1 3) x) 2 (φ.1 3) y) 3 (φ.1 3 + 1))) H ∧ bk G a (bdL G a β) H) (fun q => fl ≤ q ∧ q < fl + 4) := by
  refine ct_entry [(0, .ref fl), (1, .ref a), (2, .int (nI x)), (3, .int (nI y))] (by decide) (Nat.le_of_ble_eq_true rfl) rfl ?_
  intro zp ze zs zm za zb zt zc Q S hK hPre hin hE ls hl
  have hx := S.1
  have hb := S.2.1
  obtain ⟨hF, hB⟩ := hPre
  have hS : va_S (fun q => fl ≤ q ∧ q < fl + 4) zs.heap zs.heap [] := va_S.rf
  refine lv_aload_n hx hb dX2_add_0 rfl (lv_at hl 0 rfl) ?_
  refine kg (C := RX2) (T := TX2) (N := 4) (ci := 1) (k := 0) (v := .ref (fl + 1)) S hK rfl inX2 (by decide) q_108 dX2_add_1 hF rfl rfl ?_
  refine lv_aload_n hx hb dX2_add_4 rfl (lv_at hl 0 rfl) ?_
  refine kg (C := RX2) (T := TX2) (N := 4) (ci := 1) (k := 3) (v := .int (nI (φ.1 3))) S hK rfl inX2 (by decide) q_111 dX2_add_5 hF rfl rfl ?_
  refine lv_aload_n hx hb dX2_add_8 rfl (lv_at hl 1 rfl) ?_
  refine kqs (C := "PuzzleParts$Board") (T := TX0) (N := 9) S hK dX2_add_9 1 2 0 hF rfl rfl rfl hB rfl (by decide) rfl (by omega) (L1 := flL G fl (uQ φ 0 (φ.1 3) a)) rfl hS (by first | exact ⟨by omega, by omega⟩ | omega) (fun H locs hF hS hz2 hk => ?_)
  replace hB := hB.kept (fun q h1 h2 => hk q (by have h3 : q < a + 4 := h2; omega))
  refine lv_aload_n hx hb dX2_add_10 rfl (lv_at hl 0 rfl) ?_
  refine kg (C := RX2) (T := TX2) (N := 4) (ci := 1) (k := 1) (v := .ref (fl + 2)) S hK rfl inX2 (by decide) q_109 dX2_add_11 hF rfl rfl ?_
  refine lv_aload_n hx hb dX2_add_14 rfl (lv_at hl 0 rfl) ?_
  refine kg (C := RX2) (T := TX2) (N := 4) (ci := 1) (k := 3) (v := .int (nI (φ.1 3))) S hK rfl inX2 (by decide) q_111 dX2_add_15 hF rfl rfl ?_
  refine lv_iload_n hx hb dX2_add_18 rfl (lv_at hl 2 rfl) ?_
  refine kis S hK dX2_add_19 2 hF rfl (by decide) rfl (by omega) rfl (L1 := flL G fl (uA (uQ φ 0 (φ.1 3) a) 1 (φ.1 3) x)) rfl hS (by first | exact ⟨by omega, by omega⟩ | omega) (fun H locs hF hS hz2 hk => ?_)
  replace hB := hB.kept (fun q h1 h2 => hk q (by have h3 : q < a + 4 := h2; omega))
  refine lv_aload_n hx hb dX2_add_20 rfl (lv_at hl 0 rfl) ?_
  refine kg (C := RX2) (T := TX2) (N := 4) (ci := 1) (k := 2) (v := .ref (fl + 3)) S hK rfl inX2 (by decide) q_110 dX2_add_21 hF rfl rfl ?_
  refine lv_aload_n hx hb dX2_add_24 rfl (lv_at hl 0 rfl) ?_
  refine kg (C := RX2) (T := TX2) (N := 4) (ci := 1) (k := 3) (v := .int (nI (φ.1 3))) S hK rfl inX2 (by decide) q_111 dX2_add_25 hF rfl rfl ?_
  refine lv_iload_n hx hb dX2_add_28 rfl (lv_at hl 3 rfl) ?_
  refine kis S hK dX2_add_29 3 hF rfl (by decide) rfl (by omega) rfl (L1 := flL G fl (uA (uA (uQ φ 0 (φ.1 3) a) 1 (φ.1 3) x) 2 (φ.1 3) y)) rfl hS (by first | exact ⟨by omega, by omega⟩ | omega) (fun H locs hF hS hz2 hk => ?_)
  replace hB := hB.kept (fun q h1 h2 => hk q (by have h3 : q < a + 4 := h2; omega))
  refine lv_aload_n hx hb dX2_add_30 rfl (lv_at hl 0 rfl) ?_
  refine lv_dup hx hb dX2_add_31 rfl ?_
  refine kg (C := RX2) (T := TX2) (N := 4) (ci := 1) (k := 3) (v := .int (nI (φ.1 3))) S hK rfl inX2 (by decide) q_111 dX2_add_32 hF rfl rfl ?_
  refine lv_iconst (v := nI 1) hx hb dX2_add_35 (by decide) ?_
  refine n_iadd hx hb dX2_add_36 ?_
  refine kp (C := RX2) (T := TX2) (N := 4) (ci := 1) (k := 3) (ty := .int) tyX2 tyX2_ok nmX2 S hK rfl inX2 (by decide) q_111 rfl dX2_add_37 rfl rfl rfl hF rfl (Nat.le_of_ble_eq_true rfl) (L1 := flL G fl (uS (uA (uA (uQ φ 0 (φ.1 3) a) 1 (φ.1 3) x) 2 (φ.1 3) y) 3 ((φ.1 3) + 1))) rfl hS (by first | exact ⟨by omega, by omega⟩ | omega) (fun H locs hF hS hz2 hk => ?_)
  replace hB := hB.kept (fun q h1 h2 => hk q (by have h3 : q < a + 4 := h2; omega))
  refine lv_aload_n hx hb dX2_add_40 rfl (lv_at hl 0 rfl) ?_
  refine kg (C := RX2) (T := TX2) (N := 4) (ci := 1) (k := 3) (v := .int (nI ((φ.1 3) + 1))) S hK rfl inX2 (by decide) q_111 dX2_add_41 hF rfl rfl ?_
  refine lv_iconst (v := nI 1) hx hb dX2_add_44 (by decide) ?_
  refine n_isub hx hb dX2_add_45 (by omega) ?_
  refine w_top (v' := .int (nI (φ.1 3))) (congrArg (fun z => Value.int (nI z)) (show (((φ.1 3) + 1) - 1) = (φ.1 3) from by omega)) ?_
  replace hF := bk_eq hF (show flL G fl (uS (uA (uA (uQ φ 0 (φ.1 3) a) 1 (φ.1 3) x) 2 (φ.1 3) y) 3 ((φ.1 3) + 1)) = flL G fl (uS (uA (uA (uQ φ 0 (φ.1 3) a) 1 (φ.1 3) x) 2 (φ.1 3) y) 3 (φ.1 3 + 1)) from rfl)
  exact hE _ _ _ _ _ _ (kr_i dX2_add_46) hS (by decide) (by decide) ⟨hF, hB⟩
