
/-! walks: the class's NET of THE FLOOR -/
theorem FB_k {G : Gt} {μ φ : Sx} {H0 H : Heap} {A : Nat → Prop} {locs : List Loc} (h : FB G μ φ H0) (hS : va_S A H0 H locs) (hA : ∀ q, A q → H0.size ≤ q) : FB G μ φ H := by
  obtain ⟨h1, h2, h3, h4⟩ := h
  refine ⟨h1, h2, h3, fun k hk => ?_⟩
  obtain ⟨a, β, g1, g2, g3⟩ := h4 k hk
  exact ⟨a, β, g1, bk_S g2 hS (fun q q1 q2 q3 z => by have := hA q z; omega), g3⟩
theorem n9_le {j : Nat} (hj : j < 2 ^ 31) : (-9 : Int32) ≤ nI j := by
  rw [Int32.le_iff_toInt_le, nI_toInt hj]
  have e : (-9 : Int32).toInt = -9 := rfl
  omega

set_option maxHeartbeats 1000000 in
set_option maxRecDepth 100000 in
theorem c_X2_asNet (l : Launch) (G : Gt) (fl : Nat) (φ : Sx) (μ : Sx) (nb : Nat) (pa : Nat → Nat) (hb0 : MIb μ) (hl0 : MIl μ) (h8 : μ.1 19 ≤ 8) (hlk : leak_M μ < 0) (hL4 : ∀ k, k < μ.1 19 → φ.2.2 0 k = some (pa (μ.2.1 12 k))) (hbn : ∀ k, k < μ.1 19 → pa (μ.2.1 12 k) + 4 ≤ nb) (hfn : fl + 4 ≤ nb) : Ct l G yX2_asNet cX2_asNet 5 ((some (.object "PuzzleParts$Net"))) 3 4 93 [.ref fl] (fun H => bk G fl (flL G fl φ) H ∧ FB G μ φ H ∧ H.size = nb) (some (.ref nb)) (fun H => bk G fl (flL G fl φ) H ∧ ∃ ν : Sx, bk G nb (ntL G nb ν) H ∧ NR (flE μ) pa (μ.1 18) ν) (fun q => nb ≤ q) := by
  refine ct_entry [(0, .ref fl)] (by decide) (Nat.le_of_ble_eq_true rfl) rfl ?_
  intro zp ze zs zm za zb zt zc Q S hK hPre hin hE ls hl
  have hx := S.1
  have hb := S.2.1
  obtain ⟨hF, hNB, hz⟩ := hPre
  have hS : va_S (fun q => nb ≤ q) zs.heap zs.heap [] := va_S.rf
  have h10 := hl0.1
  obtain ⟨hf3, hf1, hf2, hfB⟩ := id hNB
  have hz0 := hz
  refine kn (C := RX4) (T := TX4) (N := 5) (ci := 3) tyX4 tyX4_ok S hK rfl inX4 q_712 q_501 q_87 [.null, .int (nI 0), .int (nI 0), .null, .null] (fun j hj => by first | (rcases (show j = 0 ∨ j = 1 ∨ j = 2 ∨ j = 3 ∨ j = 4 by omega) with rfl | rfl | rfl | rfl | rfl <;> rfl)) dX2_asNet_0 (by decide) (by decide) (h := nb) hz hS (fun H hT hS hz hk => ?_)
  replace hF := hF.kept (fun q h1 h2 => hk q (by have h3 : q < fl + 4 := h2; omega))
  refine lv_dup hx hb dX2_asNet_3 rfl ?_
  refine ctI (rest := [.ref nb]) S hK (c_X4_init l G nb) cw_X2_53 rfl ⟨Nat.le_of_ble_eq_true rfl, Nat.le_of_ble_eq_true rfl⟩ ⟨Nat.le_of_ble_eq_true rfl, Nat.le_of_ble_eq_true rfl⟩ hl.1 rfl (Nat.le_of_ble_eq_true rfl) dX2_asNet_4 ⟨hT, hz⟩ hS (fun q h => by omega) (fun H locs hPost hz2 hk hS => ?_)
  obtain ⟨hT, hz⟩ := hPost
  replace hF := hF.over hk (fun q h1 h2 => by have h3 : q < fl + 4 := h2; intro hA1; omega)
  refine lv_astore_n (lv' := [(1, .ref nb), (0, .ref fl)]) hx hb dX2_asNet_7 rfl hl (by decide) rfl (fun ls hl => ?_)
  refine lv_iconst (v := nI 0) hx hb dX2_asNet_8 (by decide) ?_
  refine lv_istore_n (lv' := [(2, .int (nI 0)), (1, .ref nb), (0, .ref fl)]) hx hb dX2_asNet_9 rfl hl (by decide) rfl (fun ls hl => ?_)
  have L10 : ∀ (fu : Nat), ∀ (vk : Nat) (ν : Sx), (vk ≤ μ.1 19) → (ν.1 1 = vk) → (ν.1 2 = 0) → (∀ k, k < vk → ν.2.2 0 k = some (pa (μ.2.1 12 k))) → (∀ j, j < 40 → ν.2.1 3 j = 0) → μ.1 19 - vk < fu → ∀ (H : Heap) (locs : List Loc), bk G fl (flL G fl φ) H → bk G nb (ntL G nb ν) H → va_S (fun q => nb ≤ q) zs.heap H locs → ∀ ls : Array Slot, lv_has ls 5 [(0, .ref fl), (1, .ref nb), (2, .int (nI vk))] → W zp l ze (rL 3 4 93) zs zm za zb zt zc H locs 4 93 Q (F0 zm 10 ls []) := by
    intro fu
    induction fu with
    | zero =>
      intro vk ν hvk hν1 hν2 hν3 hν4 hmu H locs hF hT hS ls hl
      exact absurd hmu (Nat.not_lt_zero _)
    | succ fu ih10 =>
      intro vk ν hvk hν1 hν2 hν3 hν4 hmu H locs hF hT hS ls hl
      refine lv_iload_n hx hb dX2_asNet_10 rfl (lv_at hl 2 rfl) ?_
      refine lv_aload_n hx hb dX2_asNet_11 rfl (lv_at hl 0 rfl) ?_
      refine kg (C := RX2) (T := TX2) (N := 4) (ci := 1) (k := 3) (v := .int (nI (φ.1 3))) S hK rfl inX2 (by decide) q_111 dX2_asNet_12 hF rfl rfl ?_
      refine n_icmp_ge (tgt := 41) hx hb dX2_asNet_15 (by decide) (by omega) (by omega) (fun c_15 => ?_) (fun c_15 => ?_)
      ·
        refine lv_iconst (v := nI 0) hx hb dX2_asNet_41 (by decide) ?_
        refine lv_istore_n (lv' := [(2, .int (nI 0)), (0, .ref fl), (1, .ref nb)]) hx hb dX2_asNet_42 rfl hl (by decide) rfl (fun ls hl => ?_)
        have L43 : ∀ (fu : Nat), ∀ (vk : Nat) (ν : Sx), (vk ≤ μ.1 19) → (NR (flN μ (μ.1 18) (flP μ (μ.1 18) (fl0 μ) (μ.1 19)) vk) pa (μ.1 18) ν) → (LKS μ (μ.1 18) (flN μ (μ.1 18) (flP μ (μ.1 18) (fl0 μ) (μ.1 19)) vk) vk 0) → μ.1 19 - vk < fu → ∀ (H : Heap) (locs : List Loc), bk G fl (flL G fl φ) H → bk G nb (ntL G nb ν) H → va_S (fun q => nb ≤ q) zs.heap H locs → ∀ ls : Array Slot, lv_has ls 5 [(0, .ref fl), (1, .ref nb), (2, .int (nI vk))] → W zp l ze (rL 3 4 93) zs zm za zb zt zc H locs 4 93 Q (F0 zm 43 ls []) := by
          intro fu
          induction fu with
          | zero =>
            intro vk ν hvk hNR hLS hmu H locs hF hT hS ls hl
            exact absurd hmu (Nat.not_lt_zero _)
          | succ fu ih43 =>
            intro vk ν hvk hNR hLS hmu H locs hF hT hS ls hl
            refine lv_iload_n hx hb dX2_asNet_43 rfl (lv_at hl 2 rfl) ?_
            refine lv_aload_n hx hb dX2_asNet_44 rfl (lv_at hl 0 rfl) ?_
            refine kg (C := RX2) (T := TX2) (N := 4) (ci := 1) (k := 3) (v := .int (nI (φ.1 3))) S hK rfl inX2 (by decide) q_111 dX2_asNet_45 hF rfl rfl ?_
            refine n_icmp_ge (tgt := 107) hx hb dX2_asNet_48 (by decide) (by omega) (by omega) (fun c_48 => ?_) (fun c_48 => ?_)
            ·
              refine lv_aload_n hx hb dX2_asNet_107 rfl (lv_at hl 1 rfl) ?_
              exact hE _ _ _ _ _ _ (kr_a dX2_asNet_108) hS (by decide) (by decide) ⟨hF, _, hT, (by have q := hNR; rw [show vk = μ.1 19 from by omega] at q; exact q)⟩
            ·
              have hvl2 : vk < μ.1 19 := by omega
              have hfo5 := fcL_5 hb0 hl0 hvl2
              refine lv_iconst (v := nI 0) hx hb dX2_asNet_51 (by decide) ?_
              refine lv_istore_n (lv' := [(3, .int (nI 0)), (0, .ref fl), (1, .ref nb), (2, .int (nI vk))]) hx hb dX2_asNet_52 rfl hl (by decide) rfl (fun ls hl => ?_)
              have L53 : ∀ (fu : Nat), ∀ (vf : Nat) (ν : Sx), (vf ≤ fcL μ vk) → (NR (fl1 μ (μ.1 18) vk (flN μ (μ.1 18) (flP μ (μ.1 18) (fl0 μ) (μ.1 19)) vk) vf) pa (μ.1 18) ν) → (LKS μ (μ.1 18) (fl1 μ (μ.1 18) vk (flN μ (μ.1 18) (flP μ (μ.1 18) (fl0 μ) (μ.1 19)) vk) vf) vk vf) → fcL μ vk - vf < fu → ∀ (H : Heap) (locs : List Loc), bk G fl (flL G fl φ) H → bk G nb (ntL G nb ν) H → va_S (fun q => nb ≤ q) zs.heap H locs → ∀ ls : Array Slot, lv_has ls 5 [(0, .ref fl), (1, .ref nb), (2, .int (nI vk)), (3, .int (nI vf))] → W zp l ze (rL 3 4 93) zs zm za zb zt zc H locs 4 93 Q (F0 zm 53 ls []) := by
                intro fu
                induction fu with
                | zero =>
                  intro vf ν hvf hNR2 hLS2 hmu H locs hF hT hS ls hl
                  exact absurd hmu (Nat.not_lt_zero _)
                | succ fu ih53 =>
                  intro vf ν hvf hNR2 hLS2 hmu H locs hF hT hS ls hl
                  refine lv_iload_n hx hb dX2_asNet_53 rfl (lv_at hl 3 rfl) ?_
                  refine lv_aload_n hx hb dX2_asNet_54 rfl (lv_at hl 0 rfl) ?_
                  refine lv_iload_n hx hb dX2_asNet_55 rfl (lv_at hl 2 rfl) ?_
                  refine crV (rest := [.int (nI vf)]) S hK (c_X2_facesOf_y l G fl φ μ vk (by first | assumption | omega | decide) (by first | assumption | omega | decide) (by omega)) cw_X2_28 rfl ⟨Nat.le_of_ble_eq_true rfl, Nat.le_of_ble_eq_true rfl⟩ ⟨Nat.le_of_ble_eq_true rfl, Nat.le_of_ble_eq_true rfl⟩ (bk.recv hK hF rfl rfl) hl.1 rfl (Nat.le_of_ble_eq_true rfl) dX2_asNet_56 ⟨hF, (FB_k hNB hS (fun q z => by omega))⟩ ?_
                  refine n_icmp_ge (tgt := 101) hx hb dX2_asNet_59 (by decide) (by omega) (by omega) (fun c_59 => ?_) (fun c_59 => ?_)
                  ·
                    refine lv_iinc (v := (nI (vk + 1))) (lv' := [(2, .int (nI (vk + 1))), (0, .ref fl), (1, .ref nb), (3, .int (nI vf))]) hx hb dX2_asNet_101 hl (k := 2) rfl (inc1 _) (by decide) rfl (fun ls hl => ?_)
                    refine lv_goto (tgt := 43) hx hb dX2_asNet_104 (by decide) ?_
                    exact ih43 (vk + 1) ν (by omega) (by have q := hNR2; rw [show vf = fcL μ vk from by omega] at q; exact q) (by have q := LKS_w hLS2 (c := vk + 1) (d := 0) (Or.inl (Nat.lt_succ_self _)); rw [show vf = fcL μ vk from by omega] at q; exact q) (by omega) _ _ hF hT hS ls (lv_sub hl [1, 2, 0] rfl)
                  ·
                    refine lv_aload_n hx hb dX2_asNet_62 rfl (lv_at hl 0 rfl) ?_
                    refine lv_iload_n hx hb dX2_asNet_63 rfl (lv_at hl 2 rfl) ?_
                    refine lv_iload_n hx hb dX2_asNet_64 rfl (lv_at hl 3 rfl) ?_
                    refine lv_iconst (v := nI 0) hx hb dX2_asNet_65 (by decide) ?_
                    rcases met_v hb0 hl0 (k := vk) (f := vf) (i := 0) (by decide) with hq | ⟨va, vg, ha, hg, hg4, hne, hzz, hq⟩
                    ·
                      refine crV (rest := []) S hK (c_X2_metBy l G fl φ μ vk vf 0 (by first | assumption | omega | decide) (by first | assumption | omega | decide) (by omega) (by omega) (by decide)) cw_X2_47 rfl ⟨Nat.le_of_ble_eq_true rfl, Nat.le_of_ble_eq_true rfl⟩ ⟨Nat.le_of_ble_eq_true rfl, Nat.le_of_ble_eq_true rfl⟩ (bk.recv hK hF rfl rfl) hl.1 rfl (Nat.le_of_ble_eq_true rfl) dX2_asNet_66 ⟨hF, (FB_k hNB hS (fun q z => by omega))⟩ ?_
                      refine w_top (v' := .int (-9)) (congrArg (fun z => Value.int z) hq) ?_
                      refine lv_istore (lv' := [(4, .int (-9)), (0, .ref fl), (1, .ref nb), (2, .int (nI vk)), (3, .int (nI vf))]) hx hb dX2_asNet_69 hl (by decide) rfl (fun ls hl => ?_)
                      refine lv_iload hx hb dX2_asNet_71 (lv_at hl 0 rfl) ?_
                      refine lv_bipush (v := nI 10) hx hb dX2_asNet_73 (by decide) ?_
                      refine lv_iload_n hx hb dX2_asNet_75 rfl (lv_at hl 3 rfl) ?_
                      refine n_imul hx hb dX2_asNet_76 ?_
                      refine lv_iload_n hx hb dX2_asNet_77 rfl (lv_at hl 4 rfl) ?_
                      refine n_iadd hx hb dX2_asNet_78 ?_
                      refine lv_icmp_le (tgt := 95) hx hb dX2_asNet_79 (by decide) (fun c_79 => ?_) (fun c_79 => ?_)
                      ·
                        have hmt := mtC_9 (by omega) hq
                        refine lv_iinc (v := (nI (vf + 1))) (lv' := [(3, .int (nI (vf + 1))), (4, .int (-9)), (0, .ref fl), (1, .ref nb), (2, .int (nI vk))]) hx hb dX2_asNet_95 hl (k := 4) rfl (inc1 _) (by decide) rfl (fun ls hl => ?_)
                        refine lv_goto (tgt := 53) hx hb dX2_asNet_98 (by decide) ?_
                        exact ih53 (vf + 1) ν (by omega) (by rw [fl1_n hmt]; exact hNR2) (by rw [fl1_n hmt]; exact LKS_w hLS2 (Or.inr ⟨rfl, Nat.le_succ _⟩)) (by omega) _ _ hF hT hS ls (lv_sub hl [2, 3, 4, 0] rfl)
                      ·
                        exact absurd (n9_le (by omega)) c_79
                    ·
                      have hmo := mtC_o hb0 hl0 hvl2 (by omega) ha hg4 hne hq
                      refine crV (rest := []) S hK (c_X2_metBy l G fl φ μ vk vf 0 (by first | assumption | omega | decide) (by first | assumption | omega | decide) (by omega) (by omega) (by decide)) cw_X2_47 rfl ⟨Nat.le_of_ble_eq_true rfl, Nat.le_of_ble_eq_true rfl⟩ ⟨Nat.le_of_ble_eq_true rfl, Nat.le_of_ble_eq_true rfl⟩ (bk.recv hK hF rfl rfl) hl.1 rfl (Nat.le_of_ble_eq_true rfl) dX2_asNet_66 ⟨hF, (FB_k hNB hS (fun q z => by omega))⟩ ?_
                      refine w_top (v' := .int (nI (10 * va + vg))) (congrArg (fun z => Value.int z) hq) ?_
                      refine lv_istore (lv' := [(4, .int (nI (10 * va + vg))), (0, .ref fl), (1, .ref nb), (2, .int (nI vk)), (3, .int (nI vf))]) hx hb dX2_asNet_69 hl (by decide) rfl (fun ls hl => ?_)
                      refine lv_iload hx hb dX2_asNet_71 (lv_at hl 0 rfl) ?_
                      refine lv_bipush (v := nI 10) hx hb dX2_asNet_73 (by decide) ?_
                      refine lv_iload_n hx hb dX2_asNet_75 rfl (lv_at hl 3 rfl) ?_
                      refine n_imul hx hb dX2_asNet_76 ?_
                      refine lv_iload_n hx hb dX2_asNet_77 rfl (lv_at hl 4 rfl) ?_
                      refine n_iadd hx hb dX2_asNet_78 ?_
                      refine n_icmp_le (tgt := 95) hx hb dX2_asNet_79 (by decide) (by omega) (by omega) (fun c_79 => ?_) (fun c_79 => ?_)
                      ·
                        have hmt : mtC μ vk vf = false := hmo.trans (decide_eq_false (by omega))
                        refine lv_iinc (v := (nI (vf + 1))) (lv' := [(3, .int (nI (vf + 1))), (4, .int (nI (10 * va + vg))), (0, .ref fl), (1, .ref nb), (2, .int (nI vk))]) hx hb dX2_asNet_95 hl (k := 4) rfl (inc1 _) (by decide) rfl (fun ls hl => ?_)
                        refine lv_goto (tgt := 53) hx hb dX2_asNet_98 (by decide) ?_
                        exact ih53 (vf + 1) ν (by omega) (by rw [fl1_n hmt]; exact hNR2) (by rw [fl1_n hmt]; exact LKS_w hLS2 (Or.inr ⟨rfl, Nat.le_succ _⟩)) (by omega) _ _ hF hT hS ls (lv_sub hl [2, 3, 4, 0] rfl)
                      ·
                        have hmt : mtC μ vk vf = true := hmo.trans (decide_eq_true (by omega))
                        have hka : vk < va := by omega
                        have hn2 := LKS_n hb0 hl0 hlk hLS2 hka ha (by omega) hg hzz
                        refine lv_aload_n hx hb dX2_asNet_82 rfl (lv_at hl 2 rfl) ?_
                        refine lv_bipush (v := nI 10) hx hb dX2_asNet_83 (by decide) ?_
                        refine lv_iload_n hx hb dX2_asNet_85 rfl (lv_at hl 3 rfl) ?_
                        refine n_imul hx hb dX2_asNet_86 ?_
                        refine lv_iload_n hx hb dX2_asNet_87 rfl (lv_at hl 4 rfl) ?_
                        refine n_iadd hx hb dX2_asNet_88 ?_
                        refine lv_iload hx hb dX2_asNet_89 (lv_at hl 0 rfl) ?_
                        refine ctV (rest := []) S hK (c_X4_addLink l G nb ν ((10 * vk) + vf) (10 * va + vg) (by omega) (by omega) (by omega) (by omega)) cw_X2_58 rfl ⟨Nat.le_of_ble_eq_true rfl, Nat.le_of_ble_eq_true rfl⟩ ⟨Nat.le_of_ble_eq_true rfl, Nat.le_of_ble_eq_true rfl⟩ (bk.recv hK hT rfl rfl) hl.1 rfl (Nat.le_of_ble_eq_true rfl) dX2_asNet_91 hT hS (fun q h => by omega) (fun H locs hPost hz hk hS => ?_)
                        have hT := hPost
                        replace hF := hF.over hk (fun q h1 h2 => by have h3 : q < fl + 4 := h2; intro hA1; omega)
                        refine lv_pop hx hb dX2_asNet_94 rfl ?_
                        refine lv_iinc (v := (nI (vf + 1))) (lv' := [(3, .int (nI (vf + 1))), (4, .int (nI (10 * va + vg))), (0, .ref fl), (1, .ref nb), (2, .int (nI vk))]) hx hb dX2_asNet_95 hl (k := 4) rfl (inc1 _) (by decide) rfl (fun ls hl => ?_)
                        refine lv_goto (tgt := 53) hx hb dX2_asNet_98 (by decide) ?_
                        exact ih53 (vf + 1) (uA (uA (uS ν 2 (ν.1 2 + 1)) 3 (5 * (((10 * vk) + vf) / 10) + ((10 * vk) + vf) % 10) (ν.1 2 + 1)) 3 (5 * ((10 * va + vg) / 10) + (10 * va + vg) % 10) (ν.1 2 + 1)) (by omega) (by rw [fl1_y hmt hq (by omega)]; exact NR_lk hNR2 (by omega) (by omega) hn2.1 hn2.2) (by rw [fl1_y hmt hq (by omega)]; exact LKS_a hLS2 hka ha (by omega) hg hzz) (by omega) _ _ hF hT hS ls (lv_sub hl [2, 3, 4, 0] rfl)
              exact L53 ((fcL μ vk - 0) + 1) 0 ν (Nat.zero_le _) hNR hLS (Nat.lt_succ_self _) _ _ hF hT hS ls (lv_sub hl [1, 2, 3, 0] rfl)
        exact L43 ((μ.1 19 - 0) + 1) 0 ν (Nat.zero_le _) (NR_f0 (by omega) hν2 (fun k hk => hν3 k (by omega)) hν4) LKS_0 (Nat.lt_succ_self _) _ _ hF hT hS ls (lv_sub hl [1, 2, 0] rfl)
      ·
        refine lv_aload_n hx hb dX2_asNet_18 rfl (lv_at hl 0 rfl) ?_
        refine kg (C := RX2) (T := TX2) (N := 4) (ci := 1) (k := 0) (v := .ref (fl + 1)) S hK rfl inX2 (by decide) q_108 dX2_asNet_19 hF rfl rfl ?_
        refine lv_iload_n hx hb dX2_asNet_22 rfl (lv_at hl 2 rfl) ?_
        refine kql (f := φ.2.2 0) S hK dX2_asNet_23 1 2 hF rfl rfl (by decide) rfl (by omega) ?_
        rw [show φ.2.2 0 vk = some (pa (μ.2.1 12 vk)) from (hL4 vk (by omega))]
        dsimp only [va_rf]
        refine lv_astore_n (lv' := [(3, .ref (pa (μ.2.1 12 vk))), (0, .ref fl), (1, .ref nb), (2, .int (nI vk))]) hx hb dX2_asNet_24 rfl hl (by decide) rfl (fun ls hl => ?_)
        refine lv_aload_n hx hb dX2_asNet_25 rfl (lv_at hl 0 rfl) ?_
        refine lv_ifnull hx hb dX2_asNet_26 ?_
        refine lv_aload_n hx hb dX2_asNet_29 rfl (lv_at hl 2 rfl) ?_
        refine lv_aload_n hx hb dX2_asNet_30 rfl (lv_at hl 0 rfl) ?_
        obtain ⟨a9, β, ha9, hB, hBG⟩ := (FB_k hNB hS (fun q z => by omega)).2.2.2 vk (by omega)
        have ea : a9 = pa (μ.2.1 12 vk) := Option.some.inj (ha9.symm.trans (hL4 vk (by omega)))
        subst ea
        have hbk := hbn vk (by omega)
        refine ctV (rest := []) S hK (c_X4_addPiece l G nb ν (pa (μ.2.1 12 vk)) β (by omega) (Or.inl hbk)) cw_X2_54 rfl ⟨Nat.le_of_ble_eq_true rfl, Nat.le_of_ble_eq_true rfl⟩ ⟨Nat.le_of_ble_eq_true rfl, Nat.le_of_ble_eq_true rfl⟩ (bk.recv hK hT rfl rfl) hl.1 rfl (Nat.le_of_ble_eq_true rfl) dX2_asNet_31 ⟨hT, hB⟩ hS (fun q h => by omega) (fun H locs hPost hz hk hS => ?_)
        obtain ⟨hT, hB⟩ := hPost
        replace hF := hF.over hk (fun q h1 h2 => by have h3 : q < fl + 4 := h2; intro hA1; omega)
        refine lv_pop hx hb dX2_asNet_34 rfl ?_
        refine lv_iinc (v := (nI (vk + 1))) (lv' := [(2, .int (nI (vk + 1))), (3, .ref (pa (μ.2.1 12 vk))), (0, .ref fl), (1, .ref nb)]) hx hb dX2_asNet_35 hl (k := 3) rfl (inc1 _) (by decide) rfl (fun ls hl => ?_)
        refine lv_goto (tgt := 10) hx hb dX2_asNet_38 (by decide) ?_
        exact ih10 (vk + 1) (uS (uQ ν 0 (ν.1 1) (pa (μ.2.1 12 vk))) 1 (ν.1 1 + 1)) (by omega) (by show ν.1 1 + 1 = vk + 1; omega) hν2 (fun k hk => by
          show va_up (ν.2.2 0) (ν.1 1) (some (pa (μ.2.1 12 vk))) k = _
          rw [hν1]
          by_cases e : k = vk
          · rw [e]
            simp [va_up]
          · simp only [va_up, if_neg e]
            exact hν3 k (by omega)) hν4 (by omega) _ _ hF hT hS ls (lv_sub hl [2, 3, 0] rfl)
  exact L10 ((μ.1 19 - 0) + 1) 0 nt0 (Nat.zero_le _) rfl rfl (fun k hk => absurd hk (Nat.not_lt_zero k)) (fun j hj => rfl) (Nat.lt_succ_self _) _ _ hF hT hS ls (lv_sub hl [2, 1, 0] rfl)
