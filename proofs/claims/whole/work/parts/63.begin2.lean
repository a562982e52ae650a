
/-! walks: the class, being made -/

set_option maxHeartbeats 1000000 in
set_option maxRecDepth 100000 in
theorem c_X6_init (l : Launch) (G : Gt) (o : Nat)  : Ct l G yX6_init cX6_init 1 (none) 2 10 134 [.ref o] (fun H => bk G o ([.inr (4, [.null, .int (nI 0), .null, .int (nI 0), .null, .int (nI 0), .null, .int (nI 0), .null, .int (nI 0), .null, .null])]) H ∧ H.size = o + 1) none (fun H => bk G o (xL G o nt0) H ∧ bk G (o + 6) (flL G (o + 6) nt0) H ∧ bk G (o + 10) (rfL G (o + 10) nt0) H ∧ H.size = o + 11) (fun q => o ≤ q) := by
  refine ct_entry [(0, .ref o)] (by decide) (Nat.le_of_ble_eq_true rfl) rfl ?_
  intro zp ze zs zm za zb zt zc Q S hK hPre hin hE ls hl
  have hx := S.1
  have hb := S.2.1
  obtain ⟨hX, hz⟩ := hPre
  have hS : va_S (fun q => o ≤ q) zs.heap zs.heap [] := va_S.rf
  refine lv_aload_n hx hb dX6_init_0 rfl (lv_at hl 0 rfl) ?_
  refine koi S q_94 q_95 q_96 dX6_init_1 hl.1 ⟨by decide, by decide⟩ (by decide) ?_
  refine lv_aload_n hx hb dX6_init_4 rfl (lv_at hl 0 rfl) ?_
  refine lv_bipush (v := nI 40) hx hb dX6_init_5 (by decide) ?_
  refine kna S hK q_122 dX6_init_7 40 rfl (by decide) (by decide) (by decide) hX hz hS (fun H hX hS hz hk => ?_)
  replace hX : bk G o ([.inr (4, [.null, .int (nI 0), .null, .int (nI 0), .null, .int (nI 0), .null, .int (nI 0), .null, .int (nI 0), .null, .null]), iA G 40 (fun _ => 0)]) H := hX
  replace hz : H.size = o + 2 := hz
  refine kpF (C := RX6) (T := TX6) (N := 12) (ci := 4) (k := 0) (ty := .array .int) tyX6 tyX6_ok nmX6 S hK hin rfl inX6 (by decide) q_124 rfl rfl dX6_init_9 rfl rfl rfl hX rfl (Nat.le_of_ble_eq_true rfl) (L1 := [.inr (4, [.ref (o + 1), .int (nI 0), .null, .int (nI 0), .null, .int (nI 0), .null, .int (nI 0), .null, .int (nI 0), .null, .null]), iA G 40 (fun _ => 0)]) rfl hS (by first | exact ⟨by omega, by omega⟩ | omega) (fun H locs hX hS hz2 hk => ?_)
  replace hz := hz2.trans hz
  refine lv_aload_n hx hb dX6_init_12 rfl (lv_at hl 0 rfl) ?_
  refine lv_bipush (v := nI 24) hx hb dX6_init_13 (by decide) ?_
  refine knq (C := "PuzzleParts$Board") S hK q_97 hK.2.1.2.2.2.1 2 rfl dX6_init_15 24 rfl (by decide) (by decide) (by decide) hX hz hS (fun H hX hS hz hk => ?_)
  replace hX : bk G o ([.inr (4, [.ref (o + 1), .int (nI 0), .null, .int (nI 0), .null, .int (nI 0), .null, .int (nI 0), .null, .int (nI 0), .null, .null]), iA G 40 (fun _ => 0), qA G 2 24 (fun _ => none)]) H := hX
  replace hz : H.size = o + 3 := hz
  refine kpF (C := RX6) (T := TX6) (N := 12) (ci := 4) (k := 2) (ty := .array (.object "PuzzleParts$Board")) tyX6 tyX6_ok nmX6 S hK hin rfl inX6 (by decide) q_126 rfl rfl dX6_init_18 rfl rfl rfl hX rfl (Nat.le_of_ble_eq_true rfl) (L1 := [.inr (4, [.ref (o + 1), .int (nI 0), .ref (o + 2), .int (nI 0), .null, .int (nI 0), .null, .int (nI 0), .null, .int (nI 0), .null, .null]), iA G 40 (fun _ => 0), qA G 2 24 (fun _ => none)]) rfl hS (by first | exact ⟨by omega, by omega⟩ | omega) (fun H locs hX hS hz2 hk => ?_)
  replace hz := hz2.trans hz
  refine lv_aload_n hx hb dX6_init_21 rfl (lv_at hl 0 rfl) ?_
  refine lv_bipush (v := nI 20) hx hb dX6_init_22 (by decide) ?_
  refine knal S hK q_123 dX6_init_24 20 rfl (by decide) (by decide) (by decide) hX hz hS (fun H hX hS hz hk => ?_)
  replace hX : bk G o ([.inr (4, [.ref (o + 1), .int (nI 0), .ref (o + 2), .int (nI 0), .null, .int (nI 0), .null, .int (nI 0), .null, .int (nI 0), .null, .null]), iA G 40 (fun _ => 0), qA G 2 24 (fun _ => none), lA G 20 (fun _ => 0)]) H := hX
  replace hz : H.size = o + 4 := hz
  refine kpF (C := RX6) (T := TX6) (N := 12) (ci := 4) (k := 4) (ty := .array .long) tyX6 tyX6_ok nmX6 S hK hin rfl inX6 (by decide) q_128 rfl rfl dX6_init_26 rfl rfl rfl hX rfl (Nat.le_of_ble_eq_true rfl) (L1 := [.inr (4, [.ref (o + 1), .int (nI 0), .ref (o + 2), .int (nI 0), .ref (o + 3), .int (nI 0), .null, .int (nI 0), .null, .int (nI 0), .null, .null]), iA G 40 (fun _ => 0), qA G 2 24 (fun _ => none), lA G 20 (fun _ => 0)]) rfl hS (by first | exact ⟨by omega, by omega⟩ | omega) (fun H locs hX hS hz2 hk => ?_)
  replace hz := hz2.trans hz
  refine lv_aload_n hx hb dX6_init_29 rfl (lv_at hl 0 rfl) ?_
  refine lv_bipush (v := nI 6) hx hb dX6_init_30 (by decide) ?_
  refine knq (C := "PuzzleParts$Net") S hK q_99 hK.2.1.2.2.2.2 3 rfl dX6_init_32 6 rfl (by decide) (by decide) (by decide) hX hz hS (fun H hX hS hz hk => ?_)
  replace hX : bk G o ([.inr (4, [.ref (o + 1), .int (nI 0), .ref (o + 2), .int (nI 0), .ref (o + 3), .int (nI 0), .null, .int (nI 0), .null, .int (nI 0), .null, .null]), iA G 40 (fun _ => 0), qA G 2 24 (fun _ => none), lA G 20 (fun _ => 0), qA G 3 6 (fun _ => none)]) H := hX
  replace hz : H.size = o + 5 := hz
  refine kpF (C := RX6) (T := TX6) (N := 12) (ci := 4) (k := 6) (ty := .array (.object "PuzzleParts$Net")) tyX6 tyX6_ok nmX6 S hK hin rfl inX6 (by decide) q_130 rfl rfl dX6_init_35 rfl rfl rfl hX rfl (Nat.le_of_ble_eq_true rfl) (L1 := [.inr (4, [.ref (o + 1), .int (nI 0), .ref (o + 2), .int (nI 0), .ref (o + 3), .int (nI 0), .ref (o + 4), .int (nI 0), .null, .int (nI 0), .null, .null]), iA G 40 (fun _ => 0), qA G 2 24 (fun _ => none), lA G 20 (fun _ => 0), qA G 3 6 (fun _ => none)]) rfl hS (by first | exact ⟨by omega, by omega⟩ | omega) (fun H locs hX hS hz2 hk => ?_)
  replace hz := hz2.trans hz
  refine lv_aload_n hx hb dX6_init_38 rfl (lv_at hl 0 rfl) ?_
  refine lv_iconst (v := nI 3) hx hb dX6_init_39 (by decide) ?_
  refine kna S hK q_122 dX6_init_40 3 rfl (by decide) (by decide) (by decide) hX hz hS (fun H hX hS hz hk => ?_)
  replace hX : bk G o ([.inr (4, [.ref (o + 1), .int (nI 0), .ref (o + 2), .int (nI 0), .ref (o + 3), .int (nI 0), .ref (o + 4), .int (nI 0), .null, .int (nI 0), .null, .null]), iA G 40 (fun _ => 0), qA G 2 24 (fun _ => none), lA G 20 (fun _ => 0), qA G 3 6 (fun _ => none), iA G 3 (fun _ => 0)]) H := hX
  replace hz : H.size = o + 6 := hz
  refine kpF (C := RX6) (T := TX6) (N := 12) (ci := 4) (k := 8) (ty := .array .int) tyX6 tyX6_ok nmX6 S hK hin rfl inX6 (by decide) q_132 rfl rfl dX6_init_42 rfl rfl rfl hX rfl (Nat.le_of_ble_eq_true rfl) (L1 := [.inr (4, [.ref (o + 1), .int (nI 0), .ref (o + 2), .int (nI 0), .ref (o + 3), .int (nI 0), .ref (o + 4), .int (nI 0), .ref (o + 5), .int (nI 0), .null, .null]), iA G 40 (fun _ => 0), qA G 2 24 (fun _ => none), lA G 20 (fun _ => 0), qA G 3 6 (fun _ => none), iA G 3 (fun _ => 0)]) rfl hS (by first | exact ⟨by omega, by omega⟩ | omega) (fun H locs hX hS hz2 hk => ?_)
  replace hz := hz2.trans hz
  refine lv_aload_n hx hb dX6_init_45 rfl (lv_at hl 0 rfl) ?_
  refine kn (C := RX2) (T := TX2) (N := 4) (ci := 1) tyX2 tyX2_ok S hK rfl inX2 q_101 q_102 q_80 [.null, .null, .null, .int (nI 0)] (fun j hj => by first | (rcases (show j = 0 ∨ j = 1 ∨ j = 2 ∨ j = 3 by omega) with rfl | rfl | rfl | rfl <;> rfl)) dX6_init_46 (by decide) (by decide) (h := o + 6) hz hS (fun H hF hS hz hk => ?_)
  replace hX := hX.kept (fun q h1 h2 => hk q (by have h3 : q < o + 6 := h2; omega))
  refine lv_dup hx hb dX6_init_49 rfl ?_
  refine ctI (rest := [.ref (o + 6), .ref o]) S hK (c_X2_init l G (o + 6)) cw_X6_34 rfl ⟨Nat.le_of_ble_eq_true rfl, Nat.le_of_ble_eq_true rfl⟩ ⟨Nat.le_of_ble_eq_true rfl, Nat.le_of_ble_eq_true rfl⟩ hl.1 rfl (Nat.le_of_ble_eq_true rfl) dX6_init_50 ⟨hF, hz⟩ hS (fun q h => by omega) (fun H locs hPost hz2 hk hS => ?_)
  obtain ⟨hF, hz⟩ := hPost
  replace hX := hX.over hk (fun q h1 h2 => by have h3 : q < o + 6 := h2; intro hA1; omega)
  refine kpF (C := RX6) (T := TX6) (N := 12) (ci := 4) (k := 10) (ty := .object "PuzzleParts$Floor") tyX6 tyX6_ok nmX6 S hK hin rfl inX6 (by decide) q_134 rfl rfl dX6_init_53 rfl rfl rfl hX rfl (Nat.le_of_ble_eq_true rfl) (L1 := [.inr (4, [.ref (o + 1), .int (nI 0), .ref (o + 2), .int (nI 0), .ref (o + 3), .int (nI 0), .ref (o + 4), .int (nI 0), .ref (o + 5), .int (nI 0), .ref (o + 6), .null]), iA G 40 (fun _ => 0), qA G 2 24 (fun _ => none), lA G 20 (fun _ => 0), qA G 3 6 (fun _ => none), iA G 3 (fun _ => 0)]) rfl hS (by first | exact ⟨by omega, by omega⟩ | omega) (fun H locs hX hS hz2 hk => ?_)
  replace hz := hz2.trans hz
  replace hF := hF.kept (fun q h1 h2 => hk q (by have h3 : q < (o + 6) + 4 := h2; omega))
  refine lv_aload_n hx hb dX6_init_56 rfl (lv_at hl 0 rfl) ?_
  refine lv_bipush (v := nI 7) hx hb dX6_init_57 (by decide) ?_
  have hRF : bk G (o + 10) [] H := fun k e hk => by simp at hk
  refine kna S hK q_122 dX6_init_59 7 rfl (by decide) (by decide) (by decide) hRF hz hS (fun H hRF hS hz hk => ?_)
  replace hRF : bk G (o + 10) ([iA G 7 (fun _ => 0)]) H := hRF
  replace hz : H.size = o + 10 + 1 := hz
  replace hX := hX.kept (fun q h1 h2 => hk q (by have h3 : q < o + 6 := h2; omega))
  replace hF := hF.kept (fun q h1 h2 => hk q (by have h3 : q < (o + 6) + 4 := h2; omega))
  refine kpF (C := RX6) (T := TX6) (N := 12) (ci := 4) (k := 11) (ty := .array .int) tyX6 tyX6_ok nmX6 S hK hin rfl inX6 (by decide) q_135 rfl rfl dX6_init_61 rfl rfl rfl hX rfl (Nat.le_of_ble_eq_true rfl) (L1 := [.inr (4, [.ref (o + 1), .int (nI 0), .ref (o + 2), .int (nI 0), .ref (o + 3), .int (nI 0), .ref (o + 4), .int (nI 0), .ref (o + 5), .int (nI 0), .ref (o + 6), .ref (o + 10 + 0)]), iA G 40 (fun _ => 0), qA G 2 24 (fun _ => none), lA G 20 (fun _ => 0), qA G 3 6 (fun _ => none), iA G 3 (fun _ => 0)]) rfl hS (by first | exact ⟨by omega, by omega⟩ | omega) (fun H locs hX hS hz2 hk => ?_)
  replace hz := hz2.trans hz
  replace hF := hF.kept (fun q h1 h2 => hk q (by have h3 : q < (o + 6) + 4 := h2; omega))
  replace hRF := hRF.kept (fun q h1 h2 => hk q (by have h3 : q < o + 10 + 1 := h2; omega))
  exact hE _ _ _ _ _ _ (kr_v dX6_init_64) hS (by decide) (by decide) ⟨hX, hF, hRF, hz⟩
