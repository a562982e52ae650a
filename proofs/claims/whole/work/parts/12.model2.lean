
/-! walks: the reference counts TILINGS, and what its parts let -/
theorem tl_z (n : Nat) : tl n 0 = 1 := by cases n <;> rfl
theorem tl_s {n s : Nat} (h : ¬ s = 0) : tl (n + 1) s = (if rgt s (ct s) then tl n (andn s (3 <<< ct s)) else 0) + (if dwn s (ct s) then tl n (andn s (33 <<< ct s)) else 0) := by
  conv => lhs; unfold tl
  rw [if_neg h]
theorem pc_andn {n s : Nat} (h0 : ¬ s = 0) (h : s < 2 ^ 20) (hp : pc20 s ≤ 2 * (n + 1)) (hr : rgt s (ct s) = true) : pc20 (andn s (3 <<< ct s)) ≤ 2 * n := by
  have hq := pc_rgt h0 h hr allP
  rw [if_pos (show allP _ = true from rfl), if_pos (show allP _ = true from rfl)] at hq
  have hp2 : pcn allP s 20 ≤ 2 * (n + 1) := hp
  show pcn allP _ 20 ≤ _
  omega
theorem pc_andn2 {n s : Nat} (h0 : ¬ s = 0) (h : s < 2 ^ 20) (hp : pc20 s ≤ 2 * (n + 1)) (hr : dwn s (ct s) = true) : pc20 (andn s (33 <<< ct s)) ≤ 2 * n := by
  have hq := pc_dwn h0 h hr allP
  rw [if_pos (show allP _ = true from rfl), if_pos (show allP _ = true from rfl)] at hq
  have hp2 : pcn allP s 20 ≤ 2 * (n + 1) := hp
  show pcn allP _ 20 ≤ _
  omega

set_option maxHeartbeats 1000000 in
set_option maxRecDepth 100000 in
theorem c_X7_tilings (l : Launch) (G : Gt) : ∀ (n : Nat) (om : Nat) (μ : Sx) (s0 : Nat), (s0 < 2 ^ 20) → (pc20 s0 ≤ 2 * n) → Cr l G yX7_tilings cX7_tilings 4 ((some .int)) (2 * n + 2) [.ref om, .int (nI s0)] (fun H => bk G om (mL G om μ) H) (some (.int (nI (tl n s0)))) := by
  intro n
  induction n with
  | zero =>
    intro om μ s0 hs hp
    refine cr_entry [(0, .ref om), (1, .int (nI s0))] (by decide) (Nat.le_of_ble_eq_true rfl) rfl ?_
    intro zp ze zs zm za zb zt zc Q S hK hPre hE ls hl
    have hx := S.1
    have hb := S.2.1
    have hM := hPre
    refine lv_iload_n hx hb dX7_tilings_0 rfl (lv_at hl 1 rfl) ?_
    refine n_if_ne (tgt := 6) hx hb dX7_tilings_1 (by decide) (by omega) (fun c_1 => ?_) (fun c_1 => ?_)
    ·
      exact absurd (pc_z hs (by omega)) c_1
    ·
      refine lv_iconst (v := nI 1) hx hb dX7_tilings_4 (by decide) ?_
      refine w_top (v' := .int (nI (tl 0 s0))) (congrArg (fun z => Value.int (nI z)) (show 1 = (tl 0 s0) from by rw [c_1, tl_z])) ?_
      exact hE _ _ (kr_i dX7_tilings_5)
  | succ n ih =>
    intro om μ s0 hs hp
    refine cr_entry [(0, .ref om), (1, .int (nI s0))] (by decide) (Nat.le_of_ble_eq_true rfl) rfl ?_
    intro zp ze zs zm za zb zt zc Q S hK hPre hE ls hl
    have hx := S.1
    have hb := S.2.1
    have hM := hPre
    refine lv_iload_n hx hb dX7_tilings_0 rfl (lv_at hl 1 rfl) ?_
    refine n_if_ne (tgt := 6) hx hb dX7_tilings_1 (by decide) (by omega) (fun c_1 => ?_) (fun c_1 => ?_)
    ·
      refine lv_iload_n hx hb dX7_tilings_6 rfl (lv_at hl 1 rfl) ?_
      refine crS (rest := []) S hK (c_X7_first l G s0 (by first | assumption | omega | decide) (by first | assumption | omega | decide)) cw_X7_116 rfl ⟨by simp only [rL]; omega, by simp only [rL]; omega⟩ ⟨Nat.le_of_ble_eq_true rfl, Nat.le_of_ble_eq_true rfl⟩ hl.1 rfl (Nat.le_of_ble_eq_true rfl) dX7_tilings_7 trivial ?_
      have hk20 := (ct_spec c_1 hs).1
      refine lv_istore_n (lv' := [(2, .int (nI (ct s0))), (0, .ref om), (1, .int (nI s0))]) hx hb dX7_tilings_10 rfl hl (by decide) rfl (fun ls hl => ?_)
      have L34 : ∀ (va : Nat), (va = if rgt s0 (ct s0) then tl n (andn s0 (3 <<< ct s0)) else 0) → ∀ ls : Array Slot, lv_has ls 4 [(0, .ref om), (1, .int (nI s0)), (2, .int (nI (ct s0)))] → W zp l ze (rL (2 * (n + 1) + 2) 0 0) zs zm za zb zt zc zs.heap [] 0 0 Q (F0 zm 34 ls [.int (nI va)]) := by
        intro va hva ls hl
        refine lv_istore_n (lv' := [(3, .int (nI va)), (0, .ref om), (1, .int (nI s0)), (2, .int (nI (ct s0)))]) hx hb dX7_tilings_34 rfl hl (by decide) rfl (fun ls hl => ?_)
        refine lv_iload_n hx hb dX7_tilings_35 rfl (lv_at hl 2 rfl) ?_
        refine lv_iload_n hx hb dX7_tilings_36 rfl (lv_at hl 3 rfl) ?_
        refine crS (rest := []) S hK (c_X7_isDown l G s0 (ct s0) (by first | assumption | omega | decide) (by first | assumption | omega | decide)) cw_X7_125 rfl ⟨by simp only [rL]; omega, by simp only [rL]; omega⟩ ⟨Nat.le_of_ble_eq_true rfl, Nat.le_of_ble_eq_true rfl⟩ hl.1 rfl (Nat.le_of_ble_eq_true rfl) dX7_tilings_37 trivial ?_
        refine z_if_eq (tgt := 60) hx hb dX7_tilings_40 (by decide) (fun c_40 => ?_) (fun c_40 => ?_)
        ·
          refine lv_iload_n hx hb dX7_tilings_60 rfl (lv_at hl 0 rfl) ?_
          refine w_top (v' := .int (nI (tl (n + 1) s0))) (congrArg (fun z => Value.int (nI z)) (show va = (tl (n + 1) s0) from by first | (rw [tl_s c_1, hva, if_pos c_40]; done) | (rw [tl_s c_1, hva, if_neg (c := dwn s0 (ct s0) = true) (by rw [c_40]; decide)]; rfl))) ?_
          exact hE _ _ (kr_i dX7_tilings_61)
        ·
          have hpd := pc_andn2 c_1 hs hp c_40
          refine lv_iload_n hx hb dX7_tilings_43 rfl (lv_at hl 0 rfl) ?_
          refine lv_aload_n hx hb dX7_tilings_44 rfl (lv_at hl 1 rfl) ?_
          refine lv_iload_n hx hb dX7_tilings_45 rfl (lv_at hl 2 rfl) ?_
          refine lv_bipush (v := nI 33) hx hb dX7_tilings_46 (by decide) ?_
          refine lv_iload_n hx hb dX7_tilings_48 rfl (lv_at hl 3 rfl) ?_
          refine n_ishl hx hb dX7_tilings_49 (by omega) ?_
          refine lv_iconst (v := (-1)) hx hb dX7_tilings_50 (by decide) ?_
          refine lv_ixor hx hb dX7_tilings_51 ?_
          refine n_iandn hx hb dX7_tilings_52 ?_
          refine crV (rest := [.int (nI va)]) S hK (ih om μ (andn s0 (33 <<< (ct s0))) (andn_lt hs) hpd) cw_X7_122 rfl ⟨by simp only [rL]; omega, by simp only [rL]; omega⟩ ⟨Nat.le_of_ble_eq_true rfl, Nat.le_of_ble_eq_true rfl⟩ (bk.recv hK hM rfl rfl) hl.1 rfl (Nat.le_of_ble_eq_true rfl) dX7_tilings_53 hM ?_
          refine n_iadd hx hb dX7_tilings_56 ?_
          refine lv_goto (tgt := 61) hx hb dX7_tilings_57 (by decide) ?_
          refine w_top (v' := .int (nI (tl (n + 1) s0))) (congrArg (fun z => Value.int (nI z)) (show (va + (tl n (andn s0 (33 <<< (ct s0))))) = (tl (n + 1) s0) from by first | (rw [tl_s c_1, hva, if_pos c_40]; done) | (rw [tl_s c_1, hva, if_neg (c := dwn s0 (ct s0) = true) (by rw [c_40]; decide)]; rfl))) ?_
          exact hE _ _ (kr_i dX7_tilings_61)
      refine lv_iload_n hx hb dX7_tilings_11 rfl (lv_at hl 2 rfl) ?_
      refine lv_iload_n hx hb dX7_tilings_12 rfl (lv_at hl 0 rfl) ?_
      refine crS (rest := []) S hK (c_X7_isRight l G s0 (ct s0) (by first | assumption | omega | decide) (by first | assumption | omega | decide)) cw_X7_119 rfl ⟨by simp only [rL]; omega, by simp only [rL]; omega⟩ ⟨Nat.le_of_ble_eq_true rfl, Nat.le_of_ble_eq_true rfl⟩ hl.1 rfl (Nat.le_of_ble_eq_true rfl) dX7_tilings_13 trivial ?_
      refine z_if_eq (tgt := 33) hx hb dX7_tilings_16 (by decide) (fun c_16 => ?_) (fun c_16 => ?_)
      ·
        refine lv_iconst (v := nI 0) hx hb dX7_tilings_33 (by decide) ?_
        exact L34 0 (by rw [if_neg (by rw [c_16]; decide)]) ls (lv_sub hl [1, 2, 0] rfl)
      ·
        have hpr := pc_andn c_1 hs hp c_16
        refine lv_aload_n hx hb dX7_tilings_19 rfl (lv_at hl 1 rfl) ?_
        refine lv_iload_n hx hb dX7_tilings_20 rfl (lv_at hl 2 rfl) ?_
        refine lv_iconst (v := nI 3) hx hb dX7_tilings_21 (by decide) ?_
        refine lv_iload_n hx hb dX7_tilings_22 rfl (lv_at hl 0 rfl) ?_
        refine n_ishl hx hb dX7_tilings_23 (by omega) ?_
        refine lv_iconst (v := (-1)) hx hb dX7_tilings_24 (by decide) ?_
        refine lv_ixor hx hb dX7_tilings_25 ?_
        refine n_iandn hx hb dX7_tilings_26 ?_
        refine crV (rest := []) S hK (ih om μ (andn s0 (3 <<< (ct s0))) (andn_lt hs) hpr) cw_X7_122 rfl ⟨by simp only [rL]; omega, by simp only [rL]; omega⟩ ⟨Nat.le_of_ble_eq_true rfl, Nat.le_of_ble_eq_true rfl⟩ (bk.recv hK hM rfl rfl) hl.1 rfl (Nat.le_of_ble_eq_true rfl) dX7_tilings_27 hM ?_
        refine lv_goto (tgt := 34) hx hb dX7_tilings_30 (by decide) ?_
        exact L34 (tl n (andn s0 (3 <<< (ct s0)))) (by rw [if_pos c_16]) ls (lv_sub hl [1, 2, 0] rfl)
    ·
      refine lv_iconst (v := nI 1) hx hb dX7_tilings_4 (by decide) ?_
      refine w_top (v' := .int (nI (tl (n + 1) s0))) (congrArg (fun z => Value.int (nI z)) (show 1 = (tl (n + 1) s0) from by rw [c_1, tl_z])) ?_
      exact hE _ _ (kr_i dX7_tilings_5)

set_option maxHeartbeats 1000000 in
set_option maxRecDepth 100000 in
theorem c_X7_isTiled (l : Launch) (G : Gt) : ∀ (n : Nat) (om : Nat) (μ : Sx) (s0 : Nat), (s0 < 2 ^ 20) → (pc20 s0 ≤ 2 * n) → Cr l G yX7_isTiled cX7_isTiled 3 ((some .boolean)) (2 * n + 2) [.ref om, .int (nI s0)] (fun H => bk G om (mL G om μ) H) (some (.int (b2i (tlb n s0)))) := by
  intro n
  induction n with
  | zero =>
    intro om μ s0 hs hp
    refine cr_entry [(0, .ref om), (1, .int (nI s0))] (by decide) (Nat.le_of_ble_eq_true rfl) rfl ?_
    intro zp ze zs zm za zb zt zc Q S hK hPre hE ls hl
    have hx := S.1
    have hb := S.2.1
    have hM := hPre
    refine lv_iload_n hx hb dX7_isTiled_0 rfl (lv_at hl 1 rfl) ?_
    refine n_if_ne (tgt := 6) hx hb dX7_isTiled_1 (by decide) (by omega) (fun c_1 => ?_) (fun c_1 => ?_)
    ·
      exact absurd (pc_z hs (by omega)) c_1
    ·
      refine lv_iconst (v := nI 1) hx hb dX7_isTiled_4 (by decide) ?_
      refine w_top (v' := .int (b2i (tlb 0 s0))) (bz_t (show (tlb 0 s0) = true from by rw [c_1, tlb_0])) ?_
      exact hE _ _ (kr_z dX7_isTiled_5)
  | succ n ih =>
    intro om μ s0 hs hp
    refine cr_entry [(0, .ref om), (1, .int (nI s0))] (by decide) (Nat.le_of_ble_eq_true rfl) rfl ?_
    intro zp ze zs zm za zb zt zc Q S hK hPre hE ls hl
    have hx := S.1
    have hb := S.2.1
    have hM := hPre
    refine lv_iload_n hx hb dX7_isTiled_0 rfl (lv_at hl 1 rfl) ?_
    refine n_if_ne (tgt := 6) hx hb dX7_isTiled_1 (by decide) (by omega) (fun c_1 => ?_) (fun c_1 => ?_)
    ·
      refine lv_iload_n hx hb dX7_isTiled_6 rfl (lv_at hl 1 rfl) ?_
      refine crS (rest := []) S hK (c_X7_first l G s0 (by first | assumption | omega | decide) (by first | assumption | omega | decide)) cw_X7_116 rfl ⟨by simp only [rL]; omega, by simp only [rL]; omega⟩ ⟨Nat.le_of_ble_eq_true rfl, Nat.le_of_ble_eq_true rfl⟩ hl.1 rfl (Nat.le_of_ble_eq_true rfl) dX7_isTiled_7 trivial ?_
      have hk20 := (ct_spec c_1 hs).1
      refine lv_istore_n (lv' := [(2, .int (nI (ct s0))), (0, .ref om), (1, .int (nI s0))]) hx hb dX7_isTiled_10 rfl hl (by decide) rfl (fun ls hl => ?_)
      refine lv_iload_n hx hb dX7_isTiled_11 rfl (lv_at hl 2 rfl) ?_
      refine lv_iload_n hx hb dX7_isTiled_12 rfl (lv_at hl 0 rfl) ?_
      refine crS (rest := []) S hK (c_X7_isRight l G s0 (ct s0) (by first | assumption | omega | decide) (by first | assumption | omega | decide)) cw_X7_119 rfl ⟨by simp only [rL]; omega, by simp only [rL]; omega⟩ ⟨Nat.le_of_ble_eq_true rfl, Nat.le_of_ble_eq_true rfl⟩ hl.1 rfl (Nat.le_of_ble_eq_true rfl) dX7_isTiled_13 trivial ?_
      refine z_if_eq (tgt := 33) hx hb dX7_isTiled_16 (by decide) (fun c_16 => ?_) (fun c_16 => ?_)
      ·
        refine lv_iload_n hx hb dX7_isTiled_33 rfl (lv_at hl 2 rfl) ?_
        refine lv_iload_n hx hb dX7_isTiled_34 rfl (lv_at hl 0 rfl) ?_
        refine crS (rest := []) S hK (c_X7_isDown l G s0 (ct s0) (by first | assumption | omega | decide) (by first | assumption | omega | decide)) cw_X7_125 rfl ⟨by simp only [rL]; omega, by simp only [rL]; omega⟩ ⟨Nat.le_of_ble_eq_true rfl, Nat.le_of_ble_eq_true rfl⟩ hl.1 rfl (Nat.le_of_ble_eq_true rfl) dX7_isTiled_35 trivial ?_
        refine z_if_eq (tgt := 60) hx hb dX7_isTiled_38 (by decide) (fun c_38 => ?_) (fun c_38 => ?_)
        ·
          refine lv_iconst (v := nI 0) hx hb dX7_isTiled_60 (by decide) ?_
          refine w_top (v' := .int (b2i (tlb (n + 1) s0))) (bz_f (show (tlb (n + 1) s0) = false from by first | (rw [tlb_s c_1, c_16, c_30]; rfl) | (rw [tlb_s c_1, c_16, c_30, c_38, c_53]; rfl) | (rw [tlb_s c_1, c_16, c_38, c_53]; rfl) | (rw [tlb_s c_1, c_16, c_30, c_38]; rfl) | (rw [tlb_s c_1, c_16, c_38]; rfl))) ?_
          exact hE _ _ (kr_z dX7_isTiled_61)
        ·
          have hpd := pc_andn2 c_1 hs hp c_38
          refine lv_aload_n hx hb dX7_isTiled_41 rfl (lv_at hl 1 rfl) ?_
          refine lv_iload_n hx hb dX7_isTiled_42 rfl (lv_at hl 2 rfl) ?_
          refine lv_bipush (v := nI 33) hx hb dX7_isTiled_43 (by decide) ?_
          refine lv_iload_n hx hb dX7_isTiled_45 rfl (lv_at hl 0 rfl) ?_
          refine n_ishl hx hb dX7_isTiled_46 (by omega) ?_
          refine lv_iconst (v := (-1)) hx hb dX7_isTiled_47 (by decide) ?_
          refine lv_ixor hx hb dX7_isTiled_48 ?_
          refine n_iandn hx hb dX7_isTiled_49 ?_
          refine crV (rest := []) S hK (ih om μ (andn s0 (33 <<< (ct s0))) (andn_lt hs) hpd) cw_X7_128 rfl ⟨by simp only [rL]; omega, by simp only [rL]; omega⟩ ⟨Nat.le_of_ble_eq_true rfl, Nat.le_of_ble_eq_true rfl⟩ (bk.recv hK hM rfl rfl) hl.1 rfl (Nat.le_of_ble_eq_true rfl) dX7_isTiled_50 hM ?_
          refine z_if_eq (tgt := 60) hx hb dX7_isTiled_53 (by decide) (fun c_53 => ?_) (fun c_53 => ?_)
          ·
            refine lv_iconst (v := nI 0) hx hb dX7_isTiled_60 (by decide) ?_
            refine w_top (v' := .int (b2i (tlb (n + 1) s0))) (bz_f (show (tlb (n + 1) s0) = false from by first | (rw [tlb_s c_1, c_16, c_30]; rfl) | (rw [tlb_s c_1, c_16, c_30, c_38, c_53]; rfl) | (rw [tlb_s c_1, c_16, c_38, c_53]; rfl) | (rw [tlb_s c_1, c_16, c_30, c_38]; rfl) | (rw [tlb_s c_1, c_16, c_38]; rfl))) ?_
            exact hE _ _ (kr_z dX7_isTiled_61)
          ·
            refine lv_iconst (v := nI 1) hx hb dX7_isTiled_56 (by decide) ?_
            refine lv_goto (tgt := 61) hx hb dX7_isTiled_57 (by decide) ?_
            refine w_top (v' := .int (b2i (tlb (n + 1) s0))) (bz_t (show (tlb (n + 1) s0) = true from by first | (rw [tlb_s c_1, c_16, c_30]; rfl) | (rw [tlb_s c_1, c_16, c_30, c_38, c_53]; rfl) | (rw [tlb_s c_1, c_16, c_38, c_53]; rfl) | (rw [tlb_s c_1, c_16, c_30, c_38]; rfl) | (rw [tlb_s c_1, c_16, c_38]; rfl))) ?_
            exact hE _ _ (kr_z dX7_isTiled_61)
      ·
        have hpr := pc_andn c_1 hs hp c_16
        refine lv_aload_n hx hb dX7_isTiled_19 rfl (lv_at hl 1 rfl) ?_
        refine lv_iload_n hx hb dX7_isTiled_20 rfl (lv_at hl 2 rfl) ?_
        refine lv_iconst (v := nI 3) hx hb dX7_isTiled_21 (by decide) ?_
        refine lv_iload_n hx hb dX7_isTiled_22 rfl (lv_at hl 0 rfl) ?_
        refine n_ishl hx hb dX7_isTiled_23 (by omega) ?_
        refine lv_iconst (v := (-1)) hx hb dX7_isTiled_24 (by decide) ?_
        refine lv_ixor hx hb dX7_isTiled_25 ?_
        refine n_iandn hx hb dX7_isTiled_26 ?_
        refine crV (rest := []) S hK (ih om μ (andn s0 (3 <<< (ct s0))) (andn_lt hs) hpr) cw_X7_128 rfl ⟨by simp only [rL]; omega, by simp only [rL]; omega⟩ ⟨Nat.le_of_ble_eq_true rfl, Nat.le_of_ble_eq_true rfl⟩ (bk.recv hK hM rfl rfl) hl.1 rfl (Nat.le_of_ble_eq_true rfl) dX7_isTiled_27 hM ?_
        refine z_if_ne (tgt := 56) hx hb dX7_isTiled_30 (by decide) (fun c_30 => ?_) (fun c_30 => ?_)
        ·
          refine lv_iconst (v := nI 1) hx hb dX7_isTiled_56 (by decide) ?_
          refine lv_goto (tgt := 61) hx hb dX7_isTiled_57 (by decide) ?_
          refine w_top (v' := .int (b2i (tlb (n + 1) s0))) (bz_t (show (tlb (n + 1) s0) = true from by first | (rw [tlb_s c_1, c_16, c_30]; rfl) | (rw [tlb_s c_1, c_16, c_30, c_38, c_53]; rfl) | (rw [tlb_s c_1, c_16, c_38, c_53]; rfl) | (rw [tlb_s c_1, c_16, c_30, c_38]; rfl) | (rw [tlb_s c_1, c_16, c_38]; rfl))) ?_
          exact hE _ _ (kr_z dX7_isTiled_61)
        ·
          refine lv_iload_n hx hb dX7_isTiled_33 rfl (lv_at hl 2 rfl) ?_
          refine lv_iload_n hx hb dX7_isTiled_34 rfl (lv_at hl 0 rfl) ?_
          refine crS (rest := []) S hK (c_X7_isDown l G s0 (ct s0) (by first | assumption | omega | decide) (by first | assumption | omega | decide)) cw_X7_125 rfl ⟨by simp only [rL]; omega, by simp only [rL]; omega⟩ ⟨Nat.le_of_ble_eq_true rfl, Nat.le_of_ble_eq_true rfl⟩ hl.1 rfl (Nat.le_of_ble_eq_true rfl) dX7_isTiled_35 trivial ?_
          refine z_if_eq (tgt := 60) hx hb dX7_isTiled_38 (by decide) (fun c_38 => ?_) (fun c_38 => ?_)
          ·
            refine lv_iconst (v := nI 0) hx hb dX7_isTiled_60 (by decide) ?_
            refine w_top (v' := .int (b2i (tlb (n + 1) s0))) (bz_f (show (tlb (n + 1) s0) = false from by first | (rw [tlb_s c_1, c_16, c_30]; rfl) | (rw [tlb_s c_1, c_16, c_30, c_38, c_53]; rfl) | (rw [tlb_s c_1, c_16, c_38, c_53]; rfl) | (rw [tlb_s c_1, c_16, c_30, c_38]; rfl) | (rw [tlb_s c_1, c_16, c_38]; rfl))) ?_
            exact hE _ _ (kr_z dX7_isTiled_61)
          ·
            have hpd := pc_andn2 c_1 hs hp c_38
            refine lv_aload_n hx hb dX7_isTiled_41 rfl (lv_at hl 1 rfl) ?_
            refine lv_iload_n hx hb dX7_isTiled_42 rfl (lv_at hl 2 rfl) ?_
            refine lv_bipush (v := nI 33) hx hb dX7_isTiled_43 (by decide) ?_
            refine lv_iload_n hx hb dX7_isTiled_45 rfl (lv_at hl 0 rfl) ?_
            refine n_ishl hx hb dX7_isTiled_46 (by omega) ?_
            refine lv_iconst (v := (-1)) hx hb dX7_isTiled_47 (by decide) ?_
            refine lv_ixor hx hb dX7_isTiled_48 ?_
            refine n_iandn hx hb dX7_isTiled_49 ?_
            refine crV (rest := []) S hK (ih om μ (andn s0 (33 <<< (ct s0))) (andn_lt hs) hpd) cw_X7_128 rfl ⟨by simp only [rL]; omega, by simp only [rL]; omega⟩ ⟨Nat.le_of_ble_eq_true rfl, Nat.le_of_ble_eq_true rfl⟩ (bk.recv hK hM rfl rfl) hl.1 rfl (Nat.le_of_ble_eq_true rfl) dX7_isTiled_50 hM ?_
            refine z_if_eq (tgt := 60) hx hb dX7_isTiled_53 (by decide) (fun c_53 => ?_) (fun c_53 => ?_)
            ·
              refine lv_iconst (v := nI 0) hx hb dX7_isTiled_60 (by decide) ?_
              refine w_top (v' := .int (b2i (tlb (n + 1) s0))) (bz_f (show (tlb (n + 1) s0) = false from by first | (rw [tlb_s c_1, c_16, c_30]; rfl) | (rw [tlb_s c_1, c_16, c_30, c_38, c_53]; rfl) | (rw [tlb_s c_1, c_16, c_38, c_53]; rfl) | (rw [tlb_s c_1, c_16, c_30, c_38]; rfl) | (rw [tlb_s c_1, c_16, c_38]; rfl))) ?_
              exact hE _ _ (kr_z dX7_isTiled_61)
            ·
              refine lv_iconst (v := nI 1) hx hb dX7_isTiled_56 (by decide) ?_
              refine lv_goto (tgt := 61) hx hb dX7_isTiled_57 (by decide) ?_
              refine w_top (v' := .int (b2i (tlb (n + 1) s0))) (bz_t (show (tlb (n + 1) s0) = true from by first | (rw [tlb_s c_1, c_16, c_30]; rfl) | (rw [tlb_s c_1, c_16, c_30, c_38, c_53]; rfl) | (rw [tlb_s c_1, c_16, c_38, c_53]; rfl) | (rw [tlb_s c_1, c_16, c_30, c_38]; rfl) | (rw [tlb_s c_1, c_16, c_38]; rfl))) ?_
              exact hE _ _ (kr_z dX7_isTiled_61)
    ·
      refine lv_iconst (v := nI 1) hx hb dX7_isTiled_4 (by decide) ?_
      refine w_top (v' := .int (b2i (tlb (n + 1) s0))) (bz_t (show (tlb (n + 1) s0) = true from by rw [c_1, tlb_0])) ?_
      exact hE _ _ (kr_z dX7_isTiled_5)

theorem tcM_lt (cl : Nat → Nat) (st : Nat) : tcM cl st < 2 ^ 20 := bo_lt _ _
theorem pc_20 (s : Nat) : pc20 s ≤ 2 * 10 := pcn_le _ _ _

set_option maxHeartbeats 1000000 in
set_option maxRecDepth 100000 in
theorem c_X7_letsOf (l : Launch) (G : Gt) (om : Nat) (μ : Sx) (p : Nat) (hp : p < 25) (hf : μ.2.1 3 p ≤ 5) (hcl : ∀ k, k < 20 → clM μ p k < 16) : Cr l G yX7_letsOf cX7_letsOf 5 ((some .long)) 23 [.ref om, .int (nI p)] (fun H => bk G om (mL G om μ) H) (some (.long (lN (ltM (clM μ p) (μ.2.1 3 p))))) := by
  refine cr_entry [(0, .ref om), (1, .int (nI p))] (by decide) (Nat.le_of_ble_eq_true rfl) rfl ?_
  intro zp ze zs zm za zb zt zc Q S hK hPre hE ls hl
  have hx := S.1
  have hb := S.2.1
  have hM := hPre
  have hsh := shl_le hf
  refine lv_lconst (v := lN 0) hx hb dX7_letsOf_0 (by decide) ?_
  refine lv_lstore_n (lv' := [(2, .long (lN 0)), (0, .ref om), (1, .int (nI p))]) hx hb dX7_letsOf_1 rfl hl (by decide) rfl (fun ls hl => ?_)
  refine lv_iconst (v := nI 0) hx hb dX7_letsOf_2 (by decide) ?_
  refine lv_istore (lv' := [(4, .int (nI 0)), (2, .long (lN 0)), (0, .ref om), (1, .int (nI p))]) hx hb dX7_letsOf_3 hl (by decide) rfl (fun ls hl => ?_)
  have L5 : ∀ (fu : Nat), ∀ (vs : Nat), (vs ≤ 1 <<< μ.2.1 3 p) → 1 <<< μ.2.1 3 p - vs < fu → ∀ ls : Array Slot, lv_has ls 5 [(0, .ref om), (1, .int (nI p)), (2, .long (lN (bo (fun s => tlb 10 (tcM (clM μ p) s)) vs))), (4, .int (nI vs))] → W zp l ze (rL 23 0 0) zs zm za zb zt zc zs.heap [] 0 0 Q (F0 zm 5 ls []) := by
    intro fu
    induction fu with
    | zero =>
      intro vs hvs hmu ls hl
      exact absurd hmu (Nat.not_lt_zero _)
    | succ fu ih5 =>
      intro vs hvs hmu ls hl
      refine lv_iload hx hb dX7_letsOf_5 (lv_at hl 3 rfl) ?_
      refine lv_aload_n hx hb dX7_letsOf_7 rfl (lv_at hl 0 rfl) ?_
      refine lv_iload_n hx hb dX7_letsOf_8 rfl (lv_at hl 1 rfl) ?_
      refine crV (rest := [.int (nI vs)]) S hK (c_X7_states l G om μ p (by first | assumption | omega | decide) (by first | assumption | omega | decide)) cw_X7_131 rfl ⟨Nat.le_of_ble_eq_true rfl, Nat.le_of_ble_eq_true rfl⟩ ⟨Nat.le_of_ble_eq_true rfl, Nat.le_of_ble_eq_true rfl⟩ (bk.recv hK hM rfl rfl) hl.1 rfl (Nat.le_of_ble_eq_true rfl) dX7_letsOf_9 hM ?_
      refine n_icmp_ge (tgt := 46) hx hb dX7_letsOf_12 (by decide) (by omega) (by omega) (fun c_12 => ?_) (fun c_12 => ?_)
      ·
        have hr : bo (fun s => tlb 10 (tcM (clM μ p) s)) vs = ltM (clM μ p) (μ.2.1 3 p) := by rw [show vs = 1 <<< μ.2.1 3 p from by omega]
        refine lv_lload_n hx hb dX7_letsOf_46 rfl (lv_at hl 2 rfl) ?_
        refine w_top (v' := .long (lN (ltM (clM μ p) (μ.2.1 3 p)))) (congrArg (fun z => Value.long (lN z)) (show (bo (fun s => tlb 10 (tcM (clM μ p) s)) vs) = (ltM (clM μ p) (μ.2.1 3 p)) from hr)) ?_
        exact hE _ _ (kr_l dX7_letsOf_47)
      ·
        refine lv_lload_n hx hb dX7_letsOf_15 rfl (lv_at hl 2 rfl) ?_
        refine lv_aload_n hx hb dX7_letsOf_16 rfl (lv_at hl 0 rfl) ?_
        refine lv_aload_n hx hb dX7_letsOf_17 rfl (lv_at hl 0 rfl) ?_
        refine lv_iload_n hx hb dX7_letsOf_18 rfl (lv_at hl 1 rfl) ?_
        refine lv_iload hx hb dX7_letsOf_19 (lv_at hl 3 rfl) ?_
        refine crV (rest := [.ref om, .long (lN (bo (fun s => tlb 10 (tcM (clM μ p) s)) vs))]) S hK (c_X7_toCover l G om μ p vs (by first | assumption | omega | decide) (by first | assumption | omega | decide) (by first | assumption | omega | decide)) cw_X7_134 rfl ⟨Nat.le_of_ble_eq_true rfl, Nat.le_of_ble_eq_true rfl⟩ ⟨Nat.le_of_ble_eq_true rfl, Nat.le_of_ble_eq_true rfl⟩ (bk.recv hK hM rfl rfl) hl.1 rfl (Nat.le_of_ble_eq_true rfl) dX7_letsOf_21 hM ?_
        refine crV (rest := [.long (lN (bo (fun s => tlb 10 (tcM (clM μ p) s)) vs))]) S hK (c_X7_isTiled l G 10 om μ (tcM (clM μ p) vs) (tcM_lt _ _) (pc_20 _)) cw_X7_128 rfl ⟨Nat.le_of_ble_eq_true rfl, Nat.le_of_ble_eq_true rfl⟩ ⟨Nat.le_of_ble_eq_true rfl, Nat.le_of_ble_eq_true rfl⟩ (bk.recv hK hM rfl rfl) hl.1 rfl (Nat.le_of_ble_eq_true rfl) dX7_letsOf_24 hM ?_
        refine z_if_eq (tgt := 37) hx hb dX7_letsOf_27 (by decide) (fun c_27 => ?_) (fun c_27 => ?_)
        ·
          have e2 := bo_or0 (P := fun s => tlb 10 (tcM (clM μ p) s)) (n := vs) c_27
          refine lv_lconst (v := lN 0) hx hb dX7_letsOf_37 (by decide) ?_
          refine n_lor hx hb dX7_letsOf_38 ?_
          refine lv_lstore_n (lv' := [(2, .long (lN ((bo (fun s => tlb 10 (tcM (clM μ p) s)) vs) ||| 0))), (0, .ref om), (1, .int (nI p)), (4, .int (nI vs))]) hx hb dX7_letsOf_39 rfl hl (by decide) rfl (fun ls hl => ?_)
          refine lv_iinc (v := nI (vs + 1)) (lv' := [(4, .int (nI (vs + 1))), (2, .long (lN ((bo (fun s => tlb 10 (tcM (clM μ p) s)) vs) ||| 0))), (0, .ref om), (1, .int (nI p))]) hx hb dX7_letsOf_40 hl (k := 3) rfl (inc1 _) (by decide) rfl (fun ls hl => ?_)
          refine lv_goto (tgt := 5) hx hb dX7_letsOf_43 (by decide) ?_
          replace hl := lv_eq 1 hl rfl (v2 := .long (lN (bo (fun s => tlb 10 (tcM (clM μ p) s)) (vs + 1)))) (congrArg (fun z => Value.long (lN z)) (show ((bo (fun s => tlb 10 (tcM (clM μ p) s)) vs) ||| 0) = (bo (fun s => tlb 10 (tcM (clM μ p) s)) (vs + 1)) from e2))
          exact ih5 (vs + 1) (by first | assumption | omega) (by omega) ls (lv_sub hl [2, 3, 1, 0] rfl)
        ·
          have e2 := bo_or1 (P := fun s => tlb 10 (tcM (clM μ p) s)) (n := vs) c_27
          refine lv_lconst (v := lN 1) hx hb dX7_letsOf_30 (by decide) ?_
          refine lv_iload hx hb dX7_letsOf_31 (lv_at hl 3 rfl) ?_
          refine n_lshl hx hb dX7_letsOf_33 (by omega) ?_
          refine lv_goto (tgt := 38) hx hb dX7_letsOf_34 (by decide) ?_
          refine n_lor hx hb dX7_letsOf_38 ?_
          refine lv_lstore_n (lv' := [(2, .long (lN ((bo (fun s => tlb 10 (tcM (clM μ p) s)) vs) ||| (1 <<< vs)))), (0, .ref om), (1, .int (nI p)), (4, .int (nI vs))]) hx hb dX7_letsOf_39 rfl hl (by decide) rfl (fun ls hl => ?_)
          refine lv_iinc (v := nI (vs + 1)) (lv' := [(4, .int (nI (vs + 1))), (2, .long (lN ((bo (fun s => tlb 10 (tcM (clM μ p) s)) vs) ||| (1 <<< vs)))), (0, .ref om), (1, .int (nI p))]) hx hb dX7_letsOf_40 hl (k := 3) rfl (inc1 _) (by decide) rfl (fun ls hl => ?_)
          refine lv_goto (tgt := 5) hx hb dX7_letsOf_43 (by decide) ?_
          replace hl := lv_eq 1 hl rfl (v2 := .long (lN (bo (fun s => tlb 10 (tcM (clM μ p) s)) (vs + 1)))) (congrArg (fun z => Value.long (lN z)) (show ((bo (fun s => tlb 10 (tcM (clM μ p) s)) vs) ||| (1 <<< vs)) = (bo (fun s => tlb 10 (tcM (clM μ p) s)) (vs + 1)) from e2))
          exact ih5 (vs + 1) (by first | assumption | omega) (by omega) ls (lv_sub hl [2, 3, 1, 0] rfl)
  replace hl := lv_eq 1 hl rfl (v2 := .long (lN (bo (fun s => tlb 10 (tcM (clM μ p) s)) 0))) (congrArg (fun z => Value.long (lN z)) (show 0 = (bo (fun s => tlb 10 (tcM (clM μ p) s)) 0) from by first | rfl | omega))
  exact L5 ((1 <<< μ.2.1 3 p - 0) + 1) 0 (Nat.zero_le _) (Nat.lt_succ_self _) ls (lv_sub hl [2, 3, 1, 0] rfl)

/-- a refusal: how many there were of its kind -/
abbrev rfM (μ : Sx) (k : Nat) : Sx := uA μ 0 k (μ.2.1 0 k + 1)
def lets_M (μ : Sx) (p : Int32) : Int64 × Sx := if inI p (μ.1 16) then (lN (ltM (clM μ (cx p)) (μ.2.1 3 (cx p))), μ) else (lN 4000000000000000000 - (-1 : Int32).toInt64, rfM μ 1)
def MI0 (μ : Sx) : Prop := μ.1 16 ≤ 24 ∧ ∀ p, p < μ.1 16 → 1 ≤ μ.2.1 1 p ∧ μ.2.1 1 p ≤ 5 ∧ 1 ≤ μ.2.1 2 p ∧ μ.2.1 2 p ≤ 4 ∧ μ.2.1 3 p ≤ 5 ∧ ∀ k, k < 20 → clM μ p k < 16

set_option maxHeartbeats 1000000 in
set_option maxRecDepth 100000 in
theorem c_X7_lets (l : Launch) (G : Gt) (om : Nat) (μ : Sx) (p : Int32) (hI : MI0 μ) : Ct l G yX7_lets cX7_lets 2 ((some .long)) 25 0 0 [.ref om, .int p] (fun H => bk G om (mL G om μ) H) (some (.long ((lets_M μ p).1))) (fun H => bk G om (mL G om ((lets_M μ p).2)) H) (fun q => om ≤ q ∧ q < om + 20) := by
  refine ct_entry [(0, .ref om), (1, .int p)] (by decide) (Nat.le_of_ble_eq_true rfl) rfl ?_
  intro zp ze zs zm za zb zt zc Q S hK hPre hin hE ls hl
  have hx := S.1
  have hb := S.2.1
  have hM := hPre
  have hS : va_S (fun q => om ≤ q ∧ q < om + 20) zs.heap zs.heap [] := va_S.rf
  have hn16 := hI.1
  refine lv_aload_n hx hb dX7_lets_0 rfl (lv_at hl 0 rfl) ?_
  refine lv_iload_n hx hb dX7_lets_1 rfl (lv_at hl 1 rfl) ?_
  refine crV (rest := []) S hK (c_X7_isPart l G om μ p (by first | assumption | omega | decide)) cw_X7_103 rfl ⟨Nat.le_of_ble_eq_true rfl, Nat.le_of_ble_eq_true rfl⟩ ⟨Nat.le_of_ble_eq_true rfl, Nat.le_of_ble_eq_true rfl⟩ (bk.recv hK hM rfl rfl) hl.1 rfl (Nat.le_of_ble_eq_true rfl) dX7_lets_2 hM ?_
  refine z_if_eq (tgt := 16) hx hb dX7_lets_5 (by decide) (fun c_5 => ?_) (fun c_5 => ?_)
  ·
    refine lv_aload_n hx hb dX7_lets_16 rfl (lv_at hl 0 rfl) ?_
    refine lv_iconst (v := (-1)) hx hb dX7_lets_17 (by decide) ?_
    refine ctV (rest := []) S hK (c_X7_refuseFar l G om μ (-1) 1 (by first | assumption | omega | decide) (by first | assumption | omega | decide)) cw_X7_142 rfl ⟨Nat.le_of_ble_eq_true rfl, Nat.le_of_ble_eq_true rfl⟩ ⟨Nat.le_of_ble_eq_true rfl, Nat.le_of_ble_eq_true rfl⟩ (bk.recv hK hM rfl rfl) hl.1 rfl (Nat.le_of_ble_eq_true rfl) dX7_lets_18 hM hS (fun _ h => h) (fun H locs hPost hz hk hS => ?_)
    have hM := hPost
    have hr : lets_M μ p = ((lN 4000000000000000000 - (-1).toInt64), uA μ 0 1 (μ.2.1 0 1 + 1)) := by unfold lets_M; simp [c_5]
    refine w_top (v' := .long ((lets_M μ p).1)) (congrArg (fun z => Value.long z) (congrArg Prod.fst hr).symm) ?_
    replace hM := bk_eq hM (show mL G om (uA μ 0 1 (μ.2.1 0 1 + 1)) = mL G om ((lets_M μ p).2) from by rw [hr])
    exact hE _ _ _ _ _ _ (kr_l dX7_lets_21) hS (by decide) (by decide) hM
  ·
    obtain ⟨vp, hvp, rfl⟩ := inI_x c_5
    obtain ⟨-, -, -, -, hvf, hvc⟩ := hI.2 vp hvp
    have hcx := cx_n (j := vp) (by omega)
    refine lv_aload_n hx hb dX7_lets_8 rfl (lv_at hl 0 rfl) ?_
    refine lv_iload_n hx hb dX7_lets_9 rfl (lv_at hl 1 rfl) ?_
    refine crV (rest := []) S hK (c_X7_letsOf l G om μ vp (by first | assumption | omega | decide) (by first | assumption | omega | decide) (by first | assumption | omega | decide)) cw_X7_138 rfl ⟨Nat.le_of_ble_eq_true rfl, Nat.le_of_ble_eq_true rfl⟩ ⟨Nat.le_of_ble_eq_true rfl, Nat.le_of_ble_eq_true rfl⟩ (bk.recv hK hM rfl rfl) hl.1 rfl (Nat.le_of_ble_eq_true rfl) dX7_lets_10 hM ?_
    refine lv_goto (tgt := 21) hx hb dX7_lets_13 (by decide) ?_
    have hr : lets_M μ (nI vp) = (lN (ltM (clM μ vp) (μ.2.1 3 vp)), μ) := by unfold lets_M; simp [c_5, hcx]
    refine w_top (v' := .long ((lets_M μ (nI vp)).1)) (congrArg (fun z => Value.long z) (congrArg Prod.fst hr).symm) ?_
    replace hM := bk_eq hM (show mL G om μ = mL G om ((lets_M μ (nI vp)).2) from by rw [hr])
    exact hE _ _ _ _ _ _ (kr_l dX7_lets_21) hS (by decide) (by decide) hM
