
/-! walks: the reference's row, and what it lays to find -/
def MIr (μ : Sx) : Prop := μ.1 20 ≤ 3 ∧ ∀ k, k < μ.1 20 → μ.2.1 15 k ≤ 99
abbrev rowP (μ : Sx) (w h : Nat) : Prop := 0 < μ.1 20 ∧ ∀ k, k < μ.1 20 → (μ.2.1 15 k / 10 < w ∧ μ.2.1 15 k % 10 < h) ∧ ∀ i, i < k → ¬ μ.2.1 15 i = μ.2.1 15 k
abbrev fcA (μ : Sx) (xy : Nat) : Option Nat := fnd (fun k => decide (μ.2.1 15 k = xy)) (μ.1 20) 0
theorem fcA_p {p : Nat} {σ μ : Sx} (h : pth p σ μ) (xy : Nat) : fcA σ xy = fcA μ xy := by
  show fnd (fun k => decide (σ.2.1 15 k = xy)) (σ.1 20) 0 = _
  rw [h.2.1 15 (by decide) (by decide), h.1 20 (by decide)]
abbrev lyZ (μ : Sx) : Nat → Nat → Bool := fun y x => (fcA μ (10 * x + y)).isNone
def lyV (μ : Sx) (w bl y x : Nat) : Nat := match fcA μ (10 * x + y) with
  | some g => 10 + g
  | none => if bl >>> (fcN (fun _ => w) (lyZ μ) y + fc1 (lyZ μ) y x) &&& 1 = 1 then 0 else 1
theorem lyV_s {μ : Sx} {w bl y x g : Nat} (h : fcA μ (10 * x + y) = some g) : lyV μ w bl y x = 10 + g := by unfold lyV; rw [h]
theorem lyV_n {μ : Sx} {w bl y x : Nat} (h : fcA μ (10 * x + y) = none) : lyV μ w bl y x = if bl >>> (fcN (fun _ => w) (lyZ μ) y + fc1 (lyZ μ) y x) &&& 1 = 1 then 0 else 1 := by unfold lyV; rw [h]
def lyC (μ : Sx) (w h bl k : Nat) : Nat := if k % 5 < w ∧ k / 5 < h then lyV μ w bl (k / 5) (k % 5) else 0
theorem NW_c {μ ρ : Sx} {w h f : Nat} {c d : Nat → Nat} (e : ∀ k, k < 20 → c k = d k) (q : NW μ w h f c ρ) : NW μ w h f d ρ := ⟨q.1, q.2.1, q.2.2.1, q.2.2.2.1, fun k hk => (q.2.2.2.2 k hk).trans (e k hk)⟩
theorem fc1_le2 (Z : Nat → Nat → Bool) (k : Nat) : ∀ f, fc1 Z k f ≤ f
  | 0 => Nat.le_refl 0
  | f + 1 => by
    have := fc1_le2 Z k f
    show fc1 Z k f + (if Z k f = true then 1 else 0) ≤ _
    split <;> omega
theorem fcN_le2 {w : Nat} (hw : w ≤ 5) (Z : Nat → Nat → Bool) : ∀ y, fcN (fun _ => w) Z y ≤ 5 * y
  | 0 => Nat.le_refl 0
  | y + 1 => by
    have h1 := fcN_le2 hw Z y
    have h2 := fc1_le2 Z y w
    show fcN (fun _ => w) Z y + fc1 Z y w ≤ _
    omega

set_option maxHeartbeats 1000000 in
set_option maxRecDepth 100000 in
theorem c_X7_isRow (l : Launch) (G : Gt) (om : Nat) (μ : Sx) (w : Nat) (h : Nat) (hr0 : MIr μ) (hw5 : w ≤ 5) (hh4 : h ≤ 4) : Cr l G yX7_isRow cX7_isRow 5 ((some .boolean)) 0 [.ref om, .int (nI w), .int (nI h)] (fun H => bk G om (mL G om μ) H) (some (.int (b2i (decide (rowP μ w h))))) := by
  refine cr_entry [(0, .ref om), (1, .int (nI w)), (2, .int (nI h))] (by decide) (Nat.le_of_ble_eq_true rfl) rfl ?_
  intro zp ze zs zm za zb zt zc Q S hK hPre hE ls hl
  have hx := S.1
  have hb := S.2.1
  have hM := hPre
  obtain ⟨hr3, hr99⟩ := id hr0
  refine lv_iconst (v := nI 0) hx hb dX7_isRow_0 (by decide) ?_
  refine lv_istore_n (lv' := [(3, .int (nI 0)), (0, .ref om), (1, .int (nI w)), (2, .int (nI h))]) hx hb dX7_isRow_1 rfl hl (by decide) rfl (fun ls hl => ?_)
  have L2 : ∀ (fu : Nat), ∀ (vk : Nat), (vk ≤ μ.1 20) → (∀ k, k < vk → (μ.2.1 15 k / 10 < w ∧ μ.2.1 15 k % 10 < h) ∧ ∀ i, i < k → ¬ μ.2.1 15 i = μ.2.1 15 k) → μ.1 20 - vk < fu → ∀ ls : Array Slot, lv_has ls 5 [(0, .ref om), (1, .int (nI w)), (2, .int (nI h)), (3, .int (nI vk))] → W zp l ze (rL 0 0 0) zs zm za zb zt zc zs.heap [] 0 0 Q (F0 zm 2 ls []) := by
    intro fu
    induction fu with
    | zero =>
      intro vk hvk hA hmu ls hl
      exact absurd hmu (Nat.not_lt_zero _)
    | succ fu ih2 =>
      intro vk hvk hA hmu ls hl
      refine lv_iload_n hx hb dX7_isRow_2 rfl (lv_at hl 3 rfl) ?_
      refine lv_aload_n hx hb dX7_isRow_3 rfl (lv_at hl 0 rfl) ?_
      refine kg (C := RX7) (T := TX7) (N := 32) (ci := 5) (k := 20) (v := .int (nI (μ.1 20))) S hK rfl inX7 (by decide) q_750 dX7_isRow_4 hM rfl rfl ?_
      refine n_icmp_ge (tgt := 77) hx hb dX7_isRow_7 (by decide) (by omega) (by omega) (fun c_7 => ?_) (fun c_7 => ?_)
      ·
        refine lv_aload_n hx hb dX7_isRow_77 rfl (lv_at hl 0 rfl) ?_
        refine kg (C := RX7) (T := TX7) (N := 32) (ci := 5) (k := 20) (v := .int (nI (μ.1 20))) S hK rfl inX7 (by decide) q_750 dX7_isRow_78 hM rfl rfl ?_
        refine n_if_le (tgt := 88) hx hb dX7_isRow_81 (by decide) (by omega) (fun c_81 => ?_) (fun c_81 => ?_)
        ·
          have hr : decide (rowP μ w h) = false := decide_eq_false (by
            rintro ⟨z, -⟩
            omega)
          refine lv_iconst (v := nI 0) hx hb dX7_isRow_88 (by decide) ?_
          refine w_top (v' := .int (b2i (decide (rowP μ w h)))) (bz_f (show (decide (rowP μ w h)) = false from hr)) ?_
          exact hE _ _ (kr_z dX7_isRow_89)
        ·
          have hr : decide (rowP μ w h) = true := decide_eq_true ⟨by omega, fun k hk => hA k (by omega)⟩
          refine lv_iconst (v := nI 1) hx hb dX7_isRow_84 (by decide) ?_
          refine lv_goto (tgt := 89) hx hb dX7_isRow_85 (by decide) ?_
          refine w_top (v' := .int (b2i (decide (rowP μ w h)))) (bz_t (show (decide (rowP μ w h)) = true from hr)) ?_
          exact hE _ _ (kr_z dX7_isRow_89)
      ·
        have hk99 := hr99 vk (by omega)
        refine lv_aload_n hx hb dX7_isRow_10 rfl (lv_at hl 0 rfl) ?_
        refine kg (C := RX7) (T := TX7) (N := 32) (ci := 5) (k := 15) (v := .ref (om + 16)) S hK rfl inX7 (by decide) q_745 dX7_isRow_11 hM rfl rfl ?_
        refine lv_iload_n hx hb dX7_isRow_14 rfl (lv_at hl 3 rfl) ?_
        refine kil (f := μ.2.1 15) S hK dX7_isRow_15 16 hM rfl (by decide) rfl (by omega) ?_
        refine lv_bipush (v := nI 10) hx hb dX7_isRow_16 (by decide) ?_
        refine n_idiv hx hb dX7_isRow_18 (by omega) (by decide) (by decide) ?_
        refine lv_iload_n hx hb dX7_isRow_19 rfl (lv_at hl 1 rfl) ?_
        refine n_icmp_ge (tgt := 36) hx hb dX7_isRow_20 (by decide) (by omega) (by omega) (fun c_20 => ?_) (fun c_20 => ?_)
        ·
          refine lv_iconst (v := nI 0) hx hb dX7_isRow_36 (by decide) ?_
          have hr : decide (rowP μ w h) = false := decide_eq_false (by
            rintro ⟨-, z⟩
            have z2 := (z vk (by omega)).1
            omega)
          refine w_top (v' := .int (b2i (decide (rowP μ w h)))) (bz_f (show (decide (rowP μ w h)) = false from hr)) ?_
          exact hE _ _ (kr_z dX7_isRow_37)
        ·
          refine lv_aload_n hx hb dX7_isRow_23 rfl (lv_at hl 0 rfl) ?_
          refine kg (C := RX7) (T := TX7) (N := 32) (ci := 5) (k := 15) (v := .ref (om + 16)) S hK rfl inX7 (by decide) q_745 dX7_isRow_24 hM rfl rfl ?_
          refine lv_iload_n hx hb dX7_isRow_27 rfl (lv_at hl 3 rfl) ?_
          refine kil (f := μ.2.1 15) S hK dX7_isRow_28 16 hM rfl (by decide) rfl (by omega) ?_
          refine lv_bipush (v := nI 10) hx hb dX7_isRow_29 (by decide) ?_
          refine n_irem hx hb dX7_isRow_31 (by omega) (by decide) (by decide) ?_
          refine lv_iload_n hx hb dX7_isRow_32 rfl (lv_at hl 2 rfl) ?_
          refine n_icmp_lt (tgt := 38) hx hb dX7_isRow_33 (by decide) (Nat.lt_trans (Nat.mod_lt _ (by decide)) (by decide)) (by omega) (fun c_33 => ?_) (fun c_33 => ?_)
          ·
            refine lv_iconst (v := nI 0) hx hb dX7_isRow_38 (by decide) ?_
            refine lv_istore (lv' := [(4, .int (nI 0)), (0, .ref om), (1, .int (nI w)), (2, .int (nI h)), (3, .int (nI vk))]) hx hb dX7_isRow_39 hl (by decide) rfl (fun ls hl => ?_)
            have L41 : ∀ (fu : Nat), ∀ (vi : Nat), (vi ≤ vk) → (∀ i, i < vi → ¬ μ.2.1 15 i = μ.2.1 15 vk) → vk - vi < fu → ∀ ls : Array Slot, lv_has ls 5 [(0, .ref om), (1, .int (nI w)), (2, .int (nI h)), (3, .int (nI vk)), (4, .int (nI vi))] → W zp l ze (rL 0 0 0) zs zm za zb zt zc zs.heap [] 0 0 Q (F0 zm 41 ls []) := by
              intro fu
              induction fu with
              | zero =>
                intro vi hvi hB hmu ls hl
                exact absurd hmu (Nat.not_lt_zero _)
              | succ fu ih41 =>
                intro vi hvi hB hmu ls hl
                refine lv_iload hx hb dX7_isRow_41 (lv_at hl 4 rfl) ?_
                refine lv_iload_n hx hb dX7_isRow_43 rfl (lv_at hl 3 rfl) ?_
                refine n_icmp_ge (tgt := 71) hx hb dX7_isRow_44 (by decide) (by omega) (by omega) (fun c_44 => ?_) (fun c_44 => ?_)
                ·
                  refine lv_iinc (v := nI (vk + 1)) (lv' := [(3, .int (nI (vk + 1))), (0, .ref om), (1, .int (nI w)), (2, .int (nI h)), (4, .int (nI vi))]) hx hb dX7_isRow_71 hl (k := 3) rfl (inc1 _) (by decide) rfl (fun ls hl => ?_)
                  refine lv_goto (tgt := 2) hx hb dX7_isRow_74 (by decide) ?_
                  exact ih2 (vk + 1) (by omega) (fun k hk => by
                    by_cases e : k = vk
                    · subst e
                      exact ⟨⟨by omega, by omega⟩, fun i hi => hB i (by omega)⟩
                    · exact hA k (by omega)) (by omega) ls (lv_sub hl [1, 2, 3, 0] rfl)
                ·
                  have hi99 := hr99 vi (by omega)
                  refine lv_aload_n hx hb dX7_isRow_47 rfl (lv_at hl 0 rfl) ?_
                  refine kg (C := RX7) (T := TX7) (N := 32) (ci := 5) (k := 15) (v := .ref (om + 16)) S hK rfl inX7 (by decide) q_745 dX7_isRow_48 hM rfl rfl ?_
                  refine lv_iload hx hb dX7_isRow_51 (lv_at hl 4 rfl) ?_
                  refine kil (f := μ.2.1 15) S hK dX7_isRow_53 16 hM rfl (by decide) rfl (by omega) ?_
                  refine lv_aload_n hx hb dX7_isRow_54 rfl (lv_at hl 0 rfl) ?_
                  refine kg (C := RX7) (T := TX7) (N := 32) (ci := 5) (k := 15) (v := .ref (om + 16)) S hK rfl inX7 (by decide) q_745 dX7_isRow_55 hM rfl rfl ?_
                  refine lv_iload_n hx hb dX7_isRow_58 rfl (lv_at hl 3 rfl) ?_
                  refine kil (f := μ.2.1 15) S hK dX7_isRow_59 16 hM rfl (by decide) rfl (by omega) ?_
                  refine n_icmp_ne (tgt := 65) hx hb dX7_isRow_60 (by decide) (by omega) (by omega) (fun c_60 => ?_) (fun c_60 => ?_)
                  ·
                    refine lv_iinc (v := nI (vi + 1)) (lv' := [(4, .int (nI (vi + 1))), (0, .ref om), (1, .int (nI w)), (2, .int (nI h)), (3, .int (nI vk))]) hx hb dX7_isRow_65 hl (k := 4) rfl (inc1 _) (by decide) rfl (fun ls hl => ?_)
                    refine lv_goto (tgt := 41) hx hb dX7_isRow_68 (by decide) ?_
                    exact ih41 (vi + 1) (by omega) (fun i hi => by
                      by_cases e : i = vi
                      · rw [e]; exact c_60
                      · exact hB i (by omega)) (by omega) ls (lv_sub hl [1, 2, 3, 4, 0] rfl)
                  ·
                    have hr : decide (rowP μ w h) = false := decide_eq_false (by
                      rintro ⟨-, z⟩
                      exact (z vk (by omega)).2 vi (by omega) c_60)
                    refine lv_iconst (v := nI 0) hx hb dX7_isRow_63 (by decide) ?_
                    refine w_top (v' := .int (b2i (decide (rowP μ w h)))) (bz_f (show (decide (rowP μ w h)) = false from hr)) ?_
                    exact hE _ _ (kr_z dX7_isRow_64)
            exact L41 ((vk - 0) + 1) 0 (Nat.zero_le _) (fun i hi => absurd hi (Nat.not_lt_zero i)) (Nat.lt_succ_self _) ls (lv_sub hl [1, 2, 3, 4, 0] rfl)
          ·
            refine lv_iconst (v := nI 0) hx hb dX7_isRow_36 (by decide) ?_
            have hr : decide (rowP μ w h) = false := decide_eq_false (by
              rintro ⟨-, z⟩
              have z2 := (z vk (by omega)).1
              omega)
            refine w_top (v' := .int (b2i (decide (rowP μ w h)))) (bz_f (show (decide (rowP μ w h)) = false from hr)) ?_
            exact hE _ _ (kr_z dX7_isRow_37)
  exact L2 ((μ.1 20 - 0) + 1) 0 (Nat.zero_le _) (fun k hk => absurd hk (Nat.not_lt_zero k)) (Nat.lt_succ_self _) ls (lv_sub hl [1, 2, 3, 0] rfl)

set_option maxHeartbeats 1000000 in
set_option maxRecDepth 100000 in
theorem c_X7_faceAt_s (l : Launch) (G : Gt) (om : Nat) (μ : Sx) (xy : Nat) (g : Nat) (hr0 : MIr μ) (hxy : xy < 200) (hq : fcA μ xy = some g) : Cr l G yX7_faceAt cX7_faceAt 3 ((some .int)) 0 [.ref om, .int (nI xy)] (fun H => bk G om (mL G om μ) H) (some (.int (nI g))) := by
  refine cr_entry [(0, .ref om), (1, .int (nI xy))] (by decide) (Nat.le_of_ble_eq_true rfl) rfl ?_
  intro zp ze zs zm za zb zt zc Q S hK hPre hE ls hl
  have hx := S.1
  have hb := S.2.1
  have hM := hPre
  obtain ⟨hr3, hr99⟩ := id hr0
  refine lv_iconst (v := nI 0) hx hb dX7_faceAt_0 (by decide) ?_
  refine lv_istore_n (lv' := [(2, .int (nI 0)), (0, .ref om), (1, .int (nI xy))]) hx hb dX7_faceAt_1 rfl hl (by decide) rfl (fun ls hl => ?_)
  have L2 : ∀ (fu : Nat), ∀ (vk : Nat), (vk ≤ μ.1 20) → (fcA μ xy = fnd (fun k => decide (μ.2.1 15 k = xy)) (μ.1 20 - vk) vk) → μ.1 20 - vk < fu → ∀ ls : Array Slot, lv_has ls 3 [(0, .ref om), (1, .int (nI xy)), (2, .int (nI vk))] → W zp l ze (rL 0 0 0) zs zm za zb zt zc zs.heap [] 0 0 Q (F0 zm 2 ls []) := by
    intro fu
    induction fu with
    | zero =>
      intro vk hvk hfd hmu ls hl
      exact absurd hmu (Nat.not_lt_zero _)
    | succ fu ih2 =>
      intro vk hvk hfd hmu ls hl
      refine lv_iload_n hx hb dX7_faceAt_2 rfl (lv_at hl 2 rfl) ?_
      refine lv_aload_n hx hb dX7_faceAt_3 rfl (lv_at hl 0 rfl) ?_
      refine kg (C := RX7) (T := TX7) (N := 32) (ci := 5) (k := 20) (v := .int (nI (μ.1 20))) S hK rfl inX7 (by decide) q_750 dX7_faceAt_4 hM rfl rfl ?_
      refine n_icmp_ge (tgt := 28) hx hb dX7_faceAt_7 (by decide) (by omega) (by omega) (fun c_7 => ?_) (fun c_7 => ?_)
      ·
        exact absurd (hq.symm.trans (hfd.trans (show fnd (fun k => decide (μ.2.1 15 k = xy)) (μ.1 20 - vk) vk = none from by rw [show μ.1 20 - vk = 0 from by omega]; rfl))) (by intro z; cases z)
      ·
        have hk99 := hr99 vk (by omega)
        refine lv_aload_n hx hb dX7_faceAt_10 rfl (lv_at hl 0 rfl) ?_
        refine kg (C := RX7) (T := TX7) (N := 32) (ci := 5) (k := 15) (v := .ref (om + 16)) S hK rfl inX7 (by decide) q_745 dX7_faceAt_11 hM rfl rfl ?_
        refine lv_iload_n hx hb dX7_faceAt_14 rfl (lv_at hl 2 rfl) ?_
        refine kil (f := μ.2.1 15) S hK dX7_faceAt_15 16 hM rfl (by decide) rfl (by omega) ?_
        refine lv_iload_n hx hb dX7_faceAt_16 rfl (lv_at hl 1 rfl) ?_
        refine n_icmp_ne (tgt := 22) hx hb dX7_faceAt_17 (by decide) (by omega) (by omega) (fun c_17 => ?_) (fun c_17 => ?_)
        ·
          refine lv_iinc (v := nI (vk + 1)) (lv' := [(2, .int (nI (vk + 1))), (0, .ref om), (1, .int (nI xy))]) hx hb dX7_faceAt_22 hl (k := 2) rfl (inc1 _) (by decide) rfl (fun ls hl => ?_)
          refine lv_goto (tgt := 2) hx hb dX7_faceAt_25 (by decide) ?_
          exact ih2 (vk + 1) (by omega) (by rw [hfd, show μ.1 20 - vk = (μ.1 20 - (vk + 1)) + 1 from by omega]; exact fnd_f (P := (fun k => decide (μ.2.1 15 k = xy))) (decide_eq_false c_17)) (by omega) ls (lv_sub hl [1, 2, 0] rfl)
        ·
          have hfs : fcA μ xy = some vk := by rw [hfd, show μ.1 20 - vk = (μ.1 20 - (vk + 1)) + 1 from by omega]; exact fnd_t (P := (fun k => decide (μ.2.1 15 k = xy))) (decide_eq_true c_17)
          have hr : vk = g := Option.some.inj (hfs.symm.trans hq)
          refine lv_iload_n hx hb dX7_faceAt_20 rfl (lv_at hl 2 rfl) ?_
          refine w_top (v' := .int (nI g)) (congrArg (fun z => Value.int (nI z)) (show vk = g from hr)) ?_
          exact hE _ _ (kr_i dX7_faceAt_21)
  exact L2 ((μ.1 20 - 0) + 1) 0 (Nat.zero_le _) rfl (Nat.lt_succ_self _) ls (lv_sub hl [1, 2, 0] rfl)

set_option maxHeartbeats 1000000 in
set_option maxRecDepth 100000 in
theorem c_X7_faceAt_n (l : Launch) (G : Gt) (om : Nat) (μ : Sx) (xy : Nat) (hr0 : MIr μ) (hxy : xy < 200) (hq : fcA μ xy = none) : Cr l G yX7_faceAt cX7_faceAt 3 ((some .int)) 0 [.ref om, .int (nI xy)] (fun H => bk G om (mL G om μ) H) (some (.int (-9))) := by
  refine cr_entry [(0, .ref om), (1, .int (nI xy))] (by decide) (Nat.le_of_ble_eq_true rfl) rfl ?_
  intro zp ze zs zm za zb zt zc Q S hK hPre hE ls hl
  have hx := S.1
  have hb := S.2.1
  have hM := hPre
  obtain ⟨hr3, hr99⟩ := id hr0
  refine lv_iconst (v := nI 0) hx hb dX7_faceAt_0 (by decide) ?_
  refine lv_istore_n (lv' := [(2, .int (nI 0)), (0, .ref om), (1, .int (nI xy))]) hx hb dX7_faceAt_1 rfl hl (by decide) rfl (fun ls hl => ?_)
  have L2 : ∀ (fu : Nat), ∀ (vk : Nat), (vk ≤ μ.1 20) → (fcA μ xy = fnd (fun k => decide (μ.2.1 15 k = xy)) (μ.1 20 - vk) vk) → μ.1 20 - vk < fu → ∀ ls : Array Slot, lv_has ls 3 [(0, .ref om), (1, .int (nI xy)), (2, .int (nI vk))] → W zp l ze (rL 0 0 0) zs zm za zb zt zc zs.heap [] 0 0 Q (F0 zm 2 ls []) := by
    intro fu
    induction fu with
    | zero =>
      intro vk hvk hfd hmu ls hl
      exact absurd hmu (Nat.not_lt_zero _)
    | succ fu ih2 =>
      intro vk hvk hfd hmu ls hl
      refine lv_iload_n hx hb dX7_faceAt_2 rfl (lv_at hl 2 rfl) ?_
      refine lv_aload_n hx hb dX7_faceAt_3 rfl (lv_at hl 0 rfl) ?_
      refine kg (C := RX7) (T := TX7) (N := 32) (ci := 5) (k := 20) (v := .int (nI (μ.1 20))) S hK rfl inX7 (by decide) q_750 dX7_faceAt_4 hM rfl rfl ?_
      refine n_icmp_ge (tgt := 28) hx hb dX7_faceAt_7 (by decide) (by omega) (by omega) (fun c_7 => ?_) (fun c_7 => ?_)
      ·
        refine lv_bipush (v := (-9)) hx hb dX7_faceAt_28 (by decide) ?_
        exact hE _ _ (kr_i dX7_faceAt_30)
      ·
        have hk99 := hr99 vk (by omega)
        refine lv_aload_n hx hb dX7_faceAt_10 rfl (lv_at hl 0 rfl) ?_
        refine kg (C := RX7) (T := TX7) (N := 32) (ci := 5) (k := 15) (v := .ref (om + 16)) S hK rfl inX7 (by decide) q_745 dX7_faceAt_11 hM rfl rfl ?_
        refine lv_iload_n hx hb dX7_faceAt_14 rfl (lv_at hl 2 rfl) ?_
        refine kil (f := μ.2.1 15) S hK dX7_faceAt_15 16 hM rfl (by decide) rfl (by omega) ?_
        refine lv_iload_n hx hb dX7_faceAt_16 rfl (lv_at hl 1 rfl) ?_
        refine n_icmp_ne (tgt := 22) hx hb dX7_faceAt_17 (by decide) (by omega) (by omega) (fun c_17 => ?_) (fun c_17 => ?_)
        ·
          refine lv_iinc (v := nI (vk + 1)) (lv' := [(2, .int (nI (vk + 1))), (0, .ref om), (1, .int (nI xy))]) hx hb dX7_faceAt_22 hl (k := 2) rfl (inc1 _) (by decide) rfl (fun ls hl => ?_)
          refine lv_goto (tgt := 2) hx hb dX7_faceAt_25 (by decide) ?_
          exact ih2 (vk + 1) (by omega) (by rw [hfd, show μ.1 20 - vk = (μ.1 20 - (vk + 1)) + 1 from by omega]; exact fnd_f (P := (fun k => decide (μ.2.1 15 k = xy))) (decide_eq_false c_17)) (by omega) ls (lv_sub hl [1, 2, 0] rfl)
        ·
          have hfs : fcA μ xy = some vk := by rw [hfd, show μ.1 20 - vk = (μ.1 20 - (vk + 1)) + 1 from by omega]; exact fnd_t (P := (fun k => decide (μ.2.1 15 k = xy))) (decide_eq_true c_17)
          exact absurd (hfs.symm.trans hq) (by intro z; cases z)
  exact L2 ((μ.1 20 - 0) + 1) 0 (Nat.zero_le _) rfl (Nat.lt_succ_self _) ls (lv_sub hl [1, 2, 0] rfl)

set_option maxHeartbeats 1000000 in
set_option maxRecDepth 100000 in
theorem c_X7_lays (l : Launch) (G : Gt) (om : Nat) (ν : Sx) (μ : Sx) (w : Nat) (h : Nat) (bl : Nat) (f : Nat) (c0 : Nat → Nat) (hr0 : MIr μ) (h24 : μ.1 16 < 24) (hw5 : w ≤ 5) (hh4 : h ≤ 4) (hbl : bl < 2 ^ 20) (hN0 : NW μ w h f c0 ν) (hz0 : ∀ k, k < 20 → ¬ (k % 5 < w ∧ k / 5 < h) → c0 k = 0) : Ct l G yX7_lays cX7_lays 9 (none) 2 0 0 [.ref om, .int (nI (μ.1 16)), .int (nI w), .int (nI h), .int (nI bl)] (fun H => bk G om (mL G om ν) H) none (fun H => ∃ σ : Sx, bk G om (mL G om σ) H ∧ NW μ w h f (lyC μ w h bl) σ) (fun q => om ≤ q ∧ q < om + 20) := by
  refine ct_entry [(0, .ref om), (1, .int (nI (μ.1 16))), (2, .int (nI w)), (3, .int (nI h)), (4, .int (nI bl))] (by decide) (Nat.le_of_ble_eq_true rfl) rfl ?_
  intro zp ze zs zm za zb zt zc Q S hK hPre hin hE ls hl
  have hx := S.1
  have hb := S.2.1
  have hM := hPre
  have hS : va_S (fun q => om ≤ q ∧ q < om + 20) zs.heap zs.heap [] := va_S.rf
  refine lv_iconst (v := nI 0) hx hb dX7_lays_0 (by decide) ?_
  refine lv_istore (lv' := [(5, .int (nI 0)), (0, .ref om), (1, .int (nI (μ.1 16))), (2, .int (nI w)), (3, .int (nI h)), (4, .int (nI bl))]) hx hb dX7_lays_1 hl (by decide) rfl (fun ls hl => ?_)
  refine lv_iconst (v := nI 0) hx hb dX7_lays_3 (by decide) ?_
  refine lv_istore (lv' := [(6, .int (nI 0)), (5, .int (nI 0)), (0, .ref om), (1, .int (nI (μ.1 16))), (2, .int (nI w)), (3, .int (nI h)), (4, .int (nI bl))]) hx hb dX7_lays_4 hl (by decide) rfl (fun ls hl => ?_)
  have L6 : ∀ (fu : Nat), ∀ (vy : Nat) (ρ : Sx), (vy ≤ h) → (NW μ w h f (fun k => if (k % 5 < w ∧ k / 5 < h) ∧ k / 5 < vy then lyC μ w h bl k else c0 k) ρ) → h - vy < fu → ∀ (H : Heap) (locs : List Loc), bk G om (mL G om ρ) H → va_S (fun q => om ≤ q ∧ q < om + 20) zs.heap H locs → ∀ ls : Array Slot, lv_has ls 9 [(0, .ref om), (1, .int (nI (μ.1 16))), (2, .int (nI w)), (3, .int (nI h)), (4, .int (nI bl)), (5, .int (nI (fcN (fun _ => w) (lyZ μ) vy))), (6, .int (nI vy))] → W zp l ze (rL 2 0 0) zs zm za zb zt zc H locs 0 0 Q (F0 zm 6 ls []) := by
    intro fu
    induction fu with
    | zero =>
      intro vy ρ hvy hN2 hmu H locs hM hS ls hl
      exact absurd hmu (Nat.not_lt_zero _)
    | succ fu ih6 =>
      intro vy ρ hvy hN2 hmu H locs hM hS ls hl
      refine lv_iload hx hb dX7_lays_6 (lv_at hl 6 rfl) ?_
      refine lv_iload_n hx hb dX7_lays_8 rfl (lv_at hl 3 rfl) ?_
      refine n_icmp_ge (tgt := 100) hx hb dX7_lays_9 (by decide) (by omega) (by omega) (fun c_9 => ?_) (fun c_9 => ?_)
      ·
        have hv9 : vy = h := by omega
        exact hE _ _ _ _ _ _ (kr_v dX7_lays_100) hS (by decide) (by decide) ⟨ρ, hM, (NW_c (fun k hk => by
          by_cases z : (k % 5 < w ∧ k / 5 < h) ∧ k / 5 < vy
          · rw [if_pos z]
          · rw [if_neg z, hz0 k hk (by omega)]
            unfold lyC
            rw [if_neg (by omega)]) hN2)⟩
      ·
        refine lv_iconst (v := nI 0) hx hb dX7_lays_12 (by decide) ?_
        refine lv_istore (lv' := [(7, .int (nI 0)), (0, .ref om), (1, .int (nI (μ.1 16))), (2, .int (nI w)), (3, .int (nI h)), (4, .int (nI bl)), (5, .int (nI (fcN (fun _ => w) (lyZ μ) vy))), (6, .int (nI vy))]) hx hb dX7_lays_13 hl (by decide) rfl (fun ls hl => ?_)
        have L15 : ∀ (fu : Nat), ∀ (vx : Nat) (ρ2 : Sx), (vx ≤ w) → (NW μ w h f (fun k => if (k % 5 < w ∧ k / 5 < h) ∧ (k / 5 < vy ∨ (k / 5 = vy ∧ k % 5 < vx)) then lyC μ w h bl k else c0 k) ρ2) → w - vx < fu → ∀ (H : Heap) (locs : List Loc), bk G om (mL G om ρ2) H → va_S (fun q => om ≤ q ∧ q < om + 20) zs.heap H locs → ∀ ls : Array Slot, lv_has ls 9 [(0, .ref om), (1, .int (nI (μ.1 16))), (2, .int (nI w)), (3, .int (nI h)), (4, .int (nI bl)), (5, .int (nI (fcN (fun _ => w) (lyZ μ) vy + fc1 (lyZ μ) vy vx))), (6, .int (nI vy)), (7, .int (nI vx))] → W zp l ze (rL 2 0 0) zs zm za zb zt zc H locs 0 0 Q (F0 zm 15 ls []) := by
          intro fu
          induction fu with
          | zero =>
            intro vx ρ2 hvx hN3 hmu H locs hM hS ls hl
            exact absurd hmu (Nat.not_lt_zero _)
          | succ fu ih15 =>
            intro vx ρ2 hvx hN3 hmu H locs hM hS ls hl
            refine lv_iload hx hb dX7_lays_15 (lv_at hl 7 rfl) ?_
            refine lv_iload_n hx hb dX7_lays_17 rfl (lv_at hl 2 rfl) ?_
            refine n_icmp_ge (tgt := 94) hx hb dX7_lays_18 (by decide) (by omega) (by omega) (fun c_18 => ?_) (fun c_18 => ?_)
            ·
              refine lv_iinc (v := nI (vy + 1)) (lv' := [(6, .int (nI (vy + 1))), (0, .ref om), (1, .int (nI (μ.1 16))), (2, .int (nI w)), (3, .int (nI h)), (4, .int (nI bl)), (5, .int (nI (fcN (fun _ => w) (lyZ μ) vy + fc1 (lyZ μ) vy vx))), (7, .int (nI vx))]) hx hb dX7_lays_94 hl (k := 6) rfl (inc1 _) (by decide) rfl (fun ls hl => ?_)
              refine lv_goto (tgt := 6) hx hb dX7_lays_97 (by decide) ?_
              replace hl := lv_eq 6 hl rfl (v2 := .int (nI (fcN (fun _ => w) (lyZ μ) (vy + 1)))) (congrArg (fun z => Value.int (nI z)) (show (fcN (fun _ => w) (lyZ μ) vy + fc1 (lyZ μ) vy vx) = (fcN (fun _ => w) (lyZ μ) (vy + 1)) from by rw [show vx = w from by omega]; rfl))
              exact ih6 (vy + 1) ρ2 (by omega) (NW_c (fun k hk => by
                by_cases z : (k % 5 < w ∧ k / 5 < h) ∧ (k / 5 < vy ∨ (k / 5 = vy ∧ k % 5 < vx))
                · rw [if_pos z, if_pos (by omega)]
                · rw [if_neg z, if_neg (by omega)]) hN3) (by omega) _ _ hM hS ls (lv_sub hl [1, 2, 3, 4, 5, 6, 0] rfl)
            ·
              have hP3 := hN3.1
              have hf2 := fcN_le2 hw5 (lyZ μ) vy
              have hf3 := fc1_le2 (lyZ μ) vy vx
              have hr2 : MIr ρ2 := ⟨by rw [hP3.1 20 (by decide)]; exact hr0.1, by rw [hP3.1 20 (by decide), hP3.2.1 15 (by decide) (by decide)]; exact hr0.2⟩
              refine lv_aload_n hx hb dX7_lays_21 rfl (lv_at hl 0 rfl) ?_
              refine lv_bipush (v := nI 10) hx hb dX7_lays_22 (by decide) ?_
              refine lv_iload hx hb dX7_lays_24 (lv_at hl 7 rfl) ?_
              refine n_imul hx hb dX7_lays_26 ?_
              refine lv_iload hx hb dX7_lays_27 (lv_at hl 6 rfl) ?_
              refine n_iadd hx hb dX7_lays_29 ?_
              rcases hqq : fcA μ (10 * vx + vy) with _ | g
              ·
                refine crV (rest := []) S hK (c_X7_faceAt_n l G om ρ2 ((10 * vx) + vy) hr2 (by omega) ((fcA_p hP3 _).trans hqq)) cw_X7_217 rfl ⟨Nat.le_of_ble_eq_true rfl, Nat.le_of_ble_eq_true rfl⟩ ⟨Nat.le_of_ble_eq_true rfl, Nat.le_of_ble_eq_true rfl⟩ (bk.recv hK hM rfl rfl) hl.1 rfl (Nat.le_of_ble_eq_true rfl) dX7_lays_30 hM ?_
                refine lv_istore (lv' := [(8, .int (-9)), (0, .ref om), (1, .int (nI (μ.1 16))), (2, .int (nI w)), (3, .int (nI h)), (4, .int (nI bl)), (5, .int (nI (fcN (fun _ => w) (lyZ μ) vy + fc1 (lyZ μ) vy vx))), (6, .int (nI vy)), (7, .int (nI vx))]) hx hb dX7_lays_33 hl (by decide) rfl (fun ls hl => ?_)
                refine lv_aload_n hx hb dX7_lays_35 rfl (lv_at hl 1 rfl) ?_
                refine lv_iload_n hx hb dX7_lays_36 rfl (lv_at hl 2 rfl) ?_
                refine lv_iload hx hb dX7_lays_37 (lv_at hl 8 rfl) ?_
                refine lv_iload hx hb dX7_lays_39 (lv_at hl 7 rfl) ?_
                refine lv_iload hx hb dX7_lays_41 (lv_at hl 0 rfl) ?_
                refine lv_if_lt (tgt := 54) hx hb dX7_lays_43 (by decide) (fun c_43 => ?_) (fun c_43 => ?_)
                ·
                  refine lv_iload hx hb dX7_lays_54 (lv_at hl 5 rfl) ?_
                  refine lv_iload hx hb dX7_lays_56 (lv_at hl 6 rfl) ?_
                  refine n_ishr hx hb dX7_lays_58 (by omega) (by omega) ?_
                  refine lv_iconst (v := nI 1) hx hb dX7_lays_59 (by decide) ?_
                  refine n_iand hx hb dX7_lays_60 ?_
                  refine lv_iconst (v := nI 1) hx hb dX7_lays_61 (by decide) ?_
                  refine n_icmp_ne (tgt := 69) hx hb dX7_lays_62 (by decide) (Nat.lt_of_le_of_lt Nat.and_le_right (by decide)) (by decide) (fun c_62 => ?_) (fun c_62 => ?_)
                  ·
                    refine lv_iconst (v := nI 1) hx hb dX7_lays_69 (by decide) ?_
                    refine ctVv (rest := []) S hK (c_X7_puts l G om ρ2 (μ.1 16) vx vy 1 (by first | assumption | omega | decide)) cw_X7_96 rfl ⟨Nat.le_of_ble_eq_true rfl, Nat.le_of_ble_eq_true rfl⟩ ⟨Nat.le_of_ble_eq_true rfl, Nat.le_of_ble_eq_true rfl⟩ (bk.recv hK hM rfl rfl) hl.1 rfl (Nat.le_of_ble_eq_true rfl) dX7_lays_70 hM hS (fun _ h => by first | exact h | omega) (fun H locs hPost hz hk hS => ?_)
                    have hM := hPost
                    refine lv_iload hx hb dX7_lays_73 (lv_at hl 6 rfl) ?_
                    refine lv_iload hx hb dX7_lays_75 (lv_at hl 0 rfl) ?_
                    refine lv_if_lt (tgt := 84) hx hb dX7_lays_77 (by decide) (fun c_77 => ?_) (fun c_77 => ?_)
                    ·
                      refine lv_iconst (v := nI 1) hx hb dX7_lays_84 (by decide) ?_
                      refine n_iadd hx hb dX7_lays_85 ?_
                      refine lv_istore (lv' := [(5, .int (nI ((fcN (fun _ => w) (lyZ μ) vy + fc1 (lyZ μ) vy vx) + 1))), (8, .int (-9)), (0, .ref om), (1, .int (nI (μ.1 16))), (2, .int (nI w)), (3, .int (nI h)), (4, .int (nI bl)), (6, .int (nI vy)), (7, .int (nI vx))]) hx hb dX7_lays_86 hl (by decide) rfl (fun ls hl => ?_)
                      refine lv_iinc (v := nI (vx + 1)) (lv' := [(7, .int (nI (vx + 1))), (5, .int (nI ((fcN (fun _ => w) (lyZ μ) vy + fc1 (lyZ μ) vy vx) + 1))), (8, .int (-9)), (0, .ref om), (1, .int (nI (μ.1 16))), (2, .int (nI w)), (3, .int (nI h)), (4, .int (nI bl)), (6, .int (nI vy))]) hx hb dX7_lays_88 hl (k := 8) rfl (inc1 _) (by decide) rfl (fun ls hl => ?_)
                      refine lv_goto (tgt := 15) hx hb dX7_lays_91 (by decide) ?_
                      replace hl := lv_eq 1 hl rfl (v2 := .int (nI (fcN (fun _ => w) (lyZ μ) vy + fc1 (lyZ μ) vy (vx + 1)))) (congrArg (fun z => Value.int (nI z)) (show ((fcN (fun _ => w) (lyZ μ) vy + fc1 (lyZ μ) vy vx) + 1) = (fcN (fun _ => w) (lyZ μ) vy + fc1 (lyZ μ) vy (vx + 1)) from by rw [← fc1_yes (show lyZ μ vy vx = true from by show (fcA μ (10 * vx + vy)).isNone = true; rw [hqq]; rfl)]; rfl))
                      exact ih15 (vx + 1) (uA ρ2 4 (20 * (μ.1 16) + 5 * vy + vx) 1) (by omega) (by
                        have q := NW_put (k := 5 * vy + vx) (v := 1) hN3 (by omega)
                        rw [← Nat.add_assoc] at q
                        refine NW_c (fun k hk => ?_) q
                        show (if k = 5 * vy + vx then 1 else _) = _
                        by_cases e : k = 5 * vy + vx
                        · rw [if_pos e, if_pos (by omega)]
                          unfold lyC
                          rw [if_pos (by omega), show k / 5 = vy from by omega, show k % 5 = vx from by omega]
                          exact ((lyV_n hqq).trans (if_neg c_62)).symm
                        · rw [if_neg e]
                          dsimp only
                          by_cases z : (k % 5 < w ∧ k / 5 < h) ∧ (k / 5 < vy ∨ (k / 5 = vy ∧ k % 5 < vx))
                          · rw [if_pos z, if_pos (by omega)]
                          · rw [if_neg z, if_neg (by omega)]) (by omega) _ _ hM hS ls (lv_sub hl [3, 4, 5, 6, 7, 1, 8, 0] rfl)
                    ·
                      exact absurd c_77 (by decide)
                  ·
                    refine lv_iconst (v := nI 0) hx hb dX7_lays_65 (by decide) ?_
                    refine lv_goto (tgt := 70) hx hb dX7_lays_66 (by decide) ?_
                    refine ctVv (rest := []) S hK (c_X7_puts l G om ρ2 (μ.1 16) vx vy 0 (by first | assumption | omega | decide)) cw_X7_96 rfl ⟨Nat.le_of_ble_eq_true rfl, Nat.le_of_ble_eq_true rfl⟩ ⟨Nat.le_of_ble_eq_true rfl, Nat.le_of_ble_eq_true rfl⟩ (bk.recv hK hM rfl rfl) hl.1 rfl (Nat.le_of_ble_eq_true rfl) dX7_lays_70 hM hS (fun _ h => by first | exact h | omega) (fun H locs hPost hz hk hS => ?_)
                    have hM := hPost
                    refine lv_iload hx hb dX7_lays_73 (lv_at hl 6 rfl) ?_
                    refine lv_iload hx hb dX7_lays_75 (lv_at hl 0 rfl) ?_
                    refine lv_if_lt (tgt := 84) hx hb dX7_lays_77 (by decide) (fun c_77 => ?_) (fun c_77 => ?_)
                    ·
                      refine lv_iconst (v := nI 1) hx hb dX7_lays_84 (by decide) ?_
                      refine n_iadd hx hb dX7_lays_85 ?_
                      refine lv_istore (lv' := [(5, .int (nI ((fcN (fun _ => w) (lyZ μ) vy + fc1 (lyZ μ) vy vx) + 1))), (8, .int (-9)), (0, .ref om), (1, .int (nI (μ.1 16))), (2, .int (nI w)), (3, .int (nI h)), (4, .int (nI bl)), (6, .int (nI vy)), (7, .int (nI vx))]) hx hb dX7_lays_86 hl (by decide) rfl (fun ls hl => ?_)
                      refine lv_iinc (v := nI (vx + 1)) (lv' := [(7, .int (nI (vx + 1))), (5, .int (nI ((fcN (fun _ => w) (lyZ μ) vy + fc1 (lyZ μ) vy vx) + 1))), (8, .int (-9)), (0, .ref om), (1, .int (nI (μ.1 16))), (2, .int (nI w)), (3, .int (nI h)), (4, .int (nI bl)), (6, .int (nI vy))]) hx hb dX7_lays_88 hl (k := 8) rfl (inc1 _) (by decide) rfl (fun ls hl => ?_)
                      refine lv_goto (tgt := 15) hx hb dX7_lays_91 (by decide) ?_
                      replace hl := lv_eq 1 hl rfl (v2 := .int (nI (fcN (fun _ => w) (lyZ μ) vy + fc1 (lyZ μ) vy (vx + 1)))) (congrArg (fun z => Value.int (nI z)) (show ((fcN (fun _ => w) (lyZ μ) vy + fc1 (lyZ μ) vy vx) + 1) = (fcN (fun _ => w) (lyZ μ) vy + fc1 (lyZ μ) vy (vx + 1)) from by rw [← fc1_yes (show lyZ μ vy vx = true from by show (fcA μ (10 * vx + vy)).isNone = true; rw [hqq]; rfl)]; rfl))
                      exact ih15 (vx + 1) (uA ρ2 4 (20 * (μ.1 16) + 5 * vy + vx) 0) (by omega) (by
                        have q := NW_put (k := 5 * vy + vx) (v := 0) hN3 (by omega)
                        rw [← Nat.add_assoc] at q
                        refine NW_c (fun k hk => ?_) q
                        show (if k = 5 * vy + vx then 0 else _) = _
                        by_cases e : k = 5 * vy + vx
                        · rw [if_pos e, if_pos (by omega)]
                          unfold lyC
                          rw [if_pos (by omega), show k / 5 = vy from by omega, show k % 5 = vx from by omega]
                          exact ((lyV_n hqq).trans (if_pos c_62)).symm
                        · rw [if_neg e]
                          dsimp only
                          by_cases z : (k % 5 < w ∧ k / 5 < h) ∧ (k / 5 < vy ∨ (k / 5 = vy ∧ k % 5 < vx))
                          · rw [if_pos z, if_pos (by omega)]
                          · rw [if_neg z, if_neg (by omega)]) (by omega) _ _ hM hS ls (lv_sub hl [3, 4, 5, 6, 7, 1, 8, 0] rfl)
                    ·
                      exact absurd c_77 (by decide)
                ·
                  exact absurd c_43 (by decide)
              ·
                have hg3 : g < 3 := by have q := (fnd_lt _ _ hqq).2.1; have := hr0.1; omega
                refine crV (rest := []) S hK (c_X7_faceAt_s l G om ρ2 ((10 * vx) + vy) g hr2 (by omega) ((fcA_p hP3 _).trans hqq)) cw_X7_217 rfl ⟨Nat.le_of_ble_eq_true rfl, Nat.le_of_ble_eq_true rfl⟩ ⟨Nat.le_of_ble_eq_true rfl, Nat.le_of_ble_eq_true rfl⟩ (bk.recv hK hM rfl rfl) hl.1 rfl (Nat.le_of_ble_eq_true rfl) dX7_lays_30 hM ?_
                refine lv_istore (lv' := [(8, .int (nI g)), (0, .ref om), (1, .int (nI (μ.1 16))), (2, .int (nI w)), (3, .int (nI h)), (4, .int (nI bl)), (5, .int (nI (fcN (fun _ => w) (lyZ μ) vy + fc1 (lyZ μ) vy vx))), (6, .int (nI vy)), (7, .int (nI vx))]) hx hb dX7_lays_33 hl (by decide) rfl (fun ls hl => ?_)
                refine lv_aload_n hx hb dX7_lays_35 rfl (lv_at hl 1 rfl) ?_
                refine lv_iload_n hx hb dX7_lays_36 rfl (lv_at hl 2 rfl) ?_
                refine lv_iload hx hb dX7_lays_37 (lv_at hl 8 rfl) ?_
                refine lv_iload hx hb dX7_lays_39 (lv_at hl 7 rfl) ?_
                refine lv_iload hx hb dX7_lays_41 (lv_at hl 0 rfl) ?_
                refine n_if_lt (tgt := 54) hx hb dX7_lays_43 (by decide) (by omega) (fun c_43 => ?_)
                refine lv_bipush (v := nI 10) hx hb dX7_lays_46 (by decide) ?_
                refine lv_iload hx hb dX7_lays_48 (lv_at hl 0 rfl) ?_
                refine n_iadd hx hb dX7_lays_50 ?_
                refine lv_goto (tgt := 70) hx hb dX7_lays_51 (by decide) ?_
                refine ctVv (rest := []) S hK (c_X7_puts l G om ρ2 (μ.1 16) vx vy (10 + g) (by first | assumption | omega | decide)) cw_X7_96 rfl ⟨Nat.le_of_ble_eq_true rfl, Nat.le_of_ble_eq_true rfl⟩ ⟨Nat.le_of_ble_eq_true rfl, Nat.le_of_ble_eq_true rfl⟩ (bk.recv hK hM rfl rfl) hl.1 rfl (Nat.le_of_ble_eq_true rfl) dX7_lays_70 hM hS (fun _ h => by first | exact h | omega) (fun H locs hPost hz hk hS => ?_)
                have hM := hPost
                refine lv_iload hx hb dX7_lays_73 (lv_at hl 6 rfl) ?_
                refine lv_iload hx hb dX7_lays_75 (lv_at hl 0 rfl) ?_
                refine n_if_lt (tgt := 84) hx hb dX7_lays_77 (by decide) (by omega) (fun c_77 => ?_)
                refine lv_iconst (v := nI 0) hx hb dX7_lays_80 (by decide) ?_
                refine lv_goto (tgt := 85) hx hb dX7_lays_81 (by decide) ?_
                refine n_iadd hx hb dX7_lays_85 ?_
                refine lv_istore (lv' := [(5, .int (nI ((fcN (fun _ => w) (lyZ μ) vy + fc1 (lyZ μ) vy vx) + 0))), (8, .int (nI g)), (0, .ref om), (1, .int (nI (μ.1 16))), (2, .int (nI w)), (3, .int (nI h)), (4, .int (nI bl)), (6, .int (nI vy)), (7, .int (nI vx))]) hx hb dX7_lays_86 hl (by decide) rfl (fun ls hl => ?_)
                refine lv_iinc (v := nI (vx + 1)) (lv' := [(7, .int (nI (vx + 1))), (5, .int (nI ((fcN (fun _ => w) (lyZ μ) vy + fc1 (lyZ μ) vy vx) + 0))), (8, .int (nI g)), (0, .ref om), (1, .int (nI (μ.1 16))), (2, .int (nI w)), (3, .int (nI h)), (4, .int (nI bl)), (6, .int (nI vy))]) hx hb dX7_lays_88 hl (k := 8) rfl (inc1 _) (by decide) rfl (fun ls hl => ?_)
                refine lv_goto (tgt := 15) hx hb dX7_lays_91 (by decide) ?_
                replace hl := lv_eq 1 hl rfl (v2 := .int (nI (fcN (fun _ => w) (lyZ μ) vy + fc1 (lyZ μ) vy (vx + 1)))) (congrArg (fun z => Value.int (nI z)) (show ((fcN (fun _ => w) (lyZ μ) vy + fc1 (lyZ μ) vy vx) + 0) = (fcN (fun _ => w) (lyZ μ) vy + fc1 (lyZ μ) vy (vx + 1)) from by rw [← fc1_no (show lyZ μ vy vx = false from by show (fcA μ (10 * vx + vy)).isNone = false; rw [hqq]; rfl)]; rfl))
                exact ih15 (vx + 1) (uA ρ2 4 (20 * (μ.1 16) + 5 * vy + vx) (10 + g)) (by omega) (by
                  have q := NW_put (k := 5 * vy + vx) (v := 10 + g) hN3 (by omega)
                  rw [← Nat.add_assoc] at q
                  refine NW_c (fun k hk => ?_) q
                  show (if k = 5 * vy + vx then 10 + g else _) = _
                  by_cases e : k = 5 * vy + vx
                  · rw [if_pos e, if_pos (by omega)]
                    unfold lyC
                    rw [if_pos (by omega), show k / 5 = vy from by omega, show k % 5 = vx from by omega]
                    exact (lyV_s hqq).symm
                  · rw [if_neg e]
                    dsimp only
                    by_cases z : (k % 5 < w ∧ k / 5 < h) ∧ (k / 5 < vy ∨ (k / 5 = vy ∧ k % 5 < vx))
                    · rw [if_pos z, if_pos (by omega)]
                    · rw [if_neg z, if_neg (by omega)]) (by omega) _ _ hM hS ls (lv_sub hl [3, 4, 5, 6, 7, 1, 8, 0] rfl)
        replace hl := lv_eq 6 hl rfl (v2 := .int (nI (fcN (fun _ => w) (lyZ μ) vy + fc1 (lyZ μ) vy 0))) (congrArg (fun z => Value.int (nI z)) (show (fcN (fun _ => w) (lyZ μ) vy) = (fcN (fun _ => w) (lyZ μ) vy + fc1 (lyZ μ) vy 0) from rfl))
        exact L15 ((w - 0) + 1) 0 ρ (Nat.zero_le _) (NW_c (fun k hk => by
          by_cases z : (k % 5 < w ∧ k / 5 < h) ∧ k / 5 < vy
          · rw [if_pos z, if_pos (by omega)]
          · rw [if_neg z, if_neg (by omega)]) hN2) (Nat.lt_succ_self _) _ _ hM hS ls (lv_sub hl [1, 2, 3, 4, 5, 6, 7, 0] rfl)
  replace hl := lv_eq 1 hl rfl (v2 := .int (nI (fcN (fun _ => w) (lyZ μ) 0))) (congrArg (fun z => Value.int (nI z)) (show 0 = (fcN (fun _ => w) (lyZ μ) 0) from rfl))
  exact L6 ((h - 0) + 1) 0 ν (Nat.zero_le _) (NW_c (fun k hk => (if_neg (by omega)).symm) hN0) (Nat.lt_succ_self _) _ _ hM hS ls (lv_sub hl [2, 3, 4, 5, 6, 1, 0] rfl)
