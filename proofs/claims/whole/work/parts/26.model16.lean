
/-! walks: the reference's row, and what it lays to find -/
def MIr (μ : Sx) : Prop := μ.1 20 ≤ 3 ∧ ∀ k, k < μ.1 20 → μ.2.1 15 k ≤ 99
abbrev rowP (μ : Sx) (w h : Nat) : Prop := 0 < μ.1 20 ∧ ∀ k, k < μ.1 20 → (μ.2.1 15 k / 10 < w ∧ μ.2.1 15 k % 10 < h) ∧ ∀ i, i < k → ¬ μ.2.1 15 i = μ.2.1 15 k
abbrev fcA (μ : Sx) (xy : Nat) : Option Nat := fnd (fun k => decide (μ.2.1 15 k = xy)) (μ.1 20) 0
theorem fcA_p {p : Nat} {σ μ : Sx} (h : pth p σ μ) (xy : Nat) : fcA σ xy = fcA μ xy := by
  show fnd (fun k => decide (σ.2.1 15 k = xy)) (σ.1 20) 0 = _
  rw [h.2.1 15 (by decide) (by decide), h.1 20 (by decide)]
abbrev lyZ (μ : Sx) : Nat → Nat → Bool := fun y x => (fcA μ (10 * x + y)).isNone
def lyV (μ : Sx) (w bl y x : Nat) : Nat := match fcA μ (10 * x + y) with
  | some g => 10 + g
  | none => if bl >>> (fcN (fun _ => w) (lyZ μ) y + fc1 (lyZ μ) y x) &&& 1 = 1 then 0 else 1
theorem lyV_s {μ : Sx} {w bl y x g : Nat} (h : fcA μ (10 * x + y) = some g) : lyV μ w bl y x = 10 + g := by unfold lyV; rw [h]
theorem lyV_n {μ : Sx} {w bl y x : Nat} (h : fcA μ (10 * x + y) = none) : lyV μ w bl y x = if bl >>> (fcN (fun _ => w) (lyZ μ) y + fc1 (lyZ μ) y x) &&& 1 = 1 then 0 else 1 := by unfold lyV; rw [h]
def lyC (μ : Sx) (w h bl k : Nat) : Nat := if k % 5 < w ∧ k / 5 < h then lyV μ w bl (k / 5) (k % 5) else 0
theorem NW_c {μ ρ : Sx} {w h f : Nat} {c d : Nat → Nat} (e : ∀ k, k < 20 → c k = d k) (q : NW μ w h f c ρ) : NW μ w h f d ρ := ⟨q.1, q.2.1, q.2.2.1, q.2.2.2.1, fun k hk => (q.2.2.2.2 k hk).trans (e k hk)⟩
theorem fc1_le2 (Z : Nat → Nat → Bool) (k : Nat) : ∀ f, fc1 Z k f ≤ f
  | 0 => Nat.le_refl 0
  | f + 1 => by
    have := fc1_le2 Z k f
    show fc1 Z k f + (if Z k f = true then 1 else 0) ≤ _
    split <;> omega
theorem fcN_le2 {w : Nat} (hw : w ≤ 5) (Z : Nat → Nat → Bool) : ∀ y, fcN (fun _ => w) Z y ≤ 5 * y
  | 0 => Nat.le_refl 0
  | y + 1 => by
    have h1 := fcN_le2 hw Z y
    have h2 := fc1_le2 Z y w
    show fcN (fun _ => w) Z y + fc1 Z y w ≤ _
    omega

set_option maxHeartbeats 1000000 in
set_option maxRecDepth 100000 in
theorem c_X7_isRow (l : Launch) (G : Gt) (om : Nat) (μ : Sx) (w : Nat) (h : Nat) (hr0 : MIr μ) (hw5 : w ≤ 5) (hh4 : h ≤ 4) : Cr l G yX7_isRow cX7_isRow 5 ((some .boolean)) 0 [.ref om, .int (nI w), .int (nI h)] (fun H => bk G om (mL G om μ) H) (some (.int (b2i (decide (rowP μ w h))))) := by
  refine cr_entry [(0, .ref om), (1, .int (nI w)), (2, .int (nI h))] (by decide) (Nat.le_of_ble_eq_true rfl) rfl ?_
  intro zp ze zs zm za zb zt zc Q S hK hPre hE ls hl
  have hx := S.1
  have hb := S.2.1
  have hM := hPre
  obtain ⟨hr3, hr99⟩ := id hr0
  refine lv_iconst (v := nI 0) hx hb dX7_isRow_0 (by decide) ?_
  refine lv_istore_n (lv' := [(3, .int (nI 0)), (0, .ref om), (1, .int (nI w)), (2, .int (nI h))]) hx hb dX7_isRow_1 rfl hl (by decide) rfl (fun ls hl => ?_)
  have L2 : ∀ (fu : Nat), ∀ (vk : Nat), (vk ≤ μ.1 20) → (∀ k, k < vk → (μ.2.1 15 k / 10 < w ∧ μ.2.1 15 k % 10 < h) ∧ ∀ i, i < k → ¬ μ.2.1 15 i = μ.2.1 15 k) → μ.1 20 - vk < fu → ∀ ls : Array Slot, lv_has ls 5 [(0, .ref om), (1, .int (nI w)), (2, .int (nI h)), (3, .int (nI vk))] → W zp l ze (rL 0 0 0) zs zm za zb zt zc zs.heap [] 0 0 Q (F0 zm 2 ls []) := by
    intro fu
    induction fu with
    | zero =>
      intro vk hvk hA hmu ls hl
      exact absurd hmu (Nat.not_lt_zero _)
    | succ fu ih2 =>
      intro vk hvk hA hmu ls hl
      refine lv_iload_n hx hb dX7_isRow_2 rfl (lv_at hl 3 rfl) ?_
      refine lv_aload_n hx hb dX7_isRow_3 rfl (lv_at hl 0 rfl) ?_
      refine kg (C := RX7) (T := TX7) (N := 32) (ci := 5) (k := 20) (v := .int (nI (μ.1 20))) S hK rfl inX7 (by decide) q_750 dX7_isRow_4 hM rfl rfl ?_
      refine n_icmp_ge (tgt := 77) hx hb dX7_isRow_7 (by decide) (by omega) (by omega) (fun c_7 => ?_) (fun c_7 => ?_)
      ·
        refine lv_aload_n hx hb dX7_isRow_77 rfl (lv_at hl 0 rfl) ?_
        refine kg (C := RX7) (T := TX7) (N := 32) (ci := 5) (k := 20) (v := .int (nI (μ.1 20))) S hK rfl inX7 (by decide) q_750 dX7_isRow_78 hM rfl rfl ?_
        refine n_if_le (tgt := 88) hx hb dX7_isRow_81 (by decide) (by omega) (fun c_81 => ?_) (fun c_81 => ?_)
        ·
          have hr : decide (rowP μ w h) = false := decide_eq_false (by
            rintro ⟨z, -⟩
            omega)
          refine lv_iconst (v := nI 0) hx hb dX7_isRow_88 (by decide) ?_
          refine w_top (v' := .int (b2i (decide (rowP μ w h)))) (bz_f (show (decide (rowP μ w h)) = false from hr)) ?_
          exact hE _ _ (kr_z dX7_isRow_89)
        ·
          have hr : decide (rowP μ w h) = true := decide_eq_true ⟨by omega, fun k hk => hA k (by omega)⟩
          refine lv_iconst (v := nI 1) hx hb dX7_isRow_84 (by decide) ?_
          refine lv_goto (tgt := 89) hx hb dX7_isRow_85 (by decide) ?_
          refine w_top (v' := .int (b2i (decide (rowP μ w h)))) (bz_t (show (decide (rowP μ w h)) = true from hr)) ?_
          exact hE _ _ (kr_z dX7_isRow_89)
      ·
        have hk99 := hr99 vk (by omega)
        refine lv_aload_n hx hb dX7_isRow_10 rfl (lv_at hl 0 rfl) ?_
        refine kg (C := RX7) (T := TX7) (N := 32) (ci := 5) (k := 15) (v := .ref (om + 16)) S hK rfl inX7 (by decide) q_745 dX7_isRow_11 hM rfl rfl ?_
        refine lv_iload_n hx hb dX7_isRow_14 rfl (lv_at hl 3 rfl) ?_
        refine kil (f := μ.2.1 15) S hK dX7_isRow_15 16 hM rfl (by decide) rfl (by omega) ?_
        refine lv_bipush (v := nI 10) hx hb dX7_isRow_16 (by decide) ?_
        refine n_idiv hx hb dX7_isRow_18 (by omega) (by decide) (by decide) ?_
        refine lv_iload_n hx hb dX7_isRow_19 rfl (lv_at hl 1 rfl) ?_
        refine n_icmp_ge (tgt := 36) hx hb dX7_isRow_20 (by decide) (by omega) (by omega) (fun c_20 => ?_) (fun c_20 => ?_)
        ·
          refine lv_iconst (v := nI 0) hx hb dX7_isRow_36 (by decide) ?_
          have hr : decide (rowP μ w h) = false := decide_eq_false (by
            rintro ⟨-, z⟩
            have z2 := (z vk (by omega)).1
            omega)
          refine w_top (v' := .int (b2i (decide (rowP μ w h)))) (bz_f (show (decide (rowP μ w h)) = false from hr)) ?_
          exact hE _ _ (kr_z dX7_isRow_37)
        ·
          refine lv_aload_n hx hb dX7_isRow_23 rfl (lv_at hl 0 rfl) ?_
          refine kg (C := RX7) (T := TX7) (N := 32) (ci := 5) (k := 15) (v := .ref (om + 16)) S hK rfl inX7 (by decide) q_745 dX7_isRow_24 hM rfl rfl ?_
          refine lv_iload_n hx hb dX7_isRow_27 rfl (lv_at hl 3 rfl) ?_
          refine kil (f := μ.2.1 15) S hK dX7_isRow_28 16 hM rfl (by decide) rfl (by omega) ?_
          refine lv_bipush (v := nI 10) hx hb dX7_isRow_29 (by decide) ?_
          refine n_irem hx hb dX7_isRow_31 (by omega) (by decide) (by decide) ?_
          refine lv_iload_n hx hb dX7_isRow_32 rfl (lv_at hl 2 rfl) ?_
          refine n_icmp_lt (tgt := 38) hx hb dX7_isRow_33 (by decide) (Nat.lt_trans (Nat.mod_lt _ (by decide)) (by decide)) (by omega) (fun c_33 => ?_) (fun c_33 => ?_)
          ·
            refine lv_iconst (v := nI 0) hx hb dX7_isRow_38 (by decide) ?_
            refine lv_istore (lv' := [(4, .int (nI 0)), (0, .ref om), (1, .int (nI w)), (2, .int (nI h)), (3, .int (nI vk))]) hx hb dX7_isRow_39 hl (by decide) rfl (fun ls hl => ?_)
            have L41 : ∀ (fu : Nat), ∀ (vi : Nat), (vi ≤ vk) → (∀ i, i < vi → ¬ μ.2.1 15 i = μ.2.1 15 vk) → vk - vi < fu → ∀ ls : Array Slot, lv_has ls 5 [(0, .ref om), (1, .int (nI w)), (2, .int (nI h)), (3, .int (nI vk)), (4, .int (nI vi))] → W zp l ze (rL 0 0 0) zs zm za zb zt zc zs.heap [] 0 0 Q (F0 zm 41 ls []) := by
              intro fu
              induction fu with
              | zero =>
                intro vi hvi hB hmu ls hl
                exact absurd hmu (Nat.not_lt_zero _)
              | succ fu ih41 =>
                intro vi hvi hB hmu ls hl
                refine lv_iload hx hb dX7_isRow_41 (lv_at hl 4 rfl) ?_
                refine lv_iload_n hx hb dX7_isRow_43 rfl (lv_at hl 3 rfl) ?_
                refine n_icmp_ge (tgt := 71) hx hb dX7_isRow_44 (by decide) (by omega) (by omega) (fun c_44 => ?_) (fun c_44 => ?_)
                ·
                  refine lv_iinc (v := nI (vk + 1)) (lv' := [(3, .int (nI (vk + 1))), (0, .ref om), (1, .int (nI w)), (2, .int (nI h)), (4, .int (nI vi))]) hx hb dX7_isRow_71 hl (k := 3) rfl (inc1 _) (by decide) rfl (fun ls hl => ?_)
                  refine lv_goto (tgt := 2) hx hb dX7_isRow_74 (by decide) ?_
                  exact ih2 (vk + 1) (by omega) (fun k hk => by
                    by_cases e : k = vk
                    · subst e
                      exact ⟨⟨by omega, by omega⟩, fun i hi => hB i (by omega)⟩
                    · exact hA k (by omega)) (by omega) ls (lv_sub hl [1, 2, 3, 0] rfl)
                ·
                  have hi99 := hr99 vi (by omega)
                  refine lv_aload_n hx hb dX7_isRow_47 rfl (lv_at hl 0 rfl) ?_
                  refine kg (C := RX7) (T := TX7) (N := 32) (ci := 5) (k := 15) (v := .ref (om + 16)) S hK rfl inX7 (by decide) q_745 dX7_isRow_48 hM rfl rfl ?_
                  refine lv_iload hx hb dX7_isRow_51 (lv_at hl 4 rfl) ?_
                  refine kil (f := μ.2.1 15) S hK dX7_isRow_53 16 hM rfl (by decide) rfl (by omega) ?_
                  refine lv_aload_n hx hb dX7_isRow_54 rfl (lv_at hl 0 rfl) ?_
                  refine kg (C := RX7) (T := TX7) (N := 32) (ci := 5) (k := 15) (v := .ref (om + 16)) S hK rfl inX7 (by decide) q_745 dX7_isRow_55 hM rfl rfl ?_
                  refine lv_iload_n hx hb dX7_isRow_58 rfl (lv_at hl 3 rfl) ?_
                  refine kil (f := μ.2.1 15) S hK dX7_isRow_59 16 hM rfl (by decide) rfl (by omega) ?_
                  refine n_icmp_ne (tgt := 65) hx hb dX7_isRow_60 (by decide) (by omega) (by omega) (fun c_60 => ?_) (fun c_60 => ?_)
                  ·
                    refine lv_iinc (v := nI (vi + 1)) (lv' := [(4, .int (nI (vi + 1))), (0, .ref om), (1, .int (nI w)), (2, .int (nI h)), (3, .int (nI vk))]) hx hb dX7_isRow_65 hl (k := 4) rfl (inc1 _) (by decide) rfl (fun ls hl => ?_)
                    refine lv_goto (tgt := 41) hx hb dX7_isRow_68 (by decide) ?_
                    exact ih41 (vi + 1) (by omega) (fun i hi => by
                      by_cases e : i = vi
                      · rw [e]; exact c_60
                      · exact hB i (by omega)) (by omega) ls (lv_sub hl [1, 2, 3, 4, 0] rfl)
                  ·
                    have hr : decide (rowP μ w h) = false := decide_eq_false (by
                      rintro ⟨-, z⟩
                      exact (z vk (by omega)).2 vi (by omega) c_60)
                    refine lv_iconst (v := nI 0) hx hb dX7_isRow_63 (by decide) ?_
                    refine w_top (v' := .int (b2i (decide (rowP μ w h)))) (bz_f (show (decide (rowP μ w h)) = false from hr)) ?_
                    exact hE _ _ (kr_z dX7_isRow_64)
            exact L41 ((vk - 0) + 1) 0 (Nat.zero_le _) (fun i hi => absurd hi (Nat.not_lt_zero i)) (Nat.lt_succ_self _) ls (lv_sub hl [1, 2, 3, 4, 0] rfl)
          ·
            refine lv_iconst (v := nI 0) hx hb dX7_isRow_36 (by decide) ?_
            have hr : decide (rowP μ w h) = false := decide_eq_false (by
              rintro ⟨-, z⟩
              have z2 := (z vk (by omega)).1
              omega)
            refine w_top (v' := .int (b2i (decide (rowP μ w h)))) (bz_f (show (decide (rowP μ w h)) = false from hr)) ?_
            exact hE _ _ (kr_z dX7_isRow_37)
  exact L2 ((μ.1 20 - 0) + 1) 0 (Nat.zero_le _) (fun k hk => absurd hk (Nat.not_lt_zero k)) (Nat.lt_succ_self _) ls (lv_sub hl [1, 2, 3, 0] rfl)

set_option maxHeartbeats 1000000 in
set_option maxRecDepth 100000 in
theorem c_X7_faceAt_s (l : Launch) (G : Gt) (om : Nat) (μ : Sx) (xy : Nat) (g : Nat) (hr0 : MIr μ) (hxy : xy < 200) (hq : fcA μ xy = some g) : Cr l G yX7_faceAt cX7_faceAt 3 ((some .int)) 0 [.ref om, .int (nI xy)] (fun H => bk G om (mL G om μ) H) (some (.int (nI g))) := by
  refine cr_entry [(0, .ref om), (1, .int (nI xy))] (by decide) (Nat.le_of_ble_eq_true rfl) rfl ?_
  intro zp ze zs zm za zb zt zc Q S hK hPre hE ls hl
  have hx := S.1
  have hb := S.2.1
  have hM := hPre
  obtain ⟨hr3, hr99⟩ := id hr0
  refine lv_iconst (v := nI 0) hx hb dX7_faceAt_0 (by decide) ?_
  refine lv_istore_n (lv' := [(2, .int (nI 0)), (0, .ref om), (1, .int (nI xy))]) hx hb dX7_faceAt_1 rfl hl (by decide) rfl (fun ls hl => ?_)
  have L2 : ∀ (fu : Nat), ∀ (vk : Nat), (vk ≤ μ.1 20) → (fcA μ xy = fnd (fun k => decide (μ.2.1 15 k = xy)) (μ.1 20 - vk) vk) → μ.1 20 - vk < fu → ∀ ls : Array Slot, lv_has ls 3 [(0, .ref om), (1, .int (nI xy)), (2, .int (nI vk))] → W zp l ze (rL 0 0 0) zs zm za zb zt zc zs.heap [] 0 0 Q (F0 zm 2 ls []) := by
    intro fu
    induction fu with
    | zero =>
      intro vk hvk hfd hmu ls hl
      exact absurd hmu (Nat.not_lt_zero _)
    | succ fu ih2 =>
      intro vk hvk hfd hmu ls hl
      refine lv_iload_n hx hb dX7_faceAt_2 rfl (lv_at hl 2 rfl) ?_
      refine lv_aload_n hx hb dX7_faceAt_3 rfl (lv_at hl 0 rfl) ?_
      refine kg (C := RX7) (T := TX7) (N := 32) (ci := 5) (k := 20) (v := .int (nI (μ.1 20))) S hK rfl inX7 (by decide) q_750 dX7_faceAt_4 hM rfl rfl ?_
      refine n_icmp_ge (tgt := 28) hx hb dX7_faceAt_7 (by decide) (by omega) (by omega) (fun c_7 => ?_) (fun c_7 => ?_)
      ·
        exact absurd (hq.symm.trans (hfd.trans (show fnd (fun k => decide (μ.2.1 15 k = xy)) (μ.1 20 - vk) vk = none from by rw [show μ.1 20 - vk = 0 from by omega]; rfl))) (by intro z; cases z)
      ·
        have hk99 := hr99 vk (by omega)
        refine lv_aload_n hx hb dX7_faceAt_10 rfl (lv_at hl 0 rfl) ?_
        refine kg (C := RX7) (T := TX7) (N := 32) (ci := 5) (k := 15) (v := .ref (om + 16)) S hK rfl inX7 (by decide) q_745 dX7_faceAt_11 hM rfl rfl ?_
        refine lv_iload_n hx hb dX7_faceAt_14 rfl (lv_at hl 2 rfl) ?_
        refine kil (f := μ.2.1 15) S hK dX7_faceAt_15 16 hM rfl (by decide) rfl (by omega) ?_
        refine lv_iload_n hx hb dX7_faceAt_16 rfl (lv_at hl 1 rfl) ?_
        refine n_icmp_ne (tgt := 22) hx hb dX7_faceAt_17 (by decide) (by omega) (by omega) (fun c_17 => ?_) (fun c_17 => ?_)
        ·
          refine lv_iinc (v := nI (vk + 1)) (lv' := [(2, .int (nI (vk + 1))), (0, .ref om), (1, .int (nI xy))]) hx hb dX7_faceAt_22 hl (k := 2) rfl (inc1 _) (by decide) rfl (fun ls hl => ?_)
          refine lv_goto (tgt := 2) hx hb dX7_faceAt_25 (by decide) ?_
          exact ih2 (vk + 1) (by omega) (by rw [hfd, show μ.1 20 - vk = (μ.1 20 - (vk + 1)) + 1 from by omega]; exact fnd_f (P := (fun k => decide (μ.2.1 15 k = xy))) (decide_eq_false c_17)) (by omega) ls (lv_sub hl [1, 2, 0] rfl)
        ·
          have hfs : fcA μ xy = some vk := by rw [hfd, show μ.1 20 - vk = (μ.1 20 - (vk + 1)) + 1 from by omega]; exact fnd_t (P := (fun k => decide (μ.2.1 15 k = xy))) (decide_eq_true c_17)
          have hr : vk = g := Option.some.inj (hfs.symm.trans hq)
          refine lv_iload_n hx hb dX7_faceAt_20 rfl (lv_at hl 2 rfl) ?_
          refine w_top (v' := .int (nI g)) (congrArg (fun z => Value.int (nI z)) (show vk = g from hr)) ?_
          exact hE _ _ (kr_i dX7_faceAt_21)
  exact L2 ((μ.1 20 - 0) + 1) 0 (Nat.zero_le _) rfl (Nat.lt_succ_self _) ls (lv_sub hl [1, 2, 0] rfl)

set_option maxHeartbeats 1000000 in
set_option maxRecDepth 100000 in
theorem c_X7_faceAt_n (l : Launch) (G : Gt) (om : Nat) (μ : Sx) (xy : Nat) (hr0 : MIr μ) (hxy : xy < 200) (hq : fcA μ xy = none) : Cr l G yX7_faceAt cX7_faceAt 3 ((some .int)) 0 [.ref om, .int (nI xy)] (fun H => bk G om (mL G om μ) H) (some (.int (-9))) := by
  refine cr_entry [(0, .ref om), (1, .int (nI xy))] (by decide) (Nat.le_of_ble_eq_true rfl) rfl ?_
  intro zp ze zs zm za zb zt zc Q S hK hPre hE ls hl
  have hx := S.1
  have hb := S.2.1
  have hM := hPre
  obtain ⟨hr3, hr99⟩ := id hr0
  refine lv_iconst (v := nI 0) hx hb dX7_faceAt_0 (by decide) ?_
  refine lv_istore_n (lv' := [(2, .int (nI 0)), (0, .ref om), (1, .int (nI xy))]) hx hb dX7_faceAt_1 rfl hl (by decide) rfl (fun ls hl => ?_)
  have L2 : ∀ (fu : Nat), ∀ (vk : Nat), (vk ≤ μ.1 20) → (fcA μ xy = fnd (fun k => decide (μ.2.1 15 k = xy)) (μ.1 20 - vk) vk) → μ.1 20 - vk < fu → ∀ ls : Array Slot, lv_has ls 3 [(0, .ref om), (1, .int (nI xy)), (2, .int (nI vk))] → W zp l ze (rL 0 0 0) zs zm za zb zt zc zs.heap [] 0 0 Q (F0 zm 2 ls []) := by
    intro fu
    induction fu with
    | zero =>
      intro vk hvk hfd hmu ls hl
      exact absurd hmu (Nat.not_lt_zero _)
    | succ fu ih2 =>
      intro vk hvk hfd hmu ls hl
      refine lv_iload_n hx hb dX7_faceAt_2 rfl (lv_at hl 2 rfl) ?_
      refine lv_aload_n hx hb dX7_faceAt_3 rfl (lv_at hl 0 rfl) ?_
      refine kg (C := RX7) (T := TX7) (N := 32) (ci := 5) (k := 20) (v := .int (nI (μ.1 20))) S hK rfl inX7 (by decide) q_750 dX7_faceAt_4 hM rfl rfl ?_
      refine n_icmp_ge (tgt := 28) hx hb dX7_faceAt_7 (by decide) (by omega) (by omega) (fun c_7 => ?_) (fun c_7 => ?_)
      ·
        refine lv_bipush (v := (-9)) hx hb dX7_faceAt_28 (by decide) ?_
        exact hE _ _ (kr_i dX7_faceAt_30)
      ·
        have hk99 := hr99 vk (by omega)
        refine lv_aload_n hx hb dX7_faceAt_10 rfl (lv_at hl 0 rfl) ?_
        refine kg (C := RX7) (T := TX7) (N := 32) (ci := 5) (k := 15) (v := .ref (om + 16)) S hK rfl inX7 (by decide) q_745 dX7_faceAt_11 hM rfl rfl ?_
        refine lv_iload_n hx hb dX7_faceAt_14 rfl (lv_at hl 2 rfl) ?_
        refine kil (f := μ.2.1 15) S hK dX7_faceAt_15 16 hM rfl (by decide) rfl (by omega) ?_
        refine lv_iload_n hx hb dX7_faceAt_16 rfl (lv_at hl 1 rfl) ?_
        refine n_icmp_ne (tgt := 22) hx hb dX7_faceAt_17 (by decide) (by omega) (by omega) (fun c_17 => ?_) (fun c_17 => ?_)
        ·
          refine lv_iinc (v := nI (vk + 1)) (lv' := [(2, .int (nI (vk + 1))), (0, .ref om), (1, .int (nI xy))]) hx hb dX7_faceAt_22 hl (k := 2) rfl (inc1 _) (by decide) rfl (fun ls hl => ?_)
          refine lv_goto (tgt := 2) hx hb dX7_faceAt_25 (by decide) ?_
          exact ih2 (vk + 1) (by omega) (by rw [hfd, show μ.1 20 - vk = (μ.1 20 - (vk + 1)) + 1 from by omega]; exact fnd_f (P := (fun k => decide (μ.2.1 15 k = xy))) (decide_eq_false c_17)) (by omega) ls (lv_sub hl [1, 2, 0] rfl)
        ·
          have hfs : fcA μ xy = some vk := by rw [hfd, show μ.1 20 - vk = (μ.1 20 - (vk + 1)) + 1 from by omega]; exact fnd_t (P := (fun k => decide (μ.2.1 15 k = xy))) (decide_eq_true c_17)
          exact absurd (hfs.symm.trans hq) (by intro z; cases z)
  exact L2 ((μ.1 20 - 0) + 1) 0 (Nat.zero_le _) rfl (Nat.lt_succ_self _) ls (lv_sub hl [1, 2, 0] rfl)
