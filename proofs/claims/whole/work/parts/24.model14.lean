
/-! walks: the reference's FACES that meet -/
theorem sq1 {u v : Nat} : u * u + v * v = 1 ↔ (u = 0 ∧ v = 1) ∨ (u = 1 ∧ v = 0) := by
  constructor
  · intro h
    have hu : u < 2 := by
      rcases Nat.lt_or_ge u 2 with q | q
      · exact q
      · have := Nat.mul_le_mul q q
        omega
    have hv : v < 2 := by
      rcases Nat.lt_or_ge v 2 with q | q
      · exact q
      · have := Nat.mul_le_mul q q
        omega
    have hu2 : u = 0 ∨ u = 1 := by omega
    have hv2 : v = 0 ∨ v = 1 := by omega
    rcases hu2 with e | e <;> rcases hv2 with e2 | e2 <;> subst e <;> subst e2 <;> omega
  · rintro (⟨e, e2⟩ | ⟨e, e2⟩) <;> subst e <;> subst e2 <;> rfl
def besB (a b : Nat) : Bool := decide ((a / 100 = b / 100 ∧ (a % 100 = b % 100 + 1 ∨ b % 100 = a % 100 + 1)) ∨ (a % 100 = b % 100 ∧ (a / 100 = b / 100 + 1 ∨ b / 100 = a / 100 + 1)))
theorem nI_subO (a b : Nat) : nI a - nI b = Int32.ofInt ((a : Int) - b) := by
  rw [Int32.ofInt_sub]
  rfl
theorem bes_i {a b : Nat} (ha : a < 1200) (hb : b < 1200) : ((nI (a / 100) - nI (b / 100)) * (nI (a / 100) - nI (b / 100)) + (nI (a % 100) - nI (b % 100)) * (nI (a % 100) - nI (b % 100)) = nI 1) ↔ besB a b = true := by
  rw [nI_subO, nI_subO, ← Int32.ofInt_mul, ← Int32.ofInt_mul, ← Int32.ofInt_add]
  have e1 := Int.natAbs_mul_self (a := ((a / 100 : Nat) : Int) - ((b / 100 : Nat) : Int))
  have e2 := Int.natAbs_mul_self (a := ((a % 100 : Nat) : Int) - ((b % 100 : Nat) : Int))
  rw [← e1, ← e2]
  generalize hu : (((a / 100 : Nat) : Int) - ((b / 100 : Nat) : Int)).natAbs = u
  generalize hv : (((a % 100 : Nat) : Int) - ((b % 100 : Nat) : Int)).natAbs = v
  have hu2 : u ≤ 100 := by omega
  have hv2 : v ≤ 100 := by omega
  have h3 := Nat.mul_le_mul hu2 hu2
  have h4 := Nat.mul_le_mul hv2 hv2
  have e3 : (Int32.ofInt (((u * u : Nat) : Int) + ((v * v : Nat) : Int)) = nI 1) ↔ u * u + v * v = 1 := by
    constructor
    · intro h
      have h5 := congrArg Int32.toInt h
      rw [nI_toInt (by decide), Int32.toInt_ofInt_of_le (by show -2147483648 ≤ _; omega) (by show _ < (2147483648 : Int); omega)] at h5
      omega
    · intro h
      apply Int32.toInt_inj.mp
      rw [nI_toInt (by decide), Int32.toInt_ofInt_of_le (by show -2147483648 ≤ _; omega) (by show _ < (2147483648 : Int); omega)]
      omega
  rw [e3, sq1]
  unfold besB
  rw [decide_eq_true_eq]
  omega
abbrev plN (μ : Sx) (k f : Nat) : Nat := match plM μ k f with
  | none => 0
  | some i => 100 * (i / 12) + i % 12
theorem plN_s {μ : Sx} {k f i : Nat} (h : plM μ k f = some i) : plN μ k f = 100 * (i / 12) + i % 12 := by
  show (match plM μ k f with | none => 0 | some i => 100 * (i / 12) + i % 12) = _
  rw [h]
abbrev fcL (μ : Sx) (o : Nat) : Nat := μ.2.1 3 (μ.2.1 12 o)
/-- every FACE laid lies somewhere -/
def MIg (μ : Sx) : Prop := ∀ o, o < μ.1 19 → ∀ g, g < fcL μ o → ∃ i, plM μ o g = some i
def mtZ (μ : Sx) (k f o g : Nat) : Bool := !decide (o = k) && besB (plN μ k f) (plN μ o g)
abbrev metM (μ : Sx) (k f i : Nat) : Int32 := frW (μ.1 19) (fcL μ) (mtZ μ k f) (nI i) (-9) 100 0 0 0
def meets_M (μ : Sx) (k f : Int32) : Int32 × Sx := if inI k (μ.1 19) then (if inI f (fcL μ (cx k)) then (metM μ (cx k) (cx f) 0, μ) else (-1, rfM μ 1)) else (-1, rfM μ 1)

set_option maxHeartbeats 1000000 in
set_option maxRecDepth 100000 in
theorem c_X7_place (l : Launch) (G : Gt) (om : Nat) (μ : Sx) (k : Nat) (f : Nat) (i : Nat) (h0 : MI0 μ) (hl0 : MIl μ) (hk0 : k < μ.1 19) (hf5 : f ≤ 5) (hq : plM μ k f = some i) : Cr l G yX7_place cX7_place 5 ((some .int)) 2 [.ref om, .int (nI k), .int (nI f)] (fun H => bk G om (mL G om μ) H) (some (.int (nI (100 * (i / 12) + i % 12)))) := by
  refine cr_entry [(0, .ref om), (1, .int (nI k)), (2, .int (nI f))] (by decide) (Nat.le_of_ble_eq_true rfl) rfl ?_
  intro zp ze zs zm za zb zt zc Q S hK hPre hE ls hl
  have hx := S.1
  have hb := S.2.1
  have hM := hPre
  have hp24 := h0.1
  have hl10 := hl0.1
  refine lv_iconst (v := nI 0) hx hb dX7_place_0 (by decide) ?_
  refine lv_istore_n (lv' := [(3, .int (nI 0)), (0, .ref om), (1, .int (nI k)), (2, .int (nI f))]) hx hb dX7_place_1 rfl hl (by decide) rfl (fun ls hl => ?_)
  have L2 : ∀ (fu : Nat), ∀ (vx : Nat), (vx ≤ 12) → (plM μ k f = fnd (fun i => decide (onM μ k (i / 12) (i % 12) = 10 + f)) (144 - 12 * vx) (12 * vx)) → 12 - vx < fu → ∀ ls : Array Slot, lv_has ls 5 [(0, .ref om), (1, .int (nI k)), (2, .int (nI f)), (3, .int (nI vx))] → W zp l ze (rL 2 0 0) zs zm za zb zt zc zs.heap [] 0 0 Q (F0 zm 2 ls []) := by
    intro fu
    induction fu with
    | zero =>
      intro vx hvx hfd hmu ls hl
      exact absurd hmu (Nat.not_lt_zero _)
    | succ fu ih2 =>
      intro vx hvx hfd hmu ls hl
      refine lv_iload_n hx hb dX7_place_2 rfl (lv_at hl 3 rfl) ?_
      refine lv_bipush (v := nI 12) hx hb dX7_place_3 (by decide) ?_
      refine n_icmp_ge (tgt := 53) hx hb dX7_place_5 (by decide) (by omega) (by decide) (fun c_5 => ?_) (fun c_5 => ?_)
      ·
        exact absurd (hq.symm.trans (hfd.trans (show fnd (fun i => decide (onM μ k (i / 12) (i % 12) = 10 + f)) (144 - 12 * vx) (12 * vx) = none from by rw [show 144 - 12 * vx = 0 from by omega]; rfl))) (by intro z; cases z)
      ·
        refine lv_iconst (v := nI 0) hx hb dX7_place_8 (by decide) ?_
        refine lv_istore (lv' := [(4, .int (nI 0)), (0, .ref om), (1, .int (nI k)), (2, .int (nI f)), (3, .int (nI vx))]) hx hb dX7_place_9 hl (by decide) rfl (fun ls hl => ?_)
        have L11 : ∀ (fu : Nat), ∀ (vy : Nat), (vy ≤ 12) → (plM μ k f = fnd (fun i => decide (onM μ k (i / 12) (i % 12) = 10 + f)) (144 - (12 * vx + vy)) (12 * vx + vy)) → 12 - vy < fu → ∀ ls : Array Slot, lv_has ls 5 [(0, .ref om), (1, .int (nI k)), (2, .int (nI f)), (3, .int (nI vx)), (4, .int (nI vy))] → W zp l ze (rL 2 0 0) zs zm za zb zt zc zs.heap [] 0 0 Q (F0 zm 11 ls []) := by
          intro fu
          induction fu with
          | zero =>
            intro vy hvy hfe hmu ls hl
            exact absurd hmu (Nat.not_lt_zero _)
          | succ fu ih11 =>
            intro vy hvy hfe hmu ls hl
            refine lv_iload hx hb dX7_place_11 (lv_at hl 4 rfl) ?_
            refine lv_bipush (v := nI 12) hx hb dX7_place_13 (by decide) ?_
            refine n_icmp_ge (tgt := 47) hx hb dX7_place_15 (by decide) (by omega) (by decide) (fun c_15 => ?_) (fun c_15 => ?_)
            ·
              refine lv_iinc (v := nI (vx + 1)) (lv' := [(3, .int (nI (vx + 1))), (0, .ref om), (1, .int (nI k)), (2, .int (nI f)), (4, .int (nI vy))]) hx hb dX7_place_47 hl (k := 3) rfl (inc1 _) (by decide) rfl (fun ls hl => ?_)
              refine lv_goto (tgt := 2) hx hb dX7_place_50 (by decide) ?_
              exact ih2 (vx + 1) (by omega) (by rw [hfe, show 12 * vx + vy = 12 * (vx + 1) from by omega]) (by omega) ls (lv_sub hl [1, 2, 3, 0] rfl)
            ·
              have e1 : (12 * vx + vy) / 12 = vx := by omega
              have e2 : (12 * vx + vy) % 12 = vy := by omega
              have hon := on_lt h0 hl0 hk0 vx vy
              refine lv_aload_n hx hb dX7_place_18 rfl (lv_at hl 0 rfl) ?_
              refine lv_iload_n hx hb dX7_place_19 rfl (lv_at hl 1 rfl) ?_
              refine lv_iload_n hx hb dX7_place_20 rfl (lv_at hl 3 rfl) ?_
              refine lv_iload hx hb dX7_place_21 (lv_at hl 4 rfl) ?_
              refine crV (rest := []) S hK (c_X7_on l G om μ k vx vy (by first | assumption | omega | decide) (by first | assumption | omega | decide) (by first | assumption | omega | decide) (by first | assumption | omega | decide) (by first | assumption | omega | decide)) cw_X7_265 rfl ⟨Nat.le_of_ble_eq_true rfl, Nat.le_of_ble_eq_true rfl⟩ ⟨Nat.le_of_ble_eq_true rfl, Nat.le_of_ble_eq_true rfl⟩ (bk.recv hK hM rfl rfl) hl.1 rfl (Nat.le_of_ble_eq_true rfl) dX7_place_23 hM ?_
              refine lv_bipush (v := nI 10) hx hb dX7_place_26 (by decide) ?_
              refine lv_iload_n hx hb dX7_place_28 rfl (lv_at hl 2 rfl) ?_
              refine n_iadd hx hb dX7_place_29 ?_
              refine n_icmp_ne (tgt := 41) hx hb dX7_place_30 (by decide) (by omega) (by omega) (fun c_30 => ?_) (fun c_30 => ?_)
              ·
                refine lv_iinc (v := nI (vy + 1)) (lv' := [(4, .int (nI (vy + 1))), (0, .ref om), (1, .int (nI k)), (2, .int (nI f)), (3, .int (nI vx))]) hx hb dX7_place_41 hl (k := 4) rfl (inc1 _) (by decide) rfl (fun ls hl => ?_)
                refine lv_goto (tgt := 11) hx hb dX7_place_44 (by decide) ?_
                exact ih11 (vy + 1) (by omega) (by rw [hfe, show 144 - (12 * vx + vy) = (144 - (12 * vx + (vy + 1))) + 1 from by omega]; exact fnd_f (P := (fun i => decide (onM μ k (i / 12) (i % 12) = 10 + f))) (decide_eq_false (by rw [e1, e2]; exact c_30))) (by omega) ls (lv_sub hl [1, 2, 3, 4, 0] rfl)
              ·
                have hi : i = 12 * vx + vy := by
                  have q := hq.symm.trans hfe
                  rw [show 144 - (12 * vx + vy) = (144 - (12 * vx + (vy + 1))) + 1 from by omega, fnd_t (P := (fun i => decide (onM μ k (i / 12) (i % 12) = 10 + f))) (decide_eq_true (by rw [e1, e2]; exact c_30))] at q
                  exact Option.some.inj q
                refine lv_bipush (v := nI 100) hx hb dX7_place_33 (by decide) ?_
                refine lv_iload_n hx hb dX7_place_35 rfl (lv_at hl 3 rfl) ?_
                refine n_imul hx hb dX7_place_36 ?_
                refine lv_iload hx hb dX7_place_37 (lv_at hl 4 rfl) ?_
                refine n_iadd hx hb dX7_place_39 ?_
                refine w_top (v' := .int (nI (100 * (i / 12) + i % 12))) (congrArg (fun z => Value.int (nI z)) (show ((100 * vx) + vy) = (100 * (i / 12) + i % 12) from (by omega))) ?_
                exact hE _ _ (kr_i dX7_place_40)
        exact L11 ((12 - 0) + 1) 0 (Nat.zero_le _) hfd (Nat.lt_succ_self _) ls (lv_sub hl [1, 2, 3, 4, 0] rfl)
  exact L2 ((12 - 0) + 1) 0 (Nat.zero_le _) rfl (Nat.lt_succ_self _) ls (lv_sub hl [1, 2, 3, 0] rfl)

set_option maxHeartbeats 1000000 in
set_option maxRecDepth 100000 in
theorem c_X7_isBeside (l : Launch) (G : Gt) (a : Nat) (b : Nat) (ha : a < 1200) (hb1 : b < 1200) : Cr l G yX7_isBeside cX7_isBeside 4 ((some .boolean)) 0 [.int (nI a), .int (nI b)] (fun H => True) (some (.int (b2i (besB a b)))) := by
  refine cr_entry [(0, .int (nI a)), (1, .int (nI b))] (by decide) (Nat.le_of_ble_eq_true rfl) rfl ?_
  intro zp ze zs zm za zb zt zc Q S hK hPre hE ls hl
  have hx := S.1
  have hb := S.2.1
  refine lv_iload_n hx hb dX7_isBeside_0 rfl (lv_at hl 0 rfl) ?_
  refine lv_bipush (v := nI 100) hx hb dX7_isBeside_1 (by decide) ?_
  refine n_idiv hx hb dX7_isBeside_3 (by omega) (by decide) (by decide) ?_
  refine lv_iload_n hx hb dX7_isBeside_4 rfl (lv_at hl 1 rfl) ?_
  refine lv_bipush (v := nI 100) hx hb dX7_isBeside_5 (by decide) ?_
  refine n_idiv hx hb dX7_isBeside_7 (by omega) (by decide) (by decide) ?_
  refine lv_isub hx hb dX7_isBeside_8 ?_
  refine lv_istore_n (lv' := [(2, .int ((nI (a / 100)) - (nI (b / 100)))), (0, .int (nI a)), (1, .int (nI b))]) hx hb dX7_isBeside_9 rfl hl (by decide) rfl (fun ls hl => ?_)
  refine lv_iload_n hx hb dX7_isBeside_10 rfl (lv_at hl 1 rfl) ?_
  refine lv_bipush (v := nI 100) hx hb dX7_isBeside_11 (by decide) ?_
  refine n_irem hx hb dX7_isBeside_13 (by omega) (by decide) (by decide) ?_
  refine lv_iload_n hx hb dX7_isBeside_14 rfl (lv_at hl 2 rfl) ?_
  refine lv_bipush (v := nI 100) hx hb dX7_isBeside_15 (by decide) ?_
  refine n_irem hx hb dX7_isBeside_17 (by omega) (by decide) (by decide) ?_
  refine lv_isub hx hb dX7_isBeside_18 ?_
  refine lv_istore_n (lv' := [(3, .int ((nI (a % 100)) - (nI (b % 100)))), (2, .int ((nI (a / 100)) - (nI (b / 100)))), (0, .int (nI a)), (1, .int (nI b))]) hx hb dX7_isBeside_19 rfl hl (by decide) rfl (fun ls hl => ?_)
  refine lv_iload_n hx hb dX7_isBeside_20 rfl (lv_at hl 1 rfl) ?_
  refine lv_iload_n hx hb dX7_isBeside_21 rfl (lv_at hl 1 rfl) ?_
  refine lv_imul hx hb dX7_isBeside_22 ?_
  refine lv_iload_n hx hb dX7_isBeside_23 rfl (lv_at hl 0 rfl) ?_
  refine lv_iload_n hx hb dX7_isBeside_24 rfl (lv_at hl 0 rfl) ?_
  refine lv_imul hx hb dX7_isBeside_25 ?_
  refine lv_iadd hx hb dX7_isBeside_26 ?_
  refine lv_iconst (v := nI 1) hx hb dX7_isBeside_27 (by decide) ?_
  refine lv_icmp_ne (tgt := 35) hx hb dX7_isBeside_28 (by decide) (fun c_28 => ?_) (fun c_28 => ?_)
  ·
    have hr : besB a b = false := by
      cases hq : besB a b
      · rfl
      · exact absurd ((bes_i ha hb1).mpr hq) c_28
    refine lv_iconst (v := nI 0) hx hb dX7_isBeside_35 (by decide) ?_
    refine w_top (v' := .int (b2i (besB a b))) (bz_f (show (besB a b) = false from hr)) ?_
    exact hE _ _ (kr_z dX7_isBeside_36)
  ·
    have hr : besB a b = true := (bes_i ha hb1).mp c_28
    refine lv_iconst (v := nI 1) hx hb dX7_isBeside_31 (by decide) ?_
    refine lv_goto (tgt := 36) hx hb dX7_isBeside_32 (by decide) ?_
    refine w_top (v' := .int (b2i (besB a b))) (bz_t (show (besB a b) = true from hr)) ?_
    exact hE _ _ (kr_z dX7_isBeside_36)

set_option maxHeartbeats 1000000 in
set_option maxRecDepth 100000 in
theorem c_X7_overlapped (l : Launch) (G : Gt) (om : Nat) (μ : Sx) (h0 : MI0 μ) (hl0 : MIl μ) : Cr l G yX7_overlapped cX7_overlapped 4 ((some .int)) 2 [.ref om] (fun H => bk G om (mL G om μ) H) (some (.int (overlap_M μ))) := by
  refine cr_entry [(0, .ref om)] (by decide) (Nat.le_of_ble_eq_true rfl) rfl ?_
  intro zp ze zs zm za zb zt zc Q S hK hPre hE ls hl
  have hx := S.1
  have hb := S.2.1
  have hM := hPre
  have hp24 := h0.1
  have hl10 := hl0.1
  refine lv_iconst (v := nI 0) hx hb dX7_overlapped_0 (by decide) ?_
  refine lv_istore_n (lv' := [(1, .int (nI 0)), (0, .ref om)]) hx hb dX7_overlapped_1 rfl hl (by decide) rfl (fun ls hl => ?_)
  have L2 : ∀ (fu : Nat), ∀ (va : Nat), (va ≤ μ.1 19) → (fnd (fun a => (ovA μ a).isSome) (μ.1 19) 0 = fnd (fun a => (ovA μ a).isSome) (μ.1 19 - va) va) → μ.1 19 - va < fu → ∀ ls : Array Slot, lv_has ls 4 [(0, .ref om), (1, .int (nI va))] → W zp l ze (rL 2 0 0) zs zm za zb zt zc zs.heap [] 0 0 Q (F0 zm 2 ls []) := by
    intro fu
    induction fu with
    | zero =>
      intro va hva hfa hmu ls hl
      exact absurd hmu (Nat.not_lt_zero _)
    | succ fu ih2 =>
      intro va hva hfa hmu ls hl
      refine lv_iload_n hx hb dX7_overlapped_2 rfl (lv_at hl 1 rfl) ?_
      refine lv_aload_n hx hb dX7_overlapped_3 rfl (lv_at hl 0 rfl) ?_
      refine kg (C := RX7) (T := TX7) (N := 32) (ci := 5) (k := 19) (v := .int (nI (μ.1 19))) S hK rfl inX7 (by decide) q_749 dX7_overlapped_4 hM rfl rfl ?_
      refine n_icmp_ge (tgt := 88) hx hb dX7_overlapped_7 (by decide) (by omega) (by omega) (fun c_7 => ?_) (fun c_7 => ?_)
      ·
        have hr : (-9 : Int32) = overlap_M μ := (ovl_n (by rw [hfa, show μ.1 19 - va = 0 from by omega]; rfl)).symm
        refine lv_bipush (v := (-9)) hx hb dX7_overlapped_88 (by decide) ?_
        refine w_top (v' := .int (overlap_M μ)) (congrArg (fun z => Value.int z) (show (-9) = (overlap_M μ) from hr)) ?_
        exact hE _ _ (kr_i dX7_overlapped_90)
      ·
        refine lv_iload_n hx hb dX7_overlapped_10 rfl (lv_at hl 1 rfl) ?_
        refine lv_iconst (v := nI 1) hx hb dX7_overlapped_11 (by decide) ?_
        refine n_iadd hx hb dX7_overlapped_12 ?_
        refine lv_istore_n (lv' := [(2, .int (nI (va + 1))), (0, .ref om), (1, .int (nI va))]) hx hb dX7_overlapped_13 rfl hl (by decide) rfl (fun ls hl => ?_)
        have L14 : ∀ (fu : Nat), ∀ (vb : Nat), (vb ≤ μ.1 19) → (va < vb) → (ovA μ va = fnd (fun b => ovB μ va b) (μ.1 19 - vb) vb) → μ.1 19 - vb < fu → ∀ ls : Array Slot, lv_has ls 4 [(0, .ref om), (1, .int (nI va)), (2, .int (nI vb))] → W zp l ze (rL 2 0 0) zs zm za zb zt zc zs.heap [] 0 0 Q (F0 zm 14 ls []) := by
          intro fu
          induction fu with
          | zero =>
            intro vb hvb hvb2 hfb hmu ls hl
            exact absurd hmu (Nat.not_lt_zero _)
          | succ fu ih14 =>
            intro vb hvb hvb2 hfb hmu ls hl
            refine lv_iload_n hx hb dX7_overlapped_14 rfl (lv_at hl 2 rfl) ?_
            refine lv_aload_n hx hb dX7_overlapped_15 rfl (lv_at hl 0 rfl) ?_
            refine kg (C := RX7) (T := TX7) (N := 32) (ci := 5) (k := 19) (v := .int (nI (μ.1 19))) S hK rfl inX7 (by decide) q_749 dX7_overlapped_16 hM rfl rfl ?_
            refine n_icmp_ge (tgt := 82) hx hb dX7_overlapped_19 (by decide) (by omega) (by omega) (fun c_19 => ?_) (fun c_19 => ?_)
            ·
              refine lv_iinc (v := nI (va + 1)) (lv' := [(1, .int (nI (va + 1))), (0, .ref om), (2, .int (nI vb))]) hx hb dX7_overlapped_82 hl (k := 1) rfl (inc1 _) (by decide) rfl (fun ls hl => ?_)
              refine lv_goto (tgt := 2) hx hb dX7_overlapped_85 (by decide) ?_
              exact ih2 (va + 1) (by omega) (by rw [hfa, show μ.1 19 - va = (μ.1 19 - (va + 1)) + 1 from by omega]; exact fnd_f (P := (fun a => (ovA μ a).isSome)) (by show (ovA μ va).isSome = false; rw [hfb, show μ.1 19 - vb = 0 from by omega]; rfl)) (by omega) ls (lv_sub hl [1, 0] rfl)
            ·
              refine lv_iconst (v := nI 0) hx hb dX7_overlapped_22 (by decide) ?_
              refine lv_istore_n (lv' := [(3, .int (nI 0)), (0, .ref om), (1, .int (nI va)), (2, .int (nI vb))]) hx hb dX7_overlapped_23 rfl hl (by decide) rfl (fun ls hl => ?_)
              have L24 : ∀ (fu : Nat), ∀ (vk : Nat), (vk ≤ 144) → (fnd (fun i => !decide (onM μ va (i / 12) (i % 12) = 0) && !decide (onM μ vb (i / 12) (i % 12) = 0)) 144 0 = fnd (fun i => !decide (onM μ va (i / 12) (i % 12) = 0) && !decide (onM μ vb (i / 12) (i % 12) = 0)) (144 - vk) vk) → 144 - vk < fu → ∀ ls : Array Slot, lv_has ls 4 [(0, .ref om), (1, .int (nI va)), (2, .int (nI vb)), (3, .int (nI vk))] → W zp l ze (rL 2 0 0) zs zm za zb zt zc zs.heap [] 0 0 Q (F0 zm 24 ls []) := by
                intro fu
                induction fu with
                | zero =>
                  intro vk hvk hfk hmu ls hl
                  exact absurd hmu (Nat.not_lt_zero _)
                | succ fu ih24 =>
                  intro vk hvk hfk hmu ls hl
                  refine lv_iload_n hx hb dX7_overlapped_24 rfl (lv_at hl 3 rfl) ?_
                  refine lv_sipush (v := nI 144) hx hb dX7_overlapped_25 (by decide) ?_
                  refine n_icmp_ge (tgt := 76) hx hb dX7_overlapped_28 (by decide) (by omega) (by decide) (fun c_28 => ?_) (fun c_28 => ?_)
                  ·
                    refine lv_iinc (v := nI (vb + 1)) (lv' := [(2, .int (nI (vb + 1))), (0, .ref om), (1, .int (nI va)), (3, .int (nI vk))]) hx hb dX7_overlapped_76 hl (k := 2) rfl (inc1 _) (by decide) rfl (fun ls hl => ?_)
                    refine lv_goto (tgt := 14) hx hb dX7_overlapped_79 (by decide) ?_
                    exact ih14 (vb + 1) (by omega) (by omega) (by rw [hfb, show μ.1 19 - vb = (μ.1 19 - (vb + 1)) + 1 from by omega]; exact fnd_f (P := (fun b => ovB μ va b)) (by show (fnd (fun i => !decide (onM μ va (i / 12) (i % 12) = 0) && !decide (onM μ vb (i / 12) (i % 12) = 0)) 144 0).isSome = false; rw [hfk, show 144 - vk = 0 from by omega]; rfl)) (by omega) ls (lv_sub hl [1, 2, 0] rfl)
                  ·
                    have hon1 := on_lt h0 hl0 (show va < μ.1 19 by omega) (vk / 12) (vk % 12)
                    have hon2 := on_lt h0 hl0 (show vb < μ.1 19 by omega) (vk / 12) (vk % 12)
                    refine lv_aload_n hx hb dX7_overlapped_31 rfl (lv_at hl 0 rfl) ?_
                    refine lv_iload_n hx hb dX7_overlapped_32 rfl (lv_at hl 1 rfl) ?_
                    refine lv_iload_n hx hb dX7_overlapped_33 rfl (lv_at hl 3 rfl) ?_
                    refine lv_bipush (v := nI 12) hx hb dX7_overlapped_34 (by decide) ?_
                    refine n_idiv hx hb dX7_overlapped_36 (by omega) (by decide) (by decide) ?_
                    refine lv_iload_n hx hb dX7_overlapped_37 rfl (lv_at hl 3 rfl) ?_
                    refine lv_bipush (v := nI 12) hx hb dX7_overlapped_38 (by decide) ?_
                    refine n_irem hx hb dX7_overlapped_40 (by omega) (by decide) (by decide) ?_
                    refine crV (rest := []) S hK (c_X7_on l G om μ va (vk / 12) (vk % 12) (by first | assumption | omega | decide) (by first | assumption | omega | decide) (by first | assumption | omega | decide) (by first | assumption | omega | decide) (by first | assumption | omega | decide)) cw_X7_265 rfl ⟨Nat.le_of_ble_eq_true rfl, Nat.le_of_ble_eq_true rfl⟩ ⟨Nat.le_of_ble_eq_true rfl, Nat.le_of_ble_eq_true rfl⟩ (bk.recv hK hM rfl rfl) hl.1 rfl (Nat.le_of_ble_eq_true rfl) dX7_overlapped_41 hM ?_
                    refine n_if_eq (tgt := 70) hx hb dX7_overlapped_44 (by decide) (by omega) (fun c_44 => ?_) (fun c_44 => ?_)
                    ·
                      refine lv_iinc (v := nI (vk + 1)) (lv' := [(3, .int (nI (vk + 1))), (0, .ref om), (1, .int (nI va)), (2, .int (nI vb))]) hx hb dX7_overlapped_70 hl (k := 3) rfl (inc1 _) (by decide) rfl (fun ls hl => ?_)
                      refine lv_goto (tgt := 24) hx hb dX7_overlapped_73 (by decide) ?_
                      exact ih24 (vk + 1) (by omega) (by rw [hfk, show 144 - vk = (144 - (vk + 1)) + 1 from by omega]; exact fnd_f (P := (fun i => !decide (onM μ va (i / 12) (i % 12) = 0) && !decide (onM μ vb (i / 12) (i % 12) = 0))) (by show (!decide _ && !decide _) = false; rw [decide_eq_true (p := onM μ va (vk / 12) (vk % 12) = 0) c_44]; rfl)) (by omega) ls (lv_sub hl [1, 2, 3, 0] rfl)
                    ·
                      refine lv_aload_n hx hb dX7_overlapped_47 rfl (lv_at hl 0 rfl) ?_
                      refine lv_iload_n hx hb dX7_overlapped_48 rfl (lv_at hl 2 rfl) ?_
                      refine lv_iload_n hx hb dX7_overlapped_49 rfl (lv_at hl 3 rfl) ?_
                      refine lv_bipush (v := nI 12) hx hb dX7_overlapped_50 (by decide) ?_
                      refine n_idiv hx hb dX7_overlapped_52 (by omega) (by decide) (by decide) ?_
                      refine lv_iload_n hx hb dX7_overlapped_53 rfl (lv_at hl 3 rfl) ?_
                      refine lv_bipush (v := nI 12) hx hb dX7_overlapped_54 (by decide) ?_
                      refine n_irem hx hb dX7_overlapped_56 (by omega) (by decide) (by decide) ?_
                      refine crV (rest := []) S hK (c_X7_on l G om μ vb (vk / 12) (vk % 12) (by first | assumption | omega | decide) (by first | assumption | omega | decide) (by first | assumption | omega | decide) (by first | assumption | omega | decide) (by first | assumption | omega | decide)) cw_X7_265 rfl ⟨Nat.le_of_ble_eq_true rfl, Nat.le_of_ble_eq_true rfl⟩ ⟨Nat.le_of_ble_eq_true rfl, Nat.le_of_ble_eq_true rfl⟩ (bk.recv hK hM rfl rfl) hl.1 rfl (Nat.le_of_ble_eq_true rfl) dX7_overlapped_57 hM ?_
                      refine n_if_eq (tgt := 70) hx hb dX7_overlapped_60 (by decide) (by omega) (fun c_60 => ?_) (fun c_60 => ?_)
                      ·
                        refine lv_iinc (v := nI (vk + 1)) (lv' := [(3, .int (nI (vk + 1))), (0, .ref om), (1, .int (nI va)), (2, .int (nI vb))]) hx hb dX7_overlapped_70 hl (k := 3) rfl (inc1 _) (by decide) rfl (fun ls hl => ?_)
                        refine lv_goto (tgt := 24) hx hb dX7_overlapped_73 (by decide) ?_
                        exact ih24 (vk + 1) (by omega) (by rw [hfk, show 144 - vk = (144 - (vk + 1)) + 1 from by omega]; exact fnd_f (P := (fun i => !decide (onM μ va (i / 12) (i % 12) = 0) && !decide (onM μ vb (i / 12) (i % 12) = 0))) (by show (!decide _ && !decide _) = false; rw [decide_eq_true (p := onM μ vb (vk / 12) (vk % 12) = 0) c_60]; simp)) (by omega) ls (lv_sub hl [1, 2, 3, 0] rfl)
                      ·
                        have hab : ovB μ va vb = true := by
                          show (fnd (fun i => !decide (onM μ va (i / 12) (i % 12) = 0) && !decide (onM μ vb (i / 12) (i % 12) = 0)) 144 0).isSome = true
                          rw [hfk, show 144 - vk = (144 - (vk + 1)) + 1 from by omega, fnd_t (P := (fun i => !decide (onM μ va (i / 12) (i % 12) = 0) && !decide (onM μ vb (i / 12) (i % 12) = 0))) (by show (!decide _ && !decide _) = true; rw [decide_eq_false (p := onM μ va (vk / 12) (vk % 12) = 0) c_44, decide_eq_false (p := onM μ vb (vk / 12) (vk % 12) = 0) c_60]; rfl)]
                          rfl
                        have hvA : ovA μ va = some vb := by rw [hfb, show μ.1 19 - vb = (μ.1 19 - (vb + 1)) + 1 from by omega]; exact fnd_t (P := (fun b => ovB μ va b)) hab
                        have hr : nI (10 * va + vb) = overlap_M μ := (ovl_s (by rw [hfa, show μ.1 19 - va = (μ.1 19 - (va + 1)) + 1 from by omega]; exact fnd_t (P := (fun a => (ovA μ a).isSome)) (by show (ovA μ va).isSome = true; rw [hvA]; rfl)) hvA).symm
                        refine lv_bipush (v := nI 10) hx hb dX7_overlapped_63 (by decide) ?_
                        refine lv_iload_n hx hb dX7_overlapped_65 rfl (lv_at hl 1 rfl) ?_
                        refine n_imul hx hb dX7_overlapped_66 ?_
                        refine lv_iload_n hx hb dX7_overlapped_67 rfl (lv_at hl 2 rfl) ?_
                        refine n_iadd hx hb dX7_overlapped_68 ?_
                        refine w_top (v' := .int (overlap_M μ)) (show (.int (nI ((10 * va) + vb)) : Value) = .int (overlap_M μ) from (congrArg (fun z => Value.int z) hr)) ?_
                        exact hE _ _ (kr_i dX7_overlapped_69)
              exact L24 ((144 - 0) + 1) 0 (Nat.zero_le _) rfl (Nat.lt_succ_self _) ls (lv_sub hl [1, 2, 3, 0] rfl)
        exact L14 ((μ.1 19 - (va + 1)) + 1) (va + 1) (by omega) (by omega) rfl (Nat.lt_succ_self _) ls (lv_sub hl [1, 2, 0] rfl)
  exact L2 ((μ.1 19 - 0) + 1) 0 (Nat.zero_le _) rfl (Nat.lt_succ_self _) ls (lv_sub hl [1, 0] rfl)

set_option maxHeartbeats 1000000 in
set_option maxRecDepth 100000 in
theorem c_X7_overlap (l : Launch) (G : Gt) (om : Nat) (μ : Sx) (h0 : MI0 μ) (hl0 : MIl μ) : Cr l G yX7_overlap cX7_overlap 1 ((some .int)) 3 [.ref om] (fun H => bk G om (mL G om μ) H) (some (.int (overlap_M μ))) := by
  refine cr_entry [(0, .ref om)] (by decide) (Nat.le_of_ble_eq_true rfl) rfl ?_
  intro zp ze zs zm za zb zt zc Q S hK hPre hE ls hl
  have hx := S.1
  have hb := S.2.1
  have hM := hPre
  refine lv_aload_n hx hb dX7_overlap_0 rfl (lv_at hl 0 rfl) ?_
  refine crV (rest := []) S hK (c_X7_overlapped l G om μ (by first | assumption | omega | decide) (by first | assumption | omega | decide)) cw_X7_268 rfl ⟨Nat.le_of_ble_eq_true rfl, Nat.le_of_ble_eq_true rfl⟩ ⟨Nat.le_of_ble_eq_true rfl, Nat.le_of_ble_eq_true rfl⟩ (bk.recv hK hM rfl rfl) hl.1 rfl (Nat.le_of_ble_eq_true rfl) dX7_overlap_1 hM ?_
  exact hE _ _ (kr_i dX7_overlap_4)

set_option maxHeartbeats 1000000 in
set_option maxRecDepth 100000 in
theorem c_X7_met (l : Launch) (G : Gt) (om : Nat) (μ : Sx) (k : Nat) (f : Nat) (i : Nat) (h0 : MI0 μ) (hl0 : MIl μ) (hg0 : MIg μ) (hk0 : k < μ.1 19) (hf0 : f < fcL μ k) (hi2 : i < 100) : Cr l G yX7_met cX7_met 8 ((some .int)) 3 [.ref om, .int (nI k), .int (nI f), .int (nI i)] (fun H => bk G om (mL G om μ) H) (some (.int (metM μ k f i))) := by
  refine cr_entry [(0, .ref om), (1, .int (nI k)), (2, .int (nI f)), (3, .int (nI i))] (by decide) (Nat.le_of_ble_eq_true rfl) rfl ?_
  intro zp ze zs zm za zb zt zc Q S hK hPre hE ls hl
  have hx := S.1
  have hb := S.2.1
  have hM := hPre
  have hp24 := h0.1
  have hl10 := hl0.1
  have hfo : ∀ o, o < μ.1 19 → μ.2.1 12 o < 24 ∧ fcL μ o ≤ 5 := fun o ho => ⟨by have := (hl0.2 o ho).1; omega, (h0.2 _ (hl0.2 o ho).1).2.2.2.2.1⟩
  obtain ⟨vo, hvo⟩ := hg0 k hk0 f hf0
  have hvo9 := (fnd_lt _ _ hvo).2.1
  have hkf := (hfo k hk0).2
  refine lv_aload_n hx hb dX7_met_0 rfl (lv_at hl 0 rfl) ?_
  refine lv_iload_n hx hb dX7_met_1 rfl (lv_at hl 1 rfl) ?_
  refine lv_iload_n hx hb dX7_met_2 rfl (lv_at hl 2 rfl) ?_
  refine crV (rest := []) S hK (c_X7_place l G om μ k f vo (by first | assumption | omega | decide) (by first | assumption | omega | decide) (by first | assumption | omega | decide) (by omega) hvo) cw_X7_271 rfl ⟨Nat.le_of_ble_eq_true rfl, Nat.le_of_ble_eq_true rfl⟩ ⟨Nat.le_of_ble_eq_true rfl, Nat.le_of_ble_eq_true rfl⟩ (bk.recv hK hM rfl rfl) hl.1 rfl (Nat.le_of_ble_eq_true rfl) dX7_met_3 hM ?_
  refine lv_istore (lv' := [(4, .int (nI (100 * (vo / 12) + vo % 12))), (0, .ref om), (1, .int (nI k)), (2, .int (nI f)), (3, .int (nI i))]) hx hb dX7_met_6 hl (by decide) rfl (fun ls hl => ?_)
  refine lv_iconst (v := nI 0) hx hb dX7_met_8 (by decide) ?_
  refine lv_istore (lv' := [(5, .int (nI 0)), (4, .int (nI (100 * (vo / 12) + vo % 12))), (0, .ref om), (1, .int (nI k)), (2, .int (nI f)), (3, .int (nI i))]) hx hb dX7_met_9 hl (by decide) rfl (fun ls hl => ?_)
  refine lv_iconst (v := nI 0) hx hb dX7_met_11 (by decide) ?_
  refine lv_istore (lv' := [(6, .int (nI 0)), (5, .int (nI 0)), (4, .int (nI (100 * (vo / 12) + vo % 12))), (0, .ref om), (1, .int (nI k)), (2, .int (nI f)), (3, .int (nI i))]) hx hb dX7_met_12 hl (by decide) rfl (fun ls hl => ?_)
  have L14 : ∀ (fu : Nat), ∀ (vu : Nat) (vk : Nat) (vm : Nat), (vk ≤ μ.1 19) → (6 * (μ.1 19 - vk) + 1 ≤ vu) → (vm ≤ 5 * vk) → (frW (μ.1 19) (fcL μ) (mtZ μ k f) (nI i) (-9) vu vk 0 vm = metM μ k f i) → μ.1 19 - vk < fu → ∀ ls : Array Slot, lv_has ls 8 [(0, .ref om), (1, .int (nI k)), (3, .int (nI i)), (4, .int (nI (100 * (vo / 12) + vo % 12))), (5, .int (nI vm)), (6, .int (nI vk))] → W zp l ze (rL 3 0 0) zs zm za zb zt zc zs.heap [] 0 0 Q (F0 zm 14 ls []) := by
    intro fu
    induction fu with
    | zero =>
      intro vu vk vm hvk hvu hvm hfin hmu ls hl
      exact absurd hmu (Nat.not_lt_zero _)
    | succ fu ih14 =>
      intro vu vk vm hvk hvu hvm hfin hmu ls hl
      refine lv_iload hx hb dX7_met_14 (lv_at hl 5 rfl) ?_
      refine lv_aload_n hx hb dX7_met_16 rfl (lv_at hl 0 rfl) ?_
      refine kg (C := RX7) (T := TX7) (N := 32) (ci := 5) (k := 19) (v := .int (nI (μ.1 19))) S hK rfl inX7 (by decide) q_749 dX7_met_17 hM rfl rfl ?_
      refine n_icmp_ge (tgt := 98) hx hb dX7_met_20 (by decide) (by omega) (by omega) (fun c_20 => ?_) (fun c_20 => ?_)
      ·
        obtain ⟨vv, rfl⟩ : ∃ z, vu = z + 1 := ⟨vu - 1, by omega⟩
        rw [frW_e (by omega), if_neg (by intro z; have := nI_toInt (show i < 2 ^ 31 by omega); have z2 := Int32.lt_iff_toInt_lt.mp z; have e0 : (0 : Int32).toInt = 0 := rfl; omega)] at hfin
        refine lv_bipush (v := (-9)) hx hb dX7_met_98 (by decide) ?_
        refine w_top (v' := .int (metM μ k f i)) (congrArg (fun z => Value.int z) (show (-9) = (metM μ k f i) from hfin)) ?_
        exact hE _ _ (kr_i dX7_met_100)
      ·
        have c_20 : vk < μ.1 19 := by omega
        have hfk := hfo vk c_20
        have hfk5 : μ.2.1 3 (μ.2.1 12 vk) ≤ 5 := hfk.2
        refine lv_iconst (v := nI 0) hx hb dX7_met_23 (by decide) ?_
        refine lv_istore (lv' := [(7, .int (nI 0)), (0, .ref om), (1, .int (nI k)), (3, .int (nI i)), (4, .int (nI (100 * (vo / 12) + vo % 12))), (5, .int (nI vm)), (6, .int (nI vk))]) hx hb dX7_met_24 hl (by decide) rfl (fun ls hl => ?_)
        have L26 : ∀ (fu : Nat), ∀ (vw : Nat) (vf : Nat) (vm : Nat), (vf ≤ fcL μ vk) → (6 * (μ.1 19 - vk) + 1 ≤ vw + vf) → (vm ≤ 5 * vk + vf) → (frW (μ.1 19) (fcL μ) (mtZ μ k f) (nI i) (-9) vw vk vf vm = metM μ k f i) → fcL μ vk - vf < fu → ∀ ls : Array Slot, lv_has ls 8 [(0, .ref om), (1, .int (nI k)), (3, .int (nI i)), (4, .int (nI (100 * (vo / 12) + vo % 12))), (5, .int (nI vm)), (6, .int (nI vk)), (7, .int (nI vf))] → W zp l ze (rL 3 0 0) zs zm za zb zt zc zs.heap [] 0 0 Q (F0 zm 26 ls []) := by
          intro fu
          induction fu with
          | zero =>
            intro vw vf vm hvf hvw hvm2 hfin2 hmu ls hl
            exact absurd hmu (Nat.not_lt_zero _)
          | succ fu ih26 =>
            intro vw vf vm hvf hvw hvm2 hfin2 hmu ls hl
            obtain ⟨vv, rfl⟩ : ∃ z, vw = z + 1 := ⟨vw - 1, by omega⟩
            refine lv_iload hx hb dX7_met_26 (lv_at hl 6 rfl) ?_
            refine lv_aload_n hx hb dX7_met_28 rfl (lv_at hl 0 rfl) ?_
            refine kg (C := RX7) (T := TX7) (N := 32) (ci := 5) (k := 3) (v := .ref (om + 4)) S hK rfl inX7 (by decide) q_733 dX7_met_29 hM rfl rfl ?_
            refine lv_aload_n hx hb dX7_met_32 rfl (lv_at hl 0 rfl) ?_
            refine kg (C := RX7) (T := TX7) (N := 32) (ci := 5) (k := 12) (v := .ref (om + 13)) S hK rfl inX7 (by decide) q_742 dX7_met_33 hM rfl rfl ?_
            refine lv_iload hx hb dX7_met_36 (lv_at hl 5 rfl) ?_
            refine kil (f := μ.2.1 12) S hK dX7_met_38 13 hM rfl (by decide) rfl (by omega) ?_
            refine kil (f := μ.2.1 3) S hK dX7_met_39 4 hM rfl (by decide) rfl (by omega) ?_
            refine n_icmp_ge (tgt := 92) hx hb dX7_met_40 (by decide) (by omega) (by omega) (fun c_40 => ?_) (fun c_40 => ?_)
            ·
              have c_40 : ¬ vf < fcL μ vk := Nat.not_lt.mpr c_40
              refine lv_iinc (v := nI (vk + 1)) (lv' := [(6, .int (nI (vk + 1))), (0, .ref om), (1, .int (nI k)), (3, .int (nI i)), (4, .int (nI (100 * (vo / 12) + vo % 12))), (5, .int (nI vm)), (7, .int (nI vf))]) hx hb dX7_met_92 hl (k := 5) rfl (inc1 _) (by decide) rfl (fun ls hl => ?_)
              refine lv_goto (tgt := 14) hx hb dX7_met_95 (by decide) ?_
              exact ih14 vv (vk + 1) vm (by first | assumption | omega) (by omega) (by omega) ((frW_k c_20 c_40).symm.trans hfin2) (by omega) ls (lv_sub hl [1, 2, 3, 4, 5, 0] rfl)
            ·
              have c_40 : vf < fcL μ vk := Nat.not_le.mp c_40
              obtain ⟨vp, hvp⟩ := hg0 vk c_20 vf c_40
              have hvp9 := (fnd_lt _ _ hvp).2.1
              refine lv_iload hx hb dX7_met_43 (lv_at hl 5 rfl) ?_
              refine lv_iload_n hx hb dX7_met_45 rfl (lv_at hl 1 rfl) ?_
              refine n_icmp_eq (tgt := 86) hx hb dX7_met_46 (by decide) (by omega) (by omega) (fun c_46 => ?_) (fun c_46 => ?_)
              ·
                have hz1 : mtZ μ k f vk vf = false := by unfold mtZ; rw [decide_eq_true c_46]; rfl
                refine lv_iinc (v := nI (vf + 1)) (lv' := [(7, .int (nI (vf + 1))), (0, .ref om), (1, .int (nI k)), (3, .int (nI i)), (4, .int (nI (100 * (vo / 12) + vo % 12))), (5, .int (nI vm)), (6, .int (nI vk))]) hx hb dX7_met_86 hl (k := 6) rfl (inc1 _) (by decide) rfl (fun ls hl => ?_)
                refine lv_goto (tgt := 26) hx hb dX7_met_89 (by decide) ?_
                exact ih26 vv (vf + 1) vm (by omega) (by omega) (by omega) ((frW_n c_20 c_40 hz1).symm.trans hfin2) (by omega) ls (lv_sub hl [1, 2, 3, 4, 5, 6, 0] rfl)
              ·
                refine lv_iload hx hb dX7_met_49 (lv_at hl 3 rfl) ?_
                refine lv_aload_n hx hb dX7_met_51 rfl (lv_at hl 0 rfl) ?_
                refine lv_iload hx hb dX7_met_52 (lv_at hl 5 rfl) ?_
                refine lv_iload hx hb dX7_met_54 (lv_at hl 6 rfl) ?_
                refine crV (rest := [.int (nI (100 * (vo / 12) + vo % 12))]) S hK (c_X7_place l G om μ vk vf vp (by first | assumption | omega | decide) (by first | assumption | omega | decide) (by first | assumption | omega | decide) (by omega) hvp) cw_X7_271 rfl ⟨Nat.le_of_ble_eq_true rfl, Nat.le_of_ble_eq_true rfl⟩ ⟨Nat.le_of_ble_eq_true rfl, Nat.le_of_ble_eq_true rfl⟩ (bk.recv hK hM rfl rfl) hl.1 rfl (Nat.le_of_ble_eq_true rfl) dX7_met_56 hM ?_
                refine crS (rest := []) S hK (c_X7_isBeside l G (100 * (vo / 12) + vo % 12) (100 * (vp / 12) + vp % 12) (by omega) (by omega)) cw_X7_274 rfl ⟨Nat.le_of_ble_eq_true rfl, Nat.le_of_ble_eq_true rfl⟩ ⟨Nat.le_of_ble_eq_true rfl, Nat.le_of_ble_eq_true rfl⟩ hl.1 rfl (Nat.le_of_ble_eq_true rfl) dX7_met_59 trivial ?_
                refine w_top (v' := .int (b2i (besB (plN μ k f) (plN μ vk vf)))) (by rw [plN_s hvo, plN_s hvp]) ?_
                refine z_if_ne (tgt := 68) hx hb dX7_met_62 (by decide) (fun c_62 => ?_) (fun c_62 => ?_)
                ·
                  have hz1 : mtZ μ k f vk vf = true := by unfold mtZ; rw [c_62, decide_eq_false c_46]; rfl
                  refine lv_iload hx hb dX7_met_68 (lv_at hl 4 rfl) ?_
                  refine lv_iload_n hx hb dX7_met_70 rfl (lv_at hl 2 rfl) ?_
                  refine n_icmp_ne (tgt := 83) hx hb dX7_met_71 (by decide) (by omega) (by omega) (fun c_71 => ?_) (fun c_71 => ?_)
                  ·
                    refine lv_iinc (v := nI (vm + 1)) (lv' := [(5, .int (nI (vm + 1))), (0, .ref om), (1, .int (nI k)), (3, .int (nI i)), (4, .int (nI (100 * (vo / 12) + vo % 12))), (6, .int (nI vk)), (7, .int (nI vf))]) hx hb dX7_met_83 hl (k := 4) rfl (inc1 _) (by decide) rfl (fun ls hl => ?_)
                    refine lv_iinc (v := nI (vf + 1)) (lv' := [(7, .int (nI (vf + 1))), (5, .int (nI (vm + 1))), (0, .ref om), (1, .int (nI k)), (3, .int (nI i)), (4, .int (nI (100 * (vo / 12) + vo % 12))), (6, .int (nI vk))]) hx hb dX7_met_86 hl (k := 6) rfl (inc1 _) (by decide) rfl (fun ls hl => ?_)
                    refine lv_goto (tgt := 26) hx hb dX7_met_89 (by decide) ?_
                    exact ih26 vv (vf + 1) (vm + 1) (by omega) (by omega) (by omega) ((frW_y c_20 c_40 hz1 (fun z => c_71 ((nI_eq (by omega) (by omega)).mp z))).symm.trans hfin2) (by omega) ls (lv_sub hl [2, 3, 4, 5, 1, 6, 0] rfl)
                  ·
                    refine lv_bipush (v := nI 10) hx hb dX7_met_74 (by decide) ?_
                    refine lv_iload hx hb dX7_met_76 (lv_at hl 5 rfl) ?_
                    refine n_imul hx hb dX7_met_78 ?_
                    refine lv_iload hx hb dX7_met_79 (lv_at hl 6 rfl) ?_
                    refine n_iadd hx hb dX7_met_81 ?_
                    refine w_top (v' := .int (metM μ k f i)) (show (.int (nI ((10 * vk) + vf)) : Value) = .int (metM μ k f i) from (congrArg (fun z => Value.int z) ((frW_r c_20 c_40 hz1 (congrArg nI c_71)).symm.trans hfin2))) ?_
                    exact hE _ _ (kr_i dX7_met_82)
                ·
                  have hz1 : mtZ μ k f vk vf = false := by unfold mtZ; rw [c_62, Bool.and_false]
                  refine lv_goto (tgt := 86) hx hb dX7_met_65 (by decide) ?_
                  refine lv_iinc (v := nI (vf + 1)) (lv' := [(7, .int (nI (vf + 1))), (0, .ref om), (1, .int (nI k)), (3, .int (nI i)), (4, .int (nI (100 * (vo / 12) + vo % 12))), (5, .int (nI vm)), (6, .int (nI vk))]) hx hb dX7_met_86 hl (k := 6) rfl (inc1 _) (by decide) rfl (fun ls hl => ?_)
                  refine lv_goto (tgt := 26) hx hb dX7_met_89 (by decide) ?_
                  exact ih26 vv (vf + 1) vm (by omega) (by omega) (by omega) ((frW_n c_20 c_40 hz1).symm.trans hfin2) (by omega) ls (lv_sub hl [1, 2, 3, 4, 5, 6, 0] rfl)
        exact L26 ((fcL μ vk - 0) + 1) vu 0 vm (Nat.zero_le _) (by omega) (by omega) hfin (Nat.lt_succ_self _) ls (lv_sub hl [1, 2, 3, 4, 5, 6, 0] rfl)
  exact L14 ((μ.1 19 - 0) + 1) 100 0 0 (Nat.zero_le _) (by omega) (by omega) rfl (Nat.lt_succ_self _) ls (lv_sub hl [3, 4, 6, 2, 1, 0] rfl)
