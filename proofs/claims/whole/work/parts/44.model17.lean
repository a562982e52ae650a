
/-! walks: the reference RENAMES -/
def sdg (dg : Nat) : Nat → Nat
  | 0 => 0
  | i + 1 => sdg dg i ||| 1 <<< (dg / 10 ^ i % 10)
def prB (x : Int32) (f : Nat) : Bool := decide (0 ≤ x.toInt) && (decide (cx x / 10 ^ f = 0) && decide (sdg (cx x) f = 1 <<< f - 1))
theorem prB_n {j f : Nat} (hj : j < 2 ^ 31) : prB (nI j) f = (decide (j / 10 ^ f = 0) && decide (sdg j f = 1 <<< f - 1)) := by
  unfold prB
  rw [nI_toInt hj, cx_n hj, decide_eq_true (by omega)]
  rfl
theorem prB_neg {x : Int32} {f : Nat} (h : x < 0) : prB x f = false := by
  have := Int32.lt_iff_toInt_lt.mp h
  have e : (0 : Int32).toInt = 0 := rfl
  unfold prB
  rw [decide_eq_false (by omega)]
  rfl
theorem sdg_tb (dg j : Nat) : ∀ f, (sdg dg f).testBit j = true ↔ ∃ i, i < f ∧ dg / 10 ^ i % 10 = j
  | 0 => by
    show (0 : Nat).testBit j = true ↔ _
    rw [Nat.zero_testBit]
    constructor
    · intro h; cases h
    · rintro ⟨i, hi, -⟩; omega
  | f + 1 => by
    show (sdg dg f ||| 1 <<< (dg / 10 ^ f % 10)).testBit j = true ↔ _
    rw [Nat.testBit_or, Nat.one_shiftLeft, Nat.testBit_two_pow, Bool.or_eq_true, sdg_tb dg j f, decide_eq_true_eq]
    constructor
    · rintro (⟨i, hi, e⟩ | e)
      · exact ⟨i, by omega, e⟩
      · exact ⟨f, by omega, e⟩
    · rintro ⟨i, hi, e⟩
      by_cases z : i = f
      · subst z; exact Or.inr e
      · exact Or.inl ⟨i, by omega, e⟩
theorem pr_PM {dg f : Nat} (h : sdg dg f = 1 <<< f - 1) : PM dg f := by
  intro j hj
  have hb : (sdg dg f).testBit j = true := by
    rw [h, Nat.one_shiftLeft, Nat.testBit_two_pow_sub_one, decide_eq_true hj]
  obtain ⟨i, hi, e⟩ := (sdg_tb dg j f).mp hb
  refine ⟨f - 1 - i, by omega, ?_⟩
  unfold dgt
  rw [show f - 1 - (f - 1 - i) = i from by omega]
  exact e
abbrev rnD (μ : Sx) (p dg : Nat) : Nat → Nat := rnC dg (μ.2.1 3 p) (idC (μ.2.1 1 p) (μ.2.1 2 p) (clM μ p))
def rename_M (μ : Sx) (p d : Int32) : Int32 × Sx := if inI p (μ.1 16) then (if prB d (μ.2.1 3 (cx p)) then (if μ.1 16 = 24 then (-6, rfM μ 6) else (nI (μ.1 16), nwP μ (μ.2.1 1 (cx p)) (μ.2.1 2 (cx p)) (μ.2.1 3 (cx p)) (rnD μ (cx p) (cx d)))) else (-3, rfM μ 3)) else (-1, rfM μ 1)
theorem sdg_lt (dg : Nat) : ∀ f, sdg dg f < 2 ^ 10
  | 0 => (by decide : (0 : Nat) < 2 ^ 10)
  | f + 1 => Nat.or_lt_two_pow (sdg_lt dg f) (by rw [Nat.one_shiftLeft]; exact Nat.pow_lt_pow_right (by decide) (Nat.mod_lt _ (by decide)))

set_option maxHeartbeats 1000000 in
set_option maxRecDepth 100000 in
theorem c_X7_rename_neg (l : Launch) (G : Gt) (om : Nat) (μ : Sx) (p : Int32) (d : Int32) (hb0 : MIb μ) (hneg : d < 0) : Ct l G yX7_rename cX7_rename 9 ((some .int)) 3 0 0 [.ref om, .int p, .int d] (fun H => bk G om (mL G om μ) H) (some (.int ((rename_M μ p d).1))) (fun H => ∃ σ : Sx, bk G om (mL G om σ) H ∧ vis σ (rename_M μ p d).2) (fun q => om ≤ q ∧ q < om + 20) := by
  refine ct_entry [(0, .ref om), (1, .int p), (2, .int d)] (by decide) (Nat.le_of_ble_eq_true rfl) rfl ?_
  intro zp ze zs zm za zb zt zc Q S hK hPre hin hE ls hl
  have hx := S.1
  have hb := S.2.1
  have hM := hPre
  have hS : va_S (fun q => om ≤ q ∧ q < om + 20) zs.heap zs.heap [] := va_S.rf
  have hp24 := hb0.1
  refine lv_aload_n hx hb dX7_rename_0 rfl (lv_at hl 0 rfl) ?_
  refine lv_iload_n hx hb dX7_rename_1 rfl (lv_at hl 1 rfl) ?_
  refine crV (rest := []) S hK (c_X7_isPart l G om μ p (by first | assumption | omega | decide)) cw_X7_103 rfl ⟨Nat.le_of_ble_eq_true rfl, Nat.le_of_ble_eq_true rfl⟩ ⟨Nat.le_of_ble_eq_true rfl, Nat.le_of_ble_eq_true rfl⟩ (bk.recv hK hM rfl rfl) hl.1 rfl (Nat.le_of_ble_eq_true rfl) dX7_rename_2 hM ?_
  refine z_if_ne (tgt := 14) hx hb dX7_rename_5 (by decide) (fun c_5 => ?_) (fun c_5 => ?_)
  ·
    obtain ⟨vp, hvp, rfl⟩ := inI_x c_5
    have hcp := cx_n (j := vp) (by omega)
    obtain ⟨⟨⟨ha1, ha2⟩, ⟨ha3, ha4⟩, ha5⟩, hbO, hbC, hbE, hbU⟩ := hb0.2 vp hvp
    refine lv_iload_n hx hb dX7_rename_14 rfl (lv_at hl 2 rfl) ?_
    refine lv_istore_n (lv' := [(3, .int d), (0, .ref om), (1, .int (nI vp)), (2, .int d)]) hx hb dX7_rename_15 rfl hl (by decide) rfl (fun ls hl => ?_)
    refine lv_iconst (v := nI 0) hx hb dX7_rename_16 (by decide) ?_
    refine lv_istore (lv' := [(4, .int (nI 0)), (3, .int d), (0, .ref om), (1, .int (nI vp)), (2, .int d)]) hx hb dX7_rename_17 hl (by decide) rfl (fun ls hl => ?_)
    refine lv_iconst (v := nI 0) hx hb dX7_rename_19 (by decide) ?_
    refine lv_istore (lv' := [(5, .int (nI 0)), (4, .int (nI 0)), (3, .int d), (0, .ref om), (1, .int (nI vp)), (2, .int d)]) hx hb dX7_rename_20 hl (by decide) rfl (fun ls hl => ?_)
    have L22 : ∀ (fu : Nat), ∀ (vi : Nat) (vr : Int32) (vs : Int32), (vi ≤ μ.2.1 3 vp) → μ.2.1 3 vp - vi < fu → ∀ (H : Heap) (locs : List Loc), bk G om (mL G om μ) H → va_S (fun q => om ≤ q ∧ q < om + 20) zs.heap H locs → ∀ ls : Array Slot, lv_has ls 9 [(0, .ref om), (1, .int (nI vp)), (2, .int d), (3, .int vr), (4, .int vs), (5, .int (nI vi))] → W zp l ze (rL 3 0 0) zs zm za zb zt zc H locs 0 0 Q (F0 zm 22 ls []) := by
      intro fu
      induction fu with
      | zero =>
        intro vi vr vs hvi hmu H locs hM hS ls hl
        exact absurd hmu (Nat.not_lt_zero _)
      | succ fu ih22 =>
        intro vi vr vs hvi hmu H locs hM hS ls hl
        refine lv_iload hx hb dX7_rename_22 (lv_at hl 5 rfl) ?_
        refine lv_aload_n hx hb dX7_rename_24 rfl (lv_at hl 0 rfl) ?_
        refine kg (C := RX7) (T := TX7) (N := 32) (ci := 5) (k := 3) (v := .ref (om + 4)) S hK rfl inX7 (by decide) q_733 dX7_rename_25 hM rfl rfl ?_
        refine lv_iload_n hx hb dX7_rename_28 rfl (lv_at hl 1 rfl) ?_
        refine kil (f := μ.2.1 3) S hK dX7_rename_29 4 hM rfl (by decide) rfl (by omega) ?_
        refine n_icmp_ge (tgt := 64) hx hb dX7_rename_30 (by decide) (by omega) (by omega) (fun c_30 => ?_) (fun c_30 => ?_)
        ·
          refine lv_iload_n hx hb dX7_rename_64 rfl (lv_at hl 2 rfl) ?_
          refine lv_if_lt (tgt := 87) hx hb dX7_rename_65 (by decide) (fun c_65 => ?_) (fun c_65 => ?_)
          ·
            refine lv_aload_n hx hb dX7_rename_87 rfl (lv_at hl 0 rfl) ?_
            refine lv_bipush (v := (-3)) hx hb dX7_rename_88 (by decide) ?_
            refine ctV (rest := []) S hK (c_X7_refuse l G om μ (-3) 3 rfl (by decide)) cw_X7_72 rfl ⟨Nat.le_of_ble_eq_true rfl, Nat.le_of_ble_eq_true rfl⟩ ⟨Nat.le_of_ble_eq_true rfl, Nat.le_of_ble_eq_true rfl⟩ (bk.recv hK hM rfl rfl) hl.1 rfl (Nat.le_of_ble_eq_true rfl) dX7_rename_90 hM hS (fun _ h => by first | exact h | omega) (fun H locs hPost hz hk hS => ?_)
            have hM := hPost
            have hr : rename_M μ (nI vp) d = ((-3), uA μ 0 3 (μ.2.1 0 3 + 1)) := by unfold rename_M; rw [c_5, if_pos (by rfl), prB_neg hneg, if_neg (by decide)]
            refine w_top (v' := .int ((rename_M μ (nI vp) d).1)) (congrArg (fun z => Value.int z) (congrArg Prod.fst hr).symm) ?_
            exact hE _ _ _ _ _ _ (kr_i dX7_rename_93) hS (by decide) (by decide) ⟨(uA μ 0 3 (μ.2.1 0 3 + 1)), hM, (by rw [hr]; exact vis_rf _)⟩
          ·
            exact absurd hneg c_65
        ·
          refine lv_iload hx hb dX7_rename_33 (lv_at hl 4 rfl) ?_
          refine lv_iload_n hx hb dX7_rename_35 rfl (lv_at hl 3 rfl) ?_
          refine lv_if_lt (tgt := 48) hx hb dX7_rename_36 (by decide) (fun c_36 => ?_) (fun c_36 => ?_)
          ·
            refine lv_ldc (v := nI 1048576) hx hb S.2.2.2.1 (S.2.2.2.2 _ q_1012) dX7_rename_48 ?_
            refine lv_ior hx hb dX7_rename_50 ?_
            refine lv_istore (lv' := [(4, .int (vs ||| (nI 1048576))), (0, .ref om), (1, .int (nI vp)), (2, .int d), (3, .int vr), (5, .int (nI vi))]) hx hb dX7_rename_51 hl (by decide) rfl (fun ls hl => ?_)
            refine lv_iload_n hx hb dX7_rename_53 rfl (lv_at hl 4 rfl) ?_
            refine lv_bipush (v := nI 10) hx hb dX7_rename_54 (by decide) ?_
            refine lv_idiv hx hb dX7_rename_56 (by decide) ?_
            refine lv_istore_n (lv' := [(3, .int (vr / (nI 10))), (4, .int (vs ||| (nI 1048576))), (0, .ref om), (1, .int (nI vp)), (2, .int d), (5, .int (nI vi))]) hx hb dX7_rename_57 rfl hl (by decide) rfl (fun ls hl => ?_)
            refine lv_iinc (v := (nI (vi + 1))) (lv' := [(5, .int (nI (vi + 1))), (3, .int (vr / (nI 10))), (4, .int (vs ||| (nI 1048576))), (0, .ref om), (1, .int (nI vp)), (2, .int d)]) hx hb dX7_rename_58 hl (k := 5) rfl (inc1 _) (by decide) rfl (fun ls hl => ?_)
            refine lv_goto (tgt := 22) hx hb dX7_rename_61 (by decide) ?_
            exact ih22 (vi + 1) (vr / (nI 10)) (vs ||| (nI 1048576)) (by omega) (by omega) _ _ hM hS ls (lv_sub hl [3, 4, 5, 1, 2, 0] rfl)
          ·
            refine lv_iconst (v := nI 1) hx hb dX7_rename_39 (by decide) ?_
            refine lv_iload_n hx hb dX7_rename_40 rfl (lv_at hl 3 rfl) ?_
            refine lv_bipush (v := nI 10) hx hb dX7_rename_41 (by decide) ?_
            refine lv_irem hx hb dX7_rename_43 (by decide) ?_
            refine lv_ishl hx hb dX7_rename_44 ?_
            refine lv_goto (tgt := 50) hx hb dX7_rename_45 (by decide) ?_
            refine lv_ior hx hb dX7_rename_50 ?_
            refine lv_istore (lv' := [(4, .int (vs ||| ((nI 1) <<< ((vr - vr / (nI 10) * (nI 10)) &&& 31)))), (0, .ref om), (1, .int (nI vp)), (2, .int d), (3, .int vr), (5, .int (nI vi))]) hx hb dX7_rename_51 hl (by decide) rfl (fun ls hl => ?_)
            refine lv_iload_n hx hb dX7_rename_53 rfl (lv_at hl 4 rfl) ?_
            refine lv_bipush (v := nI 10) hx hb dX7_rename_54 (by decide) ?_
            refine lv_idiv hx hb dX7_rename_56 (by decide) ?_
            refine lv_istore_n (lv' := [(3, .int (vr / (nI 10))), (4, .int (vs ||| ((nI 1) <<< ((vr - vr / (nI 10) * (nI 10)) &&& 31)))), (0, .ref om), (1, .int (nI vp)), (2, .int d), (5, .int (nI vi))]) hx hb dX7_rename_57 rfl hl (by decide) rfl (fun ls hl => ?_)
            refine lv_iinc (v := (nI (vi + 1))) (lv' := [(5, .int (nI (vi + 1))), (3, .int (vr / (nI 10))), (4, .int (vs ||| ((nI 1) <<< ((vr - vr / (nI 10) * (nI 10)) &&& 31)))), (0, .ref om), (1, .int (nI vp)), (2, .int d)]) hx hb dX7_rename_58 hl (k := 5) rfl (inc1 _) (by decide) rfl (fun ls hl => ?_)
            refine lv_goto (tgt := 22) hx hb dX7_rename_61 (by decide) ?_
            exact ih22 (vi + 1) (vr / (nI 10)) (vs ||| ((nI 1) <<< ((vr - vr / (nI 10) * (nI 10)) &&& 31))) (by omega) (by omega) _ _ hM hS ls (lv_sub hl [3, 4, 5, 1, 2, 0] rfl)
    exact L22 ((μ.2.1 3 vp - 0) + 1) 0 d (nI 0) (Nat.zero_le _) (Nat.lt_succ_self _) _ _ hM hS ls (lv_sub hl [3, 4, 5, 2, 1, 0] rfl)
  ·
    refine lv_aload_n hx hb dX7_rename_8 rfl (lv_at hl 0 rfl) ?_
    refine lv_iconst (v := (-1)) hx hb dX7_rename_9 (by decide) ?_
    refine ctV (rest := []) S hK (c_X7_refuse l G om μ (-1) 1 rfl (by decide)) cw_X7_72 rfl ⟨Nat.le_of_ble_eq_true rfl, Nat.le_of_ble_eq_true rfl⟩ ⟨Nat.le_of_ble_eq_true rfl, Nat.le_of_ble_eq_true rfl⟩ (bk.recv hK hM rfl rfl) hl.1 rfl (Nat.le_of_ble_eq_true rfl) dX7_rename_10 hM hS (fun _ h => by first | exact h | omega) (fun H locs hPost hz hk hS => ?_)
    have hM := hPost
    have hr : rename_M μ p d = ((-1), uA μ 0 1 (μ.2.1 0 1 + 1)) := by unfold rename_M; rw [c_5] <;> rfl
    refine w_top (v' := .int ((rename_M μ p d).1)) (congrArg (fun z => Value.int z) (congrArg Prod.fst hr).symm) ?_
    exact hE _ _ _ _ _ _ (kr_i dX7_rename_13) hS (by decide) (by decide) ⟨(uA μ 0 1 (μ.2.1 0 1 + 1)), hM, (by rw [hr]; exact vis_rf _)⟩

set_option maxHeartbeats 1000000 in
set_option maxRecDepth 100000 in
theorem c_X7_rename_pos (l : Launch) (G : Gt) (om : Nat) (μ : Sx) (p : Int32) (d : Nat) (hb0 : MIb μ) (hd31 : d < 2 ^ 31) : Ct l G yX7_rename cX7_rename 9 ((some .int)) 3 0 0 [.ref om, .int p, .int (nI d)] (fun H => bk G om (mL G om μ) H) (some (.int ((rename_M μ p (nI d)).1))) (fun H => ∃ σ : Sx, bk G om (mL G om σ) H ∧ vis σ (rename_M μ p (nI d)).2) (fun q => om ≤ q ∧ q < om + 20) := by
  refine ct_entry [(0, .ref om), (1, .int p), (2, .int (nI d))] (by decide) (Nat.le_of_ble_eq_true rfl) rfl ?_
  intro zp ze zs zm za zb zt zc Q S hK hPre hin hE ls hl
  have hx := S.1
  have hb := S.2.1
  have hM := hPre
  have hS : va_S (fun q => om ≤ q ∧ q < om + 20) zs.heap zs.heap [] := va_S.rf
  have hp24 := hb0.1
  refine lv_aload_n hx hb dX7_rename_0 rfl (lv_at hl 0 rfl) ?_
  refine lv_iload_n hx hb dX7_rename_1 rfl (lv_at hl 1 rfl) ?_
  refine crV (rest := []) S hK (c_X7_isPart l G om μ p (by first | assumption | omega | decide)) cw_X7_103 rfl ⟨Nat.le_of_ble_eq_true rfl, Nat.le_of_ble_eq_true rfl⟩ ⟨Nat.le_of_ble_eq_true rfl, Nat.le_of_ble_eq_true rfl⟩ (bk.recv hK hM rfl rfl) hl.1 rfl (Nat.le_of_ble_eq_true rfl) dX7_rename_2 hM ?_
  refine z_if_ne (tgt := 14) hx hb dX7_rename_5 (by decide) (fun c_5 => ?_) (fun c_5 => ?_)
  ·
    obtain ⟨vp, hvp, rfl⟩ := inI_x c_5
    have hcp := cx_n (j := vp) (by omega)
    obtain ⟨⟨⟨ha1, ha2⟩, ⟨ha3, ha4⟩, ha5⟩, hbO, hbC, hbE, hbU⟩ := hb0.2 vp hvp
    refine lv_iload_n hx hb dX7_rename_14 rfl (lv_at hl 2 rfl) ?_
    refine lv_istore_n (lv' := [(3, .int (nI d)), (0, .ref om), (1, .int (nI vp)), (2, .int (nI d))]) hx hb dX7_rename_15 rfl hl (by decide) rfl (fun ls hl => ?_)
    refine lv_iconst (v := nI 0) hx hb dX7_rename_16 (by decide) ?_
    refine lv_istore (lv' := [(4, .int (nI 0)), (3, .int (nI d)), (0, .ref om), (1, .int (nI vp)), (2, .int (nI d))]) hx hb dX7_rename_17 hl (by decide) rfl (fun ls hl => ?_)
    refine lv_iconst (v := nI 0) hx hb dX7_rename_19 (by decide) ?_
    refine lv_istore (lv' := [(5, .int (nI 0)), (4, .int (nI 0)), (3, .int (nI d)), (0, .ref om), (1, .int (nI vp)), (2, .int (nI d))]) hx hb dX7_rename_20 hl (by decide) rfl (fun ls hl => ?_)
    have L22 : ∀ (fu : Nat), ∀ (vi : Nat), (vi ≤ μ.2.1 3 vp) → μ.2.1 3 vp - vi < fu → ∀ (H : Heap) (locs : List Loc), bk G om (mL G om μ) H → va_S (fun q => om ≤ q ∧ q < om + 20) zs.heap H locs → ∀ ls : Array Slot, lv_has ls 9 [(0, .ref om), (1, .int (nI vp)), (2, .int (nI d)), (3, .int (nI (d / 10 ^ vi))), (4, .int (nI (sdg d vi))), (5, .int (nI vi))] → W zp l ze (rL 3 0 0) zs zm za zb zt zc H locs 0 0 Q (F0 zm 22 ls []) := by
      intro fu
      induction fu with
      | zero =>
        intro vi hvi hmu H locs hM hS ls hl
        exact absurd hmu (Nat.not_lt_zero _)
      | succ fu ih22 =>
        intro vi hvi hmu H locs hM hS ls hl
        refine lv_iload hx hb dX7_rename_22 (lv_at hl 5 rfl) ?_
        refine lv_aload_n hx hb dX7_rename_24 rfl (lv_at hl 0 rfl) ?_
        refine kg (C := RX7) (T := TX7) (N := 32) (ci := 5) (k := 3) (v := .ref (om + 4)) S hK rfl inX7 (by decide) q_733 dX7_rename_25 hM rfl rfl ?_
        refine lv_iload_n hx hb dX7_rename_28 rfl (lv_at hl 1 rfl) ?_
        refine kil (f := μ.2.1 3) S hK dX7_rename_29 4 hM rfl (by decide) rfl (by first | omega | exact Nat.lt_of_le_of_lt (Nat.div_le_self _ _) hd31 | exact Nat.lt_trans (sdg_lt _ _) (by decide)) ?_
        refine n_icmp_ge (tgt := 64) hx hb dX7_rename_30 (by decide) (by first | omega | exact Nat.lt_of_le_of_lt (Nat.div_le_self _ _) hd31 | exact Nat.lt_trans (sdg_lt _ _) (by decide)) (by first | omega | exact Nat.lt_of_le_of_lt (Nat.div_le_self _ _) hd31 | exact Nat.lt_trans (sdg_lt _ _) (by decide)) (fun c_30 => ?_) (fun c_30 => ?_)
        ·
          have hvf : vi = μ.2.1 3 vp := by omega
          have hsh := shl_le ha5
          have hone : 1 ≤ 1 <<< μ.2.1 3 vp := by rw [Nat.one_shiftLeft]; exact Nat.one_le_two_pow
          refine lv_iload_n hx hb dX7_rename_64 rfl (lv_at hl 2 rfl) ?_
          refine n_if_lt (tgt := 87) hx hb dX7_rename_65 (by decide) (by first | omega | exact Nat.lt_of_le_of_lt (Nat.div_le_self _ _) hd31 | exact Nat.lt_trans (sdg_lt _ _) (by decide)) (fun c_65 => ?_)
          refine lv_iload_n hx hb dX7_rename_68 rfl (lv_at hl 3 rfl) ?_
          refine n_if_ne (tgt := 87) hx hb dX7_rename_69 (by decide) (by first | omega | exact Nat.lt_of_le_of_lt (Nat.div_le_self _ _) hd31 | exact Nat.lt_trans (sdg_lt _ _) (by decide)) (fun c_69 => ?_) (fun c_69 => ?_)
          ·
            have hpr : prB (nI d) (μ.2.1 3 vp) = false := by rw [prB_n hd31, ← hvf, decide_eq_false c_69]; rfl
            refine lv_aload_n hx hb dX7_rename_87 rfl (lv_at hl 0 rfl) ?_
            refine lv_bipush (v := (-3)) hx hb dX7_rename_88 (by decide) ?_
            refine ctV (rest := []) S hK (c_X7_refuse l G om μ (-3) 3 rfl (by decide)) cw_X7_72 rfl ⟨Nat.le_of_ble_eq_true rfl, Nat.le_of_ble_eq_true rfl⟩ ⟨Nat.le_of_ble_eq_true rfl, Nat.le_of_ble_eq_true rfl⟩ (bk.recv hK hM rfl rfl) hl.1 rfl (Nat.le_of_ble_eq_true rfl) dX7_rename_90 hM hS (fun _ h => by first | exact h | omega) (fun H locs hPost hz hk hS => ?_)
            have hM := hPost
            have hr : rename_M μ (nI vp) (nI d) = ((-3), uA μ 0 3 (μ.2.1 0 3 + 1)) := by unfold rename_M; rw [c_5, if_pos (by rfl), hcp, hpr, if_neg (by decide)]
            refine w_top (v' := .int ((rename_M μ (nI vp) (nI d)).1)) (congrArg (fun z => Value.int z) (congrArg Prod.fst hr).symm) ?_
            exact hE _ _ _ _ _ _ (kr_i dX7_rename_93) hS (by decide) (by decide) ⟨(uA μ 0 3 (μ.2.1 0 3 + 1)), hM, (by rw [hr]; exact vis_rf _)⟩
          ·
            refine lv_iload hx hb dX7_rename_72 (lv_at hl 4 rfl) ?_
            refine lv_iconst (v := nI 1) hx hb dX7_rename_74 (by decide) ?_
            refine lv_aload_n hx hb dX7_rename_75 rfl (lv_at hl 0 rfl) ?_
            refine kg (C := RX7) (T := TX7) (N := 32) (ci := 5) (k := 3) (v := .ref (om + 4)) S hK rfl inX7 (by decide) q_733 dX7_rename_76 hM rfl rfl ?_
            refine lv_iload_n hx hb dX7_rename_79 rfl (lv_at hl 1 rfl) ?_
            refine kil (f := μ.2.1 3) S hK dX7_rename_80 4 hM rfl (by decide) rfl (by first | omega | exact Nat.lt_of_le_of_lt (Nat.div_le_self _ _) hd31 | exact Nat.lt_trans (sdg_lt _ _) (by decide)) ?_
            refine n_ishl hx hb dX7_rename_81 (by first | omega | exact Nat.lt_of_le_of_lt (Nat.div_le_self _ _) hd31 | exact Nat.lt_trans (sdg_lt _ _) (by decide)) ?_
            refine lv_iconst (v := nI 1) hx hb dX7_rename_82 (by decide) ?_
            refine n_isub hx hb dX7_rename_83 hone ?_
            refine n_icmp_eq (tgt := 94) hx hb dX7_rename_84 (by decide) (by first | omega | exact Nat.lt_of_le_of_lt (Nat.div_le_self _ _) hd31 | exact Nat.lt_trans (sdg_lt _ _) (by decide)) (by first | omega | exact Nat.lt_of_le_of_lt (Nat.div_le_self _ _) hd31 | exact Nat.lt_trans (sdg_lt _ _) (by decide)) (fun c_84 => ?_) (fun c_84 => ?_)
            ·
              have hsd : sdg d (μ.2.1 3 vp) = 1 <<< μ.2.1 3 vp - 1 := by rw [hvf] at c_84; exact c_84
              have hpr : prB (nI d) (μ.2.1 3 vp) = true := by rw [prB_n hd31, decide_eq_true hsd, ← hvf, decide_eq_true c_69]; rfl
              have hPM := pr_PM hsd
              have hcd := cx_n hd31
              refine lv_aload_n hx hb dX7_rename_94 rfl (lv_at hl 0 rfl) ?_
              refine kg (C := RX7) (T := TX7) (N := 32) (ci := 5) (k := 16) (v := .int (nI (μ.1 16))) S hK rfl inX7 (by decide) q_746 dX7_rename_95 hM rfl rfl ?_
              refine lv_bipush (v := nI 24) hx hb dX7_rename_98 (by decide) ?_
              refine n_icmp_ne (tgt := 110) hx hb dX7_rename_100 (by decide) (by first | omega | exact Nat.lt_of_le_of_lt (Nat.div_le_self _ _) hd31 | exact Nat.lt_trans (sdg_lt _ _) (by decide)) (by decide) (fun c_100 => ?_) (fun c_100 => ?_)
              ·
                refine lv_aload_n hx hb dX7_rename_110 rfl (lv_at hl 0 rfl) ?_
                refine lv_iload_n hx hb dX7_rename_111 rfl (lv_at hl 1 rfl) ?_
                refine lv_iconst (v := nI 0) hx hb dX7_rename_112 (by decide) ?_
                refine lv_iconst (v := nI 0) hx hb dX7_rename_113 (by decide) ?_
                refine ctV (rest := []) S hK (c_X7_copies_i l G om μ vp (mi0 hb0) hvp c_100) cw_X7_205 rfl ⟨Nat.le_of_ble_eq_true rfl, Nat.le_of_ble_eq_true rfl⟩ ⟨Nat.le_of_ble_eq_true rfl, Nat.le_of_ble_eq_true rfl⟩ (bk.recv hK hM rfl rfl) hl.1 rfl (Nat.le_of_ble_eq_true rfl) dX7_rename_114 hM hS (fun _ h => by first | exact h | omega) (fun H locs hPost hz hk hS => ?_)
                obtain ⟨σ1, hM, hq114⟩ := hPost
                refine lv_istore (lv' := [(5, .int (nI (μ.1 16))), (0, .ref om), (1, .int (nI vp)), (2, .int (nI d)), (3, .int (nI (d / 10 ^ vi))), (4, .int (nI (sdg d vi)))]) hx hb dX7_rename_117 hl (by decide) rfl (fun ls hl => ?_)
                refine lv_iconst (v := nI 0) hx hb dX7_rename_119 (by decide) ?_
                refine lv_istore (lv' := [(6, .int (nI 0)), (5, .int (nI (μ.1 16))), (0, .ref om), (1, .int (nI vp)), (2, .int (nI d)), (3, .int (nI (d / 10 ^ vi))), (4, .int (nI (sdg d vi)))]) hx hb dX7_rename_120 hl (by decide) rfl (fun ls hl => ?_)
                have L122 : ∀ (fu : Nat), ∀ (vk : Nat) (ρ : Sx), (vk ≤ 20) → (NW μ (μ.2.1 1 vp) (μ.2.1 2 vp) (μ.2.1 3 vp) (fun i => if i < vk then rnD μ vp d i else idC (μ.2.1 1 vp) (μ.2.1 2 vp) (clM μ vp) i) ρ) → 20 - vk < fu → ∀ (H : Heap) (locs : List Loc), bk G om (mL G om (uS ρ 16 (μ.1 16 + 1))) H → va_S (fun q => om ≤ q ∧ q < om + 20) zs.heap H locs → ∀ ls : Array Slot, lv_has ls 9 [(0, .ref om), (1, .int (nI vp)), (2, .int (nI d)), (5, .int (nI (μ.1 16))), (6, .int (nI vk))] → W zp l ze (rL 3 0 0) zs zm za zb zt zc H locs 0 0 Q (F0 zm 122 ls []) := by
                  intro fu
                  induction fu with
                  | zero =>
                    intro vk ρ hvk hN hmu H locs hM hS ls hl
                    exact absurd hmu (Nat.not_lt_zero _)
                  | succ fu ih122 =>
                    intro vk ρ hvk hN hmu H locs hM hS ls hl
                    refine lv_iload hx hb dX7_rename_122 (lv_at hl 4 rfl) ?_
                    refine lv_bipush (v := nI 20) hx hb dX7_rename_124 (by decide) ?_
                    refine n_icmp_ge (tgt := 213) hx hb dX7_rename_126 (by decide) (by first | omega | exact Nat.lt_of_le_of_lt (Nat.div_le_self _ _) hd31 | exact Nat.lt_trans (sdg_lt _ _) (by decide)) (by decide) (fun c_126 => ?_) (fun c_126 => ?_)
                    ·
                      refine lv_iload hx hb dX7_rename_213 (lv_at hl 3 rfl) ?_
                      have hr : rename_M μ (nI vp) (nI d) = (nI (μ.1 16), nwP μ (μ.2.1 1 vp) (μ.2.1 2 vp) (μ.2.1 3 vp) (rnD μ vp d)) := by unfold rename_M; rw [c_5, if_pos (by rfl), hcp, hpr, if_pos (by rfl), if_neg c_100, hcd]
                      refine w_top (v' := .int ((rename_M μ (nI vp) (nI d)).1)) (show (.int (nI (μ.1 16)) : Value) = .int ((rename_M μ (nI vp) (nI d)).1) from (congrArg (fun z => Value.int z) (congrArg Prod.fst hr).symm)) ?_
                      exact hE _ _ _ _ _ _ (kr_i dX7_rename_215) hS (by decide) (by decide) ⟨(uS ρ 16 (μ.1 16 + 1)), hM, (by
                        rw [hr]
                        exact vis_nw (NW_c (fun k hk8 => if_pos (by omega)) hN))⟩
                    ·
                      have hf3 : ρ.2.1 3 vp = μ.2.1 3 vp := (hN.1.2.2.1 vp (by omega)).2.2
                      have hrd : ρ.2.1 4 (20 * μ.1 16 + vk) = idC (μ.2.1 1 vp) (μ.2.1 2 vp) (clM μ vp) vk := by rw [hN.2.2.2.2 vk (by omega)]; exact if_neg (Nat.lt_irrefl _)
                      have hidc : idC (μ.2.1 1 vp) (μ.2.1 2 vp) (clM μ vp) vk = 0 ∨ idC (μ.2.1 1 vp) (μ.2.1 2 vp) (clM μ vp) vk = 1 ∨ (10 ≤ idC (μ.2.1 1 vp) (μ.2.1 2 vp) (clM μ vp) vk ∧ idC (μ.2.1 1 vp) (μ.2.1 2 vp) (clM μ vp) vk < 10 + μ.2.1 3 vp) := by
                        unfold idC
                        split
                        · exact hbC vk (by omega)
                        · exact Or.inl rfl
                      have hi16 : idC (μ.2.1 1 vp) (μ.2.1 2 vp) (clM μ vp) vk < 16 := by omega
                      refine lv_aload_n hx hb dX7_rename_129 rfl (lv_at hl 0 rfl) ?_
                      refine kg (C := RX7) (T := TX7) (N := 32) (ci := 5) (k := 4) (v := .ref (om + 5)) S hK rfl inX7 (by decide) q_734 dX7_rename_130 hM rfl rfl ?_
                      refine lv_bipush (v := nI 20) hx hb dX7_rename_133 (by decide) ?_
                      refine lv_iload hx hb dX7_rename_135 (lv_at hl 3 rfl) ?_
                      refine n_imul hx hb dX7_rename_137 ?_
                      refine lv_iload hx hb dX7_rename_138 (lv_at hl 4 rfl) ?_
                      refine n_iadd hx hb dX7_rename_140 ?_
                      refine kil (f := ρ.2.1 4) S hK dX7_rename_141 5 hM rfl (by decide) rfl (by omega) ?_
                      refine w_top (v' := .int (nI (idC (μ.2.1 1 vp) (μ.2.1 2 vp) (clM μ vp) vk))) (congrArg (fun z => Value.int (nI z)) hrd) ?_
                      refine lv_istore (lv' := [(7, .int (nI (idC (μ.2.1 1 vp) (μ.2.1 2 vp) (clM μ vp) vk))), (0, .ref om), (1, .int (nI vp)), (2, .int (nI d)), (5, .int (nI (μ.1 16))), (6, .int (nI vk))]) hx hb dX7_rename_142 hl (by decide) rfl (fun ls hl => ?_)
                      refine lv_iload hx hb dX7_rename_144 (lv_at hl 0 rfl) ?_
                      refine lv_bipush (v := nI 10) hx hb dX7_rename_146 (by decide) ?_
                      refine n_icmp_ge (tgt := 154) hx hb dX7_rename_148 (by decide) (by first | omega | exact Nat.lt_of_le_of_lt (Nat.div_le_self _ _) hd31 | exact Nat.lt_trans (sdg_lt _ _) (by decide)) (by decide) (fun c_148 => ?_) (fun c_148 => ?_)
                      ·
                        refine lv_iload_n hx hb dX7_rename_154 rfl (lv_at hl 3 rfl) ?_
                        refine lv_istore_n (lv' := [(3, .int (nI d)), (7, .int (nI (idC (μ.2.1 1 vp) (μ.2.1 2 vp) (clM μ vp) vk))), (0, .ref om), (1, .int (nI vp)), (2, .int (nI d)), (5, .int (nI (μ.1 16))), (6, .int (nI vk))]) hx hb dX7_rename_155 rfl hl (by decide) rfl (fun ls hl => ?_)
                        refine lv_aload_n hx hb dX7_rename_156 rfl (lv_at hl 2 rfl) ?_
                        refine kg (C := RX7) (T := TX7) (N := 32) (ci := 5) (k := 3) (v := .ref (om + 4)) S hK rfl inX7 (by decide) q_733 dX7_rename_157 hM rfl rfl ?_
                        refine lv_iload_n hx hb dX7_rename_160 rfl (lv_at hl 3 rfl) ?_
                        refine kil (f := ρ.2.1 3) S hK dX7_rename_161 4 hM rfl (by decide) rfl (by first | omega | exact Nat.lt_of_le_of_lt (Nat.div_le_self _ _) hd31 | exact Nat.lt_trans (sdg_lt _ _) (by decide)) ?_
                        refine w_top (v' := .int (nI (μ.2.1 3 vp))) (congrArg (fun z => Value.int (nI z)) hf3) ?_
                        refine lv_iconst (v := nI 1) hx hb dX7_rename_162 (by decide) ?_
                        refine n_isub hx hb dX7_rename_163 (by omega) ?_
                        refine lv_istore (lv' := [(8, .int (nI ((μ.2.1 3 vp) - 1))), (3, .int (nI d)), (7, .int (nI (idC (μ.2.1 1 vp) (μ.2.1 2 vp) (clM μ vp) vk))), (0, .ref om), (1, .int (nI vp)), (2, .int (nI d)), (5, .int (nI (μ.1 16))), (6, .int (nI vk))]) hx hb dX7_rename_164 hl (by decide) rfl (fun ls hl => ?_)
                        have L166 : ∀ (fu : Nat), ∀ (vg : Nat), (idC (μ.2.1 1 vp) (μ.2.1 2 vp) (clM μ vp) vk - 10 ≤ vg ∧ vg < μ.2.1 3 vp) → vg < fu → ∀ (H : Heap) (locs : List Loc), bk G om (mL G om (uS ρ 16 (μ.1 16 + 1))) H → va_S (fun q => om ≤ q ∧ q < om + 20) zs.heap H locs → ∀ ls : Array Slot, lv_has ls 9 [(0, .ref om), (1, .int (nI vp)), (2, .int (nI d)), (3, .int (nI (d / 10 ^ (μ.2.1 3 vp - 1 - vg)))), (5, .int (nI (μ.1 16))), (6, .int (nI vk)), (7, .int (nI (idC (μ.2.1 1 vp) (μ.2.1 2 vp) (clM μ vp) vk))), (8, .int (nI vg))] → W zp l ze (rL 3 0 0) zs zm za zb zt zc H locs 0 0 Q (F0 zm 166 ls []) := by
                          intro fu
                          induction fu with
                          | zero =>
                            intro vg hvg hmu H locs hM hS ls hl
                            exact absurd hmu (Nat.not_lt_zero _)
                          | succ fu ih166 =>
                            intro vg hvg hmu H locs hM hS ls hl
                            refine lv_iload hx hb dX7_rename_166 (lv_at hl 7 rfl) ?_
                            refine lv_iload hx hb dX7_rename_168 (lv_at hl 6 rfl) ?_
                            refine lv_bipush (v := nI 10) hx hb dX7_rename_170 (by decide) ?_
                            refine n_isub hx hb dX7_rename_172 (by omega) ?_
                            refine n_icmp_le (tgt := 187) hx hb dX7_rename_173 (by decide) (by first | omega | exact Nat.lt_of_le_of_lt (Nat.div_le_self _ _) hd31 | exact Nat.lt_trans (sdg_lt _ _) (by decide)) (by first | omega | exact Nat.lt_of_le_of_lt (Nat.div_le_self _ _) hd31 | exact Nat.lt_trans (sdg_lt _ _) (by decide)) (fun c_173 => ?_) (fun c_173 => ?_)
                            ·
                              refine lv_aload_n hx hb dX7_rename_187 rfl (lv_at hl 0 rfl) ?_
                              refine kg (C := RX7) (T := TX7) (N := 32) (ci := 5) (k := 4) (v := .ref (om + 5)) S hK rfl inX7 (by decide) q_734 dX7_rename_188 hM rfl rfl ?_
                              refine lv_bipush (v := nI 20) hx hb dX7_rename_191 (by decide) ?_
                              refine lv_iload hx hb dX7_rename_193 (lv_at hl 4 rfl) ?_
                              refine n_imul hx hb dX7_rename_195 ?_
                              refine lv_iload hx hb dX7_rename_196 (lv_at hl 5 rfl) ?_
                              refine n_iadd hx hb dX7_rename_198 ?_
                              refine lv_bipush (v := nI 10) hx hb dX7_rename_199 (by decide) ?_
                              refine lv_iload_n hx hb dX7_rename_201 rfl (lv_at hl 3 rfl) ?_
                              refine lv_bipush (v := nI 10) hx hb dX7_rename_202 (by decide) ?_
                              refine n_irem hx hb dX7_rename_204 (by first | omega | exact Nat.lt_of_le_of_lt (Nat.div_le_self _ _) hd31 | exact Nat.lt_trans (sdg_lt _ _) (by decide)) (by decide) (by decide) ?_
                              refine n_iadd hx hb dX7_rename_205 ?_
                              refine kis S hK dX7_rename_206 5 hM rfl (by decide) rfl (by omega) rfl (L1 := mL G om (uA (uS ρ 16 (μ.1 16 + 1)) 4 ((20 * (μ.1 16)) + vk) (10 + ((d / 10 ^ (μ.2.1 3 vp - 1 - vg)) % 10)))) rfl hS (by first | exact ⟨by omega, by omega⟩ | omega) (fun H locs hM hS hz2 hk => ?_)
                              refine lv_iinc (v := (nI (vk + 1))) (lv' := [(6, .int (nI (vk + 1))), (0, .ref om), (1, .int (nI vp)), (2, .int (nI d)), (3, .int (nI (d / 10 ^ (μ.2.1 3 vp - 1 - vg)))), (5, .int (nI (μ.1 16))), (7, .int (nI (idC (μ.2.1 1 vp) (μ.2.1 2 vp) (clM μ vp) vk))), (8, .int (nI vg))]) hx hb dX7_rename_207 hl (k := 5) rfl (inc1 _) (by decide) rfl (fun ls hl => ?_)
                              refine lv_goto (tgt := 122) hx hb dX7_rename_210 (by decide) ?_
                              replace hM := bk_eq hM (show mL G om (uA (uS ρ 16 (μ.1 16 + 1)) 4 ((20 * (μ.1 16)) + vk) (10 + ((d / 10 ^ (μ.2.1 3 vp - 1 - vg)) % 10))) = mL G om (uS (uA ρ 4 (20 * μ.1 16 + vk) (10 + d / 10 ^ (μ.2.1 3 vp - 1 - vg) % 10)) 16 (μ.1 16 + 1)) from rfl)
                              exact ih122 (vk + 1) (uA ρ 4 (20 * μ.1 16 + vk) (10 + d / 10 ^ (μ.2.1 3 vp - 1 - vg) % 10)) (by omega) (NW_c (fun k hk8 => by
                                show uN _ vk _ k = _
                                by_cases e : k = vk
                                · rw [e, uN_s, if_pos (by omega)]
                                  show _ = rnC d (μ.2.1 3 vp) (idC (μ.2.1 1 vp) (μ.2.1 2 vp) (clM μ vp)) vk
                                  unfold rnC dgt
                                  rw [if_neg (by omega), show vg = idC (μ.2.1 1 vp) (μ.2.1 2 vp) (clM μ vp) vk - 10 from by omega]
                                · rw [uN_n e]
                                  by_cases z : k < vk
                                  · rw [if_pos z, if_pos (by omega)]
                                  · rw [if_neg z, if_neg (by omega)]) (NW_put hN (by omega))) (by omega) _ _ hM hS ls (lv_sub hl [1, 2, 3, 5, 0] rfl)
                            ·
                              refine lv_iload_n hx hb dX7_rename_176 rfl (lv_at hl 3 rfl) ?_
                              refine lv_bipush (v := nI 10) hx hb dX7_rename_177 (by decide) ?_
                              refine n_idiv hx hb dX7_rename_179 (by first | omega | exact Nat.lt_of_le_of_lt (Nat.div_le_self _ _) hd31 | exact Nat.lt_trans (sdg_lt _ _) (by decide)) (by decide) (by decide) ?_
                              refine lv_istore_n (lv' := [(3, .int (nI ((d / 10 ^ (μ.2.1 3 vp - 1 - vg)) / 10))), (0, .ref om), (1, .int (nI vp)), (2, .int (nI d)), (5, .int (nI (μ.1 16))), (6, .int (nI vk)), (7, .int (nI (idC (μ.2.1 1 vp) (μ.2.1 2 vp) (clM μ vp) vk))), (8, .int (nI vg))]) hx hb dX7_rename_180 rfl hl (by decide) rfl (fun ls hl => ?_)
                              refine lv_iinc (v := (nI (vg - 1))) (lv' := [(8, .int (nI (vg - 1))), (3, .int (nI ((d / 10 ^ (μ.2.1 3 vp - 1 - vg)) / 10))), (0, .ref om), (1, .int (nI vp)), (2, .int (nI d)), (5, .int (nI (μ.1 16))), (6, .int (nI vk)), (7, .int (nI (idC (μ.2.1 1 vp) (μ.2.1 2 vp) (clM μ vp) vk)))]) hx hb dX7_rename_181 hl (k := 7) rfl (dec1 _ (by omega)) (by decide) rfl (fun ls hl => ?_)
                              refine lv_goto (tgt := 166) hx hb dX7_rename_184 (by decide) ?_
                              replace hl := lv_eq 1 hl rfl (v2 := .int (nI (d / 10 ^ (μ.2.1 3 vp - 1 - (vg - 1))))) (congrArg (fun z => Value.int (nI z)) (show ((d / 10 ^ (μ.2.1 3 vp - 1 - vg)) / 10) = (d / 10 ^ (μ.2.1 3 vp - 1 - (vg - 1))) from by rw [div_10, show μ.2.1 3 vp - 1 - (vg - 1) = μ.2.1 3 vp - 1 - vg + 1 from by omega]))
                              exact ih166 (vg - 1) (by omega) (by omega) _ _ hM hS ls (lv_sub hl [2, 3, 4, 1, 5, 6, 7, 0] rfl)
                        replace hl := lv_eq 1 hl rfl (v2 := .int (nI (d / 10 ^ (μ.2.1 3 vp - 1 - (μ.2.1 3 vp - 1))))) (congrArg (fun z => Value.int (nI z)) (show d = (d / 10 ^ (μ.2.1 3 vp - 1 - (μ.2.1 3 vp - 1))) from by rw [show μ.2.1 3 vp - 1 - (μ.2.1 3 vp - 1) = 0 from by omega]; exact (Nat.div_one d).symm))
                        replace hl := lv_eq 0 hl rfl (v2 := .int (nI (μ.2.1 3 vp - 1))) (congrArg (fun z => Value.int (nI z)) (show ((μ.2.1 3 vp) - 1) = (μ.2.1 3 vp - 1) from by first | rfl | omega))
                        exact L166 ((μ.2.1 3 vp - 1) + 1) (μ.2.1 3 vp - 1) (by omega) (Nat.lt_succ_self _) _ _ hM hS ls (lv_sub hl [3, 4, 5, 1, 6, 7, 2, 0] rfl)
                      ·
                        refine lv_goto (tgt := 207) hx hb dX7_rename_151 (by decide) ?_
                        refine lv_iinc (v := (nI (vk + 1))) (lv' := [(6, .int (nI (vk + 1))), (7, .int (nI (idC (μ.2.1 1 vp) (μ.2.1 2 vp) (clM μ vp) vk))), (0, .ref om), (1, .int (nI vp)), (2, .int (nI d)), (5, .int (nI (μ.1 16)))]) hx hb dX7_rename_207 hl (k := 5) rfl (inc1 _) (by decide) rfl (fun ls hl => ?_)
                        refine lv_goto (tgt := 122) hx hb dX7_rename_210 (by decide) ?_
                        exact ih122 (vk + 1) ρ (by omega) (NW_c (fun k hk8 => by
                          by_cases z : k < vk
                          · rw [if_pos z, if_pos (by omega)]
                          · rw [if_neg z]
                            by_cases e : k = vk
                            · rw [e, if_pos (by omega)]
                              show _ = rnC d (μ.2.1 3 vp) (idC (μ.2.1 1 vp) (μ.2.1 2 vp) (clM μ vp)) vk
                              unfold rnC
                              rw [if_pos (by omega)]
                            · rw [if_neg (by omega)]) hN) (by omega) _ _ hM hS ls (lv_sub hl [2, 3, 4, 5, 0] rfl)
                exact L122 ((20 - 0) + 1) 0 σ1 (Nat.zero_le _) (NW_c (fun k hk8 => (if_neg (Nat.not_lt_zero k)).symm) hq114) (Nat.lt_succ_self _) _ _ hM hS ls (lv_sub hl [2, 3, 4, 1, 0] rfl)
              ·
                refine lv_aload_n hx hb dX7_rename_103 rfl (lv_at hl 0 rfl) ?_
                refine lv_bipush (v := (-6)) hx hb dX7_rename_104 (by decide) ?_
                refine ctV (rest := []) S hK (c_X7_refuse l G om μ (-6) 6 rfl (by decide)) cw_X7_72 rfl ⟨Nat.le_of_ble_eq_true rfl, Nat.le_of_ble_eq_true rfl⟩ ⟨Nat.le_of_ble_eq_true rfl, Nat.le_of_ble_eq_true rfl⟩ (bk.recv hK hM rfl rfl) hl.1 rfl (Nat.le_of_ble_eq_true rfl) dX7_rename_106 hM hS (fun _ h => by first | exact h | omega) (fun H locs hPost hz hk hS => ?_)
                have hM := hPost
                have hr : rename_M μ (nI vp) (nI d) = ((-6), uA μ 0 6 (μ.2.1 0 6 + 1)) := by unfold rename_M; rw [c_5, if_pos (by rfl), hcp, hpr, if_pos (by rfl), if_pos c_100]
                refine w_top (v' := .int ((rename_M μ (nI vp) (nI d)).1)) (congrArg (fun z => Value.int z) (congrArg Prod.fst hr).symm) ?_
                exact hE _ _ _ _ _ _ (kr_i dX7_rename_109) hS (by decide) (by decide) ⟨(uA μ 0 6 (μ.2.1 0 6 + 1)), hM, (by rw [hr]; exact vis_rf _)⟩
            ·
              have hpr : prB (nI d) (μ.2.1 3 vp) = false := by rw [prB_n hd31, decide_eq_false (p := sdg d (μ.2.1 3 vp) = 1 <<< μ.2.1 3 vp - 1) (by rw [hvf] at c_84; exact c_84), Bool.and_false]
              refine lv_aload_n hx hb dX7_rename_87 rfl (lv_at hl 0 rfl) ?_
              refine lv_bipush (v := (-3)) hx hb dX7_rename_88 (by decide) ?_
              refine ctV (rest := []) S hK (c_X7_refuse l G om μ (-3) 3 rfl (by decide)) cw_X7_72 rfl ⟨Nat.le_of_ble_eq_true rfl, Nat.le_of_ble_eq_true rfl⟩ ⟨Nat.le_of_ble_eq_true rfl, Nat.le_of_ble_eq_true rfl⟩ (bk.recv hK hM rfl rfl) hl.1 rfl (Nat.le_of_ble_eq_true rfl) dX7_rename_90 hM hS (fun _ h => by first | exact h | omega) (fun H locs hPost hz hk hS => ?_)
              have hM := hPost
              have hr : rename_M μ (nI vp) (nI d) = ((-3), uA μ 0 3 (μ.2.1 0 3 + 1)) := by unfold rename_M; rw [c_5, if_pos (by rfl), hcp, hpr, if_neg (by decide)]
              refine w_top (v' := .int ((rename_M μ (nI vp) (nI d)).1)) (congrArg (fun z => Value.int z) (congrArg Prod.fst hr).symm) ?_
              exact hE _ _ _ _ _ _ (kr_i dX7_rename_93) hS (by decide) (by decide) ⟨(uA μ 0 3 (μ.2.1 0 3 + 1)), hM, (by rw [hr]; exact vis_rf _)⟩
        ·
          refine lv_iload hx hb dX7_rename_33 (lv_at hl 4 rfl) ?_
          refine lv_iload_n hx hb dX7_rename_35 rfl (lv_at hl 3 rfl) ?_
          refine n_if_lt (tgt := 48) hx hb dX7_rename_36 (by decide) (by first | omega | exact Nat.lt_of_le_of_lt (Nat.div_le_self _ _) hd31 | exact Nat.lt_trans (sdg_lt _ _) (by decide)) (fun c_36 => ?_)
          refine lv_iconst (v := nI 1) hx hb dX7_rename_39 (by decide) ?_
          refine lv_iload_n hx hb dX7_rename_40 rfl (lv_at hl 3 rfl) ?_
          refine lv_bipush (v := nI 10) hx hb dX7_rename_41 (by decide) ?_
          refine n_irem hx hb dX7_rename_43 (by first | omega | exact Nat.lt_of_le_of_lt (Nat.div_le_self _ _) hd31 | exact Nat.lt_trans (sdg_lt _ _) (by decide)) (by decide) (by decide) ?_
          refine n_ishl hx hb dX7_rename_44 (Nat.lt_trans (Nat.mod_lt _ (by decide)) (by decide)) ?_
          refine lv_goto (tgt := 50) hx hb dX7_rename_45 (by decide) ?_
          refine n_ior hx hb dX7_rename_50 ?_
          refine lv_istore (lv' := [(4, .int (nI ((sdg d vi) ||| (1 <<< ((d / 10 ^ vi) % 10))))), (0, .ref om), (1, .int (nI vp)), (2, .int (nI d)), (3, .int (nI (d / 10 ^ vi))), (5, .int (nI vi))]) hx hb dX7_rename_51 hl (by decide) rfl (fun ls hl => ?_)
          refine lv_iload_n hx hb dX7_rename_53 rfl (lv_at hl 4 rfl) ?_
          refine lv_bipush (v := nI 10) hx hb dX7_rename_54 (by decide) ?_
          refine n_idiv hx hb dX7_rename_56 (by first | omega | exact Nat.lt_of_le_of_lt (Nat.div_le_self _ _) hd31 | exact Nat.lt_trans (sdg_lt _ _) (by decide)) (by decide) (by decide) ?_
          refine lv_istore_n (lv' := [(3, .int (nI ((d / 10 ^ vi) / 10))), (4, .int (nI ((sdg d vi) ||| (1 <<< ((d / 10 ^ vi) % 10))))), (0, .ref om), (1, .int (nI vp)), (2, .int (nI d)), (5, .int (nI vi))]) hx hb dX7_rename_57 rfl hl (by decide) rfl (fun ls hl => ?_)
          refine lv_iinc (v := (nI (vi + 1))) (lv' := [(5, .int (nI (vi + 1))), (3, .int (nI ((d / 10 ^ vi) / 10))), (4, .int (nI ((sdg d vi) ||| (1 <<< ((d / 10 ^ vi) % 10))))), (0, .ref om), (1, .int (nI vp)), (2, .int (nI d))]) hx hb dX7_rename_58 hl (k := 5) rfl (inc1 _) (by decide) rfl (fun ls hl => ?_)
          refine lv_goto (tgt := 22) hx hb dX7_rename_61 (by decide) ?_
          replace hl := lv_eq 1 hl rfl (v2 := .int (nI (d / 10 ^ (vi + 1)))) (congrArg (fun z => Value.int (nI z)) (show ((d / 10 ^ vi) / 10) = (d / 10 ^ (vi + 1)) from by rw [div_10]))
          replace hl := lv_eq 2 hl rfl (v2 := .int (nI (sdg d (vi + 1)))) (congrArg (fun z => Value.int (nI z)) (show ((sdg d vi) ||| (1 <<< ((d / 10 ^ vi) % 10))) = (sdg d (vi + 1)) from rfl))
          exact ih22 (vi + 1) (by omega) (by omega) _ _ hM hS ls (lv_sub hl [3, 4, 5, 1, 2, 0] rfl)
    replace hl := lv_eq 2 hl rfl (v2 := .int (nI (d / 10 ^ 0))) (congrArg (fun z => Value.int (nI z)) (show d = (d / 10 ^ 0) from (Nat.div_one d).symm))
    replace hl := lv_eq 1 hl rfl (v2 := .int (nI (sdg d 0))) (congrArg (fun z => Value.int (nI z)) (show 0 = (sdg d 0) from rfl))
    exact L22 ((μ.2.1 3 vp - 0) + 1) 0 (Nat.zero_le _) (Nat.lt_succ_self _) _ _ hM hS ls (lv_sub hl [3, 4, 5, 2, 1, 0] rfl)
  ·
    refine lv_aload_n hx hb dX7_rename_8 rfl (lv_at hl 0 rfl) ?_
    refine lv_iconst (v := (-1)) hx hb dX7_rename_9 (by decide) ?_
    refine ctV (rest := []) S hK (c_X7_refuse l G om μ (-1) 1 rfl (by decide)) cw_X7_72 rfl ⟨Nat.le_of_ble_eq_true rfl, Nat.le_of_ble_eq_true rfl⟩ ⟨Nat.le_of_ble_eq_true rfl, Nat.le_of_ble_eq_true rfl⟩ (bk.recv hK hM rfl rfl) hl.1 rfl (Nat.le_of_ble_eq_true rfl) dX7_rename_10 hM hS (fun _ h => by first | exact h | omega) (fun H locs hPost hz hk hS => ?_)
    have hM := hPost
    have hr : rename_M μ p (nI d) = ((-1), uA μ 0 1 (μ.2.1 0 1 + 1)) := by unfold rename_M; rw [c_5] <;> rfl
    refine w_top (v' := .int ((rename_M μ p (nI d)).1)) (congrArg (fun z => Value.int z) (congrArg Prod.fst hr).symm) ?_
    exact hE _ _ _ _ _ _ (kr_i dX7_rename_13) hS (by decide) (by decide) ⟨(uA μ 0 1 (μ.2.1 0 1 + 1)), hM, (by rw [hr]; exact vis_rf _)⟩

theorem c_X7_rename (l : Launch) (G : Gt) (om : Nat) (μ : Sx) (p : Int32) (d : Int32) (hb0 : MIb μ) : Ct l G yX7_rename cX7_rename 9 ((some .int)) 3 0 0 [.ref om, .int p, .int d] (fun H => bk G om (mL G om μ) H) (some (.int ((rename_M μ p d).1))) (fun H => ∃ σ : Sx, bk G om (mL G om σ) H ∧ vis σ (rename_M μ p d).2) (fun q => om ≤ q ∧ q < om + 20) := by
  by_cases h : d < 0
  · exact c_X7_rename_neg l G om μ p d hb0 h
  · obtain ⟨j, hj, rfl⟩ := nI_of h
    exact c_X7_rename_pos l G om μ p j hb0 hj
