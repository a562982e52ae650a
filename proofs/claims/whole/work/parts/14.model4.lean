
/-! walks: the reference's tape, counts, row and nets -/
def clZ (σ : Sx) (p : Nat) : Nat → Sx
  | 0 => σ
  | k + 1 => uA (clZ σ p k) 4 (20 * p + k) 0
def byt (b : Int64) (k : Nat) : Nat := (b.toBitVec.toNat >>> (8 * k)) % 256
theorem byt_lt (b : Int64) (k : Nat) : byt b k < 256 := Nat.mod_lt _ (by decide)
theorem byt_M {b : Int64} {k : Nat} (hk : k < 8) : ((b >>> ((nI (8 * k)).toInt64 &&& 63)) &&& lN 255).toInt32 = nI (byt b k) := by
  apply Int32.toBitVec_inj.mp
  have e : ((b >>> ((nI (8 * k)).toInt64 &&& 63)) &&& lN 255).toInt32.toBitVec = (((b.toBitVec.sshiftRight (((nI (8 * k)).toInt64 &&& 63).toBitVec.smod 64).toNat) &&& BitVec.ofNat 64 255).signExtend 32) := rfl
  rw [e, sh64 (8 * k) (by omega), nb_I]
  apply BitVec.eq_of_getLsbD_eq
  intro i hi
  rw [BitVec.getLsbD_signExtend, BitVec.getLsbD_and, BitVec.getLsbD_sshiftRight, BitVec.getLsbD_ofNat, BitVec.getLsbD_ofNat]
  unfold byt
  rw [show (256 : Nat) = 2 ^ 8 from rfl, Nat.testBit_mod_two_pow, Nat.testBit_shiftRight]
  have h255 : (255 : Nat).testBit i = decide (i < 8) := by
    rw [show (255 : Nat) = 2 ^ 8 - 1 from rfl, Nat.testBit_two_pow_sub_one]
  rw [h255]
  by_cases h8 : i < 8
  · simp [h8, hi, show i < 64 by omega, show 8 * k + i < 64 by omega, show ¬ 64 ≤ i by omega]
    rfl
  · simp [h8, hi]
    intro h64
    omega
def fdS (μ : Sx) (b : Int64) : Nat → Sx
  | 0 => μ
  | k + 1 => uS (uA (fdS μ b k) 21 ((fdS μ b k).1 22) (byt b k)) 22 ((fdS μ b k).1 22 + 1)
theorem fd22 (μ : Sx) (b : Int64) : ∀ k, (fdS μ b k).1 22 = μ.1 22 + k
  | 0 => rfl
  | k + 1 => by
    show (fdS μ b k).1 22 + 1 = _
    rw [fd22 μ b k]
    omega
def feed_M (μ : Sx) (n : Int32) (b : Int64) : Int32 × Sx := if nI 1 ≤ n then (if nI 8 < n then (-6, rfM μ 6) else if μ.1 22 + cx n ≤ 40 then (nI (μ.1 22 + cx n), fdS μ b (cx n)) else (-6, rfM μ 6)) else (-4, rfM μ 4)
theorem n_rng {n : Int32} {a b : Nat} (hb : b < 2 ^ 31) (ha : a < 2 ^ 31) (h1 : nI a ≤ n) (h8 : ¬ nI b < n) : ∃ j : Nat, a ≤ j ∧ j ≤ b ∧ n = nI j := by
  have q1 := Int32.le_iff_toInt_le.mp h1
  have q2 := mt Int32.lt_iff_toInt_lt.mpr h8
  rw [nI_toInt ha] at q1
  rw [nI_toInt hb] at q2
  refine ⟨n.toInt.toNat, by omega, by omega, ?_⟩
  apply Int32.toInt_inj.mp
  rw [nI_toInt (by omega)]
  omega
theorem wth3 (v : Int32) {b : Nat} (hb : b < 2 ^ 31) : v < nI 0 ∨ (¬ v < nI 0 ∧ nI b < v) ∨ ∃ j : Nat, j ≤ b ∧ v = nI j := by
  by_cases h1 : v < nI 0
  · exact Or.inl h1
  · by_cases h2 : nI b < v
    · exact Or.inr (Or.inl ⟨h1, h2⟩)
    · obtain ⟨j, -, h3, h4⟩ := n_rng (a := 0) hb (by decide) (by have := mt Int32.lt_iff_toInt_lt.mpr h1; exact Int32.le_iff_toInt_le.mpr (by omega)) h2
      exact Or.inr (Or.inr ⟨j, h3, h4⟩)
def count_M (μ : Sx) (w : Int32) : Int32 := if nI 10 < w ∧ w < nI 17 then nI (μ.2.1 0 (cx w - 10)) else if w = 0 then nI (μ.1 16) else if w = 1 then nI (μ.1 17) else if w = 2 then nI (μ.1 18) else if w = 3 then nI (μ.1 19) else if w = 4 then nI (μ.1 22) else if w = 5 then nI (μ.1 20) else -9
theorem sw6 (x : Int32) : x = 0 ∨ x = 1 ∨ x = 2 ∨ x = 3 ∨ x = 4 ∨ x = 5 ∨ (x.toInt < 0 ∨ 5 < x.toInt) := by
  by_cases h : x.toInt < 0 ∨ 5 < x.toInt
  · exact Or.inr (Or.inr (Or.inr (Or.inr (Or.inr (Or.inr h)))))
  · have h1 : x.toInt = 0 ∨ x.toInt = 1 ∨ x.toInt = 2 ∨ x.toInt = 3 ∨ x.toInt = 4 ∨ x.toInt = 5 := by omega
    rcases h1 with q | q | q | q | q | q
    · exact Or.inl (Int32.toInt_inj.mp q)
    · exact Or.inr (Or.inl (Int32.toInt_inj.mp q))
    · exact Or.inr (Or.inr (Or.inl (Int32.toInt_inj.mp q)))
    · exact Or.inr (Or.inr (Or.inr (Or.inl (Int32.toInt_inj.mp q))))
    · exact Or.inr (Or.inr (Or.inr (Or.inr (Or.inl (Int32.toInt_inj.mp q)))))
    · exact Or.inr (Or.inr (Or.inr (Or.inr (Or.inr (Or.inl (Int32.toInt_inj.mp q))))))
def put_M (μ : Sx) (xy : Int32) : Int32 × Sx := if xy < nI 0 then (-4, rfM μ 4) else if nI 99 < xy then (-6, rfM μ 6) else if μ.1 20 = 3 then (-6, rfM μ 6) else (nI (μ.1 20 + 1), uS (uA μ 15 (μ.1 20) (cx xy)) 20 (μ.1 20 + 1))
def clear_M (μ : Sx) : Int32 × Sx := (nI (μ.1 19), uS μ 19 0)
def net_M (μ : Sx) : Int32 × Sx := if μ.1 18 = 6 then (-6, rfM μ 6) else (nI (μ.1 18), uS (uA (uA μ 7 (μ.1 18) 0) 8 (μ.1 18) 0) 18 (μ.1 18 + 1))
def piece_M (μ : Sx) (n p : Int32) : Int32 × Sx := if inI n (μ.1 18) && inI p (μ.1 16) then (if μ.2.1 7 (cx n) = 8 then (-6, rfM μ 6) else (nI (μ.2.1 7 (cx n)), uA (uA μ 9 (8 * cx n + μ.2.1 7 (cx n)) (cx p)) 7 (cx n) (μ.2.1 7 (cx n) + 1))) else (-1, rfM μ 1)
/-- what holds of the NETS -/
def MIn (μ : Sx) : Prop := μ.1 18 ≤ 6 ∧ ∀ n, n < μ.1 18 → μ.2.1 7 n ≤ 8 ∧ μ.2.1 8 n ≤ 12 ∧ (∀ k, k < μ.2.1 7 n → μ.2.1 9 (8 * n + k) < μ.1 16) ∧ ∀ k, k < μ.2.1 8 n → μ.2.1 10 (12 * n + k) < 80 ∧ μ.2.1 11 (12 * n + k) < 80

set_option maxHeartbeats 1000000 in
set_option maxRecDepth 100000 in
theorem c_X7_begins (l : Launch) (G : Gt) (om : Nat) (μ : Sx) (p : Nat) (w : Nat) (h : Nat) (f : Nat) (hp : p < 25) : Ct l G yX7_begins cX7_begins 6 (none) 0 0 0 [.ref om, .int (nI p), .int (nI w), .int (nI h), .int (nI f)] (fun H => bk G om (mL G om μ) H) none (fun H => bk G om (mL G om (clZ (uA (uA (uA μ 1 p w) 2 p h) 3 p f) p 20)) H) (fun q => om ≤ q ∧ q < om + 20) := by
  refine ct_entry [(0, .ref om), (1, .int (nI p)), (2, .int (nI w)), (3, .int (nI h)), (4, .int (nI f))] (by decide) (Nat.le_of_ble_eq_true rfl) rfl ?_
  intro zp ze zs zm za zb zt zc Q S hK hPre hin hE ls hl
  have hx := S.1
  have hb := S.2.1
  have hM := hPre
  have hS : va_S (fun q => om ≤ q ∧ q < om + 20) zs.heap zs.heap [] := va_S.rf
  refine lv_aload_n hx hb dX7_begins_0 rfl (lv_at hl 0 rfl) ?_
  refine kg (C := RX7) (T := TX7) (N := 32) (ci := 5) (k := 1) (v := .ref (om + 2)) S hK rfl inX7 (by decide) q_731 dX7_begins_1 hM rfl rfl ?_
  refine lv_iload_n hx hb dX7_begins_4 rfl (lv_at hl 1 rfl) ?_
  refine lv_iload_n hx hb dX7_begins_5 rfl (lv_at hl 2 rfl) ?_
  refine kis S hK dX7_begins_6 2 hM rfl (by decide) rfl (by omega) rfl (L1 := mL G om (uA μ 1 p w)) rfl hS (by first | exact ⟨by omega, by omega⟩ | omega) (fun H locs hM hS hz hk => ?_)
  refine lv_aload_n hx hb dX7_begins_7 rfl (lv_at hl 0 rfl) ?_
  refine kg (C := RX7) (T := TX7) (N := 32) (ci := 5) (k := 2) (v := .ref (om + 3)) S hK rfl inX7 (by decide) q_732 dX7_begins_8 hM rfl rfl ?_
  refine lv_iload_n hx hb dX7_begins_11 rfl (lv_at hl 1 rfl) ?_
  refine lv_iload_n hx hb dX7_begins_12 rfl (lv_at hl 3 rfl) ?_
  refine kis S hK dX7_begins_13 3 hM rfl (by decide) rfl (by omega) rfl (L1 := mL G om (uA (uA μ 1 p w) 2 p h)) rfl hS (by first | exact ⟨by omega, by omega⟩ | omega) (fun H locs hM hS hz hk => ?_)
  refine lv_aload_n hx hb dX7_begins_14 rfl (lv_at hl 0 rfl) ?_
  refine kg (C := RX7) (T := TX7) (N := 32) (ci := 5) (k := 3) (v := .ref (om + 4)) S hK rfl inX7 (by decide) q_733 dX7_begins_15 hM rfl rfl ?_
  refine lv_iload_n hx hb dX7_begins_18 rfl (lv_at hl 1 rfl) ?_
  refine lv_iload hx hb dX7_begins_19 (lv_at hl 4 rfl) ?_
  refine kis S hK dX7_begins_21 4 hM rfl (by decide) rfl (by omega) rfl (L1 := mL G om (uA (uA (uA μ 1 p w) 2 p h) 3 p f)) rfl hS (by first | exact ⟨by omega, by omega⟩ | omega) (fun H locs hM hS hz hk => ?_)
  refine lv_iconst (v := nI 0) hx hb dX7_begins_22 (by decide) ?_
  refine lv_istore (lv' := [(5, .int (nI 0)), (0, .ref om), (1, .int (nI p)), (2, .int (nI w)), (3, .int (nI h)), (4, .int (nI f))]) hx hb dX7_begins_23 hl (by decide) rfl (fun ls hl => ?_)
  have L25 : ∀ (fu : Nat), ∀ (vk : Nat), (vk ≤ 20) → 20 - vk < fu → ∀ (H : Heap) (locs : List Loc), bk G om (mL G om (clZ (uA (uA (uA μ 1 p w) 2 p h) 3 p f) p vk)) H → va_S (fun q => om ≤ q ∧ q < om + 20) zs.heap H locs → ∀ ls : Array Slot, lv_has ls 6 [(0, .ref om), (1, .int (nI p)), (5, .int (nI vk))] → W zp l ze (rL 0 0 0) zs zm za zb zt zc H locs 0 0 Q (F0 zm 25 ls []) := by
    intro fu
    induction fu with
    | zero =>
      intro vk hvk hmu H locs hM hS ls hl
      exact absurd hmu (Nat.not_lt_zero _)
    | succ fu ih25 =>
      intro vk hvk hmu H locs hM hS ls hl
      refine lv_iload hx hb dX7_begins_25 (lv_at hl 2 rfl) ?_
      refine lv_bipush (v := nI 20) hx hb dX7_begins_27 (by decide) ?_
      refine n_icmp_ge (tgt := 51) hx hb dX7_begins_29 (by decide) (by omega) (by decide) (fun c_29 => ?_) (fun c_29 => ?_)
      ·
        have hv20 : vk = 20 := by omega
        subst hv20
        exact hE _ _ _ _ _ _ (kr_v dX7_begins_51) hS (by decide) (by decide) hM
      ·
        refine lv_aload_n hx hb dX7_begins_32 rfl (lv_at hl 0 rfl) ?_
        refine kg (C := RX7) (T := TX7) (N := 32) (ci := 5) (k := 4) (v := .ref (om + 5)) S hK rfl inX7 (by decide) q_734 dX7_begins_33 hM rfl rfl ?_
        refine lv_bipush (v := nI 20) hx hb dX7_begins_36 (by decide) ?_
        refine lv_iload_n hx hb dX7_begins_38 rfl (lv_at hl 1 rfl) ?_
        refine n_imul hx hb dX7_begins_39 ?_
        refine lv_iload hx hb dX7_begins_40 (lv_at hl 2 rfl) ?_
        refine n_iadd hx hb dX7_begins_42 ?_
        refine lv_iconst (v := nI 0) hx hb dX7_begins_43 (by decide) ?_
        refine kis S hK dX7_begins_44 5 hM rfl (by decide) rfl (by omega) rfl (L1 := mL G om (uA (clZ (uA (uA (uA μ 1 p w) 2 p h) 3 p f) p vk) 4 ((20 * p) + vk) 0)) rfl hS (by first | exact ⟨by omega, by omega⟩ | omega) (fun H locs hM hS hz hk => ?_)
        refine lv_iinc (v := nI (vk + 1)) (lv' := [(5, .int (nI (vk + 1))), (0, .ref om), (1, .int (nI p))]) hx hb dX7_begins_45 hl (k := 2) rfl (inc1 _) (by decide) rfl (fun ls hl => ?_)
        refine lv_goto (tgt := 25) hx hb dX7_begins_48 (by decide) ?_
        replace hM := bk_eq hM (show mL G om (uA (clZ (uA (uA (uA μ 1 p w) 2 p h) 3 p f) p vk) 4 ((20 * p) + vk) 0) = mL G om (clZ (uA (uA (uA μ 1 p w) 2 p h) 3 p f) p (vk + 1)) from rfl)
        exact ih25 (vk + 1) (by first | assumption | omega) (by omega) _ _ hM hS ls (lv_sub hl [1, 2, 0] rfl)
  replace hM := bk_eq hM (show mL G om (uA (uA (uA μ 1 p w) 2 p h) 3 p f) = mL G om (clZ (uA (uA (uA μ 1 p w) 2 p h) 3 p f) p 0) from rfl)
  exact L25 ((20 - 0) + 1) 0 (Nat.zero_le _) (Nat.lt_succ_self _) _ _ hM hS ls (lv_sub hl [1, 2, 0] rfl)

set_option maxHeartbeats 1000000 in
set_option maxRecDepth 100000 in
theorem c_X7_feed (l : Launch) (G : Gt) (om : Nat) (μ : Sx) (n : Int32) (bv : Int64) (ht : μ.1 22 ≤ 40) : Ct l G yX7_feed cX7_feed 5 ((some .int)) 1 0 0 [.ref om, .int n, .long bv] (fun H => bk G om (mL G om μ) H) (some (.int ((feed_M μ n bv).1))) (fun H => bk G om (mL G om ((feed_M μ n bv).2)) H) (fun q => om ≤ q ∧ q < om + 20) := by
  refine ct_entry [(0, .ref om), (1, .int n), (2, .long bv)] (by decide) (Nat.le_of_ble_eq_true rfl) rfl ?_
  intro zp ze zs zm za zb zt zc Q S hK hPre hin hE ls hl
  have hx := S.1
  have hb := S.2.1
  have hM := hPre
  have hS : va_S (fun q => om ≤ q ∧ q < om + 20) zs.heap zs.heap [] := va_S.rf
  refine lv_iload_n hx hb dX7_feed_0 rfl (lv_at hl 1 rfl) ?_
  refine lv_iconst (v := nI 1) hx hb dX7_feed_1 (by decide) ?_
  refine lv_icmp_ge (tgt := 12) hx hb dX7_feed_2 (by decide) (fun c_2 => ?_) (fun c_2 => ?_)
  ·
    refine lv_iload_n hx hb dX7_feed_12 rfl (lv_at hl 1 rfl) ?_
    refine lv_bipush (v := nI 8) hx hb dX7_feed_13 (by decide) ?_
    refine lv_icmp_gt (tgt := 29) hx hb dX7_feed_15 (by decide) (fun c_15 => ?_) (fun c_15 => ?_)
    ·
      refine lv_aload_n hx hb dX7_feed_29 rfl (lv_at hl 0 rfl) ?_
      refine lv_bipush (v := (-6)) hx hb dX7_feed_30 (by decide) ?_
      refine ctV (rest := []) S hK (c_X7_refuse l G om μ (-6) 6 (by first | assumption | omega | decide) (by first | assumption | omega | decide)) cw_X7_72 rfl ⟨Nat.le_of_ble_eq_true rfl, Nat.le_of_ble_eq_true rfl⟩ ⟨Nat.le_of_ble_eq_true rfl, Nat.le_of_ble_eq_true rfl⟩ (bk.recv hK hM rfl rfl) hl.1 rfl (Nat.le_of_ble_eq_true rfl) dX7_feed_32 hM hS (fun _ h => h) (fun H locs hPost hz hk hS => ?_)
      have hM := hPost
      have hr : feed_M μ n bv = ((-6), uA μ 0 6 (μ.2.1 0 6 + 1)) := by unfold feed_M; simp [c_2, c_15, fd22]
      refine w_top (v' := .int ((feed_M μ n bv).1)) (congrArg (fun z => Value.int z) (congrArg Prod.fst hr).symm) ?_
      replace hM := bk_eq hM (show mL G om (uA μ 0 6 (μ.2.1 0 6 + 1)) = mL G om ((feed_M μ n bv).2) from by rw [hr])
      exact hE _ _ _ _ _ _ (kr_i dX7_feed_35) hS (by decide) (by decide) hM
    ·
      obtain ⟨vn, hv1, hv8, rfl⟩ := n_rng (by decide) (by decide) c_2 c_15
      have hcx := cx_n (j := vn) (by omega)
      refine lv_aload_n hx hb dX7_feed_18 rfl (lv_at hl 0 rfl) ?_
      refine kg (C := RX7) (T := TX7) (N := 32) (ci := 5) (k := 22) (v := .int (nI (μ.1 22))) S hK rfl inX7 (by decide) q_752 dX7_feed_19 hM rfl rfl ?_
      refine lv_iload_n hx hb dX7_feed_22 rfl (lv_at hl 1 rfl) ?_
      refine n_iadd hx hb dX7_feed_23 ?_
      refine lv_bipush (v := nI 40) hx hb dX7_feed_24 (by decide) ?_
      refine n_icmp_le (tgt := 36) hx hb dX7_feed_26 (by decide) (by omega) (by decide) (fun c_26 => ?_) (fun c_26 => ?_)
      ·
        refine lv_iconst (v := nI 0) hx hb dX7_feed_36 (by decide) ?_
        refine lv_istore (lv' := [(4, .int (nI 0)), (0, .ref om), (1, .int (nI vn)), (2, .long bv)]) hx hb dX7_feed_37 hl (by decide) rfl (fun ls hl => ?_)
        have L39 : ∀ (fu : Nat), ∀ (vk : Nat), (vk ≤ vn) → vn - vk < fu → ∀ (H : Heap) (locs : List Loc), bk G om (mL G om (fdS μ bv vk)) H → va_S (fun q => om ≤ q ∧ q < om + 20) zs.heap H locs → ∀ ls : Array Slot, lv_has ls 5 [(0, .ref om), (1, .int (nI vn)), (2, .long bv), (4, .int (nI vk))] → W zp l ze (rL 1 0 0) zs zm za zb zt zc H locs 0 0 Q (F0 zm 39 ls []) := by
          intro fu
          induction fu with
          | zero =>
            intro vk hvk hmu H locs hM hS ls hl
            exact absurd hmu (Nat.not_lt_zero _)
          | succ fu ih39 =>
            intro vk hvk hmu H locs hM hS ls hl
            refine lv_iload hx hb dX7_feed_39 (lv_at hl 3 rfl) ?_
            refine lv_iload_n hx hb dX7_feed_41 rfl (lv_at hl 1 rfl) ?_
            refine n_icmp_ge (tgt := 82) hx hb dX7_feed_42 (by decide) (by omega) (by omega) (fun c_42 => ?_) (fun c_42 => ?_)
            ·
              have hv9 : vk = vn := by omega
              subst hv9
              refine lv_aload_n hx hb dX7_feed_82 rfl (lv_at hl 0 rfl) ?_
              refine kg (C := RX7) (T := TX7) (N := 32) (ci := 5) (k := 22) (v := .int (nI ((fdS μ bv vk).1 22))) S hK rfl inX7 (by decide) q_752 dX7_feed_83 hM rfl rfl ?_
              have hr : feed_M μ (nI vk) bv = (nI ((fdS μ bv vk).1 22), fdS μ bv vk) := by unfold feed_M; simp [c_2, c_15, hcx, c_26, c_42, fd22]
              refine w_top (v' := .int ((feed_M μ (nI vk) bv).1)) (congrArg (fun z => Value.int z) (congrArg Prod.fst hr).symm) ?_
              replace hM := bk_eq hM (show mL G om (fdS μ bv vk) = mL G om ((feed_M μ (nI vk) bv).2) from by rw [hr])
              exact hE _ _ _ _ _ _ (kr_i dX7_feed_86) hS (by decide) (by decide) hM
            ·
              refine lv_aload_n hx hb dX7_feed_45 rfl (lv_at hl 0 rfl) ?_
              refine kg (C := RX7) (T := TX7) (N := 32) (ci := 5) (k := 21) (v := .ref (om + 17)) S hK rfl inX7 (by decide) q_751 dX7_feed_46 hM rfl rfl ?_
              refine lv_aload_n hx hb dX7_feed_49 rfl (lv_at hl 0 rfl) ?_
              refine kg (C := RX7) (T := TX7) (N := 32) (ci := 5) (k := 22) (v := .int (nI ((fdS μ bv vk).1 22))) S hK rfl inX7 (by decide) q_752 dX7_feed_50 hM rfl rfl ?_
              have h22 := fd22 μ bv vk
              refine lv_lload_n hx hb dX7_feed_53 rfl (lv_at hl 2 rfl) ?_
              refine lv_bipush (v := nI 8) hx hb dX7_feed_54 (by decide) ?_
              refine lv_iload hx hb dX7_feed_56 (lv_at hl 3 rfl) ?_
              refine n_imul hx hb dX7_feed_58 ?_
              refine lv_lshr hx hb dX7_feed_59 rfl ?_
              refine lv_ldc2 (v := lN 255) hx hb S.2.2.2.1 (S.2.2.2.2 _ q_835) dX7_feed_60 ?_
              refine lv_land hx hb dX7_feed_63 ?_
              refine lv_l2i hx hb dX7_feed_64 rfl ?_
              refine w_top (v' := .int (nI (byt bv vk))) (congrArg (fun z => Value.int z) (byt_M (by omega))) ?_
              refine kis S hK dX7_feed_65 17 hM rfl (by decide) rfl (by omega) rfl (L1 := mL G om (uA (fdS μ bv vk) 21 ((fdS μ bv vk).1 22) (byt bv vk))) rfl hS (by first | exact ⟨by omega, by omega⟩ | omega) (fun H locs hM hS hz hk => ?_)
              refine lv_aload_n hx hb dX7_feed_66 rfl (lv_at hl 0 rfl) ?_
              refine lv_dup hx hb dX7_feed_67 rfl ?_
              refine kg (C := RX7) (T := TX7) (N := 32) (ci := 5) (k := 22) (v := .int (nI ((fdS μ bv vk).1 22))) S hK rfl inX7 (by decide) q_752 dX7_feed_68 hM rfl rfl ?_
              refine lv_iconst (v := nI 1) hx hb dX7_feed_71 (by decide) ?_
              refine n_iadd hx hb dX7_feed_72 ?_
              refine kp (C := RX7) (T := TX7) (N := 32) (ci := 5) (k := 22) (ty := .int) tyX7 tyX7_ok nmX7 S hK rfl inX7 (by decide) q_752 rfl dX7_feed_73 rfl rfl rfl hM rfl (Nat.le_of_ble_eq_true rfl) (L1 := mL G om (uS (uA (fdS μ bv vk) 21 ((fdS μ bv vk).1 22) (byt bv vk)) 22 (((fdS μ bv vk).1 22) + 1))) rfl hS (by first | exact ⟨by omega, by omega⟩ | omega) (fun H locs hM hS hz hk => ?_)
              refine lv_iinc (v := nI (vk + 1)) (lv' := [(4, .int (nI (vk + 1))), (0, .ref om), (1, .int (nI vn)), (2, .long bv)]) hx hb dX7_feed_76 hl (k := 3) rfl (inc1 _) (by decide) rfl (fun ls hl => ?_)
              refine lv_goto (tgt := 39) hx hb dX7_feed_79 (by decide) ?_
              replace hM := bk_eq hM (show mL G om (uS (uA (fdS μ bv vk) 21 ((fdS μ bv vk).1 22) (byt bv vk)) 22 (((fdS μ bv vk).1 22) + 1)) = mL G om (fdS μ bv (vk + 1)) from rfl)
              exact ih39 (vk + 1) (by first | assumption | omega) (by omega) _ _ hM hS ls (lv_sub hl [1, 2, 3, 0] rfl)
        replace hM := bk_eq hM (show mL G om μ = mL G om (fdS μ bv 0) from rfl)
        exact L39 ((vn - 0) + 1) 0 (Nat.zero_le _) (Nat.lt_succ_self _) _ _ hM hS ls (lv_sub hl [1, 2, 3, 0] rfl)
      ·
        refine lv_aload_n hx hb dX7_feed_29 rfl (lv_at hl 0 rfl) ?_
        refine lv_bipush (v := (-6)) hx hb dX7_feed_30 (by decide) ?_
        refine ctV (rest := []) S hK (c_X7_refuse l G om μ (-6) 6 (by first | assumption | omega | decide) (by first | assumption | omega | decide)) cw_X7_72 rfl ⟨Nat.le_of_ble_eq_true rfl, Nat.le_of_ble_eq_true rfl⟩ ⟨Nat.le_of_ble_eq_true rfl, Nat.le_of_ble_eq_true rfl⟩ (bk.recv hK hM rfl rfl) hl.1 rfl (Nat.le_of_ble_eq_true rfl) dX7_feed_32 hM hS (fun _ h => h) (fun H locs hPost hz hk hS => ?_)
        have hM := hPost
        have hr : feed_M μ (nI vn) bv = ((-6), uA μ 0 6 (μ.2.1 0 6 + 1)) := by unfold feed_M; simp [c_2, c_15, hcx, c_26, fd22]
        refine w_top (v' := .int ((feed_M μ (nI vn) bv).1)) (congrArg (fun z => Value.int z) (congrArg Prod.fst hr).symm) ?_
        replace hM := bk_eq hM (show mL G om (uA μ 0 6 (μ.2.1 0 6 + 1)) = mL G om ((feed_M μ (nI vn) bv).2) from by rw [hr])
        exact hE _ _ _ _ _ _ (kr_i dX7_feed_35) hS (by decide) (by decide) hM
  ·
    refine lv_aload_n hx hb dX7_feed_5 rfl (lv_at hl 0 rfl) ?_
    refine lv_bipush (v := (-4)) hx hb dX7_feed_6 (by decide) ?_
    refine ctV (rest := []) S hK (c_X7_refuse l G om μ (-4) 4 (by first | assumption | omega | decide) (by first | assumption | omega | decide)) cw_X7_72 rfl ⟨Nat.le_of_ble_eq_true rfl, Nat.le_of_ble_eq_true rfl⟩ ⟨Nat.le_of_ble_eq_true rfl, Nat.le_of_ble_eq_true rfl⟩ (bk.recv hK hM rfl rfl) hl.1 rfl (Nat.le_of_ble_eq_true rfl) dX7_feed_8 hM hS (fun _ h => h) (fun H locs hPost hz hk hS => ?_)
    have hM := hPost
    have hr : feed_M μ n bv = ((-4), uA μ 0 4 (μ.2.1 0 4 + 1)) := by unfold feed_M; simp [c_2, fd22]
    refine w_top (v' := .int ((feed_M μ n bv).1)) (congrArg (fun z => Value.int z) (congrArg Prod.fst hr).symm) ?_
    replace hM := bk_eq hM (show mL G om (uA μ 0 4 (μ.2.1 0 4 + 1)) = mL G om ((feed_M μ n bv).2) from by rw [hr])
    exact hE _ _ _ _ _ _ (kr_i dX7_feed_11) hS (by decide) (by decide) hM

set_option maxHeartbeats 1000000 in
set_option maxRecDepth 100000 in
theorem c_X7_count (l : Launch) (G : Gt) (om : Nat) (μ : Sx) (w : Int32)  : Cr l G yX7_count cX7_count 2 ((some .int)) 0 [.ref om, .int w] (fun H => bk G om (mL G om μ) H) (some (.int (count_M μ w))) := by
  refine cr_entry [(0, .ref om), (1, .int w)] (by decide) (Nat.le_of_ble_eq_true rfl) rfl ?_
  intro zp ze zs zm za zb zt zc Q S hK hPre hE ls hl
  have hx := S.1
  have hb := S.2.1
  have hM := hPre
  refine lv_iload_n hx hb dX7_count_0 rfl (lv_at hl 1 rfl) ?_
  refine lv_bipush (v := nI 10) hx hb dX7_count_1 (by decide) ?_
  refine lv_icmp_le (tgt := 22) hx hb dX7_count_3 (by decide) (fun c_3 => ?_) (fun c_3 => ?_)
  ·
    have hno : ¬ (nI 10 < w ∧ w < nI 17) := fun q => absurd q.1 (Int32.not_lt.mpr c_3)
    refine lv_iload_n hx hb dX7_count_22 rfl (lv_at hl 1 rfl) ?_
    rcases sw6 w with rfl | rfl | rfl | rfl | rfl | rfl | hd
    ·
      refine lv_tableIn (off := 37) (tgt := 60) hx hb dX7_count_23 (by decide) (by decide) (by decide) (by decide) ?_
      refine lv_aload_n hx hb dX7_count_60 rfl (lv_at hl 0 rfl) ?_
      refine kg (C := RX7) (T := TX7) (N := 32) (ci := 5) (k := 16) (v := .int (nI (μ.1 16))) S hK rfl inX7 (by decide) q_746 dX7_count_61 hM rfl rfl ?_
      refine w_top (v' := .int (count_M μ (0 : Int32))) (show (.int (nI (μ.1 16)) : Value) = .int (count_M μ (0 : Int32)) from (congrArg (fun z => Value.int z) (by unfold count_M; rw [if_neg hno]; rfl))) ?_
      exact hE _ _ (kr_i dX7_count_64)
    ·
      refine lv_tableIn (off := 42) (tgt := 65) hx hb dX7_count_23 (by decide) (by decide) (by decide) (by decide) ?_
      refine lv_aload_n hx hb dX7_count_65 rfl (lv_at hl 0 rfl) ?_
      refine kg (C := RX7) (T := TX7) (N := 32) (ci := 5) (k := 17) (v := .int (nI (μ.1 17))) S hK rfl inX7 (by decide) q_747 dX7_count_66 hM rfl rfl ?_
      refine w_top (v' := .int (count_M μ (1 : Int32))) (show (.int (nI (μ.1 17)) : Value) = .int (count_M μ (1 : Int32)) from (congrArg (fun z => Value.int z) (by unfold count_M; rw [if_neg hno]; rfl))) ?_
      exact hE _ _ (kr_i dX7_count_69)
    ·
      refine lv_tableIn (off := 47) (tgt := 70) hx hb dX7_count_23 (by decide) (by decide) (by decide) (by decide) ?_
      refine lv_aload_n hx hb dX7_count_70 rfl (lv_at hl 0 rfl) ?_
      refine kg (C := RX7) (T := TX7) (N := 32) (ci := 5) (k := 18) (v := .int (nI (μ.1 18))) S hK rfl inX7 (by decide) q_748 dX7_count_71 hM rfl rfl ?_
      refine w_top (v' := .int (count_M μ (2 : Int32))) (show (.int (nI (μ.1 18)) : Value) = .int (count_M μ (2 : Int32)) from (congrArg (fun z => Value.int z) (by unfold count_M; rw [if_neg hno]; rfl))) ?_
      exact hE _ _ (kr_i dX7_count_74)
    ·
      refine lv_tableIn (off := 52) (tgt := 75) hx hb dX7_count_23 (by decide) (by decide) (by decide) (by decide) ?_
      refine lv_aload_n hx hb dX7_count_75 rfl (lv_at hl 0 rfl) ?_
      refine kg (C := RX7) (T := TX7) (N := 32) (ci := 5) (k := 19) (v := .int (nI (μ.1 19))) S hK rfl inX7 (by decide) q_749 dX7_count_76 hM rfl rfl ?_
      refine w_top (v' := .int (count_M μ (3 : Int32))) (show (.int (nI (μ.1 19)) : Value) = .int (count_M μ (3 : Int32)) from (congrArg (fun z => Value.int z) (by unfold count_M; rw [if_neg hno]; rfl))) ?_
      exact hE _ _ (kr_i dX7_count_79)
    ·
      refine lv_tableIn (off := 57) (tgt := 80) hx hb dX7_count_23 (by decide) (by decide) (by decide) (by decide) ?_
      refine lv_aload_n hx hb dX7_count_80 rfl (lv_at hl 0 rfl) ?_
      refine kg (C := RX7) (T := TX7) (N := 32) (ci := 5) (k := 22) (v := .int (nI (μ.1 22))) S hK rfl inX7 (by decide) q_752 dX7_count_81 hM rfl rfl ?_
      refine w_top (v' := .int (count_M μ (4 : Int32))) (show (.int (nI (μ.1 22)) : Value) = .int (count_M μ (4 : Int32)) from (congrArg (fun z => Value.int z) (by unfold count_M; rw [if_neg hno]; rfl))) ?_
      exact hE _ _ (kr_i dX7_count_84)
    ·
      refine lv_tableIn (off := 62) (tgt := 85) hx hb dX7_count_23 (by decide) (by decide) (by decide) (by decide) ?_
      refine lv_aload_n hx hb dX7_count_85 rfl (lv_at hl 0 rfl) ?_
      refine kg (C := RX7) (T := TX7) (N := 32) (ci := 5) (k := 20) (v := .int (nI (μ.1 20))) S hK rfl inX7 (by decide) q_750 dX7_count_86 hM rfl rfl ?_
      refine w_top (v' := .int (count_M μ (5 : Int32))) (show (.int (nI (μ.1 20)) : Value) = .int (count_M μ (5 : Int32)) from (congrArg (fun z => Value.int z) (by unfold count_M; rw [if_neg hno]; rfl))) ?_
      exact hE _ _ (kr_i dX7_count_89)
    ·
      have hr : (-9 : Int32) = count_M μ w := by unfold count_M; rw [if_neg hno, if_neg (sw_ne hd (by decide) (by decide)), if_neg (sw_ne hd (by decide) (by decide)), if_neg (sw_ne hd (by decide) (by decide)), if_neg (sw_ne hd (by decide) (by decide)), if_neg (sw_ne hd (by decide) (by decide)), if_neg (sw_ne hd (by decide) (by decide))]
      refine lv_tableOut (tgt := 90) hx hb dX7_count_23 hd (by decide) ?_
      refine lv_bipush (v := (-9)) hx hb dX7_count_90 (by decide) ?_
      refine w_top (v' := .int (count_M μ w)) (congrArg (fun z => Value.int z) (show (-9) = (count_M μ w) from hr)) ?_
      exact hE _ _ (kr_i dX7_count_92)
  ·
    refine lv_iload_n hx hb dX7_count_6 rfl (lv_at hl 1 rfl) ?_
    refine lv_bipush (v := nI 17) hx hb dX7_count_7 (by decide) ?_
    refine lv_icmp_ge (tgt := 22) hx hb dX7_count_9 (by decide) (fun c_9 => ?_) (fun c_9 => ?_)
    ·
      have hno : ¬ (nI 10 < w ∧ w < nI 17) := fun q => absurd q.2 (Int32.not_lt.mpr c_9)
      refine lv_iload_n hx hb dX7_count_22 rfl (lv_at hl 1 rfl) ?_
      rcases sw6 w with rfl | rfl | rfl | rfl | rfl | rfl | hd
      ·
        refine lv_tableIn (off := 37) (tgt := 60) hx hb dX7_count_23 (by decide) (by decide) (by decide) (by decide) ?_
        refine lv_aload_n hx hb dX7_count_60 rfl (lv_at hl 0 rfl) ?_
        refine kg (C := RX7) (T := TX7) (N := 32) (ci := 5) (k := 16) (v := .int (nI (μ.1 16))) S hK rfl inX7 (by decide) q_746 dX7_count_61 hM rfl rfl ?_
        refine w_top (v' := .int (count_M μ (0 : Int32))) (show (.int (nI (μ.1 16)) : Value) = .int (count_M μ (0 : Int32)) from (congrArg (fun z => Value.int z) (by unfold count_M; rw [if_neg hno]; rfl))) ?_
        exact hE _ _ (kr_i dX7_count_64)
      ·
        refine lv_tableIn (off := 42) (tgt := 65) hx hb dX7_count_23 (by decide) (by decide) (by decide) (by decide) ?_
        refine lv_aload_n hx hb dX7_count_65 rfl (lv_at hl 0 rfl) ?_
        refine kg (C := RX7) (T := TX7) (N := 32) (ci := 5) (k := 17) (v := .int (nI (μ.1 17))) S hK rfl inX7 (by decide) q_747 dX7_count_66 hM rfl rfl ?_
        refine w_top (v' := .int (count_M μ (1 : Int32))) (show (.int (nI (μ.1 17)) : Value) = .int (count_M μ (1 : Int32)) from (congrArg (fun z => Value.int z) (by unfold count_M; rw [if_neg hno]; rfl))) ?_
        exact hE _ _ (kr_i dX7_count_69)
      ·
        refine lv_tableIn (off := 47) (tgt := 70) hx hb dX7_count_23 (by decide) (by decide) (by decide) (by decide) ?_
        refine lv_aload_n hx hb dX7_count_70 rfl (lv_at hl 0 rfl) ?_
        refine kg (C := RX7) (T := TX7) (N := 32) (ci := 5) (k := 18) (v := .int (nI (μ.1 18))) S hK rfl inX7 (by decide) q_748 dX7_count_71 hM rfl rfl ?_
        refine w_top (v' := .int (count_M μ (2 : Int32))) (show (.int (nI (μ.1 18)) : Value) = .int (count_M μ (2 : Int32)) from (congrArg (fun z => Value.int z) (by unfold count_M; rw [if_neg hno]; rfl))) ?_
        exact hE _ _ (kr_i dX7_count_74)
      ·
        refine lv_tableIn (off := 52) (tgt := 75) hx hb dX7_count_23 (by decide) (by decide) (by decide) (by decide) ?_
        refine lv_aload_n hx hb dX7_count_75 rfl (lv_at hl 0 rfl) ?_
        refine kg (C := RX7) (T := TX7) (N := 32) (ci := 5) (k := 19) (v := .int (nI (μ.1 19))) S hK rfl inX7 (by decide) q_749 dX7_count_76 hM rfl rfl ?_
        refine w_top (v' := .int (count_M μ (3 : Int32))) (show (.int (nI (μ.1 19)) : Value) = .int (count_M μ (3 : Int32)) from (congrArg (fun z => Value.int z) (by unfold count_M; rw [if_neg hno]; rfl))) ?_
        exact hE _ _ (kr_i dX7_count_79)
      ·
        refine lv_tableIn (off := 57) (tgt := 80) hx hb dX7_count_23 (by decide) (by decide) (by decide) (by decide) ?_
        refine lv_aload_n hx hb dX7_count_80 rfl (lv_at hl 0 rfl) ?_
        refine kg (C := RX7) (T := TX7) (N := 32) (ci := 5) (k := 22) (v := .int (nI (μ.1 22))) S hK rfl inX7 (by decide) q_752 dX7_count_81 hM rfl rfl ?_
        refine w_top (v' := .int (count_M μ (4 : Int32))) (show (.int (nI (μ.1 22)) : Value) = .int (count_M μ (4 : Int32)) from (congrArg (fun z => Value.int z) (by unfold count_M; rw [if_neg hno]; rfl))) ?_
        exact hE _ _ (kr_i dX7_count_84)
      ·
        refine lv_tableIn (off := 62) (tgt := 85) hx hb dX7_count_23 (by decide) (by decide) (by decide) (by decide) ?_
        refine lv_aload_n hx hb dX7_count_85 rfl (lv_at hl 0 rfl) ?_
        refine kg (C := RX7) (T := TX7) (N := 32) (ci := 5) (k := 20) (v := .int (nI (μ.1 20))) S hK rfl inX7 (by decide) q_750 dX7_count_86 hM rfl rfl ?_
        refine w_top (v' := .int (count_M μ (5 : Int32))) (show (.int (nI (μ.1 20)) : Value) = .int (count_M μ (5 : Int32)) from (congrArg (fun z => Value.int z) (by unfold count_M; rw [if_neg hno]; rfl))) ?_
        exact hE _ _ (kr_i dX7_count_89)
      ·
        have hr : (-9 : Int32) = count_M μ w := by unfold count_M; rw [if_neg hno, if_neg (sw_ne hd (by decide) (by decide)), if_neg (sw_ne hd (by decide) (by decide)), if_neg (sw_ne hd (by decide) (by decide)), if_neg (sw_ne hd (by decide) (by decide)), if_neg (sw_ne hd (by decide) (by decide)), if_neg (sw_ne hd (by decide) (by decide))]
        refine lv_tableOut (tgt := 90) hx hb dX7_count_23 hd (by decide) ?_
        refine lv_bipush (v := (-9)) hx hb dX7_count_90 (by decide) ?_
        refine w_top (v' := .int (count_M μ w)) (congrArg (fun z => Value.int z) (show (-9) = (count_M μ w) from hr)) ?_
        exact hE _ _ (kr_i dX7_count_92)
    ·
      obtain ⟨vw, hw1, hw2, rfl⟩ : ∃ j : Nat, 10 < j ∧ j < 17 ∧ w = nI j := by
        obtain ⟨j, h1, h2, h3⟩ := n_rng (n := w) (a := 10) (b := 17) (by decide) (by decide) (by have := Int32.not_le.mp c_3; exact Int32.le_of_lt this) (by have := Int32.not_le.mp c_9; exact fun q => Int32.lt_irrefl (Int32.lt_trans this q))
        subst h3
        have q1 : 10 < j := by have := Int32.not_le.mp c_3; exact (nI_ltI (by decide) (by omega)).mp this
        have q2 : j < 17 := by have := Int32.not_le.mp c_9; exact (nI_ltI (by omega) (by decide)).mp this
        exact ⟨j, q1, q2, rfl⟩
      have hr : nI (μ.2.1 0 (vw - 10)) = count_M μ (nI vw) := by unfold count_M; rw [if_pos ⟨(nI_ltI (by decide) (by omega)).mpr hw1, (nI_ltI (by omega) (by decide)).mpr hw2⟩, cx_n (by omega)]
      refine lv_aload_n hx hb dX7_count_12 rfl (lv_at hl 0 rfl) ?_
      refine kg (C := RX7) (T := TX7) (N := 32) (ci := 5) (k := 0) (v := .ref (om + 1)) S hK rfl inX7 (by decide) q_730 dX7_count_13 hM rfl rfl ?_
      refine lv_iload_n hx hb dX7_count_16 rfl (lv_at hl 1 rfl) ?_
      refine lv_bipush (v := nI 10) hx hb dX7_count_17 (by decide) ?_
      refine n_isub hx hb dX7_count_19 (by omega) ?_
      refine kil (f := μ.2.1 0) S hK dX7_count_20 1 hM rfl (by decide) rfl (by omega) ?_
      refine w_top (v' := .int (count_M μ (nI vw))) (show (.int (nI (μ.2.1 0 (vw - 10))) : Value) = .int (count_M μ (nI vw)) from (congrArg (fun z => Value.int z) hr)) ?_
      exact hE _ _ (kr_i dX7_count_21)

set_option maxHeartbeats 1000000 in
set_option maxRecDepth 100000 in
theorem c_X7_within_lo (l : Launch) (G : Gt) (v : Int32) (a : Nat) (b : Nat) (h1 : v < nI a) : Cr l G yX7_within cX7_within 3 ((some .int)) 0 [.int v, .int (nI a), .int (nI b)] (fun H => True) (some (.int (-4))) := by
  refine cr_entry [(0, .int v), (1, .int (nI a)), (2, .int (nI b))] (by decide) (Nat.le_of_ble_eq_true rfl) rfl ?_
  intro zp ze zs zm za zb zt zc Q S hK hPre hE ls hl
  have hx := S.1
  have hb := S.2.1
  refine lv_iload_n hx hb dX7_within_0 rfl (lv_at hl 0 rfl) ?_
  refine lv_iload_n hx hb dX7_within_1 rfl (lv_at hl 1 rfl) ?_
  refine lv_icmp_ge (tgt := 10) hx hb dX7_within_2 (by decide) (fun c_2 => ?_) (fun c_2 => ?_)
  ·
    exact absurd h1 (Int32.not_lt.mpr c_2)
  ·
    refine lv_bipush (v := (-4)) hx hb dX7_within_5 (by decide) ?_
    refine lv_goto (tgt := 21) hx hb dX7_within_7 (by decide) ?_
    exact hE _ _ (kr_i dX7_within_21)

set_option maxHeartbeats 1000000 in
set_option maxRecDepth 100000 in
theorem c_X7_within_hi (l : Launch) (G : Gt) (v : Int32) (a : Nat) (b : Nat) (h1 : ¬ v < nI a) (h2 : nI b < v) : Cr l G yX7_within cX7_within 3 ((some .int)) 0 [.int v, .int (nI a), .int (nI b)] (fun H => True) (some (.int (-6))) := by
  refine cr_entry [(0, .int v), (1, .int (nI a)), (2, .int (nI b))] (by decide) (Nat.le_of_ble_eq_true rfl) rfl ?_
  intro zp ze zs zm za zb zt zc Q S hK hPre hE ls hl
  have hx := S.1
  have hb := S.2.1
  refine lv_iload_n hx hb dX7_within_0 rfl (lv_at hl 0 rfl) ?_
  refine lv_iload_n hx hb dX7_within_1 rfl (lv_at hl 1 rfl) ?_
  refine lv_icmp_ge (tgt := 10) hx hb dX7_within_2 (by decide) (fun c_2 => ?_) (fun c_2 => ?_)
  ·
    refine lv_iload_n hx hb dX7_within_10 rfl (lv_at hl 0 rfl) ?_
    refine lv_iload_n hx hb dX7_within_11 rfl (lv_at hl 2 rfl) ?_
    refine lv_icmp_le (tgt := 20) hx hb dX7_within_12 (by decide) (fun c_12 => ?_) (fun c_12 => ?_)
    ·
      exact absurd h2 (Int32.not_lt.mpr c_12)
    ·
      refine lv_bipush (v := (-6)) hx hb dX7_within_15 (by decide) ?_
      refine lv_goto (tgt := 21) hx hb dX7_within_17 (by decide) ?_
      exact hE _ _ (kr_i dX7_within_21)
  ·
    exact absurd (Int32.not_le.mp c_2) h1

set_option maxHeartbeats 1000000 in
set_option maxRecDepth 100000 in
theorem c_X7_within_in (l : Launch) (G : Gt) (v : Nat) (a : Nat) (b : Nat) (h1 : a ≤ v) (h2 : v ≤ b) (h3 : b < 2 ^ 31) : Cr l G yX7_within cX7_within 3 ((some .int)) 0 [.int (nI v), .int (nI a), .int (nI b)] (fun H => True) (some (.int (nI 0))) := by
  refine cr_entry [(0, .int (nI v)), (1, .int (nI a)), (2, .int (nI b))] (by decide) (Nat.le_of_ble_eq_true rfl) rfl ?_
  intro zp ze zs zm za zb zt zc Q S hK hPre hE ls hl
  have hx := S.1
  have hb := S.2.1
  refine lv_iload_n hx hb dX7_within_0 rfl (lv_at hl 0 rfl) ?_
  refine lv_iload_n hx hb dX7_within_1 rfl (lv_at hl 1 rfl) ?_
  refine n_icmp_ge (tgt := 10) hx hb dX7_within_2 (by decide) (by omega) (by omega) (fun c_2 => ?_) (fun c_2 => ?_)
  ·
    refine lv_iload_n hx hb dX7_within_10 rfl (lv_at hl 0 rfl) ?_
    refine lv_iload_n hx hb dX7_within_11 rfl (lv_at hl 2 rfl) ?_
    refine n_icmp_le (tgt := 20) hx hb dX7_within_12 (by decide) (by omega) (by omega) (fun c_12 => ?_) (fun c_12 => ?_)
    ·
      refine lv_iconst (v := nI 0) hx hb dX7_within_20 (by decide) ?_
      exact hE _ _ (kr_i dX7_within_21)
    ·
      omega
  ·
    omega

set_option maxHeartbeats 1000000 in
set_option maxRecDepth 100000 in
theorem c_X7_put (l : Launch) (G : Gt) (om : Nat) (μ : Sx) (xy : Int32) (hro : μ.1 20 ≤ 3) : Ct l G yX7_put cX7_put 3 ((some .int)) 1 0 0 [.ref om, .int xy] (fun H => bk G om (mL G om μ) H) (some (.int ((put_M μ xy).1))) (fun H => bk G om (mL G om ((put_M μ xy).2)) H) (fun q => om ≤ q ∧ q < om + 20) := by
  refine ct_entry [(0, .ref om), (1, .int xy)] (by decide) (Nat.le_of_ble_eq_true rfl) rfl ?_
  intro zp ze zs zm za zb zt zc Q S hK hPre hin hE ls hl
  have hx := S.1
  have hb := S.2.1
  have hM := hPre
  have hS : va_S (fun q => om ≤ q ∧ q < om + 20) zs.heap zs.heap [] := va_S.rf
  refine lv_iload_n hx hb dX7_put_0 rfl (lv_at hl 1 rfl) ?_
  refine lv_iconst (v := nI 0) hx hb dX7_put_1 (by decide) ?_
  refine lv_bipush (v := nI 99) hx hb dX7_put_2 (by decide) ?_
  rcases wth3 xy (b := 99) (by decide) with hlo | ⟨hlo, hhi⟩ | ⟨vj, hvj, rfl⟩
  ·
    refine crS (rest := []) S hK (c_X7_within_lo l G xy 0 99 (by first | assumption | omega | decide)) cw_X7_194 rfl ⟨Nat.le_of_ble_eq_true rfl, Nat.le_of_ble_eq_true rfl⟩ ⟨Nat.le_of_ble_eq_true rfl, Nat.le_of_ble_eq_true rfl⟩ hl.1 rfl (Nat.le_of_ble_eq_true rfl) dX7_put_4 trivial ?_
    refine lv_istore_n (lv' := [(2, .int (-4)), (0, .ref om), (1, .int xy)]) hx hb dX7_put_7 rfl hl (by decide) rfl (fun ls hl => ?_)
    refine lv_iload_n hx hb dX7_put_8 rfl (lv_at hl 0 rfl) ?_
    refine lv_if_ne (tgt := 23) hx hb dX7_put_9 (by decide) (fun c_9 => ?_) (fun c_9 => ?_)
    ·
      refine lv_iload_n hx hb dX7_put_23 rfl (lv_at hl 0 rfl) ?_
      refine lv_if_eq (tgt := 33) hx hb dX7_put_24 (by decide) (fun c_24 => ?_) (fun c_24 => ?_)
      ·
        exact absurd c_24 (by decide)
      ·
        refine lv_aload_n hx hb dX7_put_27 rfl (lv_at hl 1 rfl) ?_
        refine lv_iload_n hx hb dX7_put_28 rfl (lv_at hl 0 rfl) ?_
        refine ctV (rest := []) S hK (c_X7_refuse l G om μ (-4) 4 (by first | assumption | omega | decide) (by first | assumption | omega | decide)) cw_X7_72 rfl ⟨Nat.le_of_ble_eq_true rfl, Nat.le_of_ble_eq_true rfl⟩ ⟨Nat.le_of_ble_eq_true rfl, Nat.le_of_ble_eq_true rfl⟩ (bk.recv hK hM rfl rfl) hl.1 rfl (Nat.le_of_ble_eq_true rfl) dX7_put_29 hM hS (fun _ h => h) (fun H locs hPost hz hk hS => ?_)
        have hM := hPost
        have hr : put_M μ xy = ((-4), uA μ 0 4 (μ.2.1 0 4 + 1)) := by unfold put_M; simp [hlo, c_9, c_24, uS_s]
        refine w_top (v' := .int ((put_M μ xy).1)) (congrArg (fun z => Value.int z) (congrArg Prod.fst hr).symm) ?_
        replace hM := bk_eq hM (show mL G om (uA μ 0 4 (μ.2.1 0 4 + 1)) = mL G om ((put_M μ xy).2) from by rw [hr])
        exact hE _ _ _ _ _ _ (kr_i dX7_put_32) hS (by decide) (by decide) hM
    ·
      exact absurd c_9 (by decide)
  ·
    refine crS (rest := []) S hK (c_X7_within_hi l G xy 0 99 (by first | assumption | omega | decide) (by first | assumption | omega | decide)) cw_X7_194 rfl ⟨Nat.le_of_ble_eq_true rfl, Nat.le_of_ble_eq_true rfl⟩ ⟨Nat.le_of_ble_eq_true rfl, Nat.le_of_ble_eq_true rfl⟩ hl.1 rfl (Nat.le_of_ble_eq_true rfl) dX7_put_4 trivial ?_
    refine lv_istore_n (lv' := [(2, .int (-6)), (0, .ref om), (1, .int xy)]) hx hb dX7_put_7 rfl hl (by decide) rfl (fun ls hl => ?_)
    refine lv_iload_n hx hb dX7_put_8 rfl (lv_at hl 0 rfl) ?_
    refine lv_if_ne (tgt := 23) hx hb dX7_put_9 (by decide) (fun c_9 => ?_) (fun c_9 => ?_)
    ·
      refine lv_iload_n hx hb dX7_put_23 rfl (lv_at hl 0 rfl) ?_
      refine lv_if_eq (tgt := 33) hx hb dX7_put_24 (by decide) (fun c_24 => ?_) (fun c_24 => ?_)
      ·
        exact absurd c_24 (by decide)
      ·
        refine lv_aload_n hx hb dX7_put_27 rfl (lv_at hl 1 rfl) ?_
        refine lv_iload_n hx hb dX7_put_28 rfl (lv_at hl 0 rfl) ?_
        refine ctV (rest := []) S hK (c_X7_refuse l G om μ (-6) 6 (by first | assumption | omega | decide) (by first | assumption | omega | decide)) cw_X7_72 rfl ⟨Nat.le_of_ble_eq_true rfl, Nat.le_of_ble_eq_true rfl⟩ ⟨Nat.le_of_ble_eq_true rfl, Nat.le_of_ble_eq_true rfl⟩ (bk.recv hK hM rfl rfl) hl.1 rfl (Nat.le_of_ble_eq_true rfl) dX7_put_29 hM hS (fun _ h => h) (fun H locs hPost hz hk hS => ?_)
        have hM := hPost
        have hr : put_M μ xy = ((-6), uA μ 0 6 (μ.2.1 0 6 + 1)) := by unfold put_M; simp [hlo, hhi, c_9, c_24, uS_s]
        refine w_top (v' := .int ((put_M μ xy).1)) (congrArg (fun z => Value.int z) (congrArg Prod.fst hr).symm) ?_
        replace hM := bk_eq hM (show mL G om (uA μ 0 6 (μ.2.1 0 6 + 1)) = mL G om ((put_M μ xy).2) from by rw [hr])
        exact hE _ _ _ _ _ _ (kr_i dX7_put_32) hS (by decide) (by decide) hM
    ·
      exact absurd c_9 (by decide)
  ·
    have hcx := cx_n (j := vj) (by omega)
    have hlo : ¬ nI vj < nI 0 := fun q => by have := (nI_ltI (by omega) (by decide)).mp q; omega
    have hhi : ¬ nI 99 < nI vj := fun q => by have := (nI_ltI (by decide) (by omega)).mp q; omega
    refine crS (rest := []) S hK (c_X7_within_in l G vj 0 99 (by first | assumption | omega | decide) (by first | assumption | omega | decide) (by first | assumption | omega | decide)) cw_X7_194 rfl ⟨Nat.le_of_ble_eq_true rfl, Nat.le_of_ble_eq_true rfl⟩ ⟨Nat.le_of_ble_eq_true rfl, Nat.le_of_ble_eq_true rfl⟩ hl.1 rfl (Nat.le_of_ble_eq_true rfl) dX7_put_4 trivial ?_
    refine lv_istore_n (lv' := [(2, .int (nI 0)), (0, .ref om), (1, .int (nI vj))]) hx hb dX7_put_7 rfl hl (by decide) rfl (fun ls hl => ?_)
    refine lv_iload_n hx hb dX7_put_8 rfl (lv_at hl 0 rfl) ?_
    refine n_if_ne (tgt := 23) hx hb dX7_put_9 (by decide) (by decide) (fun c_9 => ?_) (fun c_9 => ?_)
    ·
      exact absurd c_9 (by decide)
    ·
      refine lv_aload_n hx hb dX7_put_12 rfl (lv_at hl 1 rfl) ?_
      refine kg (C := RX7) (T := TX7) (N := 32) (ci := 5) (k := 20) (v := .int (nI (μ.1 20))) S hK rfl inX7 (by decide) q_750 dX7_put_13 hM rfl rfl ?_
      refine lv_iconst (v := nI 3) hx hb dX7_put_16 (by decide) ?_
      refine n_icmp_ne (tgt := 23) hx hb dX7_put_17 (by decide) (by omega) (by decide) (fun c_17 => ?_) (fun c_17 => ?_)
      ·
        refine lv_iload_n hx hb dX7_put_23 rfl (lv_at hl 0 rfl) ?_
        refine n_if_eq (tgt := 33) hx hb dX7_put_24 (by decide) (by decide) (fun c_24 => ?_) (fun c_24 => ?_)
        ·
          refine lv_aload_n hx hb dX7_put_33 rfl (lv_at hl 1 rfl) ?_
          refine kg (C := RX7) (T := TX7) (N := 32) (ci := 5) (k := 15) (v := .ref (om + 16)) S hK rfl inX7 (by decide) q_745 dX7_put_34 hM rfl rfl ?_
          refine lv_aload_n hx hb dX7_put_37 rfl (lv_at hl 1 rfl) ?_
          refine kg (C := RX7) (T := TX7) (N := 32) (ci := 5) (k := 20) (v := .int (nI (μ.1 20))) S hK rfl inX7 (by decide) q_750 dX7_put_38 hM rfl rfl ?_
          refine lv_iload_n hx hb dX7_put_41 rfl (lv_at hl 2 rfl) ?_
          refine kis S hK dX7_put_42 16 hM rfl (by decide) rfl (by omega) rfl (L1 := mL G om (uA μ 15 (μ.1 20) vj)) rfl hS (by first | exact ⟨by omega, by omega⟩ | omega) (fun H locs hM hS hz hk => ?_)
          refine lv_aload_n hx hb dX7_put_43 rfl (lv_at hl 1 rfl) ?_
          refine lv_dup hx hb dX7_put_44 rfl ?_
          refine kg (C := RX7) (T := TX7) (N := 32) (ci := 5) (k := 20) (v := .int (nI (μ.1 20))) S hK rfl inX7 (by decide) q_750 dX7_put_45 hM rfl rfl ?_
          refine lv_iconst (v := nI 1) hx hb dX7_put_48 (by decide) ?_
          refine n_iadd hx hb dX7_put_49 ?_
          refine kp (C := RX7) (T := TX7) (N := 32) (ci := 5) (k := 20) (ty := .int) tyX7 tyX7_ok nmX7 S hK rfl inX7 (by decide) q_750 rfl dX7_put_50 rfl rfl rfl hM rfl (Nat.le_of_ble_eq_true rfl) (L1 := mL G om (uS (uA μ 15 (μ.1 20) vj) 20 ((μ.1 20) + 1))) rfl hS (by first | exact ⟨by omega, by omega⟩ | omega) (fun H locs hM hS hz hk => ?_)
          refine lv_aload_n hx hb dX7_put_53 rfl (lv_at hl 1 rfl) ?_
          refine kg (C := RX7) (T := TX7) (N := 32) (ci := 5) (k := 20) (v := .int (nI ((μ.1 20) + 1))) S hK rfl inX7 (by decide) q_750 dX7_put_54 hM rfl rfl ?_
          have hr : put_M μ (nI vj) = (nI ((μ.1 20) + 1), uS (uA μ 15 (μ.1 20) vj) 20 ((μ.1 20) + 1)) := by unfold put_M; simp [hlo, hhi, hcx, c_9, c_17, c_24, uS_s]
          refine w_top (v' := .int ((put_M μ (nI vj)).1)) (congrArg (fun z => Value.int z) (congrArg Prod.fst hr).symm) ?_
          replace hM := bk_eq hM (show mL G om (uS (uA μ 15 (μ.1 20) vj) 20 ((μ.1 20) + 1)) = mL G om ((put_M μ (nI vj)).2) from by rw [hr])
          exact hE _ _ _ _ _ _ (kr_i dX7_put_57) hS (by decide) (by decide) hM
        ·
          exact absurd c_24 (by decide)
      ·
        refine lv_bipush (v := (-6)) hx hb dX7_put_20 (by decide) ?_
        refine lv_istore_n (lv' := [(2, .int (-6)), (0, .ref om), (1, .int (nI vj))]) hx hb dX7_put_22 rfl hl (by decide) rfl (fun ls hl => ?_)
        refine lv_iload_n hx hb dX7_put_23 rfl (lv_at hl 0 rfl) ?_
        refine lv_if_eq (tgt := 33) hx hb dX7_put_24 (by decide) (fun c_24 => ?_) (fun c_24 => ?_)
        ·
          exact absurd c_24 (by decide)
        ·
          refine lv_aload_n hx hb dX7_put_27 rfl (lv_at hl 1 rfl) ?_
          refine lv_iload_n hx hb dX7_put_28 rfl (lv_at hl 0 rfl) ?_
          refine ctV (rest := []) S hK (c_X7_refuse l G om μ (-6) 6 (by first | assumption | omega | decide) (by first | assumption | omega | decide)) cw_X7_72 rfl ⟨Nat.le_of_ble_eq_true rfl, Nat.le_of_ble_eq_true rfl⟩ ⟨Nat.le_of_ble_eq_true rfl, Nat.le_of_ble_eq_true rfl⟩ (bk.recv hK hM rfl rfl) hl.1 rfl (Nat.le_of_ble_eq_true rfl) dX7_put_29 hM hS (fun _ h => h) (fun H locs hPost hz hk hS => ?_)
          have hM := hPost
          have hr : put_M μ (nI vj) = ((-6), uA μ 0 6 (μ.2.1 0 6 + 1)) := by unfold put_M; simp [hlo, hhi, hcx, c_9, c_17, c_24, uS_s]
          refine w_top (v' := .int ((put_M μ (nI vj)).1)) (congrArg (fun z => Value.int z) (congrArg Prod.fst hr).symm) ?_
          replace hM := bk_eq hM (show mL G om (uA μ 0 6 (μ.2.1 0 6 + 1)) = mL G om ((put_M μ (nI vj)).2) from by rw [hr])
          exact hE _ _ _ _ _ _ (kr_i dX7_put_32) hS (by decide) (by decide) hM

set_option maxHeartbeats 1000000 in
set_option maxRecDepth 100000 in
theorem c_X7_clear (l : Launch) (G : Gt) (om : Nat) (μ : Sx)  : Ct l G yX7_clear cX7_clear 2 ((some .int)) 0 0 0 [.ref om] (fun H => bk G om (mL G om μ) H) (some (.int ((clear_M μ).1))) (fun H => bk G om (mL G om ((clear_M μ).2)) H) (fun q => om ≤ q ∧ q < om + 20) := by
  refine ct_entry [(0, .ref om)] (by decide) (Nat.le_of_ble_eq_true rfl) rfl ?_
  intro zp ze zs zm za zb zt zc Q S hK hPre hin hE ls hl
  have hx := S.1
  have hb := S.2.1
  have hM := hPre
  have hS : va_S (fun q => om ≤ q ∧ q < om + 20) zs.heap zs.heap [] := va_S.rf
  refine lv_aload_n hx hb dX7_clear_0 rfl (lv_at hl 0 rfl) ?_
  refine kg (C := RX7) (T := TX7) (N := 32) (ci := 5) (k := 19) (v := .int (nI (μ.1 19))) S hK rfl inX7 (by decide) q_749 dX7_clear_1 hM rfl rfl ?_
  refine lv_istore_n (lv' := [(1, .int (nI (μ.1 19))), (0, .ref om)]) hx hb dX7_clear_4 rfl hl (by decide) rfl (fun ls hl => ?_)
  refine lv_aload_n hx hb dX7_clear_5 rfl (lv_at hl 1 rfl) ?_
  refine lv_iconst (v := nI 0) hx hb dX7_clear_6 (by decide) ?_
  refine kp (C := RX7) (T := TX7) (N := 32) (ci := 5) (k := 19) (ty := .int) tyX7 tyX7_ok nmX7 S hK rfl inX7 (by decide) q_749 rfl dX7_clear_7 rfl rfl rfl hM rfl (Nat.le_of_ble_eq_true rfl) (L1 := mL G om (uS μ 19 0)) rfl hS (by first | exact ⟨by omega, by omega⟩ | omega) (fun H locs hM hS hz hk => ?_)
  refine lv_iload_n hx hb dX7_clear_10 rfl (lv_at hl 0 rfl) ?_
  have hr : clear_M μ = (nI (μ.1 19), uS μ 19 0) := rfl
  refine w_top (v' := .int ((clear_M μ).1)) (congrArg (fun z => Value.int z) (congrArg Prod.fst hr).symm) ?_
  replace hM := bk_eq hM (show mL G om (uS μ 19 0) = mL G om ((clear_M μ).2) from by rw [hr])
  exact hE _ _ _ _ _ _ (kr_i dX7_clear_11) hS (by decide) (by decide) hM

set_option maxHeartbeats 1000000 in
set_option maxRecDepth 100000 in
theorem c_X7_net (l : Launch) (G : Gt) (om : Nat) (μ : Sx) (hI : MIn μ) : Ct l G yX7_net cX7_net 1 ((some .int)) 1 0 0 [.ref om] (fun H => bk G om (mL G om μ) H) (some (.int ((net_M μ).1))) (fun H => bk G om (mL G om ((net_M μ).2)) H) (fun q => om ≤ q ∧ q < om + 20) := by
  refine ct_entry [(0, .ref om)] (by decide) (Nat.le_of_ble_eq_true rfl) rfl ?_
  intro zp ze zs zm za zb zt zc Q S hK hPre hin hE ls hl
  have hx := S.1
  have hb := S.2.1
  have hM := hPre
  have hS : va_S (fun q => om ≤ q ∧ q < om + 20) zs.heap zs.heap [] := va_S.rf
  have hn18 := hI.1
  refine lv_aload_n hx hb dX7_net_0 rfl (lv_at hl 0 rfl) ?_
  refine kg (C := RX7) (T := TX7) (N := 32) (ci := 5) (k := 18) (v := .int (nI (μ.1 18))) S hK rfl inX7 (by decide) q_748 dX7_net_1 hM rfl rfl ?_
  refine lv_bipush (v := nI 6) hx hb dX7_net_4 (by decide) ?_
  refine n_icmp_ne (tgt := 16) hx hb dX7_net_6 (by decide) (by omega) (by decide) (fun c_6 => ?_) (fun c_6 => ?_)
  ·
    refine lv_aload_n hx hb dX7_net_16 rfl (lv_at hl 0 rfl) ?_
    refine kg (C := RX7) (T := TX7) (N := 32) (ci := 5) (k := 7) (v := .ref (om + 8)) S hK rfl inX7 (by decide) q_737 dX7_net_17 hM rfl rfl ?_
    refine lv_aload_n hx hb dX7_net_20 rfl (lv_at hl 0 rfl) ?_
    refine kg (C := RX7) (T := TX7) (N := 32) (ci := 5) (k := 18) (v := .int (nI (μ.1 18))) S hK rfl inX7 (by decide) q_748 dX7_net_21 hM rfl rfl ?_
    refine lv_iconst (v := nI 0) hx hb dX7_net_24 (by decide) ?_
    refine kis S hK dX7_net_25 8 hM rfl (by decide) rfl (by omega) rfl (L1 := mL G om (uA μ 7 (μ.1 18) 0)) rfl hS (by first | exact ⟨by omega, by omega⟩ | omega) (fun H locs hM hS hz hk => ?_)
    refine lv_aload_n hx hb dX7_net_26 rfl (lv_at hl 0 rfl) ?_
    refine kg (C := RX7) (T := TX7) (N := 32) (ci := 5) (k := 8) (v := .ref (om + 9)) S hK rfl inX7 (by decide) q_738 dX7_net_27 hM rfl rfl ?_
    refine lv_aload_n hx hb dX7_net_30 rfl (lv_at hl 0 rfl) ?_
    refine kg (C := RX7) (T := TX7) (N := 32) (ci := 5) (k := 18) (v := .int (nI (μ.1 18))) S hK rfl inX7 (by decide) q_748 dX7_net_31 hM rfl rfl ?_
    refine lv_iconst (v := nI 0) hx hb dX7_net_34 (by decide) ?_
    refine kis S hK dX7_net_35 9 hM rfl (by decide) rfl (by omega) rfl (L1 := mL G om (uA (uA μ 7 (μ.1 18) 0) 8 (μ.1 18) 0)) rfl hS (by first | exact ⟨by omega, by omega⟩ | omega) (fun H locs hM hS hz hk => ?_)
    refine lv_aload_n hx hb dX7_net_36 rfl (lv_at hl 0 rfl) ?_
    refine lv_dup hx hb dX7_net_37 rfl ?_
    refine kg (C := RX7) (T := TX7) (N := 32) (ci := 5) (k := 18) (v := .int (nI (μ.1 18))) S hK rfl inX7 (by decide) q_748 dX7_net_38 hM rfl rfl ?_
    refine lv_iconst (v := nI 1) hx hb dX7_net_41 (by decide) ?_
    refine n_iadd hx hb dX7_net_42 ?_
    refine kp (C := RX7) (T := TX7) (N := 32) (ci := 5) (k := 18) (ty := .int) tyX7 tyX7_ok nmX7 S hK rfl inX7 (by decide) q_748 rfl dX7_net_43 rfl rfl rfl hM rfl (Nat.le_of_ble_eq_true rfl) (L1 := mL G om (uS (uA (uA μ 7 (μ.1 18) 0) 8 (μ.1 18) 0) 18 ((μ.1 18) + 1))) rfl hS (by first | exact ⟨by omega, by omega⟩ | omega) (fun H locs hM hS hz hk => ?_)
    refine lv_aload_n hx hb dX7_net_46 rfl (lv_at hl 0 rfl) ?_
    refine kg (C := RX7) (T := TX7) (N := 32) (ci := 5) (k := 18) (v := .int (nI ((μ.1 18) + 1))) S hK rfl inX7 (by decide) q_748 dX7_net_47 hM rfl rfl ?_
    refine lv_iconst (v := nI 1) hx hb dX7_net_50 (by decide) ?_
    refine n_isub hx hb dX7_net_51 (by omega) ?_
    have hr : net_M μ = (nI (((μ.1 18) + 1) - 1), uS (uA (uA μ 7 (μ.1 18) 0) 8 (μ.1 18) 0) 18 ((μ.1 18) + 1)) := by unfold net_M; simp [c_6]
    refine w_top (v' := .int ((net_M μ).1)) (congrArg (fun z => Value.int z) (congrArg Prod.fst hr).symm) ?_
    replace hM := bk_eq hM (show mL G om (uS (uA (uA μ 7 (μ.1 18) 0) 8 (μ.1 18) 0) 18 ((μ.1 18) + 1)) = mL G om ((net_M μ).2) from by rw [hr])
    exact hE _ _ _ _ _ _ (kr_i dX7_net_52) hS (by decide) (by decide) hM
  ·
    refine lv_aload_n hx hb dX7_net_9 rfl (lv_at hl 0 rfl) ?_
    refine lv_bipush (v := (-6)) hx hb dX7_net_10 (by decide) ?_
    refine ctV (rest := []) S hK (c_X7_refuse l G om μ (-6) 6 (by first | assumption | omega | decide) (by first | assumption | omega | decide)) cw_X7_72 rfl ⟨Nat.le_of_ble_eq_true rfl, Nat.le_of_ble_eq_true rfl⟩ ⟨Nat.le_of_ble_eq_true rfl, Nat.le_of_ble_eq_true rfl⟩ (bk.recv hK hM rfl rfl) hl.1 rfl (Nat.le_of_ble_eq_true rfl) dX7_net_12 hM hS (fun _ h => h) (fun H locs hPost hz hk hS => ?_)
    have hM := hPost
    have hr : net_M μ = ((-6), uA μ 0 6 (μ.2.1 0 6 + 1)) := by unfold net_M; simp [c_6]
    refine w_top (v' := .int ((net_M μ).1)) (congrArg (fun z => Value.int z) (congrArg Prod.fst hr).symm) ?_
    replace hM := bk_eq hM (show mL G om (uA μ 0 6 (μ.2.1 0 6 + 1)) = mL G om ((net_M μ).2) from by rw [hr])
    exact hE _ _ _ _ _ _ (kr_i dX7_net_15) hS (by decide) (by decide) hM

set_option maxHeartbeats 1000000 in
set_option maxRecDepth 100000 in
theorem c_X7_piece (l : Launch) (G : Gt) (om : Nat) (μ : Sx) (n : Int32) (p : Int32) (hI : MIn μ) (h16 : μ.1 16 ≤ 24) : Ct l G yX7_piece cX7_piece 4 ((some .int)) 3 0 0 [.ref om, .int n, .int p] (fun H => bk G om (mL G om μ) H) (some (.int ((piece_M μ n p).1))) (fun H => bk G om (mL G om ((piece_M μ n p).2)) H) (fun q => om ≤ q ∧ q < om + 20) := by
  refine ct_entry [(0, .ref om), (1, .int n), (2, .int p)] (by decide) (Nat.le_of_ble_eq_true rfl) rfl ?_
  intro zp ze zs zm za zb zt zc Q S hK hPre hin hE ls hl
  have hx := S.1
  have hb := S.2.1
  have hM := hPre
  have hS : va_S (fun q => om ≤ q ∧ q < om + 20) zs.heap zs.heap [] := va_S.rf
  have hn18 := hI.1
  refine lv_aload_n hx hb dX7_piece_0 rfl (lv_at hl 0 rfl) ?_
  refine lv_iload_n hx hb dX7_piece_1 rfl (lv_at hl 1 rfl) ?_
  refine crV (rest := []) S hK (c_X7_isNet l G om μ n (by first | assumption | omega | decide)) cw_X7_229 rfl ⟨Nat.le_of_ble_eq_true rfl, Nat.le_of_ble_eq_true rfl⟩ ⟨Nat.le_of_ble_eq_true rfl, Nat.le_of_ble_eq_true rfl⟩ (bk.recv hK hM rfl rfl) hl.1 rfl (Nat.le_of_ble_eq_true rfl) dX7_piece_2 hM ?_
  refine z_if_eq (tgt := 16) hx hb dX7_piece_5 (by decide) (fun c_5 => ?_) (fun c_5 => ?_)
  ·
    refine lv_iconst (v := (-1)) hx hb dX7_piece_16 (by decide) ?_
    refine lv_goto (tgt := 37) hx hb dX7_piece_17 (by decide) ?_
    refine lv_istore_n (lv' := [(3, .int (-1)), (0, .ref om), (1, .int n), (2, .int p)]) hx hb dX7_piece_37 rfl hl (by decide) rfl (fun ls hl => ?_)
    refine lv_iload_n hx hb dX7_piece_38 rfl (lv_at hl 0 rfl) ?_
    refine lv_if_eq (tgt := 48) hx hb dX7_piece_39 (by decide) (fun c_39 => ?_) (fun c_39 => ?_)
    ·
      exact absurd c_39 (by decide)
    ·
      refine lv_aload_n hx hb dX7_piece_42 rfl (lv_at hl 1 rfl) ?_
      refine lv_iload_n hx hb dX7_piece_43 rfl (lv_at hl 0 rfl) ?_
      refine ctV (rest := []) S hK (c_X7_refuse l G om μ (-1) 1 (by first | assumption | omega | decide) (by first | assumption | omega | decide)) cw_X7_72 rfl ⟨Nat.le_of_ble_eq_true rfl, Nat.le_of_ble_eq_true rfl⟩ ⟨Nat.le_of_ble_eq_true rfl, Nat.le_of_ble_eq_true rfl⟩ (bk.recv hK hM rfl rfl) hl.1 rfl (Nat.le_of_ble_eq_true rfl) dX7_piece_44 hM hS (fun _ h => h) (fun H locs hPost hz hk hS => ?_)
      have hM := hPost
      have hr : piece_M μ n p = ((-1), uA μ 0 1 (μ.2.1 0 1 + 1)) := by unfold piece_M; simp [c_5, c_39]
      refine w_top (v' := .int ((piece_M μ n p).1)) (congrArg (fun z => Value.int z) (congrArg Prod.fst hr).symm) ?_
      replace hM := bk_eq hM (show mL G om (uA μ 0 1 (μ.2.1 0 1 + 1)) = mL G om ((piece_M μ n p).2) from by rw [hr])
      exact hE _ _ _ _ _ _ (kr_i dX7_piece_47) hS (by decide) (by decide) hM
  ·
    obtain ⟨vn, hvn, rfl⟩ := inI_x c_5
    have hcn := cx_n (j := vn) (by omega)
    obtain ⟨hp8, hl12, hpp, hll⟩ := hI.2 vn hvn
    refine lv_aload_n hx hb dX7_piece_8 rfl (lv_at hl 0 rfl) ?_
    refine lv_iload_n hx hb dX7_piece_9 rfl (lv_at hl 2 rfl) ?_
    refine crV (rest := []) S hK (c_X7_isPart l G om μ p (by first | assumption | omega | decide)) cw_X7_103 rfl ⟨Nat.le_of_ble_eq_true rfl, Nat.le_of_ble_eq_true rfl⟩ ⟨Nat.le_of_ble_eq_true rfl, Nat.le_of_ble_eq_true rfl⟩ (bk.recv hK hM rfl rfl) hl.1 rfl (Nat.le_of_ble_eq_true rfl) dX7_piece_10 hM ?_
    refine z_if_ne (tgt := 20) hx hb dX7_piece_13 (by decide) (fun c_13 => ?_) (fun c_13 => ?_)
    ·
      obtain ⟨vp, hvp, rfl⟩ := inI_x c_13
      have hcp := cx_n (j := vp) (by omega)
      refine lv_aload_n hx hb dX7_piece_20 rfl (lv_at hl 0 rfl) ?_
      refine kg (C := RX7) (T := TX7) (N := 32) (ci := 5) (k := 7) (v := .ref (om + 8)) S hK rfl inX7 (by decide) q_737 dX7_piece_21 hM rfl rfl ?_
      refine lv_iload_n hx hb dX7_piece_24 rfl (lv_at hl 1 rfl) ?_
      refine kil (f := μ.2.1 7) S hK dX7_piece_25 8 hM rfl (by decide) rfl (by omega) ?_
      refine lv_bipush (v := nI 8) hx hb dX7_piece_26 (by decide) ?_
      refine n_icmp_ne (tgt := 36) hx hb dX7_piece_28 (by decide) (by omega) (by decide) (fun c_28 => ?_) (fun c_28 => ?_)
      ·
        refine lv_iconst (v := nI 0) hx hb dX7_piece_36 (by decide) ?_
        refine lv_istore_n (lv' := [(3, .int (nI 0)), (0, .ref om), (1, .int (nI vn)), (2, .int (nI vp))]) hx hb dX7_piece_37 rfl hl (by decide) rfl (fun ls hl => ?_)
        refine lv_iload_n hx hb dX7_piece_38 rfl (lv_at hl 0 rfl) ?_
        refine n_if_eq (tgt := 48) hx hb dX7_piece_39 (by decide) (by decide) (fun c_39 => ?_) (fun c_39 => ?_)
        ·
          refine lv_aload_n hx hb dX7_piece_48 rfl (lv_at hl 1 rfl) ?_
          refine kg (C := RX7) (T := TX7) (N := 32) (ci := 5) (k := 9) (v := .ref (om + 10)) S hK rfl inX7 (by decide) q_739 dX7_piece_49 hM rfl rfl ?_
          refine lv_bipush (v := nI 8) hx hb dX7_piece_52 (by decide) ?_
          refine lv_iload_n hx hb dX7_piece_54 rfl (lv_at hl 2 rfl) ?_
          refine n_imul hx hb dX7_piece_55 ?_
          refine lv_aload_n hx hb dX7_piece_56 rfl (lv_at hl 1 rfl) ?_
          refine kg (C := RX7) (T := TX7) (N := 32) (ci := 5) (k := 7) (v := .ref (om + 8)) S hK rfl inX7 (by decide) q_737 dX7_piece_57 hM rfl rfl ?_
          refine lv_iload_n hx hb dX7_piece_60 rfl (lv_at hl 2 rfl) ?_
          refine kil (f := μ.2.1 7) S hK dX7_piece_61 8 hM rfl (by decide) rfl (by omega) ?_
          refine n_iadd hx hb dX7_piece_62 ?_
          refine lv_iload_n hx hb dX7_piece_63 rfl (lv_at hl 3 rfl) ?_
          refine kis S hK dX7_piece_64 10 hM rfl (by decide) rfl (by omega) rfl (L1 := mL G om (uA μ 9 ((8 * vn) + (μ.2.1 7 vn)) vp)) rfl hS (by first | exact ⟨by omega, by omega⟩ | omega) (fun H locs hM hS hz hk => ?_)
          refine lv_aload_n hx hb dX7_piece_65 rfl (lv_at hl 1 rfl) ?_
          refine kg (C := RX7) (T := TX7) (N := 32) (ci := 5) (k := 7) (v := .ref (om + 8)) S hK rfl inX7 (by decide) q_737 dX7_piece_66 hM rfl rfl ?_
          refine lv_iload_n hx hb dX7_piece_69 rfl (lv_at hl 2 rfl) ?_
          refine lv_dup2_11 hx hb dX7_piece_70 rfl rfl ?_
          refine kil (f := μ.2.1 7) S hK dX7_piece_71 8 hM rfl (by decide) rfl (by omega) ?_
          refine lv_iconst (v := nI 1) hx hb dX7_piece_72 (by decide) ?_
          refine n_iadd hx hb dX7_piece_73 ?_
          refine kis S hK dX7_piece_74 8 hM rfl (by decide) rfl (by omega) rfl (L1 := mL G om (uA (uA μ 9 ((8 * vn) + (μ.2.1 7 vn)) vp) 7 vn ((μ.2.1 7 vn) + 1))) rfl hS (by first | exact ⟨by omega, by omega⟩ | omega) (fun H locs hM hS hz hk => ?_)
          refine lv_aload_n hx hb dX7_piece_75 rfl (lv_at hl 1 rfl) ?_
          refine kg (C := RX7) (T := TX7) (N := 32) (ci := 5) (k := 7) (v := .ref (om + 8)) S hK rfl inX7 (by decide) q_737 dX7_piece_76 hM rfl rfl ?_
          refine lv_iload_n hx hb dX7_piece_79 rfl (lv_at hl 2 rfl) ?_
          refine kil (f := (uA (uA μ 9 ((8 * vn) + (μ.2.1 7 vn)) vp) 7 vn ((μ.2.1 7 vn) + 1)).2.1 7) S hK dX7_piece_80 8 hM rfl (by decide) rfl (by omega) ?_
          refine lv_iconst (v := nI 1) hx hb dX7_piece_81 (by decide) ?_
          refine n_isub hx hb dX7_piece_82 (by show 1 ≤ uN (μ.2.1 7) vn (μ.2.1 7 vn + 1) vn; rw [uN_s]; omega) ?_
          have hr : piece_M μ (nI vn) (nI vp) = (nI (((uA (uA μ 9 ((8 * vn) + (μ.2.1 7 vn)) vp) 7 vn ((μ.2.1 7 vn) + 1)).2.1 7 vn) - 1), uA (uA μ 9 ((8 * vn) + (μ.2.1 7 vn)) vp) 7 vn ((μ.2.1 7 vn) + 1)) := by unfold piece_M; rw [c_5, c_13, if_pos (show (true && true) = true from rfl), hcn, hcp, if_neg c_28]; refine Prod.ext (congrArg nI ?_) rfl; show μ.2.1 7 vn = uN (μ.2.1 7) vn (μ.2.1 7 vn + 1) vn - 1; rw [uN_s]; rfl
          refine w_top (v' := .int ((piece_M μ (nI vn) (nI vp)).1)) (congrArg (fun z => Value.int z) (congrArg Prod.fst hr).symm) ?_
          replace hM := bk_eq hM (show mL G om (uA (uA μ 9 ((8 * vn) + (μ.2.1 7 vn)) vp) 7 vn ((μ.2.1 7 vn) + 1)) = mL G om ((piece_M μ (nI vn) (nI vp)).2) from by rw [hr])
          exact hE _ _ _ _ _ _ (kr_i dX7_piece_83) hS (by decide) (by decide) hM
        ·
          exact absurd c_39 (by decide)
      ·
        refine lv_bipush (v := (-6)) hx hb dX7_piece_31 (by decide) ?_
        refine lv_goto (tgt := 37) hx hb dX7_piece_33 (by decide) ?_
        refine lv_istore_n (lv' := [(3, .int (-6)), (0, .ref om), (1, .int (nI vn)), (2, .int (nI vp))]) hx hb dX7_piece_37 rfl hl (by decide) rfl (fun ls hl => ?_)
        refine lv_iload_n hx hb dX7_piece_38 rfl (lv_at hl 0 rfl) ?_
        refine lv_if_eq (tgt := 48) hx hb dX7_piece_39 (by decide) (fun c_39 => ?_) (fun c_39 => ?_)
        ·
          exact absurd c_39 (by decide)
        ·
          refine lv_aload_n hx hb dX7_piece_42 rfl (lv_at hl 1 rfl) ?_
          refine lv_iload_n hx hb dX7_piece_43 rfl (lv_at hl 0 rfl) ?_
          refine ctV (rest := []) S hK (c_X7_refuse l G om μ (-6) 6 (by first | assumption | omega | decide) (by first | assumption | omega | decide)) cw_X7_72 rfl ⟨Nat.le_of_ble_eq_true rfl, Nat.le_of_ble_eq_true rfl⟩ ⟨Nat.le_of_ble_eq_true rfl, Nat.le_of_ble_eq_true rfl⟩ (bk.recv hK hM rfl rfl) hl.1 rfl (Nat.le_of_ble_eq_true rfl) dX7_piece_44 hM hS (fun _ h => h) (fun H locs hPost hz hk hS => ?_)
          have hM := hPost
          have hr : piece_M μ (nI vn) (nI vp) = ((-6), uA μ 0 6 (μ.2.1 0 6 + 1)) := by unfold piece_M; simp [c_5, hcn, c_13, hcp, c_28, c_39]
          refine w_top (v' := .int ((piece_M μ (nI vn) (nI vp)).1)) (congrArg (fun z => Value.int z) (congrArg Prod.fst hr).symm) ?_
          replace hM := bk_eq hM (show mL G om (uA μ 0 6 (μ.2.1 0 6 + 1)) = mL G om ((piece_M μ (nI vn) (nI vp)).2) from by rw [hr])
          exact hE _ _ _ _ _ _ (kr_i dX7_piece_47) hS (by decide) (by decide) hM
    ·
      refine lv_iconst (v := (-1)) hx hb dX7_piece_16 (by decide) ?_
      refine lv_goto (tgt := 37) hx hb dX7_piece_17 (by decide) ?_
      refine lv_istore_n (lv' := [(3, .int (-1)), (0, .ref om), (1, .int (nI vn)), (2, .int p)]) hx hb dX7_piece_37 rfl hl (by decide) rfl (fun ls hl => ?_)
      refine lv_iload_n hx hb dX7_piece_38 rfl (lv_at hl 0 rfl) ?_
      refine lv_if_eq (tgt := 48) hx hb dX7_piece_39 (by decide) (fun c_39 => ?_) (fun c_39 => ?_)
      ·
        exact absurd c_39 (by decide)
      ·
        refine lv_aload_n hx hb dX7_piece_42 rfl (lv_at hl 1 rfl) ?_
        refine lv_iload_n hx hb dX7_piece_43 rfl (lv_at hl 0 rfl) ?_
        refine ctV (rest := []) S hK (c_X7_refuse l G om μ (-1) 1 (by first | assumption | omega | decide) (by first | assumption | omega | decide)) cw_X7_72 rfl ⟨Nat.le_of_ble_eq_true rfl, Nat.le_of_ble_eq_true rfl⟩ ⟨Nat.le_of_ble_eq_true rfl, Nat.le_of_ble_eq_true rfl⟩ (bk.recv hK hM rfl rfl) hl.1 rfl (Nat.le_of_ble_eq_true rfl) dX7_piece_44 hM hS (fun _ h => h) (fun H locs hPost hz hk hS => ?_)
        have hM := hPost
        have hr : piece_M μ (nI vn) p = ((-1), uA μ 0 1 (μ.2.1 0 1 + 1)) := by unfold piece_M; simp [c_5, hcn, c_13, c_39]
        refine w_top (v' := .int ((piece_M μ (nI vn) p).1)) (congrArg (fun z => Value.int z) (congrArg Prod.fst hr).symm) ?_
        replace hM := bk_eq hM (show mL G om (uA μ 0 1 (μ.2.1 0 1 + 1)) = mL G om ((piece_M μ (nI vn) p).2) from by rw [hr])
        exact hE _ _ _ _ _ _ (kr_i dX7_piece_47) hS (by decide) (by decide) hM
