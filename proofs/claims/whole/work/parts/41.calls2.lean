
/-! walks: more of the class's calls -/
theorem byt_C {b : Int64} {k : Nat} (hk : k < 8) : ((b.toUInt64 >>> ((nI (8 * k)).toInt64.toUInt64 &&& Int64.toUInt64 63)).toInt64).toInt32 &&& nI 255 = nI (byt b k) := by
  have su : ∀ k, k < 8 → (((nI (8 * k)).toInt64.toUInt64 &&& Int64.toUInt64 63).toBitVec % 64).toNat = 8 * k := by decide +kernel
  apply Int32.toBitVec_inj.mp
  have e : (((b.toUInt64 >>> ((nI (8 * k)).toInt64.toUInt64 &&& Int64.toUInt64 63)).toInt64).toInt32 &&& nI 255).toBitVec = ((b.toBitVec >>> (((nI (8 * k)).toInt64.toUInt64 &&& Int64.toUInt64 63).toBitVec % 64).toNat).signExtend 32) &&& BitVec.ofNat 32 255 := rfl
  rw [e, su k hk, nb_I]
  apply BitVec.eq_of_getLsbD_eq
  intro i hi
  rw [BitVec.getLsbD_and, BitVec.getLsbD_signExtend, BitVec.getLsbD_ushiftRight, BitVec.getLsbD_ofNat, BitVec.getLsbD_ofNat]
  unfold byt
  rw [show (256 : Nat) = 2 ^ 8 from rfl, Nat.testBit_mod_two_pow, Nat.testBit_shiftRight]
  have h255 : (255 : Nat).testBit i = decide (i < 8) := by
    rw [show (255 : Nat) = 2 ^ 8 - 1 from rfl, Nat.testBit_two_pow_sub_one]
  rw [h255]
  by_cases h8 : i < 8
  · simp [h8, hi, show i < 64 by omega]
    rfl
  · simp [h8]
theorem bo_mask {P : Nat → Bool} {m n : Nat} (h : m ≤ n) : bo P n &&& (1 <<< m - 1) = bo P m := by
  apply Nat.eq_of_testBit_eq
  intro i
  rw [Nat.testBit_and, Nat.one_shiftLeft, Nat.testBit_two_pow_sub_one, bo_tb, bo_tb]
  by_cases hi : i < m
  · rw [decide_eq_true hi, decide_eq_true (show i < n by omega), Bool.and_true]
  · rw [decide_eq_false hi, Bool.and_false, Bool.false_and]
theorem asC_e {μ α β : Sx} {a b mi q : Nat} (ha : BG (μ.2.1 1 a) (μ.2.1 2 a) (μ.2.1 3 a) (clM μ a) α) (hb : BG (μ.2.1 1 b) (μ.2.1 2 b) (μ.2.1 3 b) (clM μ b) β) (hs : μ.2.1 1 a ≤ 5 ∧ μ.2.1 2 a ≤ 4) (ht : μ.2.1 1 b ≤ 5 ∧ μ.2.1 2 b ≤ 4) : asC (α.1 0) (α.1 1) (α.2.1 2) (β.1 0) (β.1 1) (β.2.1 2) mi q ↔ asP μ a b mi q := by
  obtain ⟨a0, a1, a2, -⟩ := ha
  obtain ⟨b0, b1, b2, -⟩ := hb
  rw [a0, a1, b0, b1]
  constructor
  · rintro ⟨h1, h2⟩
    refine ⟨h1, fun x hx y hy => ?_⟩
    have hl := trn_lt (w := μ.2.1 1 a) (h := μ.2.1 2 a) (x := x) (y := y) (mi := mi) (q := q) hx hy
    rw [← h1.1, ← h1.2] at hl
    have := h2 x hx y hy
    rw [a2 _ (by omega), b2 _ (by omega)] at this
    exact this
  · rintro ⟨h1, h2⟩
    refine ⟨h1, fun x hx y hy => ?_⟩
    have hl := trn_lt (w := μ.2.1 1 a) (h := μ.2.1 2 a) (x := x) (y := y) (mi := mi) (q := q) hx hy
    rw [← h1.1, ← h1.2] at hl
    rw [a2 _ (by omega), b2 _ (by omega)]
    exact h2 x hx y hy
theorem RX_fd {μ σ φ ρ : Sx} {pa na : Nat → Nat} {v : Nat} (h : RX μ σ φ ρ pa na) : RX (uS (uA μ 21 (μ.1 22) v) 22 (μ.1 22 + 1)) (uS (uA σ 0 (σ.1 1) v) 1 (σ.1 1 + 1)) φ ρ pa na := by
  obtain ⟨⟨hT1, hT2⟩, h2, h3, h4, h5, h6, h7⟩ := h
  refine ⟨⟨?_, ?_⟩, h2, FX_c h3 rfl rfl rfl rfl rfl, h4, h5, h6, h7⟩
  · show σ.1 1 + 1 = μ.1 22 + 1
    rw [hT1]
  · show uN (σ.2.1 0) (σ.1 1) v = uN (μ.2.1 21) (μ.1 22) v
    rw [hT1, hT2]
theorem KP_fd (μ : Sx) (b : Int64) : ∀ k, KP (fdS μ b k) μ
  | 0 => KP_r μ
  | k + 1 => KP_fd μ b k

theorem RX_ly {μ φ : Sx} {pa : Nat → Nat} {v i j : Nat} (h1 : φ.1 3 = μ.1 19) (h2 : φ.2.1 1 = μ.2.1 13) (h3 : φ.2.1 2 = μ.2.1 14) (h4 : ∀ k, k < μ.1 19 → φ.2.2 0 k = some (pa (μ.2.1 12 k))) : φ.1 3 + 1 = μ.1 19 + 1 ∧ uN (φ.2.1 1) (φ.1 3) i = uN (μ.2.1 13) (μ.1 19) i ∧ uN (φ.2.1 2) (φ.1 3) j = uN (μ.2.1 14) (μ.1 19) j ∧ ∀ k, k < μ.1 19 + 1 → va_up (φ.2.2 0) (φ.1 3) (some (pa v)) k = some (pa (uN (μ.2.1 12) (μ.1 19) v k)) := by
  rw [h1, h2, h3]
  refine ⟨rfl, rfl, rfl, fun k hk => ?_⟩
  by_cases e : k = μ.1 19
  · rw [e, uN_s]
    simp [va_up]
  · rw [uN_n e]
    simp only [va_up, if_neg e]
    exact h4 k (by omega)

theorem ct_lo {w : Int32} (h1 : nI 10 < w) (h2 : w < nI 11) : False := by
  have a := Int32.lt_iff_toInt_lt.mp h1
  have b := Int32.lt_iff_toInt_lt.mp h2
  rw [nI_toInt (by decide)] at a b
  omega
theorem ct_hi {w : Int32} (h1 : w < nI 17) (h2 : nI 16 < w) : False := by
  have a := Int32.lt_iff_toInt_lt.mp h1
  have b := Int32.lt_iff_toInt_lt.mp h2
  rw [nI_toInt (by decide)] at a b
  omega

set_option maxHeartbeats 1000000 in
set_option maxRecDepth 100000 in
theorem c_X6_meaning (l : Launch) (G : Gt) (o : Nat) (σ : Sx) (μ : Sx) (f : Nat) (m : Nat) (hm5 : m ≤ 5) (hf20 : f < 20) (hf8 : σ.2.1 4 f = bo (trB μ f) 32) : Cr l G yX6_meaning cX6_meaning 3 ((some .long)) 0 [.ref o, .int (nI f), .int (nI m)] (fun H => bk G o (xL G o σ) H) (some (.long (lN (bo (trB μ f) (1 <<< m))))) := by
  refine cr_entry [(0, .ref o), (1, .int (nI f)), (2, .int (nI m))] (by decide) (Nat.le_of_ble_eq_true rfl) rfl ?_
  intro zp ze zs zm za zb zt zc Q S hK hPre hE ls hl
  have hx := S.1
  have hb := S.2.1
  have hX := hPre
  have hsh := shl_le hm5
  have h1 : 1 ≤ 1 <<< (1 <<< m) := by rw [Nat.one_shiftLeft]; exact Nat.one_le_two_pow
  refine lv_aload_n hx hb dX6_meaning_0 rfl (lv_at hl 0 rfl) ?_
  refine kg (C := RX6) (T := TX6) (N := 12) (ci := 4) (k := 4) (v := .ref (o + 3)) S hK rfl inX6 (by decide) q_128 dX6_meaning_1 hX rfl rfl ?_
  refine lv_iload_n hx hb dX6_meaning_4 rfl (lv_at hl 1 rfl) ?_
  refine kll (f := σ.2.1 4) S hK dX6_meaning_5 3 hX rfl (by decide) rfl (by omega) ?_
  refine w_top (v' := .long (lN (bo (trB μ f) 32))) (congrArg (fun z => Value.long (lN z)) hf8) ?_
  refine lv_lconst (v := lN 1) hx hb dX6_meaning_6 (by decide) ?_
  refine lv_iconst (v := nI 1) hx hb dX6_meaning_7 (by decide) ?_
  refine lv_iload_n hx hb dX6_meaning_8 rfl (lv_at hl 2 rfl) ?_
  refine n_ishl hx hb dX6_meaning_9 (by omega) ?_
  refine n_lshl hx hb dX6_meaning_10 (by omega) ?_
  refine lv_lconst (v := lN 1) hx hb dX6_meaning_11 (by decide) ?_
  refine n_lsub hx hb dX6_meaning_12 h1 ?_
  refine n_land hx hb dX6_meaning_13 ?_
  refine w_top (v' := .long (lN (bo (trB μ f) (1 <<< m)))) (congrArg (fun z => Value.long (lN z)) (show ((bo (trB μ f) 32) &&& ((1 <<< (1 <<< m)) - 1)) = (bo (trB μ f) (1 <<< m)) from bo_mask (by omega))) ?_
  exact hE _ _ (kr_l dX6_meaning_14)

set_option maxHeartbeats 1000000 in
set_option maxRecDepth 100000 in
theorem c_X6_count (l : Launch) (G : Gt) (o : Nat) (om : Nat) (μ : Sx) (pa : Nat → Nat) (na : Nat → Nat) (w : Int32) (hb0 : MIb μ) (hn0 : MIn μ) (hif : MIf μ) (hit : MIt μ) (hl0 : MIl μ) (hr0 : MIr μ) : Ct l G yX6_count cX6_count 2 ((some .int)) 0 0 0 [.ref o, .int w] (fun H => CWx G o om μ pa na H) (some (.int (count_M μ w))) (fun H => CW G o om ((count_M μ w, μ)).2 H) (fun q => o ≤ q ∧ q < o + 11) := by
  refine ct_entry [(0, .ref o), (1, .int w)] (by decide) (Nat.le_of_ble_eq_true rfl) rfl ?_
  intro zp ze zs zm za zb zt zc Q S hK hPre hin hE ls hl
  have hx := S.1
  have hb := S.2.1
  have hCW := hPre
  have hS : va_S (fun q => o ≤ q ∧ q < o + 11) zs.heap zs.heap [] := va_S.rf
  obtain ⟨⟨hoo, hosz, hLH⟩, σ, φ, ρ, hX, hF, hRF, hRX, hWB, hWN, hAP⟩ := id hCW
  obtain ⟨⟨hT1, hT2⟩, ⟨hP1, hP2⟩, ⟨hF1, hF2⟩, ⟨hN1, hN2⟩, ⟨hR1, hR2⟩, ⟨hL1, hL2, hL3, hL4⟩, hRR⟩ := id hRX
  obtain ⟨h16, -⟩ := id hb0
  obtain ⟨h18, -⟩ := id hn0
  obtain ⟨h17, -⟩ := id hif
  obtain ⟨h22, -⟩ := id hit
  obtain ⟨h19, -⟩ := id hl0
  obtain ⟨h20, -⟩ := id hr0
  refine lv_iload_n hx hb dX6_count_0 rfl (lv_at hl 1 rfl) ?_
  rcases sw6 w with rfl | rfl | rfl | rfl | rfl | rfl | hd
  ·
    refine lv_tableIn (off := 39) (tgt := 40) hx hb dX6_count_1 (by decide) (by decide) (by decide) (by decide) ?_
    refine lv_aload_n hx hb dX6_count_40 rfl (lv_at hl 0 rfl) ?_
    refine kg (C := RX6) (T := TX6) (N := 12) (ci := 4) (k := 3) (v := .int (nI (σ.1 3))) S hK rfl inX6 (by decide) q_127 dX6_count_41 hX rfl rfl ?_
    have hr : (count_M μ (0 : Int32), μ) = ((nI (σ.1 3)), μ) := by rw [hP1] <;> rfl
    refine w_top (v' := .int (count_M μ (0 : Int32))) (congrArg (fun z => Value.int z) (congrArg Prod.fst hr).symm) ?_
    have hcw := CW_r (G := G) (o := o) (om := om) hr (CW_x hCW hS (fun q h => by first | exact Or.inl h | omega) hX hF hRF (hRX) (KP_r μ))
    exact hE _ _ _ _ _ _ (kr_i dX6_count_44) hS (by decide) (by decide) hcw
  ·
    refine lv_tableIn (off := 44) (tgt := 45) hx hb dX6_count_1 (by decide) (by decide) (by decide) (by decide) ?_
    refine lv_aload_n hx hb dX6_count_45 rfl (lv_at hl 0 rfl) ?_
    refine kg (C := RX6) (T := TX6) (N := 12) (ci := 4) (k := 5) (v := .int (nI (σ.1 5))) S hK rfl inX6 (by decide) q_129 dX6_count_46 hX rfl rfl ?_
    have hr : (count_M μ (1 : Int32), μ) = ((nI (σ.1 5)), μ) := by rw [hF1] <;> rfl
    refine w_top (v' := .int (count_M μ (1 : Int32))) (congrArg (fun z => Value.int z) (congrArg Prod.fst hr).symm) ?_
    have hcw := CW_r (G := G) (o := o) (om := om) hr (CW_x hCW hS (fun q h => by first | exact Or.inl h | omega) hX hF hRF (hRX) (KP_r μ))
    exact hE _ _ _ _ _ _ (kr_i dX6_count_49) hS (by decide) (by decide) hcw
  ·
    refine lv_tableIn (off := 49) (tgt := 50) hx hb dX6_count_1 (by decide) (by decide) (by decide) (by decide) ?_
    refine lv_aload_n hx hb dX6_count_50 rfl (lv_at hl 0 rfl) ?_
    refine kg (C := RX6) (T := TX6) (N := 12) (ci := 4) (k := 7) (v := .int (nI (σ.1 7))) S hK rfl inX6 (by decide) q_131 dX6_count_51 hX rfl rfl ?_
    have hr : (count_M μ (2 : Int32), μ) = ((nI (σ.1 7)), μ) := by rw [hN1] <;> rfl
    refine w_top (v' := .int (count_M μ (2 : Int32))) (congrArg (fun z => Value.int z) (congrArg Prod.fst hr).symm) ?_
    have hcw := CW_r (G := G) (o := o) (om := om) hr (CW_x hCW hS (fun q h => by first | exact Or.inl h | omega) hX hF hRF (hRX) (KP_r μ))
    exact hE _ _ _ _ _ _ (kr_i dX6_count_54) hS (by decide) (by decide) hcw
  ·
    refine lv_tableIn (off := 54) (tgt := 55) hx hb dX6_count_1 (by decide) (by decide) (by decide) (by decide) ?_
    refine lv_aload_n hx hb dX6_count_55 rfl (lv_at hl 0 rfl) ?_
    refine kg (C := RX6) (T := TX6) (N := 12) (ci := 4) (k := 10) (v := .ref (o + 6)) S hK rfl inX6 (by decide) q_134 dX6_count_56 hX rfl rfl ?_
    refine kg (C := RX2) (T := TX2) (N := 4) (ci := 1) (k := 3) (v := .int (nI (φ.1 3))) S hK rfl inX2 (by decide) q_112 dX6_count_59 hF rfl rfl ?_
    have hr : (count_M μ (3 : Int32), μ) = ((nI (φ.1 3)), μ) := by rw [hL1] <;> rfl
    refine w_top (v' := .int (count_M μ (3 : Int32))) (congrArg (fun z => Value.int z) (congrArg Prod.fst hr).symm) ?_
    have hcw := CW_r (G := G) (o := o) (om := om) hr (CW_x hCW hS (fun q h => by first | exact Or.inl h | omega) hX hF hRF (hRX) (KP_r μ))
    exact hE _ _ _ _ _ _ (kr_i dX6_count_62) hS (by decide) (by decide) hcw
  ·
    refine lv_tableIn (off := 62) (tgt := 63) hx hb dX6_count_1 (by decide) (by decide) (by decide) (by decide) ?_
    refine lv_aload_n hx hb dX6_count_63 rfl (lv_at hl 0 rfl) ?_
    refine kg (C := RX6) (T := TX6) (N := 12) (ci := 4) (k := 1) (v := .int (nI (σ.1 1))) S hK rfl inX6 (by decide) q_125 dX6_count_64 hX rfl rfl ?_
    have hr : (count_M μ (4 : Int32), μ) = ((nI (σ.1 1)), μ) := by rw [hT1] <;> rfl
    refine w_top (v' := .int (count_M μ (4 : Int32))) (congrArg (fun z => Value.int z) (congrArg Prod.fst hr).symm) ?_
    have hcw := CW_r (G := G) (o := o) (om := om) hr (CW_x hCW hS (fun q h => by first | exact Or.inl h | omega) hX hF hRF (hRX) (KP_r μ))
    exact hE _ _ _ _ _ _ (kr_i dX6_count_67) hS (by decide) (by decide) hcw
  ·
    refine lv_tableIn (off := 67) (tgt := 68) hx hb dX6_count_1 (by decide) (by decide) (by decide) (by decide) ?_
    refine lv_aload_n hx hb dX6_count_68 rfl (lv_at hl 0 rfl) ?_
    refine kg (C := RX6) (T := TX6) (N := 12) (ci := 4) (k := 9) (v := .int (nI (σ.1 9))) S hK rfl inX6 (by decide) q_133 dX6_count_69 hX rfl rfl ?_
    have hr : (count_M μ (5 : Int32), μ) = ((nI (σ.1 9)), μ) := by rw [hR1] <;> rfl
    refine w_top (v' := .int (count_M μ (5 : Int32))) (congrArg (fun z => Value.int z) (congrArg Prod.fst hr).symm) ?_
    have hcw := CW_r (G := G) (o := o) (om := om) hr (CW_x hCW hS (fun q h => by first | exact Or.inl h | omega) hX hF hRF (hRX) (KP_r μ))
    exact hE _ _ _ _ _ _ (kr_i dX6_count_72) hS (by decide) (by decide) hcw
  ·
    refine lv_tableOut (tgt := 73) hx hb dX6_count_1 hd (by decide) ?_
    refine lv_iload_n hx hb dX6_count_73 rfl (lv_at hl 1 rfl) ?_
    refine lv_bipush (v := nI 11) hx hb dX6_count_74 (by decide) ?_
    refine lv_icmp_lt (tgt := 97) hx hb dX6_count_76 (by decide) (fun c_76 => ?_) (fun c_76 => ?_)
    ·
      refine lv_bipush (v := (-9)) hx hb dX6_count_97 (by decide) ?_
      have hr : (count_M μ w, μ) = ((-9), μ) := by
        unfold count_M
        rw [if_neg (fun q => ct_lo q.1 c_76), if_neg (sw_ne hd (by decide) (by decide)), if_neg (sw_ne hd (by decide) (by decide)), if_neg (sw_ne hd (by decide) (by decide)), if_neg (sw_ne hd (by decide) (by decide)), if_neg (sw_ne hd (by decide) (by decide)), if_neg (sw_ne hd (by decide) (by decide))]
      refine w_top (v' := .int (count_M μ w)) (congrArg (fun z => Value.int z) (congrArg Prod.fst hr).symm) ?_
      have hcw := CW_r (G := G) (o := o) (om := om) hr (CW_x hCW hS (fun q h => by first | exact Or.inl h | omega) hX hF hRF (hRX) (KP_r μ))
      exact hE _ _ _ _ _ _ (kr_i dX6_count_99) hS (by decide) (by decide) hcw
    ·
      refine lv_iload_n hx hb dX6_count_79 rfl (lv_at hl 1 rfl) ?_
      refine lv_bipush (v := nI 16) hx hb dX6_count_80 (by decide) ?_
      refine lv_icmp_gt (tgt := 97) hx hb dX6_count_82 (by decide) (fun c_82 => ?_) (fun c_82 => ?_)
      ·
        refine lv_bipush (v := (-9)) hx hb dX6_count_97 (by decide) ?_
        have hr : (count_M μ w, μ) = ((-9), μ) := by
          unfold count_M
          rw [if_neg (fun q => ct_hi q.2 c_82), if_neg (sw_ne hd (by decide) (by decide)), if_neg (sw_ne hd (by decide) (by decide)), if_neg (sw_ne hd (by decide) (by decide)), if_neg (sw_ne hd (by decide) (by decide)), if_neg (sw_ne hd (by decide) (by decide)), if_neg (sw_ne hd (by decide) (by decide))]
        refine w_top (v' := .int (count_M μ w)) (congrArg (fun z => Value.int z) (congrArg Prod.fst hr).symm) ?_
        have hcw := CW_r (G := G) (o := o) (om := om) hr (CW_x hCW hS (fun q h => by first | exact Or.inl h | omega) hX hF hRF (hRX) (KP_r μ))
        exact hE _ _ _ _ _ _ (kr_i dX6_count_99) hS (by decide) (by decide) hcw
      ·
        obtain ⟨j, hj1, hj2, rfl⟩ := n_rng (by decide) (by decide) (Int32.not_lt.mp c_76) c_82
        refine lv_aload_n hx hb dX6_count_85 rfl (lv_at hl 0 rfl) ?_
        refine kg (C := RX6) (T := TX6) (N := 12) (ci := 4) (k := 11) (v := .ref (o + 10)) S hK rfl inX6 (by decide) q_135 dX6_count_86 hX rfl rfl ?_
        refine lv_iload_n hx hb dX6_count_89 rfl (lv_at hl 1 rfl) ?_
        refine lv_bipush (v := nI 10) hx hb dX6_count_90 (by decide) ?_
        refine n_isub hx hb dX6_count_92 (by omega) ?_
        refine kil (f := ρ.2.1 0) S hK dX6_count_93 0 hRF rfl (by decide) rfl (by omega) ?_
        refine lv_goto (tgt := 99) hx hb dX6_count_94 (by decide) ?_
        have hr : (count_M μ (nI j), μ) = ((nI (ρ.2.1 0 (j - 10))), μ) := by unfold count_M; rw [if_pos ⟨nI_lt (by omega) (by omega), nI_lt (by omega) (by omega)⟩, hRR, cx_n (by omega)]
        refine w_top (v' := .int (count_M μ (nI j))) (congrArg (fun z => Value.int z) (congrArg Prod.fst hr).symm) ?_
        have hcw := CW_r (G := G) (o := o) (om := om) hr (CW_x hCW hS (fun q h => by first | exact Or.inl h | omega) hX hF hRF (hRX) (KP_r μ))
        exact hE _ _ _ _ _ _ (kr_i dX6_count_99) hS (by decide) (by decide) hcw

set_option maxHeartbeats 1000000 in
set_option maxRecDepth 100000 in
theorem c_X6_feed (l : Launch) (G : Gt) (o : Nat) (om : Nat) (μ : Sx) (pa : Nat → Nat) (na : Nat → Nat) (n : Int32) (bv : Int64) (hb0 : MIb μ) (hn0 : MIn μ) (hif : MIf μ) (hit : MIt μ) (hl0 : MIl μ) (hr0 : MIr μ) : Ct l G yX6_feed cX6_feed 5 ((some .int)) 1 0 0 [.ref o, .int n, .long bv] (fun H => CWx G o om μ pa na H) (some (.int ((feed_M μ n bv).1))) (fun H => CW G o om (feed_M μ n bv).2 H) (fun q => o ≤ q ∧ q < o + 11) := by
  refine ct_entry [(0, .ref o), (1, .int n), (2, .long bv)] (by decide) (Nat.le_of_ble_eq_true rfl) rfl ?_
  intro zp ze zs zm za zb zt zc Q S hK hPre hin hE ls hl
  have hx := S.1
  have hb := S.2.1
  have hCW := hPre
  have hS : va_S (fun q => o ≤ q ∧ q < o + 11) zs.heap zs.heap [] := va_S.rf
  obtain ⟨⟨hoo, hosz, hLH⟩, σ, φ, ρ, hX, hF, hRF, hRX, hWB, hWN, hAP⟩ := id hCW
  obtain ⟨⟨hT1, hT2⟩, ⟨hP1, hP2⟩, ⟨hF1, hF2⟩, ⟨hN1, hN2⟩, ⟨hR1, hR2⟩, ⟨hL1, hL2, hL3, hL4⟩, hRR⟩ := id hRX
  obtain ⟨h16, -⟩ := id hb0
  obtain ⟨h18, -⟩ := id hn0
  obtain ⟨h17, -⟩ := id hif
  obtain ⟨h22, -⟩ := id hit
  obtain ⟨h19, -⟩ := id hl0
  obtain ⟨h20, -⟩ := id hr0
  refine lv_iload_n hx hb dX6_feed_0 rfl (lv_at hl 1 rfl) ?_
  refine lv_iconst (v := nI 1) hx hb dX6_feed_1 (by decide) ?_
  refine lv_icmp_ge (tgt := 12) hx hb dX6_feed_2 (by decide) (fun c_2 => ?_) (fun c_2 => ?_)
  ·
    refine lv_iload_n hx hb dX6_feed_12 rfl (lv_at hl 1 rfl) ?_
    refine lv_bipush (v := nI 8) hx hb dX6_feed_13 (by decide) ?_
    refine lv_icmp_gt (tgt := 29) hx hb dX6_feed_15 (by decide) (fun c_15 => ?_) (fun c_15 => ?_)
    ·
      refine lv_aload_n hx hb dX6_feed_29 rfl (lv_at hl 0 rfl) ?_
      refine lv_bipush (v := (-6)) hx hb dX6_feed_30 (by decide) ?_
      refine ctV (rest := []) S hK (c_X6_refuse l G o σ ρ (-6) 6 rfl (by decide)) cw_X6_42 rfl ⟨Nat.le_of_ble_eq_true rfl, Nat.le_of_ble_eq_true rfl⟩ ⟨Nat.le_of_ble_eq_true rfl, Nat.le_of_ble_eq_true rfl⟩ (bk.recv hK hX rfl rfl) hl.1 rfl (Nat.le_of_ble_eq_true rfl) dX6_feed_32 ⟨hX, hRF⟩ hS (fun _ h => by first | exact h | omega) (fun H locs hPost hz hk hS => ?_)
      obtain ⟨hX, hRF⟩ := hPost
      replace hF := hF.over hk (fun q h1 h2 => by have h3 : q < o + 6 + 4 := h2; intro hA1; omega)
      have hr : feed_M μ n bv = ((-6), rfM μ 6) := by unfold feed_M; rw [if_pos c_2, if_pos c_15]
      refine w_top (v' := .int ((feed_M μ n bv).1)) (congrArg (fun z => Value.int z) (congrArg Prod.fst hr).symm) ?_
      have hcw := CW_r (G := G) (o := o) (om := om) hr (CW_x hCW hS (fun q h => by first | exact Or.inl h | omega) hX hF hRF (RX_rf hRX) (KP_rf μ _))
      exact hE _ _ _ _ _ _ (kr_i dX6_feed_35) hS (by decide) (by decide) hcw
    ·
      obtain ⟨j, hj1, hj8, rfl⟩ := n_rng (by decide) (by decide) c_2 c_15
      have hcj := cx_n (j := j) (by omega)
      refine lv_iload_n hx hb dX6_feed_18 rfl (lv_at hl 1 rfl) ?_
      refine lv_bipush (v := nI 40) hx hb dX6_feed_19 (by decide) ?_
      refine lv_aload_n hx hb dX6_feed_21 rfl (lv_at hl 0 rfl) ?_
      refine kg (C := RX6) (T := TX6) (N := 12) (ci := 4) (k := 1) (v := .int (nI (σ.1 1))) S hK rfl inX6 (by decide) q_125 dX6_feed_22 hX rfl rfl ?_
      refine n_isub hx hb dX6_feed_25 (by omega) ?_
      refine n_icmp_le (tgt := 36) hx hb dX6_feed_26 (by decide) (by omega) (by omega) (fun c_26 => ?_) (fun c_26 => ?_)
      ·
        refine lv_iconst (v := nI 0) hx hb dX6_feed_36 (by decide) ?_
        refine lv_istore (lv' := [(4, .int (nI 0)), (0, .ref o), (1, .int (nI j)), (2, .long bv)]) hx hb dX6_feed_37 hl (by decide) rfl (fun ls hl => ?_)
        have L39 : ∀ (fu : Nat), ∀ (vi : Nat) (τ : Sx), (vi ≤ j) → (RX (fdS μ bv vi) τ φ ρ pa na) → j - vi < fu → ∀ (H : Heap) (locs : List Loc), bk G o (xL G o τ) H → bk G (o + 6) (flL G (o + 6) φ) H → bk G (o + 10) (rfL G (o + 10) ρ) H → va_S (fun q => o ≤ q ∧ q < o + 11) zs.heap H locs → ∀ ls : Array Slot, lv_has ls 5 [(0, .ref o), (1, .int (nI j)), (2, .long bv), (4, .int (nI vi))] → W zp l ze (rL 1 0 0) zs zm za zb zt zc H locs 0 0 Q (F0 zm 39 ls []) := by
          intro fu
          induction fu with
          | zero =>
            intro vi τ hvi hRX2 hmu H locs hX hF hRF hS ls hl
            exact absurd hmu (Nat.not_lt_zero _)
          | succ fu ih39 =>
            intro vi τ hvi hRX2 hmu H locs hX hF hRF hS ls hl
            have ht1 := hRX2.1.1
            rw [fd22] at ht1
            refine lv_iload hx hb dX6_feed_39 (lv_at hl 3 rfl) ?_
            refine lv_iload_n hx hb dX6_feed_41 rfl (lv_at hl 1 rfl) ?_
            refine n_icmp_ge (tgt := 82) hx hb dX6_feed_42 (by decide) (by omega) (by omega) (fun c_42 => ?_) (fun c_42 => ?_)
            ·
              refine lv_aload_n hx hb dX6_feed_82 rfl (lv_at hl 0 rfl) ?_
              refine kg (C := RX6) (T := TX6) (N := 12) (ci := 4) (k := 1) (v := .int (nI (τ.1 1))) S hK rfl inX6 (by decide) q_125 dX6_feed_83 hX rfl rfl ?_
              have hr : feed_M μ (nI j) bv = ((nI (τ.1 1)), fdS μ bv j) := by unfold feed_M; rw [if_pos c_2, if_neg c_15, hcj, if_pos (by omega), show τ.1 1 = μ.1 22 + j from by omega]
              refine w_top (v' := .int ((feed_M μ (nI j) bv).1)) (congrArg (fun z => Value.int z) (congrArg Prod.fst hr).symm) ?_
              have hcw := CW_r (G := G) (o := o) (om := om) hr (CW_x hCW hS (fun q h => by first | exact Or.inl h | omega) hX hF hRF ((show vi = j by omega) ▸ hRX2) (KP_fd μ bv j))
              exact hE _ _ _ _ _ _ (kr_i dX6_feed_86) hS (by decide) (by decide) hcw
            ·
              refine lv_aload_n hx hb dX6_feed_45 rfl (lv_at hl 0 rfl) ?_
              refine kg (C := RX6) (T := TX6) (N := 12) (ci := 4) (k := 0) (v := .ref (o + 1)) S hK rfl inX6 (by decide) q_124 dX6_feed_46 hX rfl rfl ?_
              refine lv_aload_n hx hb dX6_feed_49 rfl (lv_at hl 0 rfl) ?_
              refine kg (C := RX6) (T := TX6) (N := 12) (ci := 4) (k := 1) (v := .int (nI (τ.1 1))) S hK rfl inX6 (by decide) q_125 dX6_feed_50 hX rfl rfl ?_
              refine lv_lload_n hx hb dX6_feed_53 rfl (lv_at hl 2 rfl) ?_
              refine lv_bipush (v := nI 8) hx hb dX6_feed_54 (by decide) ?_
              refine lv_iload hx hb dX6_feed_56 (lv_at hl 3 rfl) ?_
              refine n_imul hx hb dX6_feed_58 ?_
              refine lv_lushr hx hb dX6_feed_59 rfl ?_
              refine lv_l2i (v := ((bv.toUInt64 >>> ((nI (8 * vi)).toInt64.toUInt64 &&& Int64.toUInt64 63)).toInt64).toInt32) hx hb dX6_feed_60 rfl ?_
              refine lv_sipush (v := nI 255) hx hb dX6_feed_61 (by decide) ?_
              refine lv_iand hx hb dX6_feed_64 ?_
              refine w_top (v' := .int (nI (byt bv vi))) (congrArg (fun z => Value.int z) (byt_C (by omega))) ?_
              refine kis S hK dX6_feed_65 1 hX rfl (by decide) rfl (by omega) rfl (L1 := xL G o (uA τ 0 (τ.1 1) (byt bv vi))) rfl hS (by first | exact ⟨by omega, by omega⟩ | omega) (fun H locs hX hS hz2 hk => ?_)
              replace hF := hF.kept (fun q h1 h2 => hk q (by have h3 : q < o + 6 + 4 := h2; omega))
              replace hRF := hRF.kept (fun q h1 h2 => hk q (by have h3 : q < o + 10 + 1 := h2; omega))
              refine lv_aload_n hx hb dX6_feed_66 rfl (lv_at hl 0 rfl) ?_
              refine lv_dup hx hb dX6_feed_67 rfl ?_
              refine kg (C := RX6) (T := TX6) (N := 12) (ci := 4) (k := 1) (v := .int (nI (τ.1 1))) S hK rfl inX6 (by decide) q_125 dX6_feed_68 hX rfl rfl ?_
              refine lv_iconst (v := nI 1) hx hb dX6_feed_71 (by decide) ?_
              refine n_iadd hx hb dX6_feed_72 ?_
              refine kp (C := RX6) (T := TX6) (N := 12) (ci := 4) (k := 1) (ty := .int) tyX6 tyX6_ok nmX6 S hK rfl inX6 (by decide) q_125 rfl dX6_feed_73 rfl rfl rfl hX rfl (Nat.le_of_ble_eq_true rfl) (L1 := xL G o (uS (uA τ 0 (τ.1 1) (byt bv vi)) 1 ((τ.1 1) + 1))) rfl hS (by first | exact ⟨by omega, by omega⟩ | omega) (fun H locs hX hS hz2 hk => ?_)
              replace hF := hF.kept (fun q h1 h2 => hk q (by have h3 : q < o + 6 + 4 := h2; omega))
              replace hRF := hRF.kept (fun q h1 h2 => hk q (by have h3 : q < o + 10 + 1 := h2; omega))
              refine lv_iinc (v := (nI (vi + 1))) (lv' := [(4, .int (nI (vi + 1))), (0, .ref o), (1, .int (nI j)), (2, .long bv)]) hx hb dX6_feed_76 hl (k := 3) rfl (inc1 _) (by decide) rfl (fun ls hl => ?_)
              refine lv_goto (tgt := 39) hx hb dX6_feed_79 (by decide) ?_
              exact ih39 (vi + 1) (uS (uA τ 0 (τ.1 1) (byt bv vi)) 1 ((τ.1 1) + 1)) (by omega) (RX_fd hRX2) (by omega) _ _ hX hF hRF hS ls (lv_sub hl [1, 2, 3, 0] rfl)
        exact L39 ((j - 0) + 1) 0 σ (Nat.zero_le _) hRX (Nat.lt_succ_self _) _ _ hX hF hRF hS ls (lv_sub hl [1, 2, 3, 0] rfl)
      ·
        refine lv_aload_n hx hb dX6_feed_29 rfl (lv_at hl 0 rfl) ?_
        refine lv_bipush (v := (-6)) hx hb dX6_feed_30 (by decide) ?_
        refine ctV (rest := []) S hK (c_X6_refuse l G o σ ρ (-6) 6 rfl (by decide)) cw_X6_42 rfl ⟨Nat.le_of_ble_eq_true rfl, Nat.le_of_ble_eq_true rfl⟩ ⟨Nat.le_of_ble_eq_true rfl, Nat.le_of_ble_eq_true rfl⟩ (bk.recv hK hX rfl rfl) hl.1 rfl (Nat.le_of_ble_eq_true rfl) dX6_feed_32 ⟨hX, hRF⟩ hS (fun _ h => by first | exact h | omega) (fun H locs hPost hz hk hS => ?_)
        obtain ⟨hX, hRF⟩ := hPost
        replace hF := hF.over hk (fun q h1 h2 => by have h3 : q < o + 6 + 4 := h2; intro hA1; omega)
        have hr : feed_M μ (nI j) bv = ((-6), rfM μ 6) := by unfold feed_M; rw [if_pos c_2, if_neg c_15, hcj, if_neg (by omega)]
        refine w_top (v' := .int ((feed_M μ (nI j) bv).1)) (congrArg (fun z => Value.int z) (congrArg Prod.fst hr).symm) ?_
        have hcw := CW_r (G := G) (o := o) (om := om) hr (CW_x hCW hS (fun q h => by first | exact Or.inl h | omega) hX hF hRF (RX_rf hRX) (KP_rf μ _))
        exact hE _ _ _ _ _ _ (kr_i dX6_feed_35) hS (by decide) (by decide) hcw
  ·
    refine lv_aload_n hx hb dX6_feed_5 rfl (lv_at hl 0 rfl) ?_
    refine lv_bipush (v := (-4)) hx hb dX6_feed_6 (by decide) ?_
    refine ctV (rest := []) S hK (c_X6_refuse l G o σ ρ (-4) 4 rfl (by decide)) cw_X6_42 rfl ⟨Nat.le_of_ble_eq_true rfl, Nat.le_of_ble_eq_true rfl⟩ ⟨Nat.le_of_ble_eq_true rfl, Nat.le_of_ble_eq_true rfl⟩ (bk.recv hK hX rfl rfl) hl.1 rfl (Nat.le_of_ble_eq_true rfl) dX6_feed_8 ⟨hX, hRF⟩ hS (fun _ h => by first | exact h | omega) (fun H locs hPost hz hk hS => ?_)
    obtain ⟨hX, hRF⟩ := hPost
    replace hF := hF.over hk (fun q h1 h2 => by have h3 : q < o + 6 + 4 := h2; intro hA1; omega)
    have hr : feed_M μ n bv = ((-4), rfM μ 4) := by unfold feed_M; rw [if_neg c_2]
    refine w_top (v' := .int ((feed_M μ n bv).1)) (congrArg (fun z => Value.int z) (congrArg Prod.fst hr).symm) ?_
    have hcw := CW_r (G := G) (o := o) (om := om) hr (CW_x hCW hS (fun q h => by first | exact Or.inl h | omega) hX hF hRF (RX_rf hRX) (KP_rf μ _))
    exact hE _ _ _ _ _ _ (kr_i dX6_feed_11) hS (by decide) (by decide) hcw

set_option maxHeartbeats 1000000 in
set_option maxRecDepth 100000 in
theorem c_X6_means (l : Launch) (G : Gt) (o : Nat) (om : Nat) (μ : Sx) (pa : Nat → Nat) (na : Nat → Nat) (f : Int32) (m : Int32) (hb0 : MIb μ) (hn0 : MIn μ) (hif : MIf μ) (hit : MIt μ) (hl0 : MIl μ) (hr0 : MIr μ) : Ct l G yX6_means cX6_means 3 ((some .long)) 2 0 0 [.ref o, .int f, .int m] (fun H => CWx G o om μ pa na H) (some (.long ((means_M μ f m).1))) (fun H => CW G o om (means_M μ f m).2 H) (fun q => o ≤ q ∧ q < o + 11) := by
  refine ct_entry [(0, .ref o), (1, .int f), (2, .int m)] (by decide) (Nat.le_of_ble_eq_true rfl) rfl ?_
  intro zp ze zs zm za zb zt zc Q S hK hPre hin hE ls hl
  have hx := S.1
  have hb := S.2.1
  have hCW := hPre
  have hS : va_S (fun q => o ≤ q ∧ q < o + 11) zs.heap zs.heap [] := va_S.rf
  obtain ⟨⟨hoo, hosz, hLH⟩, σ, φ, ρ, hX, hF, hRF, hRX, hWB, hWN, hAP⟩ := id hCW
  obtain ⟨⟨hT1, hT2⟩, ⟨hP1, hP2⟩, ⟨hF1, hF2⟩, ⟨hN1, hN2⟩, ⟨hR1, hR2⟩, ⟨hL1, hL2, hL3, hL4⟩, hRR⟩ := id hRX
  obtain ⟨h16, -⟩ := id hb0
  obtain ⟨h18, -⟩ := id hn0
  obtain ⟨h17, -⟩ := id hif
  obtain ⟨h22, -⟩ := id hit
  obtain ⟨h19, -⟩ := id hl0
  obtain ⟨h20, -⟩ := id hr0
  refine lv_aload_n hx hb dX6_means_0 rfl (lv_at hl 0 rfl) ?_
  refine lv_iload_n hx hb dX6_means_1 rfl (lv_at hl 1 rfl) ?_
  refine crV (rest := []) S hK (c_X6_isFormula l G o σ f (by omega)) cw_X6_132 rfl ⟨Nat.le_of_ble_eq_true rfl, Nat.le_of_ble_eq_true rfl⟩ ⟨Nat.le_of_ble_eq_true rfl, Nat.le_of_ble_eq_true rfl⟩ (bk.recv hK hX rfl rfl) hl.1 rfl (Nat.le_of_ble_eq_true rfl) dX6_means_2 hX ?_
  refine z_if_ne (tgt := 14) hx hb dX6_means_5 (by decide) (fun c_5 => ?_) (fun c_5 => ?_)
  ·
    rw [hF1] at c_5
    obtain ⟨vf, hvf, rfl⟩ := inI_x c_5
    have hcf := cx_n (j := vf) (by omega)
    refine lv_iload_n hx hb dX6_means_14 rfl (lv_at hl 2 rfl) ?_
    refine lv_if_ge (tgt := 25) hx hb dX6_means_15 (by decide) (fun c_15 => ?_) (fun c_15 => ?_)
    ·
      obtain ⟨j, hj, rfl⟩ := nI_of (Int32.not_lt.mpr c_15)
      have hcj := cx_n hj
      refine lv_iload_n hx hb dX6_means_25 rfl (lv_at hl 2 rfl) ?_
      refine lv_iconst (v := nI 5) hx hb dX6_means_26 (by decide) ?_
      refine n_icmp_le (tgt := 37) hx hb dX6_means_27 (by decide) (by omega) (by decide) (fun c_27 => ?_) (fun c_27 => ?_)
      ·
        refine lv_aload_n hx hb dX6_means_37 rfl (lv_at hl 0 rfl) ?_
        refine lv_iload_n hx hb dX6_means_38 rfl (lv_at hl 1 rfl) ?_
        refine lv_iload_n hx hb dX6_means_39 rfl (lv_at hl 2 rfl) ?_
        refine crV (rest := []) S hK (c_X6_meaning l G o σ μ vf j (by omega) (by omega) (hF2 _ hvf)) cw_X6_135 rfl ⟨Nat.le_of_ble_eq_true rfl, Nat.le_of_ble_eq_true rfl⟩ ⟨Nat.le_of_ble_eq_true rfl, Nat.le_of_ble_eq_true rfl⟩ (bk.recv hK hX rfl rfl) hl.1 rfl (Nat.le_of_ble_eq_true rfl) dX6_means_40 hX ?_
        have hr : means_M μ (nI vf) (nI j) = ((lN (bo (trB μ vf) (1 <<< j))), μ) := by unfold means_M; rw [c_5, if_pos (by rfl), if_neg (show ¬ nI j < nI 0 from n9_lt hj), if_neg (fun q => absurd ((nI_ltI (by omega) hj).mp q) (by omega)), hcf, hcj]
        refine w_top (v' := .long ((means_M μ (nI vf) (nI j)).1)) (congrArg (fun z => Value.long z) (congrArg Prod.fst hr).symm) ?_
        have hcw := CW_r (G := G) (o := o) (om := om) hr (CW_x hCW hS (fun q h => by first | exact Or.inl h | omega) hX hF hRF (hRX) (KP_r μ))
        exact hE _ _ _ _ _ _ (kr_l dX6_means_43) hS (by decide) (by decide) hcw
      ·
        refine lv_aload_n hx hb dX6_means_30 rfl (lv_at hl 0 rfl) ?_
        refine lv_bipush (v := (-6)) hx hb dX6_means_31 (by decide) ?_
        refine ctV (rest := []) S hK (c_X6_refuseLong l G o σ ρ (-6) 6 rfl (by decide)) cw_X6_96 rfl ⟨Nat.le_of_ble_eq_true rfl, Nat.le_of_ble_eq_true rfl⟩ ⟨Nat.le_of_ble_eq_true rfl, Nat.le_of_ble_eq_true rfl⟩ (bk.recv hK hX rfl rfl) hl.1 rfl (Nat.le_of_ble_eq_true rfl) dX6_means_33 ⟨hX, hRF⟩ hS (fun _ h => by first | exact h | omega) (fun H locs hPost hz hk hS => ?_)
        obtain ⟨hX, hRF⟩ := hPost
        replace hF := hF.over hk (fun q h1 h2 => by have h3 : q < o + 6 + 4 := h2; intro hA1; omega)
        have hr : means_M μ (nI vf) (nI j) = ((lN 4000000000000000000 - (-6).toInt64), rfM μ 6) := by unfold means_M; rw [c_5, if_pos (by rfl), if_neg (show ¬ nI j < nI 0 from n9_lt hj), if_pos (nI_lt (by omega) hj)] <;> rfl
        refine w_top (v' := .long ((means_M μ (nI vf) (nI j)).1)) (congrArg (fun z => Value.long z) (congrArg Prod.fst hr).symm) ?_
        have hcw := CW_r (G := G) (o := o) (om := om) hr (CW_x hCW hS (fun q h => by first | exact Or.inl h | omega) hX hF hRF (RX_rf hRX) (KP_rf μ _))
        exact hE _ _ _ _ _ _ (kr_l dX6_means_36) hS (by decide) (by decide) hcw
    ·
      refine lv_aload_n hx hb dX6_means_18 rfl (lv_at hl 0 rfl) ?_
      refine lv_bipush (v := (-4)) hx hb dX6_means_19 (by decide) ?_
      refine ctV (rest := []) S hK (c_X6_refuseLong l G o σ ρ (-4) 4 rfl (by decide)) cw_X6_96 rfl ⟨Nat.le_of_ble_eq_true rfl, Nat.le_of_ble_eq_true rfl⟩ ⟨Nat.le_of_ble_eq_true rfl, Nat.le_of_ble_eq_true rfl⟩ (bk.recv hK hX rfl rfl) hl.1 rfl (Nat.le_of_ble_eq_true rfl) dX6_means_21 ⟨hX, hRF⟩ hS (fun _ h => by first | exact h | omega) (fun H locs hPost hz hk hS => ?_)
      obtain ⟨hX, hRF⟩ := hPost
      replace hF := hF.over hk (fun q h1 h2 => by have h3 : q < o + 6 + 4 := h2; intro hA1; omega)
      have hr : means_M μ (nI vf) m = ((lN 4000000000000000000 - (-4).toInt64), rfM μ 4) := by unfold means_M; rw [c_5, if_pos (by rfl), if_pos (show m < nI 0 from Int32.not_le.mp c_15)] <;> rfl
      refine w_top (v' := .long ((means_M μ (nI vf) m).1)) (congrArg (fun z => Value.long z) (congrArg Prod.fst hr).symm) ?_
      have hcw := CW_r (G := G) (o := o) (om := om) hr (CW_x hCW hS (fun q h => by first | exact Or.inl h | omega) hX hF hRF (RX_rf hRX) (KP_rf μ _))
      exact hE _ _ _ _ _ _ (kr_l dX6_means_24) hS (by decide) (by decide) hcw
  ·
    rw [hF1] at c_5
    refine lv_aload_n hx hb dX6_means_8 rfl (lv_at hl 0 rfl) ?_
    refine lv_iconst (v := (-1)) hx hb dX6_means_9 (by decide) ?_
    refine ctV (rest := []) S hK (c_X6_refuseLong l G o σ ρ (-1) 1 rfl (by decide)) cw_X6_96 rfl ⟨Nat.le_of_ble_eq_true rfl, Nat.le_of_ble_eq_true rfl⟩ ⟨Nat.le_of_ble_eq_true rfl, Nat.le_of_ble_eq_true rfl⟩ (bk.recv hK hX rfl rfl) hl.1 rfl (Nat.le_of_ble_eq_true rfl) dX6_means_10 ⟨hX, hRF⟩ hS (fun _ h => by first | exact h | omega) (fun H locs hPost hz hk hS => ?_)
    obtain ⟨hX, hRF⟩ := hPost
    replace hF := hF.over hk (fun q h1 h2 => by have h3 : q < o + 6 + 4 := h2; intro hA1; omega)
    have hr : means_M μ f m = ((lN 4000000000000000000 - (-1).toInt64), rfM μ 1) := by unfold means_M; rw [c_5] <;> rfl
    refine w_top (v' := .long ((means_M μ f m).1)) (congrArg (fun z => Value.long z) (congrArg Prod.fst hr).symm) ?_
    have hcw := CW_r (G := G) (o := o) (om := om) hr (CW_x hCW hS (fun q h => by first | exact Or.inl h | omega) hX hF hRF (RX_rf hRX) (KP_rf μ _))
    exact hE _ _ _ _ _ _ (kr_l dX6_means_13) hS (by decide) (by decide) hcw

set_option maxHeartbeats 1000000 in
set_option maxRecDepth 100000 in
theorem c_X6_does (l : Launch) (G : Gt) (o : Nat) (om : Nat) (μ : Sx) (pa : Nat → Nat) (na : Nat → Nat) (p : Int32) (f : Int32) (hb0 : MIb μ) (hn0 : MIn μ) (hif : MIf μ) (hit : MIt μ) (hl0 : MIl μ) (hr0 : MIr μ) : Ct l G yX6_does cX6_does 4 ((some .int)) 3 0 0 [.ref o, .int p, .int f] (fun H => CWx G o om μ pa na H) (some (.int ((does_M μ p f).1))) (fun H => CW G o om (does_M μ p f).2 H) (fun q => o ≤ q ∧ q < o + 11) := by
  refine ct_entry [(0, .ref o), (1, .int p), (2, .int f)] (by decide) (Nat.le_of_ble_eq_true rfl) rfl ?_
  intro zp ze zs zm za zb zt zc Q S hK hPre hin hE ls hl
  have hx := S.1
  have hb := S.2.1
  have hCW := hPre
  have hS : va_S (fun q => o ≤ q ∧ q < o + 11) zs.heap zs.heap [] := va_S.rf
  obtain ⟨⟨hoo, hosz, hLH⟩, σ, φ, ρ, hX, hF, hRF, hRX, hWB, hWN, hAP⟩ := id hCW
  obtain ⟨⟨hT1, hT2⟩, ⟨hP1, hP2⟩, ⟨hF1, hF2⟩, ⟨hN1, hN2⟩, ⟨hR1, hR2⟩, ⟨hL1, hL2, hL3, hL4⟩, hRR⟩ := id hRX
  obtain ⟨h16, -⟩ := id hb0
  obtain ⟨h18, -⟩ := id hn0
  obtain ⟨h17, -⟩ := id hif
  obtain ⟨h22, -⟩ := id hit
  obtain ⟨h19, -⟩ := id hl0
  obtain ⟨h20, -⟩ := id hr0
  refine lv_aload_n hx hb dX6_does_0 rfl (lv_at hl 0 rfl) ?_
  refine lv_iload_n hx hb dX6_does_1 rfl (lv_at hl 1 rfl) ?_
  cases hivp : inI p (μ.1 16)
  ·
    refine crV (rest := []) S hK (c_X6_partAt_n l G o σ p (by omega) (by rw [hP1]; exact hivp)) cw_X6_67 rfl ⟨Nat.le_of_ble_eq_true rfl, Nat.le_of_ble_eq_true rfl⟩ ⟨Nat.le_of_ble_eq_true rfl, Nat.le_of_ble_eq_true rfl⟩ (bk.recv hK hX rfl rfl) hl.1 rfl (Nat.le_of_ble_eq_true rfl) dX6_does_2 hX ?_
    refine lv_astore_nN (lv' := [(3, .null), (0, .ref o), (1, .int p), (2, .int f)]) hx hb dX6_does_5 rfl hl (by decide) rfl (fun ls hl => ?_)
    refine lv_aload_nN hx hb dX6_does_6 rfl (lv_at hl 0 rfl) ?_
    refine lv_ifnullN (tgt := 18) hx hb dX6_does_7 (by decide) ?_
    refine lv_aload_n hx hb dX6_does_18 rfl (lv_at hl 1 rfl) ?_
    refine lv_iconst (v := (-1)) hx hb dX6_does_19 (by decide) ?_
    refine ctV (rest := []) S hK (c_X6_refuse l G o σ ρ (-1) 1 rfl (by decide)) cw_X6_42 rfl ⟨Nat.le_of_ble_eq_true rfl, Nat.le_of_ble_eq_true rfl⟩ ⟨Nat.le_of_ble_eq_true rfl, Nat.le_of_ble_eq_true rfl⟩ (bk.recv hK hX rfl rfl) hl.1 rfl (Nat.le_of_ble_eq_true rfl) dX6_does_20 ⟨hX, hRF⟩ hS (fun _ h => by first | exact h | omega) (fun H locs hPost hz hk hS => ?_)
    obtain ⟨hX, hRF⟩ := hPost
    replace hF := hF.over hk (fun q h1 h2 => by have h3 : q < o + 6 + 4 := h2; intro hA1; omega)
    have hr : does_M μ p f = ((-1), rfM μ 1) := by unfold does_M; rw [hivp] <;> rfl
    refine w_top (v' := .int ((does_M μ p f).1)) (congrArg (fun z => Value.int z) (congrArg Prod.fst hr).symm) ?_
    have hcw := CW_r (G := G) (o := o) (om := om) hr (CW_x hCW hS (fun q h => by first | exact Or.inl h | omega) hX hF hRF (RX_rf hRX) (KP_rf μ _))
    exact hE _ _ _ _ _ _ (kr_i dX6_does_23) hS (by decide) (by decide) hcw
  ·
    obtain ⟨vp, hvvp, rfl⟩ := inI_x hivp
    have hcxvp := cx_n (j := vp) (by omega)
    obtain ⟨hpavp, β, hB, hBGvp, hBCvp⟩ := hWB vp hvvp
    have hBSvp := hb0.2 vp hvvp
    obtain ⟨⟨⟨ha1vp, ha2vp⟩, ⟨ha3vp, ha4vp⟩, ha5vp⟩, hbOvp, hbCvp, hbEvp, hbUvp⟩ := id hBSvp
    obtain ⟨hg0vp, hg1vp, hg2vp, hg3vp, hg4vp, hgFvp⟩ := id hBGvp
    obtain ⟨hc6vp, hc7vp, hc8vp⟩ := id hBCvp
    refine crV (rest := []) S hK (c_X6_partAt_y l G o σ vp (pa vp) (by omega) (by omega) (hP2 _ hvvp)) cw_X6_67 rfl ⟨Nat.le_of_ble_eq_true rfl, Nat.le_of_ble_eq_true rfl⟩ ⟨Nat.le_of_ble_eq_true rfl, Nat.le_of_ble_eq_true rfl⟩ (bk.recv hK hX rfl rfl) hl.1 rfl (Nat.le_of_ble_eq_true rfl) dX6_does_2 hX ?_
    refine lv_astore_n (lv' := [(3, .ref (pa vp)), (0, .ref o), (1, .int (nI vp)), (2, .int f)]) hx hb dX6_does_5 rfl hl (by decide) rfl (fun ls hl => ?_)
    refine lv_aload_n hx hb dX6_does_6 rfl (lv_at hl 0 rfl) ?_
    refine lv_ifnull hx hb dX6_does_7 ?_
    refine lv_aload_n hx hb dX6_does_10 rfl (lv_at hl 1 rfl) ?_
    refine lv_iload_n hx hb dX6_does_11 rfl (lv_at hl 3 rfl) ?_
    refine crV (rest := []) S hK (c_X6_isFormula l G o σ f (by omega)) cw_X6_132 rfl ⟨Nat.le_of_ble_eq_true rfl, Nat.le_of_ble_eq_true rfl⟩ ⟨Nat.le_of_ble_eq_true rfl, Nat.le_of_ble_eq_true rfl⟩ (bk.recv hK hX rfl rfl) hl.1 rfl (Nat.le_of_ble_eq_true rfl) dX6_does_12 hX ?_
    refine z_if_ne (tgt := 24) hx hb dX6_does_15 (by decide) (fun c_15 => ?_) (fun c_15 => ?_)
    ·
      rw [hF1] at c_15
      obtain ⟨vf, hvf, rfl⟩ := inI_x c_15
      have hcf := cx_n (j := vf) (by omega)
      refine lv_aload_n hx hb dX6_does_24 rfl (lv_at hl 0 rfl) ?_
      refine kg (C := RX0) (T := TX0) (N := 9) (ci := 0) (k := 7) (v := .long (lN (β.1 7))) S hK rfl inX0 (by decide) q_210 dX6_does_25 hB rfl rfl ?_
      refine w_top (v' := .long (lN (ltM (clM μ vp) (μ.2.1 3 vp)))) (congrArg (fun z => Value.long (lN z)) hc7vp) ?_
      refine lv_aload_n hx hb dX6_does_28 rfl (lv_at hl 1 rfl) ?_
      refine lv_iload_n hx hb dX6_does_29 rfl (lv_at hl 3 rfl) ?_
      refine lv_aload_n hx hb dX6_does_30 rfl (lv_at hl 0 rfl) ?_
      refine kg (C := RX0) (T := TX0) (N := 9) (ci := 0) (k := 4) (v := .int (nI (β.1 4))) S hK rfl inX0 (by decide) q_202 dX6_does_31 hB rfl rfl ?_
      refine w_top (v' := .int (nI (μ.2.1 3 vp))) (congrArg (fun z => Value.int (nI z)) hg4vp) ?_
      refine crV (rest := [.long (lN (ltM (clM μ vp) (μ.2.1 3 vp)))]) S hK (c_X6_meaning l G o σ μ vf (μ.2.1 3 vp) (by omega) (by omega) (hF2 _ hvf)) cw_X6_135 rfl ⟨Nat.le_of_ble_eq_true rfl, Nat.le_of_ble_eq_true rfl⟩ ⟨Nat.le_of_ble_eq_true rfl, Nat.le_of_ble_eq_true rfl⟩ (bk.recv hK hX rfl rfl) hl.1 rfl (Nat.le_of_ble_eq_true rfl) dX6_does_34 hX ?_
      refine W.lcmp hx hb dX6_does_37 ?_
      refine nl_if_ne (tgt := 45) hx hb dX6_does_38 (by decide) (by first | omega | exact bo63 (Nat.le_trans (shl_le (n := 5) (by omega)) (by decide)) | exact Nat.xor_lt_two_pow (bo63 (Nat.le_trans (shl_le (n := 5) (by omega)) (by decide))) (bo63 (Nat.le_trans (shl_le (n := 5) (by omega)) (by decide))) | exact Nat.lt_of_le_of_lt Nat.and_le_right (by decide)) (by first | omega | exact bo63 (Nat.le_trans (shl_le (n := 5) (by omega)) (by decide)) | exact Nat.xor_lt_two_pow (bo63 (Nat.le_trans (shl_le (n := 5) (by omega)) (by decide))) (bo63 (Nat.le_trans (shl_le (n := 5) (by omega)) (by decide))) | exact Nat.lt_of_le_of_lt Nat.and_le_right (by decide)) (fun c_38 => ?_) (fun c_38 => ?_)
      ·
        refine lv_iconst (v := nI 0) hx hb dX6_does_45 (by decide) ?_
        have hr : does_M μ (nI vp) (nI vf) = ((nI 0), μ) := by unfold does_M; rw [hivp, c_15, hcxvp, hcf, decide_eq_false c_38] <;> rfl
        refine w_top (v' := .int ((does_M μ (nI vp) (nI vf)).1)) (congrArg (fun z => Value.int z) (congrArg Prod.fst hr).symm) ?_
        have hcw := CW_r (G := G) (o := o) (om := om) hr (CW_x hCW hS (fun q h => by first | exact Or.inl h | omega) hX hF hRF (hRX) (KP_r μ))
        exact hE _ _ _ _ _ _ (kr_i dX6_does_46) hS (by decide) (by decide) hcw
      ·
        refine lv_iconst (v := nI 1) hx hb dX6_does_41 (by decide) ?_
        refine lv_goto (tgt := 46) hx hb dX6_does_42 (by decide) ?_
        have hr : does_M μ (nI vp) (nI vf) = ((nI 1), μ) := by unfold does_M; rw [hivp, c_15, hcxvp, hcf, decide_eq_true c_38] <;> rfl
        refine w_top (v' := .int ((does_M μ (nI vp) (nI vf)).1)) (congrArg (fun z => Value.int z) (congrArg Prod.fst hr).symm) ?_
        have hcw := CW_r (G := G) (o := o) (om := om) hr (CW_x hCW hS (fun q h => by first | exact Or.inl h | omega) hX hF hRF (hRX) (KP_r μ))
        exact hE _ _ _ _ _ _ (kr_i dX6_does_46) hS (by decide) (by decide) hcw
    ·
      rw [hF1] at c_15
      refine lv_aload_n hx hb dX6_does_18 rfl (lv_at hl 1 rfl) ?_
      refine lv_iconst (v := (-1)) hx hb dX6_does_19 (by decide) ?_
      refine ctV (rest := []) S hK (c_X6_refuse l G o σ ρ (-1) 1 rfl (by decide)) cw_X6_42 rfl ⟨Nat.le_of_ble_eq_true rfl, Nat.le_of_ble_eq_true rfl⟩ ⟨Nat.le_of_ble_eq_true rfl, Nat.le_of_ble_eq_true rfl⟩ (bk.recv hK hX rfl rfl) hl.1 rfl (Nat.le_of_ble_eq_true rfl) dX6_does_20 ⟨hX, hRF⟩ hS (fun _ h => by first | exact h | omega) (fun H locs hPost hz hk hS => ?_)
      obtain ⟨hX, hRF⟩ := hPost
      replace hF := hF.over hk (fun q h1 h2 => by have h3 : q < o + 6 + 4 := h2; intro hA1; omega)
      replace hB := hB.over hk (fun q h1 h2 => by have h3 : q < pa vp + 4 := h2; intro hA1; omega)
      have hr : does_M μ (nI vp) f = ((-1), rfM μ 1) := by unfold does_M; rw [hivp, c_15] <;> rfl
      refine w_top (v' := .int ((does_M μ (nI vp) f).1)) (congrArg (fun z => Value.int z) (congrArg Prod.fst hr).symm) ?_
      have hcw := CW_r (G := G) (o := o) (om := om) hr (CW_x hCW hS (fun q h => by first | exact Or.inl h | omega) hX hF hRF (RX_rf hRX) (KP_rf μ _))
      exact hE _ _ _ _ _ _ (kr_i dX6_does_23) hS (by decide) (by decide) hcw

set_option maxHeartbeats 1000000 in
set_option maxRecDepth 100000 in
theorem c_X6_misses (l : Launch) (G : Gt) (o : Nat) (om : Nat) (μ : Sx) (pa : Nat → Nat) (na : Nat → Nat) (p : Int32) (f : Int32) (hb0 : MIb μ) (hn0 : MIn μ) (hif : MIf μ) (hit : MIt μ) (hl0 : MIl μ) (hr0 : MIr μ) : Ct l G yX6_misses cX6_misses 7 ((some .int)) 3 0 0 [.ref o, .int p, .int f] (fun H => CWx G o om μ pa na H) (some (.int ((misses_M μ p f).1))) (fun H => CW G o om (misses_M μ p f).2 H) (fun q => o ≤ q ∧ q < o + 11) := by
  refine ct_entry [(0, .ref o), (1, .int p), (2, .int f)] (by decide) (Nat.le_of_ble_eq_true rfl) rfl ?_
  intro zp ze zs zm za zb zt zc Q S hK hPre hin hE ls hl
  have hx := S.1
  have hb := S.2.1
  have hCW := hPre
  have hS : va_S (fun q => o ≤ q ∧ q < o + 11) zs.heap zs.heap [] := va_S.rf
  obtain ⟨⟨hoo, hosz, hLH⟩, σ, φ, ρ, hX, hF, hRF, hRX, hWB, hWN, hAP⟩ := id hCW
  obtain ⟨⟨hT1, hT2⟩, ⟨hP1, hP2⟩, ⟨hF1, hF2⟩, ⟨hN1, hN2⟩, ⟨hR1, hR2⟩, ⟨hL1, hL2, hL3, hL4⟩, hRR⟩ := id hRX
  obtain ⟨h16, -⟩ := id hb0
  obtain ⟨h18, -⟩ := id hn0
  obtain ⟨h17, -⟩ := id hif
  obtain ⟨h22, -⟩ := id hit
  obtain ⟨h19, -⟩ := id hl0
  obtain ⟨h20, -⟩ := id hr0
  refine lv_aload_n hx hb dX6_misses_0 rfl (lv_at hl 0 rfl) ?_
  refine lv_iload_n hx hb dX6_misses_1 rfl (lv_at hl 1 rfl) ?_
  cases hivp : inI p (μ.1 16)
  ·
    refine crV (rest := []) S hK (c_X6_partAt_n l G o σ p (by omega) (by rw [hP1]; exact hivp)) cw_X6_67 rfl ⟨Nat.le_of_ble_eq_true rfl, Nat.le_of_ble_eq_true rfl⟩ ⟨Nat.le_of_ble_eq_true rfl, Nat.le_of_ble_eq_true rfl⟩ (bk.recv hK hX rfl rfl) hl.1 rfl (Nat.le_of_ble_eq_true rfl) dX6_misses_2 hX ?_
    refine lv_astore_nN (lv' := [(3, .null), (0, .ref o), (1, .int p), (2, .int f)]) hx hb dX6_misses_5 rfl hl (by decide) rfl (fun ls hl => ?_)
    refine lv_aload_nN hx hb dX6_misses_6 rfl (lv_at hl 0 rfl) ?_
    refine lv_ifnullN (tgt := 18) hx hb dX6_misses_7 (by decide) ?_
    refine lv_aload_n hx hb dX6_misses_18 rfl (lv_at hl 1 rfl) ?_
    refine lv_iconst (v := (-1)) hx hb dX6_misses_19 (by decide) ?_
    refine ctV (rest := []) S hK (c_X6_refuse l G o σ ρ (-1) 1 rfl (by decide)) cw_X6_42 rfl ⟨Nat.le_of_ble_eq_true rfl, Nat.le_of_ble_eq_true rfl⟩ ⟨Nat.le_of_ble_eq_true rfl, Nat.le_of_ble_eq_true rfl⟩ (bk.recv hK hX rfl rfl) hl.1 rfl (Nat.le_of_ble_eq_true rfl) dX6_misses_20 ⟨hX, hRF⟩ hS (fun _ h => by first | exact h | omega) (fun H locs hPost hz hk hS => ?_)
    obtain ⟨hX, hRF⟩ := hPost
    replace hF := hF.over hk (fun q h1 h2 => by have h3 : q < o + 6 + 4 := h2; intro hA1; omega)
    have hr : misses_M μ p f = ((-1), rfM μ 1) := by unfold misses_M; rw [hivp] <;> rfl
    refine w_top (v' := .int ((misses_M μ p f).1)) (congrArg (fun z => Value.int z) (congrArg Prod.fst hr).symm) ?_
    have hcw := CW_r (G := G) (o := o) (om := om) hr (CW_x hCW hS (fun q h => by first | exact Or.inl h | omega) hX hF hRF (RX_rf hRX) (KP_rf μ _))
    exact hE _ _ _ _ _ _ (kr_i dX6_misses_23) hS (by decide) (by decide) hcw
  ·
    obtain ⟨vp, hvvp, rfl⟩ := inI_x hivp
    have hcxvp := cx_n (j := vp) (by omega)
    obtain ⟨hpavp, β, hB, hBGvp, hBCvp⟩ := hWB vp hvvp
    have hBSvp := hb0.2 vp hvvp
    obtain ⟨⟨⟨ha1vp, ha2vp⟩, ⟨ha3vp, ha4vp⟩, ha5vp⟩, hbOvp, hbCvp, hbEvp, hbUvp⟩ := id hBSvp
    obtain ⟨hg0vp, hg1vp, hg2vp, hg3vp, hg4vp, hgFvp⟩ := id hBGvp
    obtain ⟨hc6vp, hc7vp, hc8vp⟩ := id hBCvp
    refine crV (rest := []) S hK (c_X6_partAt_y l G o σ vp (pa vp) (by omega) (by omega) (hP2 _ hvvp)) cw_X6_67 rfl ⟨Nat.le_of_ble_eq_true rfl, Nat.le_of_ble_eq_true rfl⟩ ⟨Nat.le_of_ble_eq_true rfl, Nat.le_of_ble_eq_true rfl⟩ (bk.recv hK hX rfl rfl) hl.1 rfl (Nat.le_of_ble_eq_true rfl) dX6_misses_2 hX ?_
    refine lv_astore_n (lv' := [(3, .ref (pa vp)), (0, .ref o), (1, .int (nI vp)), (2, .int f)]) hx hb dX6_misses_5 rfl hl (by decide) rfl (fun ls hl => ?_)
    refine lv_aload_n hx hb dX6_misses_6 rfl (lv_at hl 0 rfl) ?_
    refine lv_ifnull hx hb dX6_misses_7 ?_
    refine lv_aload_n hx hb dX6_misses_10 rfl (lv_at hl 1 rfl) ?_
    refine lv_iload_n hx hb dX6_misses_11 rfl (lv_at hl 3 rfl) ?_
    refine crV (rest := []) S hK (c_X6_isFormula l G o σ f (by omega)) cw_X6_132 rfl ⟨Nat.le_of_ble_eq_true rfl, Nat.le_of_ble_eq_true rfl⟩ ⟨Nat.le_of_ble_eq_true rfl, Nat.le_of_ble_eq_true rfl⟩ (bk.recv hK hX rfl rfl) hl.1 rfl (Nat.le_of_ble_eq_true rfl) dX6_misses_12 hX ?_
    refine z_if_ne (tgt := 24) hx hb dX6_misses_15 (by decide) (fun c_15 => ?_) (fun c_15 => ?_)
    ·
      rw [hF1] at c_15
      obtain ⟨vf, hvf, rfl⟩ := inI_x c_15
      have hcf := cx_n (j := vf) (by omega)
      refine lv_aload_n hx hb dX6_misses_24 rfl (lv_at hl 0 rfl) ?_
      refine kg (C := RX0) (T := TX0) (N := 9) (ci := 0) (k := 7) (v := .long (lN (β.1 7))) S hK rfl inX0 (by decide) q_210 dX6_misses_25 hB rfl rfl ?_
      refine w_top (v' := .long (lN (ltM (clM μ vp) (μ.2.1 3 vp)))) (congrArg (fun z => Value.long (lN z)) hc7vp) ?_
      refine lv_aload_n hx hb dX6_misses_28 rfl (lv_at hl 1 rfl) ?_
      refine lv_iload_n hx hb dX6_misses_29 rfl (lv_at hl 3 rfl) ?_
      refine lv_aload_n hx hb dX6_misses_30 rfl (lv_at hl 0 rfl) ?_
      refine kg (C := RX0) (T := TX0) (N := 9) (ci := 0) (k := 4) (v := .int (nI (β.1 4))) S hK rfl inX0 (by decide) q_202 dX6_misses_31 hB rfl rfl ?_
      refine w_top (v' := .int (nI (μ.2.1 3 vp))) (congrArg (fun z => Value.int (nI z)) hg4vp) ?_
      refine crV (rest := [.long (lN (ltM (clM μ vp) (μ.2.1 3 vp)))]) S hK (c_X6_meaning l G o σ μ vf (μ.2.1 3 vp) (by omega) (by omega) (hF2 _ hvf)) cw_X6_135 rfl ⟨Nat.le_of_ble_eq_true rfl, Nat.le_of_ble_eq_true rfl⟩ ⟨Nat.le_of_ble_eq_true rfl, Nat.le_of_ble_eq_true rfl⟩ (bk.recv hK hX rfl rfl) hl.1 rfl (Nat.le_of_ble_eq_true rfl) dX6_misses_34 hX ?_
      refine n_lxor hx hb dX6_misses_37 ?_
      refine lv_lstore (lv' := [(4, .long (lN ((ltM (clM μ vp) (μ.2.1 3 vp)) ^^^ (bo (trB μ vf) (1 <<< (μ.2.1 3 vp)))))), (3, .ref (pa vp)), (0, .ref o), (1, .int (nI vp)), (2, .int (nI vf))]) hx hb dX6_misses_38 hl (by decide) rfl (fun ls hl => ?_)
      refine lv_iconst (v := nI 0) hx hb dX6_misses_40 (by decide) ?_
      refine lv_istore (lv' := [(6, .int (nI 0)), (4, .long (lN ((ltM (clM μ vp) (μ.2.1 3 vp)) ^^^ (bo (trB μ vf) (1 <<< (μ.2.1 3 vp)))))), (3, .ref (pa vp)), (0, .ref o), (1, .int (nI vp)), (2, .int (nI vf))]) hx hb dX6_misses_41 hl (by decide) rfl (fun ls hl => ?_)
      have hsh := shl_le ha5vp
      have hbe : 1 <<< β.1 4 = 1 <<< μ.2.1 3 vp := by rw [hg4vp]
      have L43 : ∀ (fu : Nat), ∀ (vs : Nat), (vs ≤ 1 <<< μ.2.1 3 vp) → (fnd (fun s => (ltM (clM μ vp) (μ.2.1 3 vp) ^^^ bo (trB μ vf) (1 <<< μ.2.1 3 vp)).testBit s) (1 <<< μ.2.1 3 vp) 0 = fnd (fun s => (ltM (clM μ vp) (μ.2.1 3 vp) ^^^ bo (trB μ vf) (1 <<< μ.2.1 3 vp)).testBit s) (1 <<< μ.2.1 3 vp - vs) vs) → 1 <<< μ.2.1 3 vp - vs < fu → ∀ (H : Heap) (locs : List Loc), bk G o (xL G o σ) H → bk G (o + 6) (flL G (o + 6) φ) H → bk G (o + 10) (rfL G (o + 10) ρ) H → bk G (pa vp) (bdL G (pa vp) β) H → va_S (fun q => o ≤ q ∧ q < o + 11) zs.heap H locs → ∀ ls : Array Slot, lv_has ls 7 [(0, .ref o), (3, .ref (pa vp)), (4, .long (lN (ltM (clM μ vp) (μ.2.1 3 vp) ^^^ bo (trB μ vf) (1 <<< μ.2.1 3 vp)))), (6, .int (nI vs))] → W zp l ze (rL 3 0 0) zs zm za zb zt zc H locs 0 0 Q (F0 zm 43 ls []) := by
        intro fu
        induction fu with
        | zero =>
          intro vs hvs hfd hmu H locs hX hF hRF hB hS ls hl
          exact absurd hmu (Nat.not_lt_zero _)
        | succ fu ih43 =>
          intro vs hvs hfd hmu H locs hX hF hRF hB hS ls hl
          refine lv_iload hx hb dX6_misses_43 (lv_at hl 3 rfl) ?_
          refine lv_aload_n hx hb dX6_misses_45 rfl (lv_at hl 1 rfl) ?_
          refine crV (rest := [.int (nI vs)]) S hK (c_X0_states l G (pa vp) β (by omega)) cw_X6_139 rfl ⟨Nat.le_of_ble_eq_true rfl, Nat.le_of_ble_eq_true rfl⟩ ⟨Nat.le_of_ble_eq_true rfl, Nat.le_of_ble_eq_true rfl⟩ (bk.recv hK hB rfl rfl) hl.1 rfl (Nat.le_of_ble_eq_true rfl) dX6_misses_46 hB ?_
          refine n_icmp_ge (tgt := 73) hx hb dX6_misses_49 (by decide) (by first | omega | exact bo63 (Nat.le_trans (shl_le (n := 5) (by omega)) (by decide)) | exact Nat.xor_lt_two_pow (bo63 (Nat.le_trans (shl_le (n := 5) (by omega)) (by decide))) (bo63 (Nat.le_trans (shl_le (n := 5) (by omega)) (by decide))) | exact Nat.lt_of_le_of_lt Nat.and_le_right (by decide)) (by first | omega | exact bo63 (Nat.le_trans (shl_le (n := 5) (by omega)) (by decide)) | exact Nat.xor_lt_two_pow (bo63 (Nat.le_trans (shl_le (n := 5) (by omega)) (by decide))) (bo63 (Nat.le_trans (shl_le (n := 5) (by omega)) (by decide))) | exact Nat.lt_of_le_of_lt Nat.and_le_right (by decide)) (fun c_49 => ?_) (fun c_49 => ?_)
          ·
            refine lv_bipush (v := (-9)) hx hb dX6_misses_73 (by decide) ?_
            have hr : misses_M μ (nI vp) (nI vf) = ((-9), μ) := by unfold misses_M; rw [hivp, c_15, hcxvp, hcf, if_pos (by rfl), hfd, show 1 <<< μ.2.1 3 vp - vs = 0 from by omega] <;> rfl
            refine w_top (v' := .int ((misses_M μ (nI vp) (nI vf)).1)) (congrArg (fun z => Value.int z) (congrArg Prod.fst hr).symm) ?_
            have hcw := CW_r (G := G) (o := o) (om := om) hr (CW_x hCW hS (fun q h => by first | exact Or.inl h | omega) hX hF hRF (hRX) (KP_r μ))
            exact hE _ _ _ _ _ _ (kr_i dX6_misses_75) hS (by decide) (by decide) hcw
          ·
            refine lv_lload hx hb dX6_misses_52 (lv_at hl 2 rfl) ?_
            refine lv_iload hx hb dX6_misses_54 (lv_at hl 3 rfl) ?_
            refine n_lshr hx hb dX6_misses_56 (by first | omega | exact bo63 (Nat.le_trans (shl_le (n := 5) (by omega)) (by decide)) | exact Nat.xor_lt_two_pow (bo63 (Nat.le_trans (shl_le (n := 5) (by omega)) (by decide))) (bo63 (Nat.le_trans (shl_le (n := 5) (by omega)) (by decide))) | exact Nat.lt_of_le_of_lt Nat.and_le_right (by decide)) (by first | omega | exact bo63 (Nat.le_trans (shl_le (n := 5) (by omega)) (by decide)) | exact Nat.xor_lt_two_pow (bo63 (Nat.le_trans (shl_le (n := 5) (by omega)) (by decide))) (bo63 (Nat.le_trans (shl_le (n := 5) (by omega)) (by decide))) | exact Nat.lt_of_le_of_lt Nat.and_le_right (by decide)) ?_
            refine lv_lconst (v := lN 1) hx hb dX6_misses_57 (by decide) ?_
            refine n_land hx hb dX6_misses_58 ?_
            refine lv_lconst (v := lN 0) hx hb dX6_misses_59 (by decide) ?_
            refine W.lcmp hx hb dX6_misses_60 ?_
            refine nl_if_eq (tgt := 67) hx hb dX6_misses_61 (by decide) (Nat.lt_of_le_of_lt Nat.and_le_right (by decide)) (by decide) (fun c_61 => ?_) (fun c_61 => ?_)
            ·
              refine lv_iinc (v := (nI (vs + 1))) (lv' := [(6, .int (nI (vs + 1))), (0, .ref o), (3, .ref (pa vp)), (4, .long (lN (ltM (clM μ vp) (μ.2.1 3 vp) ^^^ bo (trB μ vf) (1 <<< μ.2.1 3 vp))))]) hx hb dX6_misses_67 hl (k := 3) rfl (inc1 _) (by decide) rfl (fun ls hl => ?_)
              refine lv_goto (tgt := 43) hx hb dX6_misses_70 (by decide) ?_
              exact ih43 (vs + 1) (by omega) (hfd.trans (by rw [show 1 <<< μ.2.1 3 vp - vs = (1 <<< μ.2.1 3 vp - (vs + 1)) + 1 from by omega]; exact fnd_f (P := fun s => (ltM (clM μ vp) (μ.2.1 3 vp) ^^^ bo (trB μ vf) (1 <<< μ.2.1 3 vp)).testBit s) (tb0.mp c_61))) (by omega) _ _ hX hF hRF hB hS ls (lv_sub hl [1, 2, 3, 0] rfl)
            ·
              refine lv_iload hx hb dX6_misses_64 (lv_at hl 3 rfl) ?_
              have hr : misses_M μ (nI vp) (nI vf) = ((nI vs), μ) := by unfold misses_M; rw [hivp, c_15, hcxvp, hcf, if_pos (by rfl), hfd, show 1 <<< μ.2.1 3 vp - vs = (1 <<< μ.2.1 3 vp - (vs + 1)) + 1 from by omega, fnd_t (P := fun s => (ltM (clM μ vp) (μ.2.1 3 vp) ^^^ bo (trB μ vf) (1 <<< μ.2.1 3 vp)).testBit s) (tb1.mp c_61)] <;> rfl
              refine w_top (v' := .int ((misses_M μ (nI vp) (nI vf)).1)) (congrArg (fun z => Value.int z) (congrArg Prod.fst hr).symm) ?_
              have hcw := CW_r (G := G) (o := o) (om := om) hr (CW_x hCW hS (fun q h => by first | exact Or.inl h | omega) hX hF hRF (hRX) (KP_r μ))
              exact hE _ _ _ _ _ _ (kr_i dX6_misses_66) hS (by decide) (by decide) hcw
      replace hl := lv_eq 1 hl rfl (v2 := .long (lN (ltM (clM μ vp) (μ.2.1 3 vp) ^^^ bo (trB μ vf) (1 <<< μ.2.1 3 vp)))) (congrArg (fun z => Value.long (lN z)) (show ((ltM (clM μ vp) (μ.2.1 3 vp)) ^^^ (bo (trB μ vf) (1 <<< (μ.2.1 3 vp)))) = (ltM (clM μ vp) (μ.2.1 3 vp) ^^^ bo (trB μ vf) (1 <<< μ.2.1 3 vp)) from by first | rfl | omega))
      exact L43 ((1 <<< μ.2.1 3 vp - 0) + 1) 0 (Nat.zero_le _) rfl (Nat.lt_succ_self _) _ _ hX hF hRF hB hS ls (lv_sub hl [3, 2, 1, 0] rfl)
    ·
      rw [hF1] at c_15
      refine lv_aload_n hx hb dX6_misses_18 rfl (lv_at hl 1 rfl) ?_
      refine lv_iconst (v := (-1)) hx hb dX6_misses_19 (by decide) ?_
      refine ctV (rest := []) S hK (c_X6_refuse l G o σ ρ (-1) 1 rfl (by decide)) cw_X6_42 rfl ⟨Nat.le_of_ble_eq_true rfl, Nat.le_of_ble_eq_true rfl⟩ ⟨Nat.le_of_ble_eq_true rfl, Nat.le_of_ble_eq_true rfl⟩ (bk.recv hK hX rfl rfl) hl.1 rfl (Nat.le_of_ble_eq_true rfl) dX6_misses_20 ⟨hX, hRF⟩ hS (fun _ h => by first | exact h | omega) (fun H locs hPost hz hk hS => ?_)
      obtain ⟨hX, hRF⟩ := hPost
      replace hF := hF.over hk (fun q h1 h2 => by have h3 : q < o + 6 + 4 := h2; intro hA1; omega)
      replace hB := hB.over hk (fun q h1 h2 => by have h3 : q < pa vp + 4 := h2; intro hA1; omega)
      have hr : misses_M μ (nI vp) f = ((-1), rfM μ 1) := by unfold misses_M; rw [hivp, c_15] <;> rfl
      refine w_top (v' := .int ((misses_M μ (nI vp) f).1)) (congrArg (fun z => Value.int z) (congrArg Prod.fst hr).symm) ?_
      have hcw := CW_r (G := G) (o := o) (om := om) hr (CW_x hCW hS (fun q h => by first | exact Or.inl h | omega) hX hF hRF (RX_rf hRX) (KP_rf μ _))
      exact hE _ _ _ _ _ _ (kr_i dX6_misses_23) hS (by decide) (by decide) hcw

set_option maxHeartbeats 1000000 in
set_option maxRecDepth 100000 in
theorem c_X6_needless (l : Launch) (G : Gt) (o : Nat) (om : Nat) (μ : Sx) (pa : Nat → Nat) (na : Nat → Nat) (p : Int32) (hb0 : MIb μ) (hn0 : MIn μ) (hif : MIf μ) (hit : MIt μ) (hl0 : MIl μ) (hr0 : MIr μ) : Ct l G yX6_needless cX6_needless 3 ((some .int)) 15 0 0 [.ref o, .int p] (fun H => CWx G o om μ pa na H) (some (.int ((needless_M μ p).1))) (fun H => CW G o om (needless_M μ p).2 H) (fun q => o ≤ q ∧ q < o + 11) := by
  refine ct_entry [(0, .ref o), (1, .int p)] (by decide) (Nat.le_of_ble_eq_true rfl) rfl ?_
  intro zp ze zs zm za zb zt zc Q S hK hPre hin hE ls hl
  have hx := S.1
  have hb := S.2.1
  have hCW := hPre
  have hS : va_S (fun q => o ≤ q ∧ q < o + 11) zs.heap zs.heap [] := va_S.rf
  obtain ⟨⟨hoo, hosz, hLH⟩, σ, φ, ρ, hX, hF, hRF, hRX, hWB, hWN, hAP⟩ := id hCW
  obtain ⟨⟨hT1, hT2⟩, ⟨hP1, hP2⟩, ⟨hF1, hF2⟩, ⟨hN1, hN2⟩, ⟨hR1, hR2⟩, ⟨hL1, hL2, hL3, hL4⟩, hRR⟩ := id hRX
  obtain ⟨h16, -⟩ := id hb0
  obtain ⟨h18, -⟩ := id hn0
  obtain ⟨h17, -⟩ := id hif
  obtain ⟨h22, -⟩ := id hit
  obtain ⟨h19, -⟩ := id hl0
  obtain ⟨h20, -⟩ := id hr0
  refine lv_aload_n hx hb dX6_needless_0 rfl (lv_at hl 0 rfl) ?_
  refine lv_iload_n hx hb dX6_needless_1 rfl (lv_at hl 1 rfl) ?_
  cases hivp : inI p (μ.1 16)
  ·
    refine crV (rest := []) S hK (c_X6_partAt_n l G o σ p (by omega) (by rw [hP1]; exact hivp)) cw_X6_67 rfl ⟨Nat.le_of_ble_eq_true rfl, Nat.le_of_ble_eq_true rfl⟩ ⟨Nat.le_of_ble_eq_true rfl, Nat.le_of_ble_eq_true rfl⟩ (bk.recv hK hX rfl rfl) hl.1 rfl (Nat.le_of_ble_eq_true rfl) dX6_needless_2 hX ?_
    refine lv_astore_nN (lv' := [(2, .null), (0, .ref o), (1, .int p)]) hx hb dX6_needless_5 rfl hl (by decide) rfl (fun ls hl => ?_)
    refine lv_aload_nN hx hb dX6_needless_6 rfl (lv_at hl 0 rfl) ?_
    refine lv_ifnonnullN hx hb dX6_needless_7 ?_
    refine lv_aload_n hx hb dX6_needless_10 rfl (lv_at hl 1 rfl) ?_
    refine lv_iconst (v := (-1)) hx hb dX6_needless_11 (by decide) ?_
    refine ctV (rest := []) S hK (c_X6_refuse l G o σ ρ (-1) 1 rfl (by decide)) cw_X6_42 rfl ⟨Nat.le_of_ble_eq_true rfl, Nat.le_of_ble_eq_true rfl⟩ ⟨Nat.le_of_ble_eq_true rfl, Nat.le_of_ble_eq_true rfl⟩ (bk.recv hK hX rfl rfl) hl.1 rfl (Nat.le_of_ble_eq_true rfl) dX6_needless_12 ⟨hX, hRF⟩ hS (fun _ h => by first | exact h | omega) (fun H locs hPost hz hk hS => ?_)
    obtain ⟨hX, hRF⟩ := hPost
    replace hF := hF.over hk (fun q h1 h2 => by have h3 : q < o + 6 + 4 := h2; intro hA1; omega)
    refine lv_goto (tgt := 22) hx hb dX6_needless_15 (by decide) ?_
    have hr : needless_M μ p = ((-1), rfM μ 1) := by unfold needless_M; rw [hivp] <;> rfl
    refine w_top (v' := .int ((needless_M μ p).1)) (congrArg (fun z => Value.int z) (congrArg Prod.fst hr).symm) ?_
    have hcw := CW_r (G := G) (o := o) (om := om) hr (CW_x hCW hS (fun q h => by first | exact Or.inl h | omega) hX hF hRF (RX_rf hRX) (KP_rf μ _))
    exact hE _ _ _ _ _ _ (kr_i dX6_needless_22) hS (by decide) (by decide) hcw
  ·
    obtain ⟨vp, hvvp, rfl⟩ := inI_x hivp
    have hcxvp := cx_n (j := vp) (by omega)
    obtain ⟨hpavp, β, hB, hBGvp, hBCvp⟩ := hWB vp hvvp
    have hBSvp := hb0.2 vp hvvp
    obtain ⟨⟨⟨ha1vp, ha2vp⟩, ⟨ha3vp, ha4vp⟩, ha5vp⟩, hbOvp, hbCvp, hbEvp, hbUvp⟩ := id hBSvp
    obtain ⟨hg0vp, hg1vp, hg2vp, hg3vp, hg4vp, hgFvp⟩ := id hBGvp
    obtain ⟨hc6vp, hc7vp, hc8vp⟩ := id hBCvp
    refine crV (rest := []) S hK (c_X6_partAt_y l G o σ vp (pa vp) (by omega) (by omega) (hP2 _ hvvp)) cw_X6_67 rfl ⟨Nat.le_of_ble_eq_true rfl, Nat.le_of_ble_eq_true rfl⟩ ⟨Nat.le_of_ble_eq_true rfl, Nat.le_of_ble_eq_true rfl⟩ (bk.recv hK hX rfl rfl) hl.1 rfl (Nat.le_of_ble_eq_true rfl) dX6_needless_2 hX ?_
    refine lv_astore_n (lv' := [(2, .ref (pa vp)), (0, .ref o), (1, .int (nI vp))]) hx hb dX6_needless_5 rfl hl (by decide) rfl (fun ls hl => ?_)
    refine lv_aload_n hx hb dX6_needless_6 rfl (lv_at hl 0 rfl) ?_
    refine lv_ifnonnull (tgt := 18) hx hb dX6_needless_7 (by decide) ?_
    refine lv_aload_n hx hb dX6_needless_18 rfl (lv_at hl 0 rfl) ?_
    refine crV (rest := []) S hK (c_X0_needlessCells l G (pa vp) β (μ.2.1 1 vp) (μ.2.1 2 vp) (μ.2.1 3 vp) (clM μ vp) hBSvp hBGvp hBCvp) cw_X6_167 rfl ⟨Nat.le_of_ble_eq_true rfl, Nat.le_of_ble_eq_true rfl⟩ ⟨Nat.le_of_ble_eq_true rfl, Nat.le_of_ble_eq_true rfl⟩ (bk.recv hK hB rfl rfl) hl.1 rfl (Nat.le_of_ble_eq_true rfl) dX6_needless_19 hB ?_
    have hr : needless_M μ (nI vp) = ((nI (bo (fun k => decide ((clM μ vp) k = 1) && decide (ltM (uN (clM μ vp) k 0) (β.1 4) = ltM (clM μ vp) (β.1 4))) 20)), μ) := by unfold needless_M; rw [hivp, hcxvp, hg4vp] <;> rfl
    refine w_top (v' := .int ((needless_M μ (nI vp)).1)) (congrArg (fun z => Value.int z) (congrArg Prod.fst hr).symm) ?_
    have hcw := CW_r (G := G) (o := o) (om := om) hr (CW_x hCW hS (fun q h => by first | exact Or.inl h | omega) hX hF hRF (hRX) (KP_r μ))
    exact hE _ _ _ _ _ _ (kr_i dX6_needless_22) hS (by decide) (by decide) hcw

set_option maxHeartbeats 1000000 in
set_option maxRecDepth 100000 in
theorem c_X6_alike (l : Launch) (G : Gt) (o : Nat) (om : Nat) (μ : Sx) (pa : Nat → Nat) (na : Nat → Nat) (a : Int32) (b : Int32) (hb0 : MIb μ) (hn0 : MIn μ) (hif : MIf μ) (hit : MIt μ) (hl0 : MIl μ) (hr0 : MIr μ) : Ct l G yX6_alike cX6_alike 6 ((some .int)) 4 0 0 [.ref o, .int a, .int b] (fun H => CWx G o om μ pa na H) (some (.int ((alike_M μ a b).1))) (fun H => CW G o om (alike_M μ a b).2 H) (fun q => o ≤ q ∧ q < o + 11) := by
  refine ct_entry [(0, .ref o), (1, .int a), (2, .int b)] (by decide) (Nat.le_of_ble_eq_true rfl) rfl ?_
  intro zp ze zs zm za zb zt zc Q S hK hPre hin hE ls hl
  have hx := S.1
  have hb := S.2.1
  have hCW := hPre
  have hS : va_S (fun q => o ≤ q ∧ q < o + 11) zs.heap zs.heap [] := va_S.rf
  obtain ⟨⟨hoo, hosz, hLH⟩, σ, φ, ρ, hX, hF, hRF, hRX, hWB, hWN, hAP⟩ := id hCW
  obtain ⟨⟨hT1, hT2⟩, ⟨hP1, hP2⟩, ⟨hF1, hF2⟩, ⟨hN1, hN2⟩, ⟨hR1, hR2⟩, ⟨hL1, hL2, hL3, hL4⟩, hRR⟩ := id hRX
  obtain ⟨h16, -⟩ := id hb0
  obtain ⟨h18, -⟩ := id hn0
  obtain ⟨h17, -⟩ := id hif
  obtain ⟨h22, -⟩ := id hit
  obtain ⟨h19, -⟩ := id hl0
  obtain ⟨h20, -⟩ := id hr0
  refine lv_aload_n hx hb dX6_alike_0 rfl (lv_at hl 0 rfl) ?_
  refine lv_iload_n hx hb dX6_alike_1 rfl (lv_at hl 1 rfl) ?_
  cases hiva : inI a (μ.1 16)
  ·
    refine crV (rest := []) S hK (c_X6_partAt_n l G o σ a (by omega) (by rw [hP1]; exact hiva)) cw_X6_67 rfl ⟨Nat.le_of_ble_eq_true rfl, Nat.le_of_ble_eq_true rfl⟩ ⟨Nat.le_of_ble_eq_true rfl, Nat.le_of_ble_eq_true rfl⟩ (bk.recv hK hX rfl rfl) hl.1 rfl (Nat.le_of_ble_eq_true rfl) dX6_alike_2 hX ?_
    refine lv_astore_nN (lv' := [(3, .null), (0, .ref o), (1, .int a), (2, .int b)]) hx hb dX6_alike_5 rfl hl (by decide) rfl (fun ls hl => ?_)
    refine lv_aload_n hx hb dX6_alike_6 rfl (lv_at hl 1 rfl) ?_
    refine lv_iload_n hx hb dX6_alike_7 rfl (lv_at hl 3 rfl) ?_
    cases hivb : inI b (μ.1 16)
    ·
      refine crV (rest := []) S hK (c_X6_partAt_n l G o σ b (by omega) (by rw [hP1]; exact hivb)) cw_X6_67 rfl ⟨Nat.le_of_ble_eq_true rfl, Nat.le_of_ble_eq_true rfl⟩ ⟨Nat.le_of_ble_eq_true rfl, Nat.le_of_ble_eq_true rfl⟩ (bk.recv hK hX rfl rfl) hl.1 rfl (Nat.le_of_ble_eq_true rfl) dX6_alike_8 hX ?_
      refine lv_astoreN (lv' := [(4, .null), (3, .null), (0, .ref o), (1, .int a), (2, .int b)]) hx hb dX6_alike_11 hl (by decide) rfl (fun ls hl => ?_)
      refine lv_aload_nN hx hb dX6_alike_13 rfl (lv_at hl 1 rfl) ?_
      refine lv_ifnullN (tgt := 22) hx hb dX6_alike_14 (by decide) ?_
      refine lv_aload_n hx hb dX6_alike_22 rfl (lv_at hl 2 rfl) ?_
      refine lv_iconst (v := (-1)) hx hb dX6_alike_23 (by decide) ?_
      refine ctV (rest := []) S hK (c_X6_refuse l G o σ ρ (-1) 1 rfl (by decide)) cw_X6_42 rfl ⟨Nat.le_of_ble_eq_true rfl, Nat.le_of_ble_eq_true rfl⟩ ⟨Nat.le_of_ble_eq_true rfl, Nat.le_of_ble_eq_true rfl⟩ (bk.recv hK hX rfl rfl) hl.1 rfl (Nat.le_of_ble_eq_true rfl) dX6_alike_24 ⟨hX, hRF⟩ hS (fun _ h => by first | exact h | omega) (fun H locs hPost hz hk hS => ?_)
      obtain ⟨hX, hRF⟩ := hPost
      replace hF := hF.over hk (fun q h1 h2 => by have h3 : q < o + 6 + 4 := h2; intro hA1; omega)
      have hr : alike_M μ a b = ((-1), rfM μ 1) := by unfold alike_M; rw [hiva] <;> rfl
      refine w_top (v' := .int ((alike_M μ a b).1)) (congrArg (fun z => Value.int z) (congrArg Prod.fst hr).symm) ?_
      have hcw := CW_r (G := G) (o := o) (om := om) hr (CW_x hCW hS (fun q h => by first | exact Or.inl h | omega) hX hF hRF (RX_rf hRX) (KP_rf μ _))
      exact hE _ _ _ _ _ _ (kr_i dX6_alike_27) hS (by decide) (by decide) hcw
    ·
      obtain ⟨vb, hvvb, rfl⟩ := inI_x hivb
      have hcxvb := cx_n (j := vb) (by omega)
      obtain ⟨hpavb, β, hB2, hBGvb, hBCvb⟩ := hWB vb hvvb
      have hBSvb := hb0.2 vb hvvb
      obtain ⟨⟨⟨ha1vb, ha2vb⟩, ⟨ha3vb, ha4vb⟩, ha5vb⟩, hbOvb, hbCvb, hbEvb, hbUvb⟩ := id hBSvb
      obtain ⟨hg0vb, hg1vb, hg2vb, hg3vb, hg4vb, hgFvb⟩ := id hBGvb
      obtain ⟨hc6vb, hc7vb, hc8vb⟩ := id hBCvb
      refine crV (rest := []) S hK (c_X6_partAt_y l G o σ vb (pa vb) (by omega) (by omega) (hP2 _ hvvb)) cw_X6_67 rfl ⟨Nat.le_of_ble_eq_true rfl, Nat.le_of_ble_eq_true rfl⟩ ⟨Nat.le_of_ble_eq_true rfl, Nat.le_of_ble_eq_true rfl⟩ (bk.recv hK hX rfl rfl) hl.1 rfl (Nat.le_of_ble_eq_true rfl) dX6_alike_8 hX ?_
      refine lv_astore (lv' := [(4, .ref (pa vb)), (3, .null), (0, .ref o), (1, .int a), (2, .int (nI vb))]) hx hb dX6_alike_11 hl (by decide) rfl (fun ls hl => ?_)
      refine lv_aload_nN hx hb dX6_alike_13 rfl (lv_at hl 1 rfl) ?_
      refine lv_ifnullN (tgt := 22) hx hb dX6_alike_14 (by decide) ?_
      refine lv_aload_n hx hb dX6_alike_22 rfl (lv_at hl 2 rfl) ?_
      refine lv_iconst (v := (-1)) hx hb dX6_alike_23 (by decide) ?_
      refine ctV (rest := []) S hK (c_X6_refuse l G o σ ρ (-1) 1 rfl (by decide)) cw_X6_42 rfl ⟨Nat.le_of_ble_eq_true rfl, Nat.le_of_ble_eq_true rfl⟩ ⟨Nat.le_of_ble_eq_true rfl, Nat.le_of_ble_eq_true rfl⟩ (bk.recv hK hX rfl rfl) hl.1 rfl (Nat.le_of_ble_eq_true rfl) dX6_alike_24 ⟨hX, hRF⟩ hS (fun _ h => by first | exact h | omega) (fun H locs hPost hz hk hS => ?_)
      obtain ⟨hX, hRF⟩ := hPost
      replace hF := hF.over hk (fun q h1 h2 => by have h3 : q < o + 6 + 4 := h2; intro hA1; omega)
      replace hB2 := hB2.over hk (fun q h1 h2 => by have h3 : q < pa vb + 4 := h2; intro hA1; omega)
      have hr : alike_M μ a (nI vb) = ((-1), rfM μ 1) := by unfold alike_M; rw [hiva] <;> rfl
      refine w_top (v' := .int ((alike_M μ a (nI vb)).1)) (congrArg (fun z => Value.int z) (congrArg Prod.fst hr).symm) ?_
      have hcw := CW_r (G := G) (o := o) (om := om) hr (CW_x hCW hS (fun q h => by first | exact Or.inl h | omega) hX hF hRF (RX_rf hRX) (KP_rf μ _))
      exact hE _ _ _ _ _ _ (kr_i dX6_alike_27) hS (by decide) (by decide) hcw
  ·
    obtain ⟨va, hvva, rfl⟩ := inI_x hiva
    have hcxva := cx_n (j := va) (by omega)
    obtain ⟨hpava, α, hB1, hBGva, hBCva⟩ := hWB va hvva
    have hBSva := hb0.2 va hvva
    obtain ⟨⟨⟨ha1va, ha2va⟩, ⟨ha3va, ha4va⟩, ha5va⟩, hbOva, hbCva, hbEva, hbUva⟩ := id hBSva
    obtain ⟨hg0va, hg1va, hg2va, hg3va, hg4va, hgFva⟩ := id hBGva
    obtain ⟨hc6va, hc7va, hc8va⟩ := id hBCva
    refine crV (rest := []) S hK (c_X6_partAt_y l G o σ va (pa va) (by omega) (by omega) (hP2 _ hvva)) cw_X6_67 rfl ⟨Nat.le_of_ble_eq_true rfl, Nat.le_of_ble_eq_true rfl⟩ ⟨Nat.le_of_ble_eq_true rfl, Nat.le_of_ble_eq_true rfl⟩ (bk.recv hK hX rfl rfl) hl.1 rfl (Nat.le_of_ble_eq_true rfl) dX6_alike_2 hX ?_
    refine lv_astore_n (lv' := [(3, .ref (pa va)), (0, .ref o), (1, .int (nI va)), (2, .int b)]) hx hb dX6_alike_5 rfl hl (by decide) rfl (fun ls hl => ?_)
    refine lv_aload_n hx hb dX6_alike_6 rfl (lv_at hl 1 rfl) ?_
    refine lv_iload_n hx hb dX6_alike_7 rfl (lv_at hl 3 rfl) ?_
    cases hivb : inI b (μ.1 16)
    ·
      refine crV (rest := []) S hK (c_X6_partAt_n l G o σ b (by omega) (by rw [hP1]; exact hivb)) cw_X6_67 rfl ⟨Nat.le_of_ble_eq_true rfl, Nat.le_of_ble_eq_true rfl⟩ ⟨Nat.le_of_ble_eq_true rfl, Nat.le_of_ble_eq_true rfl⟩ (bk.recv hK hX rfl rfl) hl.1 rfl (Nat.le_of_ble_eq_true rfl) dX6_alike_8 hX ?_
      refine lv_astoreN (lv' := [(4, .null), (3, .ref (pa va)), (0, .ref o), (1, .int (nI va)), (2, .int b)]) hx hb dX6_alike_11 hl (by decide) rfl (fun ls hl => ?_)
      refine lv_aload_n hx hb dX6_alike_13 rfl (lv_at hl 1 rfl) ?_
      refine lv_ifnull hx hb dX6_alike_14 ?_
      refine lv_aloadN hx hb dX6_alike_17 (lv_at hl 0 rfl) ?_
      refine lv_ifnonnullN hx hb dX6_alike_19 ?_
      refine lv_aload_n hx hb dX6_alike_22 rfl (lv_at hl 2 rfl) ?_
      refine lv_iconst (v := (-1)) hx hb dX6_alike_23 (by decide) ?_
      refine ctV (rest := []) S hK (c_X6_refuse l G o σ ρ (-1) 1 rfl (by decide)) cw_X6_42 rfl ⟨Nat.le_of_ble_eq_true rfl, Nat.le_of_ble_eq_true rfl⟩ ⟨Nat.le_of_ble_eq_true rfl, Nat.le_of_ble_eq_true rfl⟩ (bk.recv hK hX rfl rfl) hl.1 rfl (Nat.le_of_ble_eq_true rfl) dX6_alike_24 ⟨hX, hRF⟩ hS (fun _ h => by first | exact h | omega) (fun H locs hPost hz hk hS => ?_)
      obtain ⟨hX, hRF⟩ := hPost
      replace hF := hF.over hk (fun q h1 h2 => by have h3 : q < o + 6 + 4 := h2; intro hA1; omega)
      replace hB1 := hB1.over hk (fun q h1 h2 => by have h3 : q < pa va + 4 := h2; intro hA1; omega)
      have hr : alike_M μ (nI va) b = ((-1), rfM μ 1) := by unfold alike_M; rw [hivb, Bool.and_false] <;> rfl
      refine w_top (v' := .int ((alike_M μ (nI va) b).1)) (congrArg (fun z => Value.int z) (congrArg Prod.fst hr).symm) ?_
      have hcw := CW_r (G := G) (o := o) (om := om) hr (CW_x hCW hS (fun q h => by first | exact Or.inl h | omega) hX hF hRF (RX_rf hRX) (KP_rf μ _))
      exact hE _ _ _ _ _ _ (kr_i dX6_alike_27) hS (by decide) (by decide) hcw
    ·
      obtain ⟨vb, hvvb, rfl⟩ := inI_x hivb
      have hcxvb := cx_n (j := vb) (by omega)
      obtain ⟨hpavb, β, hB2, hBGvb, hBCvb⟩ := hWB vb hvvb
      have hBSvb := hb0.2 vb hvvb
      obtain ⟨⟨⟨ha1vb, ha2vb⟩, ⟨ha3vb, ha4vb⟩, ha5vb⟩, hbOvb, hbCvb, hbEvb, hbUvb⟩ := id hBSvb
      obtain ⟨hg0vb, hg1vb, hg2vb, hg3vb, hg4vb, hgFvb⟩ := id hBGvb
      obtain ⟨hc6vb, hc7vb, hc8vb⟩ := id hBCvb
      refine crV (rest := []) S hK (c_X6_partAt_y l G o σ vb (pa vb) (by omega) (by omega) (hP2 _ hvvb)) cw_X6_67 rfl ⟨Nat.le_of_ble_eq_true rfl, Nat.le_of_ble_eq_true rfl⟩ ⟨Nat.le_of_ble_eq_true rfl, Nat.le_of_ble_eq_true rfl⟩ (bk.recv hK hX rfl rfl) hl.1 rfl (Nat.le_of_ble_eq_true rfl) dX6_alike_8 hX ?_
      refine lv_astore (lv' := [(4, .ref (pa vb)), (3, .ref (pa va)), (0, .ref o), (1, .int (nI va)), (2, .int (nI vb))]) hx hb dX6_alike_11 hl (by decide) rfl (fun ls hl => ?_)
      refine lv_aload_n hx hb dX6_alike_13 rfl (lv_at hl 1 rfl) ?_
      refine lv_ifnull hx hb dX6_alike_14 ?_
      refine lv_aload hx hb dX6_alike_17 (lv_at hl 0 rfl) ?_
      refine lv_ifnonnull (tgt := 28) hx hb dX6_alike_19 (by decide) ?_
      refine lv_iconst (v := nI 0) hx hb dX6_alike_28 (by decide) ?_
      refine lv_istore (lv' := [(5, .int (nI 0)), (4, .ref (pa vb)), (3, .ref (pa va)), (0, .ref o), (1, .int (nI va)), (2, .int (nI vb))]) hx hb dX6_alike_29 hl (by decide) rfl (fun ls hl => ?_)
      have L31 : ∀ (fu : Nat), ∀ (vq : Nat), (vq ≤ 4) → (fnd (fun q => decide (asP μ va vb 0 q) || decide (asP μ va vb 1 q)) 4 0 = fnd (fun q => decide (asP μ va vb 0 q) || decide (asP μ va vb 1 q)) (4 - vq) vq) → 4 - vq < fu → ∀ (H : Heap) (locs : List Loc), bk G o (xL G o σ) H → bk G (o + 6) (flL G (o + 6) φ) H → bk G (o + 10) (rfL G (o + 10) ρ) H → bk G (pa va) (bdL G (pa va) α) H → bk G (pa vb) (bdL G (pa vb) β) H → va_S (fun q => o ≤ q ∧ q < o + 11) zs.heap H locs → ∀ ls : Array Slot, lv_has ls 6 [(0, .ref o), (3, .ref (pa va)), (4, .ref (pa vb)), (5, .int (nI vq))] → W zp l ze (rL 4 0 0) zs zm za zb zt zc H locs 0 0 Q (F0 zm 31 ls []) := by
        intro fu
        induction fu with
        | zero =>
          intro vq hvq hfd hmu H locs hX hF hRF hB1 hB2 hS ls hl
          exact absurd hmu (Nat.not_lt_zero _)
        | succ fu ih31 =>
          intro vq hvq hfd hmu H locs hX hF hRF hB1 hB2 hS ls hl
          refine lv_iload hx hb dX6_alike_31 (lv_at hl 3 rfl) ?_
          refine lv_iconst (v := nI 4) hx hb dX6_alike_33 (by decide) ?_
          refine n_icmp_ge (tgt := 69) hx hb dX6_alike_34 (by decide) (by omega) (by decide) (fun c_34 => ?_) (fun c_34 => ?_)
          ·
            refine lv_iconst (v := nI 0) hx hb dX6_alike_69 (by decide) ?_
            have hr : alike_M μ (nI va) (nI vb) = ((nI 0), μ) := by unfold alike_M; rw [hiva, hivb, hcxva, hcxvb, if_pos (by rfl), hfd, show 4 - vq = 0 from by omega] <;> rfl
            refine w_top (v' := .int ((alike_M μ (nI va) (nI vb)).1)) (congrArg (fun z => Value.int z) (congrArg Prod.fst hr).symm) ?_
            have hcw := CW_r (G := G) (o := o) (om := om) hr (CW_x hCW hS (fun q h => by first | exact Or.inl h | omega) hX hF hRF (hRX) (KP_r μ))
            exact hE _ _ _ _ _ _ (kr_i dX6_alike_70) hS (by decide) (by decide) hcw
          ·
            refine lv_aload_n hx hb dX6_alike_37 rfl (lv_at hl 1 rfl) ?_
            refine lv_aload hx hb dX6_alike_38 (lv_at hl 2 rfl) ?_
            refine lv_iconst (v := nI 0) hx hb dX6_alike_40 (by decide) ?_
            refine lv_iload hx hb dX6_alike_41 (lv_at hl 3 rfl) ?_
            refine crS (rest := []) S hK (c_X0_same l G (pa va) α (pa vb) β 0 vq (by omega) (by omega) (by omega) (by omega) (by first | assumption | omega | decide) (by first | assumption | omega | decide) (fun k hk8 => by rw [hg2va k hk8]; rcases hbCva k hk8 with z | z | z <;> omega) (fun k hk8 => by rw [hg2vb k hk8]; rcases hbCvb k hk8 with z | z | z <;> omega)) cw_X6_163 rfl ⟨Nat.le_of_ble_eq_true rfl, Nat.le_of_ble_eq_true rfl⟩ ⟨Nat.le_of_ble_eq_true rfl, Nat.le_of_ble_eq_true rfl⟩ hl.1 rfl (Nat.le_of_ble_eq_true rfl) dX6_alike_43 ⟨hB1, hB2⟩ ?_
            refine z_if_ne (tgt := 61) hx hb dX6_alike_46 (by decide) (fun c_46 => ?_) (fun c_46 => ?_)
            ·
              refine lv_iconst (v := nI 1) hx hb dX6_alike_61 (by decide) ?_
              have hr : alike_M μ (nI va) (nI vb) = ((nI 1), μ) := by
                unfold alike_M
                rw [hiva, hivb, hcxva, hcxvb, if_pos (by rfl), hfd, show 4 - vq = (4 - (vq + 1)) + 1 from by omega, fnd_t (P := fun q => decide (asP μ va vb 0 q) || decide (asP μ va vb 1 q)) (by rw [← dec_e (asC_e hBGva hBGvb ⟨ha2va, ha4va⟩ ⟨ha2vb, ha4vb⟩), ← dec_e (asC_e hBGva hBGvb ⟨ha2va, ha4va⟩ ⟨ha2vb, ha4vb⟩), c_46]; rfl)]
                rfl
              refine w_top (v' := .int ((alike_M μ (nI va) (nI vb)).1)) (congrArg (fun z => Value.int z) (congrArg Prod.fst hr).symm) ?_
              have hcw := CW_r (G := G) (o := o) (om := om) hr (CW_x hCW hS (fun q h => by first | exact Or.inl h | omega) hX hF hRF (hRX) (KP_r μ))
              exact hE _ _ _ _ _ _ (kr_i dX6_alike_62) hS (by decide) (by decide) hcw
            ·
              refine lv_aload_n hx hb dX6_alike_49 rfl (lv_at hl 1 rfl) ?_
              refine lv_aload hx hb dX6_alike_50 (lv_at hl 2 rfl) ?_
              refine lv_iconst (v := nI 1) hx hb dX6_alike_52 (by decide) ?_
              refine lv_iload hx hb dX6_alike_53 (lv_at hl 3 rfl) ?_
              refine crS (rest := []) S hK (c_X0_same l G (pa va) α (pa vb) β 1 vq (by omega) (by omega) (by omega) (by omega) (by first | assumption | omega | decide) (by first | assumption | omega | decide) (fun k hk8 => by rw [hg2va k hk8]; rcases hbCva k hk8 with z | z | z <;> omega) (fun k hk8 => by rw [hg2vb k hk8]; rcases hbCvb k hk8 with z | z | z <;> omega)) cw_X6_163 rfl ⟨Nat.le_of_ble_eq_true rfl, Nat.le_of_ble_eq_true rfl⟩ ⟨Nat.le_of_ble_eq_true rfl, Nat.le_of_ble_eq_true rfl⟩ hl.1 rfl (Nat.le_of_ble_eq_true rfl) dX6_alike_55 ⟨hB1, hB2⟩ ?_
              refine z_if_eq (tgt := 63) hx hb dX6_alike_58 (by decide) (fun c_58 => ?_) (fun c_58 => ?_)
              ·
                refine lv_iinc (v := (nI (vq + 1))) (lv' := [(5, .int (nI (vq + 1))), (0, .ref o), (3, .ref (pa va)), (4, .ref (pa vb))]) hx hb dX6_alike_63 hl (k := 3) rfl (inc1 _) (by decide) rfl (fun ls hl => ?_)
                refine lv_goto (tgt := 31) hx hb dX6_alike_66 (by decide) ?_
                exact ih31 (vq + 1) (by omega) (hfd.trans (by rw [show 4 - vq = (4 - (vq + 1)) + 1 from by omega]; exact fnd_f (P := fun q => decide (asP μ va vb 0 q) || decide (asP μ va vb 1 q)) (by rw [← dec_e (asC_e hBGva hBGvb ⟨ha2va, ha4va⟩ ⟨ha2vb, ha4vb⟩), ← dec_e (asC_e hBGva hBGvb ⟨ha2va, ha4va⟩ ⟨ha2vb, ha4vb⟩), c_46, c_58]; rfl))) (by omega) _ _ hX hF hRF hB1 hB2 hS ls (lv_sub hl [1, 2, 3, 0] rfl)
              ·
                refine lv_iconst (v := nI 1) hx hb dX6_alike_61 (by decide) ?_
                have hr : alike_M μ (nI va) (nI vb) = ((nI 1), μ) := by
                  unfold alike_M
                  rw [hiva, hivb, hcxva, hcxvb, if_pos (by rfl), hfd, show 4 - vq = (4 - (vq + 1)) + 1 from by omega, fnd_t (P := fun q => decide (asP μ va vb 0 q) || decide (asP μ va vb 1 q)) (by rw [← dec_e (asC_e hBGva hBGvb ⟨ha2va, ha4va⟩ ⟨ha2vb, ha4vb⟩), ← dec_e (asC_e hBGva hBGvb ⟨ha2va, ha4va⟩ ⟨ha2vb, ha4vb⟩), c_46, c_58]; rfl)]
                  rfl
                refine w_top (v' := .int ((alike_M μ (nI va) (nI vb)).1)) (congrArg (fun z => Value.int z) (congrArg Prod.fst hr).symm) ?_
                have hcw := CW_r (G := G) (o := o) (om := om) hr (CW_x hCW hS (fun q h => by first | exact Or.inl h | omega) hX hF hRF (hRX) (KP_r μ))
                exact hE _ _ _ _ _ _ (kr_i dX6_alike_62) hS (by decide) (by decide) hcw
      exact L31 ((4 - 0) + 1) 0 (Nat.zero_le _) rfl (Nat.lt_succ_self _) _ _ hX hF hRF hB1 hB2 hS ls (lv_sub hl [3, 2, 1, 0] rfl)

set_option maxHeartbeats 1000000 in
set_option maxRecDepth 100000 in
theorem c_X6_lay (l : Launch) (G : Gt) (o : Nat) (om : Nat) (μ : Sx) (pa : Nat → Nat) (na : Nat → Nat) (p : Int32) (x : Int32) (y : Int32) (hb0 : MIb μ) (hn0 : MIn μ) (hif : MIf μ) (hit : MIt μ) (hl0 : MIl μ) (hr0 : MIr μ) : Ct l G yX6_lay cX6_lay 5 ((some .int)) 2 0 0 [.ref o, .int p, .int x, .int y] (fun H => CWx G o om μ pa na H) (some (.int ((lay_M μ p x y).1))) (fun H => CW G o om (lay_M μ p x y).2 H) (fun q => o ≤ q ∧ q < o + 11) := by
  refine ct_entry [(0, .ref o), (1, .int p), (2, .int x), (3, .int y)] (by decide) (Nat.le_of_ble_eq_true rfl) rfl ?_
  intro zp ze zs zm za zb zt zc Q S hK hPre hin hE ls hl
  have hx := S.1
  have hb := S.2.1
  have hCW := hPre
  have hS : va_S (fun q => o ≤ q ∧ q < o + 11) zs.heap zs.heap [] := va_S.rf
  obtain ⟨⟨hoo, hosz, hLH⟩, σ, φ, ρ, hX, hF, hRF, hRX, hWB, hWN, hAP⟩ := id hCW
  obtain ⟨⟨hT1, hT2⟩, ⟨hP1, hP2⟩, ⟨hF1, hF2⟩, ⟨hN1, hN2⟩, ⟨hR1, hR2⟩, ⟨hL1, hL2, hL3, hL4⟩, hRR⟩ := id hRX
  obtain ⟨h16, -⟩ := id hb0
  obtain ⟨h18, -⟩ := id hn0
  obtain ⟨h17, -⟩ := id hif
  obtain ⟨h22, -⟩ := id hit
  obtain ⟨h19, -⟩ := id hl0
  obtain ⟨h20, -⟩ := id hr0
  refine lv_aload_n hx hb dX6_lay_0 rfl (lv_at hl 0 rfl) ?_
  refine lv_iload_n hx hb dX6_lay_1 rfl (lv_at hl 1 rfl) ?_
  cases hivp : inI p (μ.1 16)
  ·
    refine crV (rest := []) S hK (c_X6_partAt_n l G o σ p (by omega) (by rw [hP1]; exact hivp)) cw_X6_67 rfl ⟨Nat.le_of_ble_eq_true rfl, Nat.le_of_ble_eq_true rfl⟩ ⟨Nat.le_of_ble_eq_true rfl, Nat.le_of_ble_eq_true rfl⟩ (bk.recv hK hX rfl rfl) hl.1 rfl (Nat.le_of_ble_eq_true rfl) dX6_lay_2 hX ?_
    refine lv_astoreN (lv' := [(4, .null), (0, .ref o), (1, .int p), (2, .int x), (3, .int y)]) hx hb dX6_lay_5 hl (by decide) rfl (fun ls hl => ?_)
    refine lv_aloadN hx hb dX6_lay_7 (lv_at hl 0 rfl) ?_
    refine lv_ifnonnullN hx hb dX6_lay_9 ?_
    refine lv_aload_n hx hb dX6_lay_12 rfl (lv_at hl 1 rfl) ?_
    refine lv_iconst (v := (-1)) hx hb dX6_lay_13 (by decide) ?_
    refine ctV (rest := []) S hK (c_X6_refuse l G o σ ρ (-1) 1 rfl (by decide)) cw_X6_42 rfl ⟨Nat.le_of_ble_eq_true rfl, Nat.le_of_ble_eq_true rfl⟩ ⟨Nat.le_of_ble_eq_true rfl, Nat.le_of_ble_eq_true rfl⟩ (bk.recv hK hX rfl rfl) hl.1 rfl (Nat.le_of_ble_eq_true rfl) dX6_lay_14 ⟨hX, hRF⟩ hS (fun _ h => by first | exact h | omega) (fun H locs hPost hz hk hS => ?_)
    obtain ⟨hX, hRF⟩ := hPost
    replace hF := hF.over hk (fun q h1 h2 => by have h3 : q < o + 6 + 4 := h2; intro hA1; omega)
    have hr : lay_M μ p x y = ((-1), rfM μ 1) := by unfold lay_M; rw [hivp] <;> rfl
    refine w_top (v' := .int ((lay_M μ p x y).1)) (congrArg (fun z => Value.int z) (congrArg Prod.fst hr).symm) ?_
    have hcw := CW_r (G := G) (o := o) (om := om) hr (CW_x hCW hS (fun q h => by first | exact Or.inl h | omega) hX hF hRF (RX_rf hRX) (KP_rf μ _))
    exact hE _ _ _ _ _ _ (kr_i dX6_lay_17) hS (by decide) (by decide) hcw
  ·
    obtain ⟨vp, hvvp, rfl⟩ := inI_x hivp
    have hcxvp := cx_n (j := vp) (by omega)
    obtain ⟨hpavp, β, hB, hBGvp, hBCvp⟩ := hWB vp hvvp
    have hBSvp := hb0.2 vp hvvp
    obtain ⟨⟨⟨ha1vp, ha2vp⟩, ⟨ha3vp, ha4vp⟩, ha5vp⟩, hbOvp, hbCvp, hbEvp, hbUvp⟩ := id hBSvp
    obtain ⟨hg0vp, hg1vp, hg2vp, hg3vp, hg4vp, hgFvp⟩ := id hBGvp
    obtain ⟨hc6vp, hc7vp, hc8vp⟩ := id hBCvp
    refine crV (rest := []) S hK (c_X6_partAt_y l G o σ vp (pa vp) (by omega) (by omega) (hP2 _ hvvp)) cw_X6_67 rfl ⟨Nat.le_of_ble_eq_true rfl, Nat.le_of_ble_eq_true rfl⟩ ⟨Nat.le_of_ble_eq_true rfl, Nat.le_of_ble_eq_true rfl⟩ (bk.recv hK hX rfl rfl) hl.1 rfl (Nat.le_of_ble_eq_true rfl) dX6_lay_2 hX ?_
    refine lv_astore (lv' := [(4, .ref (pa vp)), (0, .ref o), (1, .int (nI vp)), (2, .int x), (3, .int y)]) hx hb dX6_lay_5 hl (by decide) rfl (fun ls hl => ?_)
    refine lv_aload hx hb dX6_lay_7 (lv_at hl 0 rfl) ?_
    refine lv_ifnonnull (tgt := 18) hx hb dX6_lay_9 (by decide) ?_
    refine lv_iload_n hx hb dX6_lay_18 rfl (lv_at hl 3 rfl) ?_
    refine lv_if_lt (tgt := 26) hx hb dX6_lay_19 (by decide) (fun c_19 => ?_) (fun c_19 => ?_)
    ·
      refine lv_aload_n hx hb dX6_lay_26 rfl (lv_at hl 1 rfl) ?_
      refine lv_bipush (v := (-4)) hx hb dX6_lay_27 (by decide) ?_
      refine ctV (rest := []) S hK (c_X6_refuse l G o σ ρ (-4) 4 rfl (by decide)) cw_X6_42 rfl ⟨Nat.le_of_ble_eq_true rfl, Nat.le_of_ble_eq_true rfl⟩ ⟨Nat.le_of_ble_eq_true rfl, Nat.le_of_ble_eq_true rfl⟩ (bk.recv hK hX rfl rfl) hl.1 rfl (Nat.le_of_ble_eq_true rfl) dX6_lay_29 ⟨hX, hRF⟩ hS (fun _ h => by first | exact h | omega) (fun H locs hPost hz hk hS => ?_)
      obtain ⟨hX, hRF⟩ := hPost
      replace hF := hF.over hk (fun q h1 h2 => by have h3 : q < o + 6 + 4 := h2; intro hA1; omega)
      replace hB := hB.over hk (fun q h1 h2 => by have h3 : q < pa vp + 4 := h2; intro hA1; omega)
      have hr : lay_M μ (nI vp) x y = ((-4), rfM μ 4) := by unfold lay_M; rw [hivp, if_pos (by rfl), if_pos (Or.inl c_19)]
      refine w_top (v' := .int ((lay_M μ (nI vp) x y).1)) (congrArg (fun z => Value.int z) (congrArg Prod.fst hr).symm) ?_
      have hcw := CW_r (G := G) (o := o) (om := om) hr (CW_x hCW hS (fun q h => by first | exact Or.inl h | omega) hX hF hRF (RX_rf hRX) (KP_rf μ _))
      exact hE _ _ _ _ _ _ (kr_i dX6_lay_32) hS (by decide) (by decide) hcw
    ·
      obtain ⟨i, hi, rfl⟩ := nI_of c_19
      have hci := cx_n hi
      refine lv_iload_n hx hb dX6_lay_22 rfl (lv_at hl 4 rfl) ?_
      refine lv_if_ge (tgt := 33) hx hb dX6_lay_23 (by decide) (fun c_23 => ?_) (fun c_23 => ?_)
      ·
        obtain ⟨j, hj, rfl⟩ := nI_of (Int32.not_lt.mpr c_23)
        have hcj := cx_n hj
        refine lv_iload_n hx hb dX6_lay_33 rfl (lv_at hl 3 rfl) ?_
        refine lv_bipush (v := nI 12) hx hb dX6_lay_34 (by decide) ?_
        refine lv_aload hx hb dX6_lay_36 (lv_at hl 0 rfl) ?_
        refine kg (C := RX0) (T := TX0) (N := 9) (ci := 0) (k := 0) (v := .int (nI (β.1 0))) S hK rfl inX0 (by decide) q_195 dX6_lay_38 hB rfl rfl ?_
        refine n_isub hx hb dX6_lay_41 (by omega) ?_
        refine n_icmp_gt (tgt := 69) hx hb dX6_lay_42 (by decide) (by omega) (by omega) (fun c_42 => ?_) (fun c_42 => ?_)
        ·
          refine lv_aload_n hx hb dX6_lay_69 rfl (lv_at hl 1 rfl) ?_
          refine lv_bipush (v := (-6)) hx hb dX6_lay_70 (by decide) ?_
          refine ctV (rest := []) S hK (c_X6_refuse l G o σ ρ (-6) 6 rfl (by decide)) cw_X6_42 rfl ⟨Nat.le_of_ble_eq_true rfl, Nat.le_of_ble_eq_true rfl⟩ ⟨Nat.le_of_ble_eq_true rfl, Nat.le_of_ble_eq_true rfl⟩ (bk.recv hK hX rfl rfl) hl.1 rfl (Nat.le_of_ble_eq_true rfl) dX6_lay_72 ⟨hX, hRF⟩ hS (fun _ h => by first | exact h | omega) (fun H locs hPost hz hk hS => ?_)
          obtain ⟨hX, hRF⟩ := hPost
          replace hF := hF.over hk (fun q h1 h2 => by have h3 : q < o + 6 + 4 := h2; intro hA1; omega)
          replace hB := hB.over hk (fun q h1 h2 => by have h3 : q < pa vp + 4 := h2; intro hA1; omega)
          have hr : lay_M μ (nI vp) (nI i) (nI j) = ((-6), rfM μ 6) := by unfold lay_M; rw [hivp, if_pos (by rfl), if_neg (fun q => q.elim (n9_lt hi) (fun z => z c_23)), hcxvp, hci, hcj, if_pos (by omega)]
          refine w_top (v' := .int ((lay_M μ (nI vp) (nI i) (nI j)).1)) (congrArg (fun z => Value.int z) (congrArg Prod.fst hr).symm) ?_
          have hcw := CW_r (G := G) (o := o) (om := om) hr (CW_x hCW hS (fun q h => by first | exact Or.inl h | omega) hX hF hRF (RX_rf hRX) (KP_rf μ _))
          exact hE _ _ _ _ _ _ (kr_i dX6_lay_75) hS (by decide) (by decide) hcw
        ·
          refine lv_iload_n hx hb dX6_lay_45 rfl (lv_at hl 4 rfl) ?_
          refine lv_bipush (v := nI 12) hx hb dX6_lay_46 (by decide) ?_
          refine lv_aload hx hb dX6_lay_48 (lv_at hl 0 rfl) ?_
          refine kg (C := RX0) (T := TX0) (N := 9) (ci := 0) (k := 1) (v := .int (nI (β.1 1))) S hK rfl inX0 (by decide) q_197 dX6_lay_50 hB rfl rfl ?_
          refine n_isub hx hb dX6_lay_53 (by omega) ?_
          refine n_icmp_gt (tgt := 69) hx hb dX6_lay_54 (by decide) (by omega) (by omega) (fun c_54 => ?_) (fun c_54 => ?_)
          ·
            refine lv_aload_n hx hb dX6_lay_69 rfl (lv_at hl 1 rfl) ?_
            refine lv_bipush (v := (-6)) hx hb dX6_lay_70 (by decide) ?_
            refine ctV (rest := []) S hK (c_X6_refuse l G o σ ρ (-6) 6 rfl (by decide)) cw_X6_42 rfl ⟨Nat.le_of_ble_eq_true rfl, Nat.le_of_ble_eq_true rfl⟩ ⟨Nat.le_of_ble_eq_true rfl, Nat.le_of_ble_eq_true rfl⟩ (bk.recv hK hX rfl rfl) hl.1 rfl (Nat.le_of_ble_eq_true rfl) dX6_lay_72 ⟨hX, hRF⟩ hS (fun _ h => by first | exact h | omega) (fun H locs hPost hz hk hS => ?_)
            obtain ⟨hX, hRF⟩ := hPost
            replace hF := hF.over hk (fun q h1 h2 => by have h3 : q < o + 6 + 4 := h2; intro hA1; omega)
            replace hB := hB.over hk (fun q h1 h2 => by have h3 : q < pa vp + 4 := h2; intro hA1; omega)
            have hr : lay_M μ (nI vp) (nI i) (nI j) = ((-6), rfM μ 6) := by unfold lay_M; rw [hivp, if_pos (by rfl), if_neg (fun q => q.elim (n9_lt hi) (fun z => z c_23)), hcxvp, hci, hcj, if_pos (by omega)]
            refine w_top (v' := .int ((lay_M μ (nI vp) (nI i) (nI j)).1)) (congrArg (fun z => Value.int z) (congrArg Prod.fst hr).symm) ?_
            have hcw := CW_r (G := G) (o := o) (om := om) hr (CW_x hCW hS (fun q h => by first | exact Or.inl h | omega) hX hF hRF (RX_rf hRX) (KP_rf μ _))
            exact hE _ _ _ _ _ _ (kr_i dX6_lay_75) hS (by decide) (by decide) hcw
          ·
            refine lv_aload_n hx hb dX6_lay_57 rfl (lv_at hl 1 rfl) ?_
            refine kg (C := RX6) (T := TX6) (N := 12) (ci := 4) (k := 10) (v := .ref (o + 6)) S hK rfl inX6 (by decide) q_134 dX6_lay_58 hX rfl rfl ?_
            refine kg (C := RX2) (T := TX2) (N := 4) (ci := 1) (k := 3) (v := .int (nI (φ.1 3))) S hK rfl inX2 (by decide) q_112 dX6_lay_61 hF rfl rfl ?_
            refine lv_bipush (v := nI 10) hx hb dX6_lay_64 (by decide) ?_
            refine n_icmp_lt (tgt := 76) hx hb dX6_lay_66 (by decide) (by omega) (by decide) (fun c_66 => ?_) (fun c_66 => ?_)
            ·
              refine lv_aload_n hx hb dX6_lay_76 rfl (lv_at hl 1 rfl) ?_
              refine kg (C := RX6) (T := TX6) (N := 12) (ci := 4) (k := 10) (v := .ref (o + 6)) S hK rfl inX6 (by decide) q_134 dX6_lay_77 hX rfl rfl ?_
              refine lv_aload hx hb dX6_lay_80 (lv_at hl 0 rfl) ?_
              refine lv_iload_n hx hb dX6_lay_82 rfl (lv_at hl 3 rfl) ?_
              refine lv_iload_n hx hb dX6_lay_83 rfl (lv_at hl 4 rfl) ?_
              refine ctV (rest := []) S hK (c_X2_add l G (o + 6) φ (pa vp) β i j (by omega) (by omega)) cw_X6_229 rfl ⟨Nat.le_of_ble_eq_true rfl, Nat.le_of_ble_eq_true rfl⟩ ⟨Nat.le_of_ble_eq_true rfl, Nat.le_of_ble_eq_true rfl⟩ (bk.recv hK hF rfl rfl) hl.1 rfl (Nat.le_of_ble_eq_true rfl) dX6_lay_84 ⟨hF, hB⟩ hS (fun q h => by omega) (fun H locs hPost hz hk hS => ?_)
              obtain ⟨hF, hB⟩ := hPost
              replace hX := hX.over hk (fun q h1 h2 => by have h3 : q < o + 6 := h2; intro hA1; omega)
              replace hRF := hRF.over hk (fun q h1 h2 => by have h3 : q < o + 10 + 1 := h2; intro hA1; omega)
              have hr : lay_M μ (nI vp) (nI i) (nI j) = ((nI (φ.1 3)), uS (uA (uA (uA μ 12 (μ.1 19) vp) 13 (μ.1 19) i) 14 (μ.1 19) j) 19 (μ.1 19 + 1)) := by unfold lay_M; rw [hivp, if_pos (by rfl), if_neg (fun q => q.elim (n9_lt hi) (fun z => z c_23)), hcxvp, hci, hcj, if_neg (by omega), hL1]
              refine w_top (v' := .int ((lay_M μ (nI vp) (nI i) (nI j)).1)) (congrArg (fun z => Value.int z) (congrArg Prod.fst hr).symm) ?_
              have hcw := CW_r (G := G) (o := o) (om := om) hr (CW_x hCW hS (fun q h => by first | exact Or.inl h | omega) hX hF hRF (⟨⟨hT1, hT2⟩, ⟨hP1, hP2⟩, FX_c ⟨hF1, hF2⟩ rfl rfl rfl rfl rfl, ⟨hN1, hN2⟩, ⟨hR1, hR2⟩, RX_ly hL1 hL2 hL3 hL4, hRR⟩) (⟨⟨rfl, rfl⟩, ⟨rfl, rfl, rfl, rfl⟩, rfl, rfl, rfl, rfl, rfl⟩))
              exact hE _ _ _ _ _ _ (kr_i dX6_lay_87) hS (by decide) (by decide) hcw
            ·
              refine lv_aload_n hx hb dX6_lay_69 rfl (lv_at hl 1 rfl) ?_
              refine lv_bipush (v := (-6)) hx hb dX6_lay_70 (by decide) ?_
              refine ctV (rest := []) S hK (c_X6_refuse l G o σ ρ (-6) 6 rfl (by decide)) cw_X6_42 rfl ⟨Nat.le_of_ble_eq_true rfl, Nat.le_of_ble_eq_true rfl⟩ ⟨Nat.le_of_ble_eq_true rfl, Nat.le_of_ble_eq_true rfl⟩ (bk.recv hK hX rfl rfl) hl.1 rfl (Nat.le_of_ble_eq_true rfl) dX6_lay_72 ⟨hX, hRF⟩ hS (fun _ h => by first | exact h | omega) (fun H locs hPost hz hk hS => ?_)
              obtain ⟨hX, hRF⟩ := hPost
              replace hF := hF.over hk (fun q h1 h2 => by have h3 : q < o + 6 + 4 := h2; intro hA1; omega)
              replace hB := hB.over hk (fun q h1 h2 => by have h3 : q < pa vp + 4 := h2; intro hA1; omega)
              have hr : lay_M μ (nI vp) (nI i) (nI j) = ((-6), rfM μ 6) := by unfold lay_M; rw [hivp, if_pos (by rfl), if_neg (fun q => q.elim (n9_lt hi) (fun z => z c_23)), hcxvp, hci, hcj, if_pos (by omega)]
              refine w_top (v' := .int ((lay_M μ (nI vp) (nI i) (nI j)).1)) (congrArg (fun z => Value.int z) (congrArg Prod.fst hr).symm) ?_
              have hcw := CW_r (G := G) (o := o) (om := om) hr (CW_x hCW hS (fun q h => by first | exact Or.inl h | omega) hX hF hRF (RX_rf hRX) (KP_rf μ _))
              exact hE _ _ _ _ _ _ (kr_i dX6_lay_75) hS (by decide) (by decide) hcw
      ·
        refine lv_aload_n hx hb dX6_lay_26 rfl (lv_at hl 1 rfl) ?_
        refine lv_bipush (v := (-4)) hx hb dX6_lay_27 (by decide) ?_
        refine ctV (rest := []) S hK (c_X6_refuse l G o σ ρ (-4) 4 rfl (by decide)) cw_X6_42 rfl ⟨Nat.le_of_ble_eq_true rfl, Nat.le_of_ble_eq_true rfl⟩ ⟨Nat.le_of_ble_eq_true rfl, Nat.le_of_ble_eq_true rfl⟩ (bk.recv hK hX rfl rfl) hl.1 rfl (Nat.le_of_ble_eq_true rfl) dX6_lay_29 ⟨hX, hRF⟩ hS (fun _ h => by first | exact h | omega) (fun H locs hPost hz hk hS => ?_)
        obtain ⟨hX, hRF⟩ := hPost
        replace hF := hF.over hk (fun q h1 h2 => by have h3 : q < o + 6 + 4 := h2; intro hA1; omega)
        replace hB := hB.over hk (fun q h1 h2 => by have h3 : q < pa vp + 4 := h2; intro hA1; omega)
        have hr : lay_M μ (nI vp) (nI i) y = ((-4), rfM μ 4) := by unfold lay_M; rw [hivp, if_pos (by rfl), if_pos (Or.inr c_23)]
        refine w_top (v' := .int ((lay_M μ (nI vp) (nI i) y).1)) (congrArg (fun z => Value.int z) (congrArg Prod.fst hr).symm) ?_
        have hcw := CW_r (G := G) (o := o) (om := om) hr (CW_x hCW hS (fun q h => by first | exact Or.inl h | omega) hX hF hRF (RX_rf hRX) (KP_rf μ _))
        exact hE _ _ _ _ _ _ (kr_i dX6_lay_32) hS (by decide) (by decide) hcw
