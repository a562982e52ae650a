
/-! walks: TILINGS, how many bits -/
theorem nI_ushr {a b : Nat} (ha : a < 2 ^ 31) (hb : b < 32) : ((nI a).toUInt32 >>> ((nI b).toUInt32 &&& Int32.toUInt32 31)).toInt32 = nI (a >>> b) := by
  have hs : ∀ b, b < 32 → ((nI b).toUInt32 &&& Int32.toUInt32 31).toBitVec.toNat % 32 = b := by decide +kernel
  apply Int32.toBitVec_inj.mp
  apply BitVec.eq_of_toNat_eq
  show (BitVec.ofNat 32 a >>> (((nI b).toUInt32 &&& Int32.toUInt32 31).toBitVec % 32)).toNat = (BitVec.ofNat 32 (a >>> b)).toNat
  have e : (((nI b).toUInt32 &&& Int32.toUInt32 31).toBitVec % 32).toNat = b := by rw [BitVec.toNat_umod]; exact hs b hb
  show (BitVec.ofNat 32 a >>> (((nI b).toUInt32 &&& Int32.toUInt32 31).toBitVec % 32).toNat).toNat = _
  rw [e, BitVec.toNat_ushiftRight, BitVec.toNat_ofNat, BitVec.toNat_ofNat, Nat.mod_eq_of_lt (by omega), Nat.mod_eq_of_lt (Nat.lt_of_le_of_lt (Nat.shiftRight_le a b) (by omega))]
section KN2
variable {p : Program} {l : Launch} {e : Env} {R : Room} {s : State} {m : MethodId} {args : Array Value} {below : List Frame} {meth : Method} {c : Code} {H : Heap} {locs : List Loc} {cells slots : Nat} {Q : State → Prop}
variable {cc : ByteArray} {pc a b : Nat} {ls : Array Slot} {rest : List Value}
theorem n_iushr (hx : p.tables.exec = Jvm.exec) (hb : c.code = cc) (hd : decode cc pc = .ok (.iushr, 1)) (ha : a < 2 ^ 31) (h : b < 32) (k : W p l e R s m args below meth c H locs cells slots Q (F0 m (pc + 1) ls (.int (nI (a >>> b)) :: rest))) : W p l e R s m args below meth c H locs cells slots Q (F0 m pc ls (.int (nI b) :: .int (nI a) :: rest)) := lv_iushr hx hb hd (nI_ushr ha h) k
end KN2
/-- the lowest byte apart -/
theorem sw_and {y M a m : Nat} (ha : a < 256) (hm : m < 256) : (2 ^ 8 * y + a) &&& (2 ^ 8 * M + m) = 2 ^ 8 * (y &&& M) + (a &&& m) := by
  apply Nat.eq_of_testBit_eq
  intro j
  have h3 : a &&& m < 2 ^ 8 := Nat.lt_of_le_of_lt Nat.and_le_left ha
  rw [Nat.testBit_and, Nat.testBit_two_pow_mul_add y ha, Nat.testBit_two_pow_mul_add M hm, Nat.testBit_two_pow_mul_add _ h3]
  by_cases hj : j < 8
  · rw [if_pos hj, if_pos hj, if_pos hj, Nat.testBit_and]
  · rw [if_neg hj, if_neg hj, if_neg hj, Nat.testBit_and]
theorem sw_sand {y M a m k : Nat} (ha : a < 256) (hm : m < 256) (hk : ∀ j, j < 8 → 8 ≤ k + j → m.testBit j = false) : ((2 ^ 8 * y + a) >>> k) &&& (2 ^ 8 * M + m) = 2 ^ 8 * ((y >>> k) &&& M) + ((a >>> k) &&& m) := by
  apply Nat.eq_of_testBit_eq
  intro j
  have h3 : (a >>> k) &&& m < 2 ^ 8 := Nat.lt_of_le_of_lt Nat.and_le_right hm
  rw [Nat.testBit_and, Nat.testBit_shiftRight, Nat.testBit_two_pow_mul_add y ha, Nat.testBit_two_pow_mul_add M hm, Nat.testBit_two_pow_mul_add _ h3]
  by_cases hj : j < 8
  · rw [if_pos hj, if_pos hj, Nat.testBit_and, Nat.testBit_shiftRight]
    by_cases h8 : k + j < 8
    · rw [if_pos h8]
    · rw [hk j hj (by omega), Bool.and_false, Bool.and_false]
  · rw [if_neg hj, if_neg hj, if_neg (by omega), Nat.testBit_and, Nat.testBit_shiftRight, show k + j - 8 = k + (j - 8) from by omega]
def sw1 (M x : Nat) : Nat := x - (x >>> 1 &&& M)
def sw2 (M x : Nat) : Nat := (x &&& M) + (x >>> 2 &&& M)
theorem sw1_le (M x : Nat) : x >>> 1 &&& M ≤ x := Nat.le_trans Nat.and_le_left (by rw [Nat.shiftRight_eq_div_pow]; exact Nat.div_le_self _ _)
theorem sw1_b {y M a : Nat} (ha : a < 256) : sw1 (2 ^ 8 * M + 85) (2 ^ 8 * y + a) = 2 ^ 8 * sw1 M y + sw1 85 a := by
  have h1 := sw1_le M y
  have h2 := sw1_le 85 a
  unfold sw1
  rw [sw_sand ha (by decide) (by decide)]
  omega
theorem sw2_b {y M a : Nat} (ha : a < 256) : sw2 (2 ^ 8 * M + 51) (2 ^ 8 * y + a) = 2 ^ 8 * sw2 M y + sw2 51 a := by
  unfold sw2
  rw [sw_sand ha (by decide) (by decide), sw_and ha (by decide)]
  omega
/-- the bytes' own steps -/
theorem sw_byte : ∀ a, a < 256 → sw2 51 (sw1 85 a) < 69 ∧ sw2 51 (sw1 85 a) % 16 ≤ 4 ∧ sw1 85 a < 256 ∧ sw2 51 (sw1 85 a) / 16 + sw2 51 (sw1 85 a) % 16 = pcn allP a 8 := by decide +kernel
theorem sw_top : ∀ a, a < 16 → sw2 13107 (sw1 21845 a) < 5 ∧ sw1 21845 a < 256 ∧ sw2 13107 (sw1 21845 a) = pcn allP a 4 := by decide +kernel
def sw3 (x : Nat) : Nat := (x + x >>> 4) &&& 252645135
def sw5 (x : Nat) : Nat := ((x + x >>> 8) + (x + x >>> 8) >>> 16) &&& 63
theorem sw_end : ∀ a, a < 69 → a % 16 ≤ 4 → ∀ b, b < 69 → b % 16 ≤ 4 → ∀ c, c < 5 → sw5 (sw3 (2 ^ 8 * (2 ^ 8 * c + b) + a)) = a / 16 + a % 16 + (b / 16 + b % 16) + c := by decide +kernel
theorem pcn_b (P : Nat → Bool) {y a : Nat} (ha : a < 256) : ∀ n, pcn allP (2 ^ 8 * y + a) (8 + n) = pcn allP a 8 + pcn allP y n
  | 0 => by
    have h : ∀ k, k ≤ 8 → pcn allP (2 ^ 8 * y + a) k = pcn allP a k := by
      intro k
      induction k with
      | zero => intro _; rfl
      | succ k ih =>
        intro hk
        rw [pcn_s allP (2 ^ 8 * y + a) k, pcn_s allP a k, ih (by omega), Nat.testBit_two_pow_mul_add y ha, if_pos (show k < 8 by omega)]
    exact h 8 (Nat.le_refl 8)
  | n + 1 => by
    show pcn allP (2 ^ 8 * y + a) (8 + n + 1) = _
    rw [pcn_s allP (2 ^ 8 * y + a) (8 + n), pcn_s allP y n, pcn_b P ha n, Nat.testBit_two_pow_mul_add y ha, if_neg (show ¬ 8 + n < 8 by omega), show 8 + n - 8 = n from by omega, Nat.add_assoc]
    rfl
theorem sw_pc {s : Nat} (hs : s < 2 ^ 20) : sw5 (sw3 (sw2 858993459 (sw1 1431655765 s))) = pc20 s := by
  obtain ⟨a, y, ha, rfl⟩ : ∃ a y, a < 256 ∧ s = 2 ^ 8 * y + a := ⟨s % 256, s / 256, Nat.mod_lt _ (by decide), by omega⟩
  obtain ⟨b, c, hb, rfl⟩ : ∃ b c, b < 256 ∧ y = 2 ^ 8 * c + b := ⟨y % 256, y / 256, Nat.mod_lt _ (by decide), by omega⟩
  have hc : c < 16 := by omega
  obtain ⟨a1, a2, a3, a4⟩ := sw_byte a ha
  obtain ⟨b1, b2, b3, b4⟩ := sw_byte b hb
  obtain ⟨c1, c2, c3⟩ := sw_top c hc
  have e1 : sw1 1431655765 (2 ^ 8 * (2 ^ 8 * c + b) + a) = 2 ^ 8 * (2 ^ 8 * sw1 21845 c + sw1 85 b) + sw1 85 a := by
    rw [show (1431655765 : Nat) = 2 ^ 8 * 5592405 + 85 from rfl, sw1_b ha, show (5592405 : Nat) = 2 ^ 8 * 21845 + 85 from rfl, sw1_b hb]
  have e2 : sw2 858993459 (2 ^ 8 * (2 ^ 8 * sw1 21845 c + sw1 85 b) + sw1 85 a) = 2 ^ 8 * (2 ^ 8 * sw2 13107 (sw1 21845 c) + sw2 51 (sw1 85 b)) + sw2 51 (sw1 85 a) := by
    rw [show (858993459 : Nat) = 2 ^ 8 * 3355443 + 51 from rfl, sw2_b a3, show (3355443 : Nat) = 2 ^ 8 * 13107 + 51 from rfl, sw2_b b3]
  rw [e1, e2, sw_end _ a1 a2 _ b1 b2 _ c1, a4, b4, c3]
  show _ = pcn allP _ (8 + 12)
  rw [pcn_b allP ha 12]
  show _ = _ + pcn allP _ (8 + 4)
  rw [pcn_b allP hb 4]
  omega
theorem pcn_ev (s : Nat) : ∀ n, n ≤ 20 → pcn allP (s &&& 349525) n = pcn evP s n
  | 0, _ => rfl
  | n + 1, h => by
    have hl : ∀ k, k < 20 → (349525 : Nat).testBit k = evP k := by decide +kernel
    rw [pcn_s, pcn_s, pcn_ev s n (by omega), Nat.testBit_and, hl n (by omega)]
    cases s.testBit n <;> cases evP n <;> rfl
theorem pcn_eo (s : Nat) : ∀ n, pcn allP s n = pcn evP s n + pcn odP s n
  | 0 => rfl
  | n + 1 => by
    have h : odP n = !evP n := by
      unfold odP evP
      by_cases q : n % 2 = 0
      · rw [decide_eq_true q, decide_eq_false (by omega)]; rfl
      · rw [decide_eq_false q, decide_eq_true (by omega)]; rfl
    rw [pcn_s, pcn_s, pcn_s, pcn_eo s n, h]
    show _ + (if true && s.testBit n then 1 else 0) = _
    cases s.testBit n <;> cases evP n <;> simp <;> omega
theorem bal_e (s : Nat) : (2 * pc20 (s &&& 349525) = pc20 s) ↔ pcn evP s 20 = pcn odP s 20 := by
  have h1 : pc20 (s &&& 349525) = pcn evP s 20 := pcn_ev s 20 (Nat.le_refl _)
  have h2 : pc20 s = pcn evP s 20 + pcn odP s 20 := pcn_eo s 20
  rw [h1, h2]
  omega
theorem shl_inj {a b : Nat} (h : 1 <<< a = 1 <<< b) : a = b := by
  rw [Nat.one_shiftLeft, Nat.one_shiftLeft] at h
  exact (Nat.pow_right_inj (by decide)).mp h
theorem shl_lt {a : Nat} (h : a < 31) : 1 <<< a < 2 ^ 31 := by
  rw [Nat.one_shiftLeft]
  exact Nat.pow_lt_pow_right (by decide) h
theorem tlb_p {n s : Nat} (h : 0 < tl n s) : tlb n s = true := decide_eq_true h
theorem tlb_z {n s : Nat} (h : tl n s = 0) : tlb n s = false := by
  unfold tlb
  rw [h]
  rfl

set_option maxHeartbeats 1000000 in
set_option maxRecDepth 100000 in
theorem c_J6_bitCount_0f7a4 (l : Launch) (G : Gt) (s0 : Nat) (hs : s0 < 2 ^ 20) : Cr l G yJ6_bitCount_0f7a4 cJ6_bitCount_0f7a4 1 ((some .int)) 0 [.int (nI s0)] (fun H => True) (some (.int (nI (pc20 s0)))) := by
  refine cr_entry [(0, .int (nI s0))] (by decide) (Nat.le_of_ble_eq_true rfl) rfl ?_
  intro zp ze zs zm za zb zt zc Q S hK hPre hE ls hl
  have hx := S.1
  have hb := S.2.1
  have hw1 := sw1_le 1431655765 s0
  refine lv_iload_n hx hb dJ6_bitCount_0f7a4_0 rfl (lv_at hl 0 rfl) ?_
  refine lv_iload_n hx hb dJ6_bitCount_0f7a4_1 rfl (lv_at hl 0 rfl) ?_
  refine lv_iconst (v := nI 1) hx hb dJ6_bitCount_0f7a4_2 (by decide) ?_
  refine n_iushr hx hb dJ6_bitCount_0f7a4_3 (by first | omega | exact Nat.lt_of_le_of_lt Nat.and_le_left (by omega) | exact Nat.lt_of_le_of_lt Nat.and_le_right (by decide)) (by decide) ?_
  refine lv_ldcw (v := nI 1431655765) hx hb S.2.2.2.1 (S.2.2.2.2 _ q_267) dJ6_bitCount_0f7a4_4 ?_
  refine n_iand hx hb dJ6_bitCount_0f7a4_7 ?_
  refine n_isub hx hb dJ6_bitCount_0f7a4_8 hw1 ?_
  have hs1 : sw1 1431655765 s0 < 2 ^ 20 := Nat.lt_of_le_of_lt (Nat.sub_le _ _) hs
  refine w_top (v' := .int (nI (sw1 1431655765 s0))) rfl ?_
  refine lv_istore_n (lv' := [(0, .int (nI (sw1 1431655765 s0)))]) hx hb dJ6_bitCount_0f7a4_9 rfl hl (by decide) rfl (fun ls hl => ?_)
  refine lv_iload_n hx hb dJ6_bitCount_0f7a4_10 rfl (lv_at hl 0 rfl) ?_
  refine lv_ldcw (v := nI 858993459) hx hb S.2.2.2.1 (S.2.2.2.2 _ q_268) dJ6_bitCount_0f7a4_11 ?_
  refine n_iand hx hb dJ6_bitCount_0f7a4_14 ?_
  refine lv_iload_n hx hb dJ6_bitCount_0f7a4_15 rfl (lv_at hl 0 rfl) ?_
  refine lv_iconst (v := nI 2) hx hb dJ6_bitCount_0f7a4_16 (by decide) ?_
  refine n_iushr hx hb dJ6_bitCount_0f7a4_17 (by first | omega | exact Nat.lt_of_le_of_lt Nat.and_le_left (by omega) | exact Nat.lt_of_le_of_lt Nat.and_le_right (by decide)) (by decide) ?_
  refine lv_ldcw (v := nI 858993459) hx hb S.2.2.2.1 (S.2.2.2.2 _ q_268) dJ6_bitCount_0f7a4_18 ?_
  refine n_iand hx hb dJ6_bitCount_0f7a4_21 ?_
  refine n_iadd hx hb dJ6_bitCount_0f7a4_22 ?_
  have hs2 : sw2 858993459 (sw1 1431655765 s0) < 2 ^ 21 := by
    have h1 : sw1 1431655765 s0 &&& 858993459 ≤ sw1 1431655765 s0 := Nat.and_le_left
    have h2 : sw1 1431655765 s0 >>> 2 &&& 858993459 ≤ sw1 1431655765 s0 := Nat.le_trans Nat.and_le_left (by rw [Nat.shiftRight_eq_div_pow]; exact Nat.div_le_self _ _)
    show (sw1 1431655765 s0 &&& 858993459) + (sw1 1431655765 s0 >>> 2 &&& 858993459) < _
    omega
  refine w_top (v' := .int (nI (sw2 858993459 (sw1 1431655765 s0)))) rfl ?_
  refine lv_istore_n (lv' := [(0, .int (nI (sw2 858993459 (sw1 1431655765 s0))))]) hx hb dJ6_bitCount_0f7a4_23 rfl hl (by decide) rfl (fun ls hl => ?_)
  refine lv_iload_n hx hb dJ6_bitCount_0f7a4_24 rfl (lv_at hl 0 rfl) ?_
  refine lv_iload_n hx hb dJ6_bitCount_0f7a4_25 rfl (lv_at hl 0 rfl) ?_
  refine lv_iconst (v := nI 4) hx hb dJ6_bitCount_0f7a4_26 (by decide) ?_
  refine n_iushr hx hb dJ6_bitCount_0f7a4_27 (by first | omega | exact Nat.lt_of_le_of_lt Nat.and_le_left (by omega) | exact Nat.lt_of_le_of_lt Nat.and_le_right (by decide)) (by decide) ?_
  refine n_iadd hx hb dJ6_bitCount_0f7a4_28 ?_
  refine lv_ldcw (v := nI 252645135) hx hb S.2.2.2.1 (S.2.2.2.2 _ q_269) dJ6_bitCount_0f7a4_29 ?_
  refine n_iand hx hb dJ6_bitCount_0f7a4_32 ?_
  have hs3 : sw3 (sw2 858993459 (sw1 1431655765 s0)) ≤ 252645135 := Nat.and_le_right
  refine w_top (v' := .int (nI (sw3 (sw2 858993459 (sw1 1431655765 s0))))) rfl ?_
  refine lv_istore_n (lv' := [(0, .int (nI (sw3 (sw2 858993459 (sw1 1431655765 s0)))))]) hx hb dJ6_bitCount_0f7a4_33 rfl hl (by decide) rfl (fun ls hl => ?_)
  refine lv_iload_n hx hb dJ6_bitCount_0f7a4_34 rfl (lv_at hl 0 rfl) ?_
  refine lv_iload_n hx hb dJ6_bitCount_0f7a4_35 rfl (lv_at hl 0 rfl) ?_
  refine lv_bipush (v := nI 8) hx hb dJ6_bitCount_0f7a4_36 (by decide) ?_
  refine n_iushr hx hb dJ6_bitCount_0f7a4_38 (by first | omega | exact Nat.lt_of_le_of_lt Nat.and_le_left (by omega) | exact Nat.lt_of_le_of_lt Nat.and_le_right (by decide)) (by decide) ?_
  refine n_iadd hx hb dJ6_bitCount_0f7a4_39 ?_
  refine lv_istore_n (lv' := [(0, .int (nI ((sw3 (sw2 858993459 (sw1 1431655765 s0))) + ((sw3 (sw2 858993459 (sw1 1431655765 s0))) >>> 8))))]) hx hb dJ6_bitCount_0f7a4_40 rfl hl (by decide) rfl (fun ls hl => ?_)
  refine lv_iload_n hx hb dJ6_bitCount_0f7a4_41 rfl (lv_at hl 0 rfl) ?_
  refine lv_iload_n hx hb dJ6_bitCount_0f7a4_42 rfl (lv_at hl 0 rfl) ?_
  refine lv_bipush (v := nI 16) hx hb dJ6_bitCount_0f7a4_43 (by decide) ?_
  refine n_iushr hx hb dJ6_bitCount_0f7a4_45 (by first | omega | exact Nat.lt_of_le_of_lt Nat.and_le_left (by omega) | exact Nat.lt_of_le_of_lt Nat.and_le_right (by decide)) (by decide) ?_
  refine n_iadd hx hb dJ6_bitCount_0f7a4_46 ?_
  refine lv_istore_n (lv' := [(0, .int (nI (((sw3 (sw2 858993459 (sw1 1431655765 s0))) + ((sw3 (sw2 858993459 (sw1 1431655765 s0))) >>> 8)) + (((sw3 (sw2 858993459 (sw1 1431655765 s0))) + ((sw3 (sw2 858993459 (sw1 1431655765 s0))) >>> 8)) >>> 16))))]) hx hb dJ6_bitCount_0f7a4_47 rfl hl (by decide) rfl (fun ls hl => ?_)
  refine lv_iload_n hx hb dJ6_bitCount_0f7a4_48 rfl (lv_at hl 0 rfl) ?_
  refine lv_bipush (v := nI 63) hx hb dJ6_bitCount_0f7a4_49 (by decide) ?_
  refine n_iand hx hb dJ6_bitCount_0f7a4_51 ?_
  refine w_top (v' := .int (nI (pc20 s0))) (congrArg (fun z => Value.int (nI z)) (show ((((sw3 (sw2 858993459 (sw1 1431655765 s0))) + ((sw3 (sw2 858993459 (sw1 1431655765 s0))) >>> 8)) + (((sw3 (sw2 858993459 (sw1 1431655765 s0))) + ((sw3 (sw2 858993459 (sw1 1431655765 s0))) >>> 8)) >>> 16)) &&& 63) = (pc20 s0) from sw_pc hs)) ?_
  exact hE _ _ (kr_i dJ6_bitCount_0f7a4_52)

set_option maxHeartbeats 1000000 in
set_option maxRecDepth 100000 in
theorem c_X5_isBalanced (l : Launch) (G : Gt) (s0 : Nat) (hs : s0 < 2 ^ 20) : Cr l G yX5_isBalanced cX5_isBalanced 1 ((some .boolean)) 1 [.int (nI s0)] (fun H => True) (some (.int (b2i (decide (pcn evP s0 20 = pcn odP s0 20))))) := by
  refine cr_entry [(0, .int (nI s0))] (by decide) (Nat.le_of_ble_eq_true rfl) rfl ?_
  intro zp ze zs zm za zb zt zc Q S hK hPre hE ls hl
  have hx := S.1
  have hb := S.2.1
  have hb1 := pcn_le allP (s0 &&& 349525) 20
  have hb2 := pcn_le allP s0 20
  refine lv_iconst (v := nI 2) hx hb dX5_isBalanced_0 (by decide) ?_
  refine lv_iload_n hx hb dX5_isBalanced_1 rfl (lv_at hl 0 rfl) ?_
  refine lv_ldc (v := nI 349525) hx hb S.2.2.2.1 (S.2.2.2.2 _ q_263) dX5_isBalanced_2 ?_
  refine n_iand hx hb dX5_isBalanced_4 ?_
  refine crS (rest := [.int (nI 2)]) S hK (c_J6_bitCount_0f7a4 l G (s0 &&& 349525) (Nat.lt_of_le_of_lt Nat.and_le_left hs)) cw_X5_12 rfl ⟨Nat.le_of_ble_eq_true rfl, Nat.le_of_ble_eq_true rfl⟩ ⟨Nat.le_of_ble_eq_true rfl, Nat.le_of_ble_eq_true rfl⟩ hl.1 rfl (Nat.le_of_ble_eq_true rfl) dX5_isBalanced_5 trivial ?_
  refine n_imul hx hb dX5_isBalanced_8 ?_
  refine lv_iload_n hx hb dX5_isBalanced_9 rfl (lv_at hl 0 rfl) ?_
  refine crS (rest := [.int (nI (2 * (pc20 (s0 &&& 349525))))]) S hK (c_J6_bitCount_0f7a4 l G s0 (by first | assumption | omega | decide)) cw_X5_12 rfl ⟨Nat.le_of_ble_eq_true rfl, Nat.le_of_ble_eq_true rfl⟩ ⟨Nat.le_of_ble_eq_true rfl, Nat.le_of_ble_eq_true rfl⟩ hl.1 rfl (Nat.le_of_ble_eq_true rfl) dX5_isBalanced_10 trivial ?_
  refine n_icmp_ne (tgt := 20) hx hb dX5_isBalanced_13 (by decide) (show 2 * pcn allP (s0 &&& 349525) 20 < 2 ^ 31 by omega) (show pcn allP s0 20 < 2 ^ 31 by omega) (fun c_13 => ?_) (fun c_13 => ?_)
  ·
    have hr : decide (pcn evP s0 20 = pcn odP s0 20) = false := decide_eq_false (fun q => c_13 ((bal_e s0).mpr q))
    refine lv_iconst (v := nI 0) hx hb dX5_isBalanced_20 (by decide) ?_
    refine w_top (v' := .int (b2i (decide (pcn evP s0 20 = pcn odP s0 20)))) (bz_f (show (decide (pcn evP s0 20 = pcn odP s0 20)) = false from hr)) ?_
    exact hE _ _ (kr_z dX5_isBalanced_21)
  ·
    have hr : decide (pcn evP s0 20 = pcn odP s0 20) = true := decide_eq_true ((bal_e s0).mp (by first | exact c_13 | omega))
    refine lv_iconst (v := nI 1) hx hb dX5_isBalanced_16 (by decide) ?_
    refine lv_goto (tgt := 21) hx hb dX5_isBalanced_17 (by decide) ?_
    refine w_top (v' := .int (b2i (decide (pcn evP s0 20 = pcn odP s0 20)))) (bz_t (show (decide (pcn evP s0 20 = pcn odP s0 20)) = true from hr)) ?_
    exact hE _ _ (kr_z dX5_isBalanced_21)

set_option maxHeartbeats 1000000 in
set_option maxRecDepth 100000 in
theorem c_X5_numberFrom (l : Launch) (G : Gt) : ∀ (n : Nat) (s0 : Nat) (d : Nat), (s0 < 2 ^ 20) → (d + n = 10) → Cr l G yX5_numberFrom cX5_numberFrom 4 ((some .int)) (n + 1) [.int (nI s0), .int (nI d)] (fun H => True) (some (.int (nI (tl n s0)))) := by
  intro n
  induction n with
  | zero =>
    intro s0 d hs hd
    refine cr_entry [(0, .int (nI s0)), (1, .int (nI d))] (by decide) (Nat.le_of_ble_eq_true rfl) rfl ?_
    intro zp ze zs zm za zb zt zc Q S hK hPre hE ls hl
    have hx := S.1
    have hb := S.2.1
    refine lv_iload_n hx hb dX5_numberFrom_0 rfl (lv_at hl 0 rfl) ?_
    refine n_if_ne (tgt := 6) hx hb dX5_numberFrom_1 (by decide) (by first | omega | exact Nat.lt_of_le_of_lt Nat.and_le_left (by omega)) (fun c_1 => ?_) (fun c_1 => ?_)
    ·
      refine lv_iload_n hx hb dX5_numberFrom_6 rfl (lv_at hl 1 rfl) ?_
      refine lv_bipush (v := nI 10) hx hb dX5_numberFrom_7 (by decide) ?_
      refine n_icmp_lt (tgt := 14) hx hb dX5_numberFrom_9 (by decide) (by first | omega | exact Nat.lt_of_le_of_lt Nat.and_le_left (by omega)) (by decide) (fun c_9 => ?_) (fun c_9 => ?_)
      ·
        exact absurd c_9 (by omega)
      ·
        refine lv_iconst (v := nI 0) hx hb dX5_numberFrom_12 (by decide) ?_
        refine w_top (v' := .int (nI (tl 0 s0))) (congrArg (fun z => Value.int (nI z)) (show 0 = (tl 0 s0) from by unfold tl; rw [if_neg c_1])) ?_
        exact hE _ _ (kr_i dX5_numberFrom_13)
    ·
      refine lv_iconst (v := nI 1) hx hb dX5_numberFrom_4 (by decide) ?_
      refine w_top (v' := .int (nI (tl 0 s0))) (congrArg (fun z => Value.int (nI z)) (show 1 = (tl 0 s0) from by rw [c_1, tl_z])) ?_
      exact hE _ _ (kr_i dX5_numberFrom_5)
  | succ n ih =>
    intro s0 d hs hd
    refine cr_entry [(0, .int (nI s0)), (1, .int (nI d))] (by decide) (Nat.le_of_ble_eq_true rfl) rfl ?_
    intro zp ze zs zm za zb zt zc Q S hK hPre hE ls hl
    have hx := S.1
    have hb := S.2.1
    refine lv_iload_n hx hb dX5_numberFrom_0 rfl (lv_at hl 0 rfl) ?_
    refine n_if_ne (tgt := 6) hx hb dX5_numberFrom_1 (by decide) (by first | omega | exact Nat.lt_of_le_of_lt Nat.and_le_left (by omega)) (fun c_1 => ?_) (fun c_1 => ?_)
    ·
      refine lv_iload_n hx hb dX5_numberFrom_6 rfl (lv_at hl 1 rfl) ?_
      refine lv_bipush (v := nI 10) hx hb dX5_numberFrom_7 (by decide) ?_
      refine n_icmp_lt (tgt := 14) hx hb dX5_numberFrom_9 (by decide) (by first | omega | exact Nat.lt_of_le_of_lt Nat.and_le_left (by omega)) (by decide) (fun c_9 => ?_) (fun c_9 => ?_)
      ·
        have hk20 := (ct_spec c_1 hs).1
        refine lv_iload_n hx hb dX5_numberFrom_14 rfl (lv_at hl 0 rfl) ?_
        refine lv_iload_n hx hb dX5_numberFrom_15 rfl (lv_at hl 0 rfl) ?_
        refine lv_ineg hx hb dX5_numberFrom_16 ?_
        refine lv_iand hx hb dX5_numberFrom_17 ?_
        refine w_top (v' := .int (nI (1 <<< ct s0))) (congrArg (fun z => Value.int z) (low_I c_1 hs)) ?_
        refine lv_istore_n (lv' := [(2, .int (nI (1 <<< ct s0))), (0, .int (nI s0)), (1, .int (nI d))]) hx hb dX5_numberFrom_18 rfl hl (by decide) rfl (fun ls hl => ?_)
        refine lv_iconst (v := nI 0) hx hb dX5_numberFrom_19 (by decide) ?_
        refine lv_istore_n (lv' := [(3, .int (nI 0)), (2, .int (nI (1 <<< ct s0))), (0, .int (nI s0)), (1, .int (nI d))]) hx hb dX5_numberFrom_20 rfl hl (by decide) rfl (fun ls hl => ?_)
        have L47 : ∀ (va : Nat), (va = if rgt s0 (ct s0) then tl n (andn s0 (3 <<< ct s0)) else 0) → ∀ ls : Array Slot, lv_has ls 4 [(0, .int (nI s0)), (1, .int (nI d)), (2, .int (nI (1 <<< ct s0))), (3, .int (nI va))] → W zp l ze (rL ((n + 1) + 1) 0 0) zs zm za zb zt zc zs.heap [] 0 0 Q (F0 zm 47 ls []) := by
          intro va hva ls hl
          refine lv_iload_n hx hb dX5_numberFrom_47 rfl (lv_at hl 0 rfl) ?_
          refine lv_iload_n hx hb dX5_numberFrom_48 rfl (lv_at hl 2 rfl) ?_
          refine lv_iconst (v := nI 5) hx hb dX5_numberFrom_49 (by decide) ?_
          refine n_ishl hx hb dX5_numberFrom_50 (by decide) ?_
          refine n_iand hx hb dX5_numberFrom_51 ?_
          refine n_if_eq (tgt := 73) hx hb dX5_numberFrom_52 (by decide) (by first | omega | exact Nat.lt_of_le_of_lt Nat.and_le_left (by omega)) (fun c_52 => ?_) (fun c_52 => ?_)
          ·
            have hdw : dwn s0 (ct s0) = false := dwn_0.mp c_52
            refine lv_iload_n hx hb dX5_numberFrom_73 rfl (lv_at hl 3 rfl) ?_
            refine w_top (v' := .int (nI (tl (n + 1) s0))) (congrArg (fun z => Value.int (nI z)) (show va = (tl (n + 1) s0) from by first | (rw [tl_s c_1, hva, if_pos hdw]; done) | (rw [tl_s c_1, hva, if_neg (c := dwn s0 (ct s0) = true) (by rw [hdw]; decide)]; rfl))) ?_
            exact hE _ _ (kr_i dX5_numberFrom_74)
          ·
            have hdw : dwn s0 (ct s0) = true := by
              have q := mt dwn_0.mpr c_52
              simpa using q
            refine lv_iload_n hx hb dX5_numberFrom_55 rfl (lv_at hl 3 rfl) ?_
            refine lv_iload_n hx hb dX5_numberFrom_56 rfl (lv_at hl 0 rfl) ?_
            refine lv_iload_n hx hb dX5_numberFrom_57 rfl (lv_at hl 2 rfl) ?_
            refine lv_iload_n hx hb dX5_numberFrom_58 rfl (lv_at hl 2 rfl) ?_
            refine lv_iconst (v := nI 5) hx hb dX5_numberFrom_59 (by decide) ?_
            refine n_ishl hx hb dX5_numberFrom_60 (by decide) ?_
            refine n_ior hx hb dX5_numberFrom_61 ?_
            refine lv_iconst (v := (-1)) hx hb dX5_numberFrom_62 (by decide) ?_
            refine lv_ixor hx hb dX5_numberFrom_63 ?_
            refine n_iandn hx hb dX5_numberFrom_64 ?_
            refine w_top (v' := .int (nI (andn s0 (33 <<< ct s0)))) (congrArg (fun z => Value.int (nI (andn s0 z))) (shl_33 _)) ?_
            refine lv_iload_n hx hb dX5_numberFrom_65 rfl (lv_at hl 1 rfl) ?_
            refine lv_iconst (v := nI 1) hx hb dX5_numberFrom_66 (by decide) ?_
            refine n_iadd hx hb dX5_numberFrom_67 ?_
            refine crS (rest := [.int (nI va)]) S hK (ih (andn s0 (33 <<< ct s0)) (d + 1) (andn_lt hs) (by omega)) cw_X5_22 rfl ⟨by simp only [rL]; omega, by simp only [rL]; omega⟩ ⟨Nat.le_of_ble_eq_true rfl, Nat.le_of_ble_eq_true rfl⟩ hl.1 rfl (Nat.le_of_ble_eq_true rfl) dX5_numberFrom_68 trivial ?_
            refine n_iadd hx hb dX5_numberFrom_71 ?_
            refine lv_istore_n (lv' := [(3, .int (nI (va + (tl n (andn s0 (33 <<< ct s0)))))), (0, .int (nI s0)), (1, .int (nI d)), (2, .int (nI (1 <<< ct s0)))]) hx hb dX5_numberFrom_72 rfl hl (by decide) rfl (fun ls hl => ?_)
            refine lv_iload_n hx hb dX5_numberFrom_73 rfl (lv_at hl 0 rfl) ?_
            refine w_top (v' := .int (nI (tl (n + 1) s0))) (congrArg (fun z => Value.int (nI z)) (show (va + (tl n (andn s0 (33 <<< ct s0)))) = (tl (n + 1) s0) from by first | (rw [tl_s c_1, hva, if_pos hdw]; done) | (rw [tl_s c_1, hva, if_neg (c := dwn s0 (ct s0) = true) (by rw [hdw]; decide)]; rfl))) ?_
            exact hE _ _ (kr_i dX5_numberFrom_74)
        refine lv_iload_n hx hb dX5_numberFrom_21 rfl (lv_at hl 2 rfl) ?_
        refine lv_iload_n hx hb dX5_numberFrom_22 rfl (lv_at hl 1 rfl) ?_
        refine crS (rest := []) S hK (c_X5_goesRight l G s0 (1 <<< ct s0) (by first | assumption | omega | decide)) cw_X5_26 rfl ⟨by simp only [rL]; omega, by simp only [rL]; omega⟩ ⟨Nat.le_of_ble_eq_true rfl, Nat.le_of_ble_eq_true rfl⟩ hl.1 rfl (Nat.le_of_ble_eq_true rfl) dX5_numberFrom_23 trivial ?_
        refine z_if_eq (tgt := 47) hx hb dX5_numberFrom_26 (by decide) (fun c_26 => ?_) (fun c_26 => ?_)
        ·
          have hrg : rgt s0 (ct s0) = false := by rw [← gR_rgt hk20]; exact c_26
          exact L47 0 (by rw [if_neg (by rw [hrg]; decide)]) ls (lv_sub hl [2, 3, 1, 0] rfl)
        ·
          have hrg : rgt s0 (ct s0) = true := by rw [← gR_rgt hk20]; exact c_26
          refine lv_iload_n hx hb dX5_numberFrom_29 rfl (lv_at hl 0 rfl) ?_
          refine lv_iload_n hx hb dX5_numberFrom_30 rfl (lv_at hl 2 rfl) ?_
          refine lv_iload_n hx hb dX5_numberFrom_31 rfl (lv_at hl 1 rfl) ?_
          refine lv_iload_n hx hb dX5_numberFrom_32 rfl (lv_at hl 1 rfl) ?_
          refine lv_iconst (v := nI 1) hx hb dX5_numberFrom_33 (by decide) ?_
          refine n_ishl hx hb dX5_numberFrom_34 (by decide) ?_
          refine n_ior hx hb dX5_numberFrom_35 ?_
          refine lv_iconst (v := (-1)) hx hb dX5_numberFrom_36 (by decide) ?_
          refine lv_ixor hx hb dX5_numberFrom_37 ?_
          refine n_iandn hx hb dX5_numberFrom_38 ?_
          refine w_top (v' := .int (nI (andn s0 (3 <<< ct s0)))) (congrArg (fun z => Value.int (nI (andn s0 z))) (shl_3 _)) ?_
          refine lv_iload_n hx hb dX5_numberFrom_39 rfl (lv_at hl 3 rfl) ?_
          refine lv_iconst (v := nI 1) hx hb dX5_numberFrom_40 (by decide) ?_
          refine n_iadd hx hb dX5_numberFrom_41 ?_
          refine crS (rest := [.int (nI 0)]) S hK (ih (andn s0 (3 <<< ct s0)) (d + 1) (andn_lt hs) (by omega)) cw_X5_22 rfl ⟨by simp only [rL]; omega, by simp only [rL]; omega⟩ ⟨Nat.le_of_ble_eq_true rfl, Nat.le_of_ble_eq_true rfl⟩ hl.1 rfl (Nat.le_of_ble_eq_true rfl) dX5_numberFrom_42 trivial ?_
          refine n_iadd hx hb dX5_numberFrom_45 ?_
          refine lv_istore_n (lv' := [(3, .int (nI (0 + (tl n (andn s0 (3 <<< ct s0)))))), (2, .int (nI (1 <<< ct s0))), (0, .int (nI s0)), (1, .int (nI d))]) hx hb dX5_numberFrom_46 rfl hl (by decide) rfl (fun ls hl => ?_)
          exact L47 (0 + (tl n (andn s0 (3 <<< ct s0)))) (by rw [if_pos hrg]; omega) ls (lv_sub hl [2, 3, 1, 0] rfl)
      ·
        exact absurd c_9 (by omega)
    ·
      refine lv_iconst (v := nI 1) hx hb dX5_numberFrom_4 (by decide) ?_
      refine w_top (v' := .int (nI (tl (n + 1) s0))) (congrArg (fun z => Value.int (nI z)) (show 1 = (tl (n + 1) s0) from by rw [c_1, tl_z])) ?_
      exact hE _ _ (kr_i dX5_numberFrom_5)

set_option maxHeartbeats 1000000 in
set_option maxRecDepth 100000 in
theorem c_X5_number (l : Launch) (G : Gt) (s0 : Nat) (hs : s0 < 2 ^ 20) : Cr l G yX5_number cX5_number 1 ((some .int)) 12 [.int (nI s0)] (fun H => True) (some (.int (nI (tl 10 s0)))) := by
  refine cr_entry [(0, .int (nI s0))] (by decide) (Nat.le_of_ble_eq_true rfl) rfl ?_
  intro zp ze zs zm za zb zt zc Q S hK hPre hE ls hl
  have hx := S.1
  have hb := S.2.1
  refine lv_iload_n hx hb dX5_number_0 rfl (lv_at hl 0 rfl) ?_
  refine crS (rest := []) S hK (c_X5_isBalanced l G s0 (by first | assumption | omega | decide)) cw_X5_18 rfl ⟨Nat.le_of_ble_eq_true rfl, Nat.le_of_ble_eq_true rfl⟩ ⟨Nat.le_of_ble_eq_true rfl, Nat.le_of_ble_eq_true rfl⟩ hl.1 rfl (Nat.le_of_ble_eq_true rfl) dX5_number_1 trivial ?_
  refine z_if_eq (tgt := 15) hx hb dX5_number_4 (by decide) (fun c_4 => ?_) (fun c_4 => ?_)
  ·
    refine lv_iconst (v := nI 0) hx hb dX5_number_15 (by decide) ?_
    refine w_top (v' := .int (nI (tl 10 s0))) (congrArg (fun z => Value.int (nI z)) (show 0 = (tl 10 s0) from by
      rcases Nat.eq_zero_or_pos (tl 10 s0) with q | q
      · exact q.symm
      · exact absurd (tl_bal 10 s0 hs q) (of_decide_eq_false c_4))) ?_
    exact hE _ _ (kr_i dX5_number_16)
  ·
    refine lv_iload_n hx hb dX5_number_7 rfl (lv_at hl 0 rfl) ?_
    refine lv_iconst (v := nI 0) hx hb dX5_number_8 (by decide) ?_
    refine crS (rest := []) S hK (c_X5_numberFrom l G 10 s0 0 (by first | assumption | omega | decide) rfl) cw_X5_22 rfl ⟨Nat.le_of_ble_eq_true rfl, Nat.le_of_ble_eq_true rfl⟩ ⟨Nat.le_of_ble_eq_true rfl, Nat.le_of_ble_eq_true rfl⟩ hl.1 rfl (Nat.le_of_ble_eq_true rfl) dX5_number_9 trivial ?_
    refine lv_goto (tgt := 16) hx hb dX5_number_12 (by decide) ?_
    exact hE _ _ (kr_i dX5_number_16)

set_option maxHeartbeats 1000000 in
set_option maxRecDepth 100000 in
theorem c_X5_firstCoverOf (l : Launch) (G : Gt) (s0 : Nat) (own : Nat) (hs : s0 < 2 ^ 20) (ht : tlb 10 s0 = true) (ho : s0.testBit own = true) : Cr l G yX5_firstCoverOf cX5_firstCoverOf 7 ((some .int)) 13 [.int (nI s0), .int (nI (1 <<< own))] (fun H => True) (some (.int (nI (fcv 10 s0 own)))) := by
  refine cr_entry [(0, .int (nI s0)), (1, .int (nI (1 <<< own)))] (by decide) (Nat.le_of_ble_eq_true rfl) rfl ?_
  intro zp ze zs zm za zb zt zc Q S hK hPre hE ls hl
  have hx := S.1
  have hb := S.2.1
  have hown := tb_in hs ho
  refine lv_iload_n hx hb dX5_firstCoverOf_0 rfl (lv_at hl 0 rfl) ?_
  refine lv_istore_n (lv' := [(2, .int (nI s0)), (0, .int (nI s0)), (1, .int (nI (1 <<< own)))]) hx hb dX5_firstCoverOf_1 rfl hl (by decide) rfl (fun ls hl => ?_)
  refine lv_iconst (v := nI 0) hx hb dX5_firstCoverOf_2 (by decide) ?_
  refine lv_istore_n (lv' := [(3, .int (nI 0)), (2, .int (nI s0)), (0, .int (nI s0)), (1, .int (nI (1 <<< own)))]) hx hb dX5_firstCoverOf_3 rfl hl (by decide) rfl (fun ls hl => ?_)
  have L4 : ∀ (fu : Nat), ∀ (vn : Nat) (va : Nat), (va < 2 ^ 20) → (tlb 10 va = true) → (va.testBit own = true) → (pc20 va ≤ 2 * vn) → (vn ≤ 10) → (fcv vn va own = fcv 10 s0 own) → vn < fu → ∀ ls : Array Slot, lv_has ls 7 [(1, .int (nI (1 <<< own))), (2, .int (nI va)), (3, .int (nI (10 - vn)))] → W zp l ze (rL 13 0 0) zs zm za zb zt zc zs.heap [] 0 0 Q (F0 zm 4 ls []) := by
    intro fu
    induction fu with
    | zero =>
      intro vn va hva hvt hvo hvp2 hvn hfin hmu ls hl
      exact absurd hmu (Nat.not_lt_zero _)
    | succ fu ih4 =>
      intro vn va hva hvt hvo hvp2 hvn hfin hmu ls hl
      have hva0 : ¬ va = 0 := by
        intro q
        rw [q] at hvo
        simp at hvo
      obtain ⟨vm, hvm⟩ : ∃ m, vn = m + 1 := by
        cases vn with
        | zero => exact absurd (pc_z hva (by omega)) hva0
        | succ m => exact ⟨m, rfl⟩
      subst hvm
      obtain ⟨hk1, hk2, hk3⟩ := ct_spec hva0 hva
      refine lv_iload_n hx hb dX5_firstCoverOf_4 rfl (lv_at hl 2 rfl) ?_
      refine lv_bipush (v := nI 10) hx hb dX5_firstCoverOf_5 (by decide) ?_
      refine n_icmp_ge (tgt := 121) hx hb dX5_firstCoverOf_7 (by decide) (by first | omega | exact shl_lt (by omega) | exact Nat.lt_of_le_of_lt (tl_le 10 _) (by decide)) (by decide) (fun c_7 => ?_) (fun c_7 => ?_)
      ·
        exact absurd c_7 (by omega)
      ·
        refine lv_iload_n hx hb dX5_firstCoverOf_10 rfl (lv_at hl 1 rfl) ?_
        refine n_if_eq (tgt := 121) hx hb dX5_firstCoverOf_11 (by decide) (by first | omega | exact shl_lt (by omega) | exact Nat.lt_of_le_of_lt (tl_le 10 _) (by decide)) (fun c_11 => ?_) (fun c_11 => ?_)
        ·
          exact absurd c_11 hva0
        ·
          refine lv_iload_n hx hb dX5_firstCoverOf_14 rfl (lv_at hl 1 rfl) ?_
          refine lv_iload_n hx hb dX5_firstCoverOf_15 rfl (lv_at hl 1 rfl) ?_
          refine lv_ineg hx hb dX5_firstCoverOf_16 ?_
          refine lv_iand hx hb dX5_firstCoverOf_17 ?_
          refine w_top (v' := .int (nI (1 <<< ct va))) (congrArg (fun z => Value.int z) (low_I hva0 hva)) ?_
          refine lv_istore (lv' := [(4, .int (nI (1 <<< ct va))), (1, .int (nI (1 <<< own))), (2, .int (nI va)), (3, .int (nI (10 - (vm + 1))))]) hx hb dX5_firstCoverOf_18 hl (by decide) rfl (fun ls hl => ?_)
          refine lv_iload_n hx hb dX5_firstCoverOf_20 rfl (lv_at hl 2 rfl) ?_
          refine lv_iload hx hb dX5_firstCoverOf_21 (lv_at hl 0 rfl) ?_
          refine crS (rest := []) S hK (c_X5_goesRight l G va (1 <<< ct va) (by first | assumption | omega | decide)) cw_X5_26 rfl ⟨Nat.le_of_ble_eq_true rfl, Nat.le_of_ble_eq_true rfl⟩ ⟨Nat.le_of_ble_eq_true rfl, Nat.le_of_ble_eq_true rfl⟩ hl.1 rfl (Nat.le_of_ble_eq_true rfl) dX5_firstCoverOf_23 trivial ?_
          refine z_if_eq (tgt := 50) hx hb dX5_firstCoverOf_26 (by decide) (fun c_26 => ?_) (fun c_26 => ?_)
          ·
            have hrg : rgt va (ct va) = false := by rw [← gR_rgt hk1]; exact c_26
            have hzz : (rgt va (ct va) && tlb 10 (andn va (3 <<< ct va))) = false := by rw [hrg]; rfl
            refine lv_iconst (v := nI 0) hx hb dX5_firstCoverOf_50 (by decide) ?_
            refine lv_istore (lv' := [(5, .int (nI 0)), (4, .int (nI (1 <<< ct va))), (1, .int (nI (1 <<< own))), (2, .int (nI va)), (3, .int (nI (10 - (vm + 1))))]) hx hb dX5_firstCoverOf_51 hl (by decide) rfl (fun ls hl => ?_)
            refine lv_iload hx hb dX5_firstCoverOf_53 (lv_at hl 0 rfl) ?_
            refine n_if_eq (tgt := 65) hx hb dX5_firstCoverOf_55 (by decide) (by decide) (fun c_55 => ?_) (fun c_55 => ?_)
            ·
              refine lv_iload hx hb dX5_firstCoverOf_65 (lv_at hl 1 rfl) ?_
              refine lv_iconst (v := nI 5) hx hb dX5_firstCoverOf_67 (by decide) ?_
              refine n_ishl hx hb dX5_firstCoverOf_68 (by decide) ?_
              refine w_top (v' := .int (nI (1 <<< (ct va + 5)))) (congrArg (fun z => Value.int (nI z)) (Nat.shiftLeft_add 1 (ct va) 5).symm) ?_
              refine lv_istore (lv' := [(6, .int (nI (1 <<< (ct va + 5)))), (5, .int (nI 0)), (4, .int (nI (1 <<< ct va))), (1, .int (nI (1 <<< own))), (2, .int (nI va)), (3, .int (nI (10 - (vm + 1))))]) hx hb dX5_firstCoverOf_69 hl (by decide) rfl (fun ls hl => ?_)
              refine lv_iload_n hx hb dX5_firstCoverOf_71 rfl (lv_at hl 3 rfl) ?_
              refine lv_iload hx hb dX5_firstCoverOf_72 (lv_at hl 2 rfl) ?_
              refine n_icmp_ne (tgt := 88) hx hb dX5_firstCoverOf_74 (by decide) (by first | omega | exact shl_lt (by omega) | exact Nat.lt_of_le_of_lt (tl_le 10 _) (by decide)) (by first | omega | exact shl_lt (by omega) | exact Nat.lt_of_le_of_lt (tl_le 10 _) (by decide)) (fun c_74 => ?_) (fun c_74 => ?_)
              ·
                have hn1 : ¬ ct va = own := fun q => c_74 (by rw [q])
                refine lv_iload_n hx hb dX5_firstCoverOf_88 rfl (lv_at hl 3 rfl) ?_
                refine lv_iload hx hb dX5_firstCoverOf_89 (lv_at hl 0 rfl) ?_
                refine n_icmp_ne (tgt := 105) hx hb dX5_firstCoverOf_91 (by decide) (by first | omega | exact shl_lt (by omega) | exact Nat.lt_of_le_of_lt (tl_le 10 _) (by decide)) (by first | omega | exact shl_lt (by omega) | exact Nat.lt_of_le_of_lt (tl_le 10 _) (by decide)) (fun c_91 => ?_) (fun c_91 => ?_)
                ·
                  have hn2 : ¬ ct va + 5 = own := fun q => c_91 (by rw [← q])
                  refine lv_iload_n hx hb dX5_firstCoverOf_105 rfl (lv_at hl 4 rfl) ?_
                  refine lv_iload hx hb dX5_firstCoverOf_106 (lv_at hl 2 rfl) ?_
                  refine lv_iload hx hb dX5_firstCoverOf_108 (lv_at hl 0 rfl) ?_
                  refine n_ior hx hb dX5_firstCoverOf_110 ?_
                  refine lv_iconst (v := (-1)) hx hb dX5_firstCoverOf_111 (by decide) ?_
                  refine lv_ixor hx hb dX5_firstCoverOf_112 ?_
                  refine n_iandn hx hb dX5_firstCoverOf_113 ?_
                  refine lv_istore_n (lv' := [(2, .int (nI (andn va ((1 <<< ct va) ||| (1 <<< (ct va + 5)))))), (6, .int (nI (1 <<< (ct va + 5)))), (5, .int (nI 0)), (4, .int (nI (1 <<< ct va))), (1, .int (nI (1 <<< own))), (3, .int (nI (10 - (vm + 1))))]) hx hb dX5_firstCoverOf_114 rfl hl (by decide) rfl (fun ls hl => ?_)
                  refine lv_iinc (v := nI (10 - (vm + 1) + 1)) (lv' := [(3, .int (nI (10 - (vm + 1) + 1))), (2, .int (nI (andn va ((1 <<< ct va) ||| (1 <<< (ct va + 5)))))), (6, .int (nI (1 <<< (ct va + 5)))), (5, .int (nI 0)), (4, .int (nI (1 <<< ct va))), (1, .int (nI (1 <<< own)))]) hx hb dX5_firstCoverOf_115 hl (k := 5) rfl (inc1 _) (by decide) rfl (fun ls hl => ?_)
                  refine lv_goto (tgt := 4) hx hb dX5_firstCoverOf_118 (by decide) ?_
                  obtain ⟨vm2, hvm2, hg1, hg2, hg3, hg4⟩ := fcv_go hva hvt hvo hvp2 hvn false hzz hn1 hn2
                  have hvm3 : vm = vm2 := by omega
                  subst hvm3
                  replace hl := lv_eq 0 hl rfl (v2 := .int (nI (10 - vm))) (congrArg (fun z => Value.int (nI z)) (show (10 - (vm + 1) + 1) = (10 - vm) from by first | rfl | omega))
                  exact ih4 vm (andn va ((1 <<< ct va) ||| (1 <<< (ct va + 5)))) hg1 hg2 hg3 hg4 (by omega) ((fcv_3 false hzz hn1 hn2).symm.trans hfin) (by omega) ls (lv_sub hl [5, 1, 0] rfl)
                ·
                  have he2 := (shl_inj c_91).symm
                  refine lv_iload hx hb dX5_firstCoverOf_94 (lv_at hl 1 rfl) ?_
                  refine n_if_eq (tgt := 103) hx hb dX5_firstCoverOf_96 (by decide) (by decide) (fun c_96 => ?_) (fun c_96 => ?_)
                  ·
                    refine lv_iconst (v := nI 4) hx hb dX5_firstCoverOf_103 (by decide) ?_
                    refine w_top (v' := .int (nI (fcv 10 s0 own))) (congrArg (fun z => Value.int (nI z)) (show 4 = (fcv 10 s0 own) from (hfin.symm.trans (fcv_2 false hzz hn1 he2)).symm)) ?_
                    exact hE _ _ (kr_i dX5_firstCoverOf_104)
                  ·
                    exact absurd c_96 (by decide)
              ·
                have he1 : ct va = own := (shl_inj c_74).symm
                refine lv_iload hx hb dX5_firstCoverOf_77 (lv_at hl 1 rfl) ?_
                refine n_if_eq (tgt := 86) hx hb dX5_firstCoverOf_79 (by decide) (by decide) (fun c_79 => ?_) (fun c_79 => ?_)
                ·
                  refine lv_iconst (v := nI 2) hx hb dX5_firstCoverOf_86 (by decide) ?_
                  refine w_top (v' := .int (nI (fcv 10 s0 own))) (congrArg (fun z => Value.int (nI z)) (show 2 = (fcv 10 s0 own) from (hfin.symm.trans (fcv_1 false hzz he1)).symm)) ?_
                  exact hE _ _ (kr_i dX5_firstCoverOf_87)
                ·
                  exact absurd c_79 (by decide)
            ·
              exact absurd c_55 (by decide)
          ·
            have hrg : rgt va (ct va) = true := by rw [← gR_rgt hk1]; exact c_26
            refine lv_iload_n hx hb dX5_firstCoverOf_29 rfl (lv_at hl 2 rfl) ?_
            refine lv_iload hx hb dX5_firstCoverOf_30 (lv_at hl 0 rfl) ?_
            refine lv_iload hx hb dX5_firstCoverOf_32 (lv_at hl 0 rfl) ?_
            refine lv_iconst (v := nI 1) hx hb dX5_firstCoverOf_34 (by decide) ?_
            refine n_ishl hx hb dX5_firstCoverOf_35 (by decide) ?_
            refine n_ior hx hb dX5_firstCoverOf_36 ?_
            refine lv_iconst (v := (-1)) hx hb dX5_firstCoverOf_37 (by decide) ?_
            refine lv_ixor hx hb dX5_firstCoverOf_38 ?_
            refine n_iandn hx hb dX5_firstCoverOf_39 ?_
            refine w_top (v' := .int (nI (andn va (3 <<< ct va)))) (congrArg (fun z => Value.int (nI (andn va z))) (shl_3 _)) ?_
            refine crS (rest := []) S hK (c_X5_number l G (andn va (3 <<< ct va)) (andn_lt hva)) cw_X5_31 rfl ⟨Nat.le_of_ble_eq_true rfl, Nat.le_of_ble_eq_true rfl⟩ ⟨Nat.le_of_ble_eq_true rfl, Nat.le_of_ble_eq_true rfl⟩ hl.1 rfl (Nat.le_of_ble_eq_true rfl) dX5_firstCoverOf_40 trivial ?_
            refine n_if_le (tgt := 50) hx hb dX5_firstCoverOf_43 (by decide) (by first | omega | exact shl_lt (by omega) | exact Nat.lt_of_le_of_lt (tl_le 10 _) (by decide)) (fun c_43 => ?_) (fun c_43 => ?_)
            ·
              have hzz : (rgt va (ct va) && tlb 10 (andn va (3 <<< ct va))) = false := by rw [hrg, tlb_z c_43]; rfl
              refine lv_iconst (v := nI 0) hx hb dX5_firstCoverOf_50 (by decide) ?_
              refine lv_istore (lv' := [(5, .int (nI 0)), (4, .int (nI (1 <<< ct va))), (1, .int (nI (1 <<< own))), (2, .int (nI va)), (3, .int (nI (10 - (vm + 1))))]) hx hb dX5_firstCoverOf_51 hl (by decide) rfl (fun ls hl => ?_)
              refine lv_iload hx hb dX5_firstCoverOf_53 (lv_at hl 0 rfl) ?_
              refine n_if_eq (tgt := 65) hx hb dX5_firstCoverOf_55 (by decide) (by decide) (fun c_55 => ?_) (fun c_55 => ?_)
              ·
                refine lv_iload hx hb dX5_firstCoverOf_65 (lv_at hl 1 rfl) ?_
                refine lv_iconst (v := nI 5) hx hb dX5_firstCoverOf_67 (by decide) ?_
                refine n_ishl hx hb dX5_firstCoverOf_68 (by decide) ?_
                refine w_top (v' := .int (nI (1 <<< (ct va + 5)))) (congrArg (fun z => Value.int (nI z)) (Nat.shiftLeft_add 1 (ct va) 5).symm) ?_
                refine lv_istore (lv' := [(6, .int (nI (1 <<< (ct va + 5)))), (5, .int (nI 0)), (4, .int (nI (1 <<< ct va))), (1, .int (nI (1 <<< own))), (2, .int (nI va)), (3, .int (nI (10 - (vm + 1))))]) hx hb dX5_firstCoverOf_69 hl (by decide) rfl (fun ls hl => ?_)
                refine lv_iload_n hx hb dX5_firstCoverOf_71 rfl (lv_at hl 3 rfl) ?_
                refine lv_iload hx hb dX5_firstCoverOf_72 (lv_at hl 2 rfl) ?_
                refine n_icmp_ne (tgt := 88) hx hb dX5_firstCoverOf_74 (by decide) (by first | omega | exact shl_lt (by omega) | exact Nat.lt_of_le_of_lt (tl_le 10 _) (by decide)) (by first | omega | exact shl_lt (by omega) | exact Nat.lt_of_le_of_lt (tl_le 10 _) (by decide)) (fun c_74 => ?_) (fun c_74 => ?_)
                ·
                  have hn1 : ¬ ct va = own := fun q => c_74 (by rw [q])
                  refine lv_iload_n hx hb dX5_firstCoverOf_88 rfl (lv_at hl 3 rfl) ?_
                  refine lv_iload hx hb dX5_firstCoverOf_89 (lv_at hl 0 rfl) ?_
                  refine n_icmp_ne (tgt := 105) hx hb dX5_firstCoverOf_91 (by decide) (by first | omega | exact shl_lt (by omega) | exact Nat.lt_of_le_of_lt (tl_le 10 _) (by decide)) (by first | omega | exact shl_lt (by omega) | exact Nat.lt_of_le_of_lt (tl_le 10 _) (by decide)) (fun c_91 => ?_) (fun c_91 => ?_)
                  ·
                    have hn2 : ¬ ct va + 5 = own := fun q => c_91 (by rw [← q])
                    refine lv_iload_n hx hb dX5_firstCoverOf_105 rfl (lv_at hl 4 rfl) ?_
                    refine lv_iload hx hb dX5_firstCoverOf_106 (lv_at hl 2 rfl) ?_
                    refine lv_iload hx hb dX5_firstCoverOf_108 (lv_at hl 0 rfl) ?_
                    refine n_ior hx hb dX5_firstCoverOf_110 ?_
                    refine lv_iconst (v := (-1)) hx hb dX5_firstCoverOf_111 (by decide) ?_
                    refine lv_ixor hx hb dX5_firstCoverOf_112 ?_
                    refine n_iandn hx hb dX5_firstCoverOf_113 ?_
                    refine lv_istore_n (lv' := [(2, .int (nI (andn va ((1 <<< ct va) ||| (1 <<< (ct va + 5)))))), (6, .int (nI (1 <<< (ct va + 5)))), (5, .int (nI 0)), (4, .int (nI (1 <<< ct va))), (1, .int (nI (1 <<< own))), (3, .int (nI (10 - (vm + 1))))]) hx hb dX5_firstCoverOf_114 rfl hl (by decide) rfl (fun ls hl => ?_)
                    refine lv_iinc (v := nI (10 - (vm + 1) + 1)) (lv' := [(3, .int (nI (10 - (vm + 1) + 1))), (2, .int (nI (andn va ((1 <<< ct va) ||| (1 <<< (ct va + 5)))))), (6, .int (nI (1 <<< (ct va + 5)))), (5, .int (nI 0)), (4, .int (nI (1 <<< ct va))), (1, .int (nI (1 <<< own)))]) hx hb dX5_firstCoverOf_115 hl (k := 5) rfl (inc1 _) (by decide) rfl (fun ls hl => ?_)
                    refine lv_goto (tgt := 4) hx hb dX5_firstCoverOf_118 (by decide) ?_
                    obtain ⟨vm2, hvm2, hg1, hg2, hg3, hg4⟩ := fcv_go hva hvt hvo hvp2 hvn false hzz hn1 hn2
                    have hvm3 : vm = vm2 := by omega
                    subst hvm3
                    replace hl := lv_eq 0 hl rfl (v2 := .int (nI (10 - vm))) (congrArg (fun z => Value.int (nI z)) (show (10 - (vm + 1) + 1) = (10 - vm) from by first | rfl | omega))
                    exact ih4 vm (andn va ((1 <<< ct va) ||| (1 <<< (ct va + 5)))) hg1 hg2 hg3 hg4 (by omega) ((fcv_3 false hzz hn1 hn2).symm.trans hfin) (by omega) ls (lv_sub hl [5, 1, 0] rfl)
                  ·
                    have he2 := (shl_inj c_91).symm
                    refine lv_iload hx hb dX5_firstCoverOf_94 (lv_at hl 1 rfl) ?_
                    refine n_if_eq (tgt := 103) hx hb dX5_firstCoverOf_96 (by decide) (by decide) (fun c_96 => ?_) (fun c_96 => ?_)
                    ·
                      refine lv_iconst (v := nI 4) hx hb dX5_firstCoverOf_103 (by decide) ?_
                      refine w_top (v' := .int (nI (fcv 10 s0 own))) (congrArg (fun z => Value.int (nI z)) (show 4 = (fcv 10 s0 own) from (hfin.symm.trans (fcv_2 false hzz hn1 he2)).symm)) ?_
                      exact hE _ _ (kr_i dX5_firstCoverOf_104)
                    ·
                      exact absurd c_96 (by decide)
                ·
                  have he1 : ct va = own := (shl_inj c_74).symm
                  refine lv_iload hx hb dX5_firstCoverOf_77 (lv_at hl 1 rfl) ?_
                  refine n_if_eq (tgt := 86) hx hb dX5_firstCoverOf_79 (by decide) (by decide) (fun c_79 => ?_) (fun c_79 => ?_)
                  ·
                    refine lv_iconst (v := nI 2) hx hb dX5_firstCoverOf_86 (by decide) ?_
                    refine w_top (v' := .int (nI (fcv 10 s0 own))) (congrArg (fun z => Value.int (nI z)) (show 2 = (fcv 10 s0 own) from (hfin.symm.trans (fcv_1 false hzz he1)).symm)) ?_
                    exact hE _ _ (kr_i dX5_firstCoverOf_87)
                  ·
                    exact absurd c_79 (by decide)
              ·
                exact absurd c_55 (by decide)
            ·
              have hzz : (rgt va (ct va) && tlb 10 (andn va (3 <<< ct va))) = true := by rw [hrg, tlb_p c_43]; rfl
              refine lv_iconst (v := nI 1) hx hb dX5_firstCoverOf_46 (by decide) ?_
              refine lv_goto (tgt := 51) hx hb dX5_firstCoverOf_47 (by decide) ?_
              refine lv_istore (lv' := [(5, .int (nI 1)), (4, .int (nI (1 <<< ct va))), (1, .int (nI (1 <<< own))), (2, .int (nI va)), (3, .int (nI (10 - (vm + 1))))]) hx hb dX5_firstCoverOf_51 hl (by decide) rfl (fun ls hl => ?_)
              refine lv_iload hx hb dX5_firstCoverOf_53 (lv_at hl 0 rfl) ?_
              refine n_if_eq (tgt := 65) hx hb dX5_firstCoverOf_55 (by decide) (by decide) (fun c_55 => ?_) (fun c_55 => ?_)
              ·
                exact absurd c_55 (by decide)
              ·
                refine lv_iload hx hb dX5_firstCoverOf_58 (lv_at hl 1 rfl) ?_
                refine lv_iconst (v := nI 1) hx hb dX5_firstCoverOf_60 (by decide) ?_
                refine n_ishl hx hb dX5_firstCoverOf_61 (by decide) ?_
                refine w_top (v' := .int (nI (1 <<< (ct va + 1)))) (congrArg (fun z => Value.int (nI z)) (Nat.shiftLeft_add 1 (ct va) 1).symm) ?_
                refine lv_goto (tgt := 69) hx hb dX5_firstCoverOf_62 (by decide) ?_
                refine lv_istore (lv' := [(6, .int (nI (1 <<< (ct va + 1)))), (5, .int (nI 1)), (4, .int (nI (1 <<< ct va))), (1, .int (nI (1 <<< own))), (2, .int (nI va)), (3, .int (nI (10 - (vm + 1))))]) hx hb dX5_firstCoverOf_69 hl (by decide) rfl (fun ls hl => ?_)
                refine lv_iload_n hx hb dX5_firstCoverOf_71 rfl (lv_at hl 3 rfl) ?_
                refine lv_iload hx hb dX5_firstCoverOf_72 (lv_at hl 2 rfl) ?_
                refine n_icmp_ne (tgt := 88) hx hb dX5_firstCoverOf_74 (by decide) (by first | omega | exact shl_lt (by omega) | exact Nat.lt_of_le_of_lt (tl_le 10 _) (by decide)) (by first | omega | exact shl_lt (by omega) | exact Nat.lt_of_le_of_lt (tl_le 10 _) (by decide)) (fun c_74 => ?_) (fun c_74 => ?_)
                ·
                  have hn1 : ¬ ct va = own := fun q => c_74 (by rw [q])
                  refine lv_iload_n hx hb dX5_firstCoverOf_88 rfl (lv_at hl 3 rfl) ?_
                  refine lv_iload hx hb dX5_firstCoverOf_89 (lv_at hl 0 rfl) ?_
                  refine n_icmp_ne (tgt := 105) hx hb dX5_firstCoverOf_91 (by decide) (by first | omega | exact shl_lt (by omega) | exact Nat.lt_of_le_of_lt (tl_le 10 _) (by decide)) (by first | omega | exact shl_lt (by omega) | exact Nat.lt_of_le_of_lt (tl_le 10 _) (by decide)) (fun c_91 => ?_) (fun c_91 => ?_)
                  ·
                    have hn2 : ¬ ct va + 1 = own := fun q => c_91 (by rw [← q])
                    refine lv_iload_n hx hb dX5_firstCoverOf_105 rfl (lv_at hl 4 rfl) ?_
                    refine lv_iload hx hb dX5_firstCoverOf_106 (lv_at hl 2 rfl) ?_
                    refine lv_iload hx hb dX5_firstCoverOf_108 (lv_at hl 0 rfl) ?_
                    refine n_ior hx hb dX5_firstCoverOf_110 ?_
                    refine lv_iconst (v := (-1)) hx hb dX5_firstCoverOf_111 (by decide) ?_
                    refine lv_ixor hx hb dX5_firstCoverOf_112 ?_
                    refine n_iandn hx hb dX5_firstCoverOf_113 ?_
                    refine lv_istore_n (lv' := [(2, .int (nI (andn va ((1 <<< ct va) ||| (1 <<< (ct va + 1)))))), (6, .int (nI (1 <<< (ct va + 1)))), (5, .int (nI 1)), (4, .int (nI (1 <<< ct va))), (1, .int (nI (1 <<< own))), (3, .int (nI (10 - (vm + 1))))]) hx hb dX5_firstCoverOf_114 rfl hl (by decide) rfl (fun ls hl => ?_)
                    refine lv_iinc (v := nI (10 - (vm + 1) + 1)) (lv' := [(3, .int (nI (10 - (vm + 1) + 1))), (2, .int (nI (andn va ((1 <<< ct va) ||| (1 <<< (ct va + 1)))))), (6, .int (nI (1 <<< (ct va + 1)))), (5, .int (nI 1)), (4, .int (nI (1 <<< ct va))), (1, .int (nI (1 <<< own)))]) hx hb dX5_firstCoverOf_115 hl (k := 5) rfl (inc1 _) (by decide) rfl (fun ls hl => ?_)
                    refine lv_goto (tgt := 4) hx hb dX5_firstCoverOf_118 (by decide) ?_
                    obtain ⟨vm2, hvm2, hg1, hg2, hg3, hg4⟩ := fcv_go hva hvt hvo hvp2 hvn true hzz hn1 hn2
                    have hvm3 : vm = vm2 := by omega
                    subst hvm3
                    replace hl := lv_eq 0 hl rfl (v2 := .int (nI (10 - vm))) (congrArg (fun z => Value.int (nI z)) (show (10 - (vm + 1) + 1) = (10 - vm) from by first | rfl | omega))
                    exact ih4 vm (andn va ((1 <<< ct va) ||| (1 <<< (ct va + 1)))) hg1 hg2 hg3 hg4 (by omega) ((fcv_3 true hzz hn1 hn2).symm.trans hfin) (by omega) ls (lv_sub hl [5, 1, 0] rfl)
                  ·
                    have he2 := (shl_inj c_91).symm
                    refine lv_iload hx hb dX5_firstCoverOf_94 (lv_at hl 1 rfl) ?_
                    refine n_if_eq (tgt := 103) hx hb dX5_firstCoverOf_96 (by decide) (by decide) (fun c_96 => ?_) (fun c_96 => ?_)
                    ·
                      exact absurd c_96 (by decide)
                    ·
                      refine lv_iconst (v := nI 3) hx hb dX5_firstCoverOf_99 (by decide) ?_
                      refine lv_goto (tgt := 104) hx hb dX5_firstCoverOf_100 (by decide) ?_
                      refine w_top (v' := .int (nI (fcv 10 s0 own))) (congrArg (fun z => Value.int (nI z)) (show 3 = (fcv 10 s0 own) from (hfin.symm.trans (fcv_2 true hzz hn1 he2)).symm)) ?_
                      exact hE _ _ (kr_i dX5_firstCoverOf_104)
                ·
                  have he1 : ct va = own := (shl_inj c_74).symm
                  refine lv_iload hx hb dX5_firstCoverOf_77 (lv_at hl 1 rfl) ?_
                  refine n_if_eq (tgt := 86) hx hb dX5_firstCoverOf_79 (by decide) (by decide) (fun c_79 => ?_) (fun c_79 => ?_)
                  ·
                    exact absurd c_79 (by decide)
                  ·
                    refine lv_iconst (v := nI 1) hx hb dX5_firstCoverOf_82 (by decide) ?_
                    refine lv_goto (tgt := 87) hx hb dX5_firstCoverOf_83 (by decide) ?_
                    refine w_top (v' := .int (nI (fcv 10 s0 own))) (congrArg (fun z => Value.int (nI z)) (show 1 = (fcv 10 s0 own) from (hfin.symm.trans (fcv_1 true hzz he1)).symm)) ?_
                    exact hE _ _ (kr_i dX5_firstCoverOf_87)
  replace hl := lv_eq 0 hl rfl (v2 := .int (nI (10 - 10))) (congrArg (fun z => Value.int (nI z)) (show 0 = (10 - 10) from by first | rfl | omega))
  exact L4 (10 + 1) 10 s0 hs ht ho (pc_20 _) (Nat.le_refl _) rfl (Nat.lt_succ_self _) ls (lv_sub hl [3, 1, 0] rfl)
