
/-! walks: the reference's small methods; sets of cells -/
def isC (w h : Nat) (x : Int32) : Bool := decide (0 ≤ x.toInt) && (decide (cx x / 10 < w) && decide (cx x % 10 < h))
theorem isC_neg {w h : Nat} {x : Int32} (hx : x < 0) : isC w h x = false := by
  have := Int32.lt_iff_toInt_lt.mp hx
  have e : (0 : Int32).toInt = 0 := rfl
  unfold isC
  rw [decide_eq_false (by omega)]
  rfl
theorem isC_n {w h j : Nat} (hj : j < 2 ^ 31) : isC w h (nI j) = (decide (j / 10 < w) && decide (j % 10 < h)) := by
  unfold isC
  rw [cx_n hj, nI_toInt hj, decide_eq_true (by omega)]
  rfl
theorem isC_x {w h : Nat} {x : Int32} (h1 : isC w h x = true) : ∃ j : Nat, j < 2 ^ 31 ∧ x = nI j ∧ j / 10 < w ∧ j % 10 < h := by
  unfold isC at h1
  simp only [Bool.and_eq_true, decide_eq_true_eq] at h1
  obtain ⟨h2, h3, h4⟩ := h1
  obtain ⟨j, hj, e⟩ := nI_of (x := x) (fun q => by have := Int32.lt_iff_toInt_lt.mp q; have e0 : (0 : Int32).toInt = 0 := rfl; omega)
  subst e
  rw [cx_n hj] at h3 h4
  exact ⟨j, hj, rfl, h3, h4⟩
def cov (cl : Nat → Nat) (st k : Nat) : Bool := decide (cl k = 1) || (decide (10 ≤ cl k) && decide (st >>> (cl k - 10) &&& 1 = 0))
/-- the set of CELLS that dominoes must cover in a STATE -/
abbrev tcM (cl : Nat → Nat) (st : Nat) : Nat := bo (cov cl st) 20
abbrev clM (μ : Sx) (p : Nat) : Nat → Nat := fun k => μ.2.1 4 (20 * p + k)
def opn (cl : Nat → Nat) : Nat → Nat
  | 0 => 0
  | n + 1 => opn cl n + (if cl n = 0 then 0 else 1)
theorem opn_le (cl : Nat → Nat) : ∀ n, opn cl n ≤ n
  | 0 => Nat.le_refl 0
  | n + 1 => by
    have := opn_le cl n
    unfold opn
    split <;> omega
theorem opn_0 {cl : Nat → Nat} {n : Nat} (h : cl n = 0) : opn cl (n + 1) = opn cl n + 0 := by show opn cl n + (if _ then _ else _) = _; rw [if_pos h]
theorem opn_1 {cl : Nat → Nat} {n : Nat} (h : ¬ cl n = 0) : opn cl (n + 1) = opn cl n + 1 := by show opn cl n + (if _ then _ else _) = _; rw [if_neg h]
/-- LETS, by what the search finds -/
abbrev ltM (cl : Nat → Nat) (f : Nat) : Nat := bo (fun s => tlb 10 (tcM cl s)) (1 <<< f)
theorem shl_le {f n : Nat} (h : f ≤ n) : 1 <<< f ≤ 2 ^ n := by rw [Nat.one_shiftLeft]; exact Nat.pow_le_pow_right (by decide) h
theorem bo_or0 {P : Nat → Bool} {n : Nat} (h : P n = false) : bo P n ||| 0 = bo P (n + 1) := by rw [bo_f h, Nat.or_zero]
theorem bo_or1 {P : Nat → Bool} {n : Nat} (h : P n = true) : bo P n ||| 1 <<< n = bo P (n + 1) := by rw [bo_t h]
theorem rgt_n {s k : Nat} (h : ¬ k % 5 < 4) : rgt s k = false := by unfold rgt; rw [decide_eq_false h]; rfl
theorem rgt_y {s k : Nat} (h : k % 5 < 4) : rgt s k = s.testBit (k + 1) := by unfold rgt; rw [decide_eq_true h]; rfl
theorem dwn_n {s k : Nat} (hs : s < 2 ^ 20) (h : ¬ k < 15) : dwn s k = false := tb_lt hs (by omega)
theorem bit1 {s k : Nat} : (s >>> k &&& 1 = 1) ↔ s.testBit k = true := by
  have h := @tb0 s k
  have h2 : s >>> k &&& 1 ≤ 1 := Nat.and_le_right
  cases hb : s.testBit k
  · rw [hb] at h
    constructor
    · intro q
      have := h.mpr rfl
      omega
    · intro q
      cases q
  · rw [hb] at h
    constructor
    · intro _
      rfl
    · intro _
      have : ¬ (s >>> k &&& 1 = 0) := fun q => by cases h.mp q
      omega

set_option maxHeartbeats 1000000 in
set_option maxRecDepth 100000 in
theorem c_X7_isIn (l : Launch) (G : Gt) (v : Int32) (n : Nat) (hn : n < 2 ^ 31) : Cr l G yX7_isIn cX7_isIn 2 ((some .boolean)) 0 [.int v, .int (nI n)] (fun H => True) (some (.int (b2i (inI v n)))) := by
  refine cr_entry [(0, .int v), (1, .int (nI n))] (by decide) (Nat.le_of_ble_eq_true rfl) rfl ?_
  intro zp ze zs zm za zb zt zc Q S hK hPre hE ls hl
  have hx := S.1
  have hb := S.2.1
  refine lv_iload_n hx hb dX7_isIn_0 rfl (lv_at hl 0 rfl) ?_
  refine lv_if_lt (tgt := 13) hx hb dX7_isIn_1 (by decide) (fun c_1 => ?_) (fun c_1 => ?_)
  ·
    have hr : inI v n = false := inI_lt c_1
    refine lv_iconst (v := nI 0) hx hb dX7_isIn_13 (by decide) ?_
    refine w_top (v' := .int (b2i (inI v n))) (bz_f (show (inI v n) = false from hr)) ?_
    exact hE _ _ (kr_z dX7_isIn_14)
  ·
    refine lv_iload_n hx hb dX7_isIn_4 rfl (lv_at hl 0 rfl) ?_
    refine lv_iload_n hx hb dX7_isIn_5 rfl (lv_at hl 1 rfl) ?_
    refine lv_icmp_ge (tgt := 13) hx hb dX7_isIn_6 (by decide) (fun c_6 => ?_) (fun c_6 => ?_)
    ·
      have hr : inI v n = false := inI_ge hn c_6
      refine lv_iconst (v := nI 0) hx hb dX7_isIn_13 (by decide) ?_
      refine w_top (v' := .int (b2i (inI v n))) (bz_f (show (inI v n) = false from hr)) ?_
      exact hE _ _ (kr_z dX7_isIn_14)
    ·
      have hr : inI v n = true := inI_of hn c_1 c_6
      refine lv_iconst (v := nI 1) hx hb dX7_isIn_9 (by decide) ?_
      refine lv_goto (tgt := 14) hx hb dX7_isIn_10 (by decide) ?_
      refine w_top (v' := .int (b2i (inI v n))) (bz_t (show (inI v n) = true from hr)) ?_
      exact hE _ _ (kr_z dX7_isIn_14)

set_option maxHeartbeats 1000000 in
set_option maxRecDepth 100000 in
theorem c_X7_isPart (l : Launch) (G : Gt) (om : Nat) (μ : Sx) (v : Int32) (hn : μ.1 16 ≤ 24) : Cr l G yX7_isPart cX7_isPart 2 ((some .boolean)) 1 [.ref om, .int v] (fun H => bk G om (mL G om μ) H) (some (.int (b2i (inI v (μ.1 16))))) := by
  refine cr_entry [(0, .ref om), (1, .int v)] (by decide) (Nat.le_of_ble_eq_true rfl) rfl ?_
  intro zp ze zs zm za zb zt zc Q S hK hPre hE ls hl
  have hx := S.1
  have hb := S.2.1
  have hM := hPre
  refine lv_iload_n hx hb dX7_isPart_0 rfl (lv_at hl 1 rfl) ?_
  refine lv_aload_n hx hb dX7_isPart_1 rfl (lv_at hl 0 rfl) ?_
  refine kg (C := RX7) (T := TX7) (N := 32) (ci := 5) (k := 16) (v := .int (nI (μ.1 16))) S hK rfl inX7 (by decide) q_746 dX7_isPart_2 hM rfl rfl ?_
  refine crS (rest := []) S hK (c_X7_isIn l G v (μ.1 16) (by first | assumption | omega | decide)) cw_X7_80 rfl ⟨Nat.le_of_ble_eq_true rfl, Nat.le_of_ble_eq_true rfl⟩ ⟨Nat.le_of_ble_eq_true rfl, Nat.le_of_ble_eq_true rfl⟩ hl.1 rfl (Nat.le_of_ble_eq_true rfl) dX7_isPart_5 trivial ?_
  exact hE _ _ (kr_z dX7_isPart_8)

set_option maxHeartbeats 1000000 in
set_option maxRecDepth 100000 in
theorem c_X7_isFormula (l : Launch) (G : Gt) (om : Nat) (μ : Sx) (v : Int32) (hn : μ.1 17 ≤ 20) : Cr l G yX7_isFormula cX7_isFormula 2 ((some .boolean)) 1 [.ref om, .int v] (fun H => bk G om (mL G om μ) H) (some (.int (b2i (inI v (μ.1 17))))) := by
  refine cr_entry [(0, .ref om), (1, .int v)] (by decide) (Nat.le_of_ble_eq_true rfl) rfl ?_
  intro zp ze zs zm za zb zt zc Q S hK hPre hE ls hl
  have hx := S.1
  have hb := S.2.1
  have hM := hPre
  refine lv_iload_n hx hb dX7_isFormula_0 rfl (lv_at hl 1 rfl) ?_
  refine lv_aload_n hx hb dX7_isFormula_1 rfl (lv_at hl 0 rfl) ?_
  refine kg (C := RX7) (T := TX7) (N := 32) (ci := 5) (k := 17) (v := .int (nI (μ.1 17))) S hK rfl inX7 (by decide) q_747 dX7_isFormula_2 hM rfl rfl ?_
  refine crS (rest := []) S hK (c_X7_isIn l G v (μ.1 17) (by first | assumption | omega | decide)) cw_X7_80 rfl ⟨Nat.le_of_ble_eq_true rfl, Nat.le_of_ble_eq_true rfl⟩ ⟨Nat.le_of_ble_eq_true rfl, Nat.le_of_ble_eq_true rfl⟩ hl.1 rfl (Nat.le_of_ble_eq_true rfl) dX7_isFormula_5 trivial ?_
  exact hE _ _ (kr_z dX7_isFormula_8)

set_option maxHeartbeats 1000000 in
set_option maxRecDepth 100000 in
theorem c_X7_isNet (l : Launch) (G : Gt) (om : Nat) (μ : Sx) (v : Int32) (hn : μ.1 18 ≤ 6) : Cr l G yX7_isNet cX7_isNet 2 ((some .boolean)) 1 [.ref om, .int v] (fun H => bk G om (mL G om μ) H) (some (.int (b2i (inI v (μ.1 18))))) := by
  refine cr_entry [(0, .ref om), (1, .int v)] (by decide) (Nat.le_of_ble_eq_true rfl) rfl ?_
  intro zp ze zs zm za zb zt zc Q S hK hPre hE ls hl
  have hx := S.1
  have hb := S.2.1
  have hM := hPre
  refine lv_iload_n hx hb dX7_isNet_0 rfl (lv_at hl 1 rfl) ?_
  refine lv_aload_n hx hb dX7_isNet_1 rfl (lv_at hl 0 rfl) ?_
  refine kg (C := RX7) (T := TX7) (N := 32) (ci := 5) (k := 18) (v := .int (nI (μ.1 18))) S hK rfl inX7 (by decide) q_748 dX7_isNet_2 hM rfl rfl ?_
  refine crS (rest := []) S hK (c_X7_isIn l G v (μ.1 18) (by first | assumption | omega | decide)) cw_X7_80 rfl ⟨Nat.le_of_ble_eq_true rfl, Nat.le_of_ble_eq_true rfl⟩ ⟨Nat.le_of_ble_eq_true rfl, Nat.le_of_ble_eq_true rfl⟩ hl.1 rfl (Nat.le_of_ble_eq_true rfl) dX7_isNet_5 trivial ?_
  exact hE _ _ (kr_z dX7_isNet_8)

set_option maxHeartbeats 1000000 in
set_option maxRecDepth 100000 in
theorem c_X7_at (l : Launch) (G : Gt) (om : Nat) (μ : Sx) (p : Nat) (x : Nat) (y : Nat) (hix : 20 * p + 5 * y + x < 500) : Cr l G yX7_at cX7_at 4 ((some .int)) 0 [.ref om, .int (nI p), .int (nI x), .int (nI y)] (fun H => bk G om (mL G om μ) H) (some (.int (nI (clM μ p (5 * y + x))))) := by
  refine cr_entry [(0, .ref om), (1, .int (nI p)), (2, .int (nI x)), (3, .int (nI y))] (by decide) (Nat.le_of_ble_eq_true rfl) rfl ?_
  intro zp ze zs zm za zb zt zc Q S hK hPre hE ls hl
  have hx := S.1
  have hb := S.2.1
  have hM := hPre
  refine lv_aload_n hx hb dX7_at_0 rfl (lv_at hl 0 rfl) ?_
  refine kg (C := RX7) (T := TX7) (N := 32) (ci := 5) (k := 4) (v := .ref (om + 5)) S hK rfl inX7 (by decide) q_734 dX7_at_1 hM rfl rfl ?_
  refine lv_bipush (v := nI 20) hx hb dX7_at_4 (by decide) ?_
  refine lv_iload_n hx hb dX7_at_6 rfl (lv_at hl 1 rfl) ?_
  refine n_imul hx hb dX7_at_7 ?_
  refine lv_iconst (v := nI 5) hx hb dX7_at_8 (by decide) ?_
  refine lv_iload_n hx hb dX7_at_9 rfl (lv_at hl 3 rfl) ?_
  refine n_imul hx hb dX7_at_10 ?_
  refine n_iadd hx hb dX7_at_11 ?_
  refine lv_iload_n hx hb dX7_at_12 rfl (lv_at hl 2 rfl) ?_
  refine n_iadd hx hb dX7_at_13 ?_
  refine kil (f := μ.2.1 4) S hK dX7_at_14 5 hM rfl (by decide) rfl (by omega) ?_
  refine w_top (v' := .int (nI (clM μ p (5 * y + x)))) (congrArg (fun z => Value.int (nI z)) (show (μ.2.1 4 (((20 * p) + (5 * y)) + x)) = (clM μ p (5 * y + x)) from by show μ.2.1 4 _ = μ.2.1 4 _; rw [Nat.add_assoc])) ?_
  exact hE _ _ (kr_i dX7_at_15)

set_option maxHeartbeats 1000000 in
set_option maxRecDepth 100000 in
theorem c_X7_puts (l : Launch) (G : Gt) (om : Nat) (μ : Sx) (p : Nat) (x : Nat) (y : Nat) (v : Nat) (hix : 20 * p + 5 * y + x < 500) : Ct l G yX7_puts cX7_puts 5 (none) 0 0 0 [.ref om, .int (nI p), .int (nI x), .int (nI y), .int (nI v)] (fun H => bk G om (mL G om μ) H) none (fun H => bk G om (mL G om (uA μ 4 (20 * p + 5 * y + x) v)) H) (fun q => om ≤ q ∧ q < om + 20) := by
  refine ct_entry [(0, .ref om), (1, .int (nI p)), (2, .int (nI x)), (3, .int (nI y)), (4, .int (nI v))] (by decide) (Nat.le_of_ble_eq_true rfl) rfl ?_
  intro zp ze zs zm za zb zt zc Q S hK hPre hin hE ls hl
  have hx := S.1
  have hb := S.2.1
  have hM := hPre
  have hS : va_S (fun q => om ≤ q ∧ q < om + 20) zs.heap zs.heap [] := va_S.rf
  refine lv_aload_n hx hb dX7_puts_0 rfl (lv_at hl 0 rfl) ?_
  refine kg (C := RX7) (T := TX7) (N := 32) (ci := 5) (k := 4) (v := .ref (om + 5)) S hK rfl inX7 (by decide) q_734 dX7_puts_1 hM rfl rfl ?_
  refine lv_bipush (v := nI 20) hx hb dX7_puts_4 (by decide) ?_
  refine lv_iload_n hx hb dX7_puts_6 rfl (lv_at hl 1 rfl) ?_
  refine n_imul hx hb dX7_puts_7 ?_
  refine lv_iconst (v := nI 5) hx hb dX7_puts_8 (by decide) ?_
  refine lv_iload_n hx hb dX7_puts_9 rfl (lv_at hl 3 rfl) ?_
  refine n_imul hx hb dX7_puts_10 ?_
  refine n_iadd hx hb dX7_puts_11 ?_
  refine lv_iload_n hx hb dX7_puts_12 rfl (lv_at hl 2 rfl) ?_
  refine n_iadd hx hb dX7_puts_13 ?_
  refine lv_iload hx hb dX7_puts_14 (lv_at hl 4 rfl) ?_
  refine kis S hK dX7_puts_16 5 hM rfl (by decide) rfl (by omega) rfl (L1 := mL G om (uA μ 4 (((20 * p) + (5 * y)) + x) v)) rfl hS (by first | exact ⟨by omega, by omega⟩ | omega) (fun H locs hM hS hz hk => ?_)
  exact hE _ _ _ _ _ _ (kr_v dX7_puts_17) hS (by decide) (by decide) hM

set_option maxHeartbeats 1000000 in
set_option maxRecDepth 100000 in
theorem c_X7_refuse (l : Launch) (G : Gt) (om : Nat) (μ : Sx) (x : Int32) (kref : Nat) (hxk : -x = nI kref) (hk7 : kref < 7) : Ct l G yX7_refuse cX7_refuse 2 ((some .int)) 0 0 0 [.ref om, .int x] (fun H => bk G om (mL G om μ) H) (some (.int x)) (fun H => bk G om (mL G om (uA μ 0 kref (μ.2.1 0 kref + 1))) H) (fun q => om ≤ q ∧ q < om + 20) := by
  refine ct_entry [(0, .ref om), (1, .int x)] (by decide) (Nat.le_of_ble_eq_true rfl) rfl ?_
  intro zp ze zs zm za zb zt zc Q S hK hPre hin hE ls hl
  have hx := S.1
  have hb := S.2.1
  have hM := hPre
  have hS : va_S (fun q => om ≤ q ∧ q < om + 20) zs.heap zs.heap [] := va_S.rf
  refine lv_aload_n hx hb dX7_refuse_0 rfl (lv_at hl 0 rfl) ?_
  refine kg (C := RX7) (T := TX7) (N := 32) (ci := 5) (k := 0) (v := .ref (om + 1)) S hK rfl inX7 (by decide) q_730 dX7_refuse_1 hM rfl rfl ?_
  refine lv_iload_n hx hb dX7_refuse_4 rfl (lv_at hl 1 rfl) ?_
  refine lv_ineg hx hb dX7_refuse_5 ?_
  refine w_top (v' := .int (nI kref)) (congrArg (fun z => Value.int z) hxk) ?_
  refine lv_dup2_11 hx hb dX7_refuse_6 rfl rfl ?_
  refine kil (f := μ.2.1 0) S hK dX7_refuse_7 1 hM rfl (by decide) rfl (by omega) ?_
  refine lv_iconst (v := nI 1) hx hb dX7_refuse_8 (by decide) ?_
  refine n_iadd hx hb dX7_refuse_9 ?_
  refine kis S hK dX7_refuse_10 1 hM rfl (by decide) rfl (by omega) rfl (L1 := mL G om (uA μ 0 kref ((μ.2.1 0 kref) + 1))) rfl hS (by first | exact ⟨by omega, by omega⟩ | omega) (fun H locs hM hS hz hk => ?_)
  refine lv_iload_n hx hb dX7_refuse_11 rfl (lv_at hl 1 rfl) ?_
  exact hE _ _ _ _ _ _ (kr_i dX7_refuse_12) hS (by decide) (by decide) hM

set_option maxHeartbeats 1000000 in
set_option maxRecDepth 100000 in
theorem c_X7_refuseFar (l : Launch) (G : Gt) (om : Nat) (μ : Sx) (x : Int32) (kref : Nat) (hxk : -x = nI kref) (hk7 : kref < 7) : Ct l G yX7_refuseFar cX7_refuseFar 2 ((some .long)) 1 0 0 [.ref om, .int x] (fun H => bk G om (mL G om μ) H) (some (.long (lN 4000000000000000000 - x.toInt64))) (fun H => bk G om (mL G om (uA μ 0 kref (μ.2.1 0 kref + 1))) H) (fun q => om ≤ q ∧ q < om + 20) := by
  refine ct_entry [(0, .ref om), (1, .int x)] (by decide) (Nat.le_of_ble_eq_true rfl) rfl ?_
  intro zp ze zs zm za zb zt zc Q S hK hPre hin hE ls hl
  have hx := S.1
  have hb := S.2.1
  have hM := hPre
  have hS : va_S (fun q => om ≤ q ∧ q < om + 20) zs.heap zs.heap [] := va_S.rf
  refine lv_ldc2 (v := lN 4000000000000000000) hx hb S.2.2.2.1 (S.2.2.2.2 _ q_912) dX7_refuseFar_0 ?_
  refine lv_aload_n hx hb dX7_refuseFar_3 rfl (lv_at hl 0 rfl) ?_
  refine lv_iload_n hx hb dX7_refuseFar_4 rfl (lv_at hl 1 rfl) ?_
  refine ctV (rest := [.long (lN 4000000000000000000)]) S hK (c_X7_refuse l G om μ x kref (by first | assumption | omega | decide) (by first | assumption | omega | decide)) cw_X7_72 rfl ⟨Nat.le_of_ble_eq_true rfl, Nat.le_of_ble_eq_true rfl⟩ ⟨Nat.le_of_ble_eq_true rfl, Nat.le_of_ble_eq_true rfl⟩ (bk.recv hK hM rfl rfl) hl.1 rfl (Nat.le_of_ble_eq_true rfl) dX7_refuseFar_5 hM hS (fun _ h => h) (fun H locs hPost hz hk hS => ?_)
  have hM := hPost
  refine lv_i2l (v := x.toInt64) hx hb dX7_refuseFar_8 rfl ?_
  refine lv_lsub hx hb dX7_refuseFar_9 ?_
  refine w_top (v' := .long (lN 4000000000000000000 - x.toInt64)) (congrArg (fun z => Value.long z) (show ((lN 4000000000000000000) - x.toInt64) = (lN 4000000000000000000 - x.toInt64) from rfl)) ?_
  exact hE _ _ _ _ _ _ (kr_l dX7_refuseFar_10) hS (by decide) (by decide) hM

set_option maxHeartbeats 1000000 in
set_option maxRecDepth 100000 in
theorem c_X7_isCell (l : Launch) (G : Gt) (om : Nat) (μ : Sx) (p : Nat) (x : Int32) (hp : p < 25) (hw : μ.2.1 1 p ≤ 5) (hh : μ.2.1 2 p ≤ 5) : Cr l G yX7_isCell cX7_isCell 3 ((some .boolean)) 0 [.ref om, .int (nI p), .int x] (fun H => bk G om (mL G om μ) H) (some (.int (b2i (isC (μ.2.1 1 p) (μ.2.1 2 p) x)))) := by
  refine cr_entry [(0, .ref om), (1, .int (nI p)), (2, .int x)] (by decide) (Nat.le_of_ble_eq_true rfl) rfl ?_
  intro zp ze zs zm za zb zt zc Q S hK hPre hE ls hl
  have hx := S.1
  have hb := S.2.1
  have hM := hPre
  refine lv_iload_n hx hb dX7_isCell_0 rfl (lv_at hl 2 rfl) ?_
  refine lv_if_lt (tgt := 34) hx hb dX7_isCell_1 (by decide) (fun c_1 => ?_) (fun c_1 => ?_)
  ·
    have hr : isC (μ.2.1 1 p) (μ.2.1 2 p) x = false := isC_neg c_1
    refine lv_iconst (v := nI 0) hx hb dX7_isCell_34 (by decide) ?_
    refine w_top (v' := .int (b2i (isC (μ.2.1 1 p) (μ.2.1 2 p) x))) (bz_f (show (isC (μ.2.1 1 p) (μ.2.1 2 p) x) = false from hr)) ?_
    exact hE _ _ (kr_z dX7_isCell_35)
  ·
    obtain ⟨j, hj, rfl⟩ := nI_of c_1
    refine lv_iload_n hx hb dX7_isCell_4 rfl (lv_at hl 2 rfl) ?_
    refine lv_bipush (v := nI 10) hx hb dX7_isCell_5 (by decide) ?_
    refine n_idiv hx hb dX7_isCell_7 (by omega) (by decide) (by decide) ?_
    refine lv_aload_n hx hb dX7_isCell_8 rfl (lv_at hl 0 rfl) ?_
    refine kg (C := RX7) (T := TX7) (N := 32) (ci := 5) (k := 1) (v := .ref (om + 2)) S hK rfl inX7 (by decide) q_731 dX7_isCell_9 hM rfl rfl ?_
    refine lv_iload_n hx hb dX7_isCell_12 rfl (lv_at hl 1 rfl) ?_
    refine kil (f := μ.2.1 1) S hK dX7_isCell_13 2 hM rfl (by decide) rfl (by omega) ?_
    refine n_icmp_ge (tgt := 34) hx hb dX7_isCell_14 (by decide) (by omega) (by omega) (fun c_14 => ?_) (fun c_14 => ?_)
    ·
      have hr : isC (μ.2.1 1 p) (μ.2.1 2 p) (nI j) = false := by rw [isC_n hj, decide_eq_false (by omega)]; rfl
      refine lv_iconst (v := nI 0) hx hb dX7_isCell_34 (by decide) ?_
      refine w_top (v' := .int (b2i (isC (μ.2.1 1 p) (μ.2.1 2 p) (nI j)))) (bz_f (show (isC (μ.2.1 1 p) (μ.2.1 2 p) (nI j)) = false from hr)) ?_
      exact hE _ _ (kr_z dX7_isCell_35)
    ·
      refine lv_iload_n hx hb dX7_isCell_17 rfl (lv_at hl 2 rfl) ?_
      refine lv_bipush (v := nI 10) hx hb dX7_isCell_18 (by decide) ?_
      refine n_irem hx hb dX7_isCell_20 (by omega) (by decide) (by decide) ?_
      refine lv_aload_n hx hb dX7_isCell_21 rfl (lv_at hl 0 rfl) ?_
      refine kg (C := RX7) (T := TX7) (N := 32) (ci := 5) (k := 2) (v := .ref (om + 3)) S hK rfl inX7 (by decide) q_732 dX7_isCell_22 hM rfl rfl ?_
      refine lv_iload_n hx hb dX7_isCell_25 rfl (lv_at hl 1 rfl) ?_
      refine kil (f := μ.2.1 2) S hK dX7_isCell_26 3 hM rfl (by decide) rfl (by omega) ?_
      refine n_icmp_ge (tgt := 34) hx hb dX7_isCell_27 (by decide) (Nat.lt_trans (Nat.mod_lt _ (by decide)) (by decide)) (by omega) (fun c_27 => ?_) (fun c_27 => ?_)
      ·
        have hr : isC (μ.2.1 1 p) (μ.2.1 2 p) (nI j) = false := by rw [isC_n hj, decide_eq_false (p := j % 10 < _) (by omega), Bool.and_false]
        refine lv_iconst (v := nI 0) hx hb dX7_isCell_34 (by decide) ?_
        refine w_top (v' := .int (b2i (isC (μ.2.1 1 p) (μ.2.1 2 p) (nI j)))) (bz_f (show (isC (μ.2.1 1 p) (μ.2.1 2 p) (nI j)) = false from hr)) ?_
        exact hE _ _ (kr_z dX7_isCell_35)
      ·
        have hr : isC (μ.2.1 1 p) (μ.2.1 2 p) (nI j) = true := by rw [isC_n hj, decide_eq_true (by omega), decide_eq_true (by omega)]; rfl
        refine lv_iconst (v := nI 1) hx hb dX7_isCell_30 (by decide) ?_
        refine lv_goto (tgt := 35) hx hb dX7_isCell_31 (by decide) ?_
        refine w_top (v' := .int (b2i (isC (μ.2.1 1 p) (μ.2.1 2 p) (nI j)))) (bz_t (show (isC (μ.2.1 1 p) (μ.2.1 2 p) (nI j)) = true from hr)) ?_
        exact hE _ _ (kr_z dX7_isCell_35)

set_option maxHeartbeats 1000000 in
set_option maxRecDepth 100000 in
theorem c_X7_states (l : Launch) (G : Gt) (om : Nat) (μ : Sx) (p : Nat) (hp : p < 25) (hf : μ.2.1 3 p ≤ 5) : Cr l G yX7_states cX7_states 2 ((some .int)) 0 [.ref om, .int (nI p)] (fun H => bk G om (mL G om μ) H) (some (.int (nI (1 <<< μ.2.1 3 p)))) := by
  refine cr_entry [(0, .ref om), (1, .int (nI p))] (by decide) (Nat.le_of_ble_eq_true rfl) rfl ?_
  intro zp ze zs zm za zb zt zc Q S hK hPre hE ls hl
  have hx := S.1
  have hb := S.2.1
  have hM := hPre
  refine lv_iconst (v := nI 1) hx hb dX7_states_0 (by decide) ?_
  refine lv_aload_n hx hb dX7_states_1 rfl (lv_at hl 0 rfl) ?_
  refine kg (C := RX7) (T := TX7) (N := 32) (ci := 5) (k := 3) (v := .ref (om + 4)) S hK rfl inX7 (by decide) q_733 dX7_states_2 hM rfl rfl ?_
  refine lv_iload_n hx hb dX7_states_5 rfl (lv_at hl 1 rfl) ?_
  refine kil (f := μ.2.1 3) S hK dX7_states_6 4 hM rfl (by decide) rfl (by omega) ?_
  refine n_ishl hx hb dX7_states_7 (by omega) ?_
  refine w_top (v' := .int (nI (1 <<< μ.2.1 3 p))) (congrArg (fun z => Value.int (nI z)) (show (1 <<< (μ.2.1 3 p)) = (1 <<< μ.2.1 3 p) from by first | rfl | omega)) ?_
  exact hE _ _ (kr_i dX7_states_8)

set_option maxHeartbeats 1000000 in
set_option maxRecDepth 100000 in
theorem c_X7_first (l : Launch) (G : Gt) (s0 : Nat) (hs0 : ¬ s0 = 0) (hs : s0 < 2 ^ 20) : Cr l G yX7_first cX7_first 2 ((some .int)) 0 [.int (nI s0)] (fun H => True) (some (.int (nI (ct s0)))) := by
  refine cr_entry [(0, .int (nI s0))] (by decide) (Nat.le_of_ble_eq_true rfl) rfl ?_
  intro zp ze zs zm za zb zt zc Q S hK hPre hE ls hl
  have hx := S.1
  have hb := S.2.1
  obtain ⟨hc1, hc2, hc3⟩ := ct_spec hs0 hs
  refine lv_iconst (v := nI 0) hx hb dX7_first_0 (by decide) ?_
  refine lv_istore_n (lv' := [(1, .int (nI 0)), (0, .int (nI s0))]) hx hb dX7_first_1 rfl hl (by decide) rfl (fun ls hl => ?_)
  have L2 : ∀ (fu : Nat), ∀ (vk : Nat), (vk ≤ ct s0) → ct s0 - vk < fu → ∀ ls : Array Slot, lv_has ls 2 [(0, .int (nI s0)), (1, .int (nI vk))] → W zp l ze (rL 0 0 0) zs zm za zb zt zc zs.heap [] 0 0 Q (F0 zm 2 ls []) := by
    intro fu
    induction fu with
    | zero =>
      intro vk hvk hmu ls hl
      exact absurd hmu (Nat.not_lt_zero _)
    | succ fu ih2 =>
      intro vk hvk hmu ls hl
      refine lv_iload_n hx hb dX7_first_2 rfl (lv_at hl 0 rfl) ?_
      refine lv_iload_n hx hb dX7_first_3 rfl (lv_at hl 1 rfl) ?_
      refine n_ishr hx hb dX7_first_4 (by omega) (by omega) ?_
      refine lv_iconst (v := nI 1) hx hb dX7_first_5 (by decide) ?_
      refine n_iand hx hb dX7_first_6 ?_
      refine n_if_ne (tgt := 16) hx hb dX7_first_7 (by decide) (Nat.lt_of_le_of_lt Nat.and_le_right (by decide)) (fun c_7 => ?_) (fun c_7 => ?_)
      ·
        have hr : vk = ct s0 := by
                  rcases Nat.lt_or_ge vk (ct s0) with q | q
                  · exact absurd (tb0.mpr (hc3 vk q)) c_7
                  · omega
        refine lv_iload_n hx hb dX7_first_16 rfl (lv_at hl 1 rfl) ?_
        refine w_top (v' := .int (nI (ct s0))) (congrArg (fun z => Value.int (nI z)) (show vk = (ct s0) from hr)) ?_
        exact hE _ _ (kr_i dX7_first_17)
      ·
        have hne : ¬ vk = ct s0 := by
                  intro q
                  have q2 := tb0.mp c_7
                  rw [q, hc2] at q2
                  cases q2
        refine lv_iinc (v := nI (vk + 1)) (lv' := [(1, .int (nI (vk + 1))), (0, .int (nI s0))]) hx hb dX7_first_10 hl (k := 1) rfl (inc1 _) (by decide) rfl (fun ls hl => ?_)
        refine lv_goto (tgt := 2) hx hb dX7_first_13 (by decide) ?_
        exact ih2 (vk + 1) (by first | assumption | omega) (by omega) ls (lv_sub hl [1, 0] rfl)
  exact L2 ((ct s0 - 0) + 1) 0 (Nat.zero_le _) (Nat.lt_succ_self _) ls (lv_sub hl [1, 0] rfl)

set_option maxHeartbeats 1000000 in
set_option maxRecDepth 100000 in
theorem c_X7_isRight (l : Launch) (G : Gt) (s0 : Nat) (vk : Nat) (hs : s0 < 2 ^ 20) (hvk : vk < 20) : Cr l G yX7_isRight cX7_isRight 2 ((some .boolean)) 0 [.int (nI s0), .int (nI vk)] (fun H => True) (some (.int (b2i (rgt s0 vk)))) := by
  refine cr_entry [(0, .int (nI s0)), (1, .int (nI vk))] (by decide) (Nat.le_of_ble_eq_true rfl) rfl ?_
  intro zp ze zs zm za zb zt zc Q S hK hPre hE ls hl
  have hx := S.1
  have hb := S.2.1
  refine lv_iload_n hx hb dX7_isRight_0 rfl (lv_at hl 1 rfl) ?_
  refine lv_iconst (v := nI 5) hx hb dX7_isRight_1 (by decide) ?_
  refine n_irem hx hb dX7_isRight_2 (by omega) (by decide) (by decide) ?_
  refine lv_iconst (v := nI 4) hx hb dX7_isRight_3 (by decide) ?_
  refine n_icmp_ge (tgt := 22) hx hb dX7_isRight_4 (by decide) (Nat.lt_trans (Nat.mod_lt _ (by decide)) (by decide)) (by decide) (fun c_4 => ?_) (fun c_4 => ?_)
  ·
    have hr : rgt s0 vk = false := rgt_n (by omega)
    refine lv_iconst (v := nI 0) hx hb dX7_isRight_22 (by decide) ?_
    refine w_top (v' := .int (b2i (rgt s0 vk))) (bz_f (show (rgt s0 vk) = false from hr)) ?_
    exact hE _ _ (kr_z dX7_isRight_23)
  ·
    refine lv_iload_n hx hb dX7_isRight_7 rfl (lv_at hl 0 rfl) ?_
    refine lv_iload_n hx hb dX7_isRight_8 rfl (lv_at hl 1 rfl) ?_
    refine lv_iconst (v := nI 1) hx hb dX7_isRight_9 (by decide) ?_
    refine n_iadd hx hb dX7_isRight_10 ?_
    refine n_ishr hx hb dX7_isRight_11 (by omega) (by omega) ?_
    refine lv_iconst (v := nI 1) hx hb dX7_isRight_12 (by decide) ?_
    refine n_iand hx hb dX7_isRight_13 ?_
    refine lv_iconst (v := nI 1) hx hb dX7_isRight_14 (by decide) ?_
    refine n_icmp_ne (tgt := 22) hx hb dX7_isRight_15 (by decide) (Nat.lt_of_le_of_lt Nat.and_le_right (by decide)) (by decide) (fun c_15 => ?_) (fun c_15 => ?_)
    ·
      have hr : rgt s0 vk = false := by rw [rgt_y (by omega)]; cases hq : s0.testBit (vk + 1); rfl; exact absurd (bit1.mpr hq) c_15
      refine lv_iconst (v := nI 0) hx hb dX7_isRight_22 (by decide) ?_
      refine w_top (v' := .int (b2i (rgt s0 vk))) (bz_f (show (rgt s0 vk) = false from hr)) ?_
      exact hE _ _ (kr_z dX7_isRight_23)
    ·
      have hr : rgt s0 vk = true := by rw [rgt_y (by omega)]; exact bit1.mp c_15
      refine lv_iconst (v := nI 1) hx hb dX7_isRight_18 (by decide) ?_
      refine lv_goto (tgt := 23) hx hb dX7_isRight_19 (by decide) ?_
      refine w_top (v' := .int (b2i (rgt s0 vk))) (bz_t (show (rgt s0 vk) = true from hr)) ?_
      exact hE _ _ (kr_z dX7_isRight_23)

set_option maxHeartbeats 1000000 in
set_option maxRecDepth 100000 in
theorem c_X7_isDown (l : Launch) (G : Gt) (s0 : Nat) (vk : Nat) (hs : s0 < 2 ^ 20) (hvk : vk < 20) : Cr l G yX7_isDown cX7_isDown 2 ((some .boolean)) 0 [.int (nI s0), .int (nI vk)] (fun H => True) (some (.int (b2i (dwn s0 vk)))) := by
  refine cr_entry [(0, .int (nI s0)), (1, .int (nI vk))] (by decide) (Nat.le_of_ble_eq_true rfl) rfl ?_
  intro zp ze zs zm za zb zt zc Q S hK hPre hE ls hl
  have hx := S.1
  have hb := S.2.1
  refine lv_iload_n hx hb dX7_isDown_0 rfl (lv_at hl 1 rfl) ?_
  refine lv_bipush (v := nI 15) hx hb dX7_isDown_1 (by decide) ?_
  refine n_icmp_ge (tgt := 21) hx hb dX7_isDown_3 (by decide) (by omega) (by decide) (fun c_3 => ?_) (fun c_3 => ?_)
  ·
    have hr : dwn s0 vk = false := dwn_n hs (by omega)
    refine lv_iconst (v := nI 0) hx hb dX7_isDown_21 (by decide) ?_
    refine w_top (v' := .int (b2i (dwn s0 vk))) (bz_f (show (dwn s0 vk) = false from hr)) ?_
    exact hE _ _ (kr_z dX7_isDown_22)
  ·
    refine lv_iload_n hx hb dX7_isDown_6 rfl (lv_at hl 0 rfl) ?_
    refine lv_iload_n hx hb dX7_isDown_7 rfl (lv_at hl 1 rfl) ?_
    refine lv_iconst (v := nI 5) hx hb dX7_isDown_8 (by decide) ?_
    refine n_iadd hx hb dX7_isDown_9 ?_
    refine n_ishr hx hb dX7_isDown_10 (by omega) (by omega) ?_
    refine lv_iconst (v := nI 1) hx hb dX7_isDown_11 (by decide) ?_
    refine n_iand hx hb dX7_isDown_12 ?_
    refine lv_iconst (v := nI 1) hx hb dX7_isDown_13 (by decide) ?_
    refine n_icmp_ne (tgt := 21) hx hb dX7_isDown_14 (by decide) (Nat.lt_of_le_of_lt Nat.and_le_right (by decide)) (by decide) (fun c_14 => ?_) (fun c_14 => ?_)
    ·
      have hr : dwn s0 vk = false := by unfold dwn; cases hq : s0.testBit (vk + 5); rfl; exact absurd (bit1.mpr hq) c_14
      refine lv_iconst (v := nI 0) hx hb dX7_isDown_21 (by decide) ?_
      refine w_top (v' := .int (b2i (dwn s0 vk))) (bz_f (show (dwn s0 vk) = false from hr)) ?_
      exact hE _ _ (kr_z dX7_isDown_22)
    ·
      have hr : dwn s0 vk = true := bit1.mp c_14
      refine lv_iconst (v := nI 1) hx hb dX7_isDown_17 (by decide) ?_
      refine lv_goto (tgt := 22) hx hb dX7_isDown_18 (by decide) ?_
      refine w_top (v' := .int (b2i (dwn s0 vk))) (bz_t (show (dwn s0 vk) = true from hr)) ?_
      exact hE _ _ (kr_z dX7_isDown_22)

set_option maxHeartbeats 1000000 in
set_option maxRecDepth 100000 in
theorem c_X7_open (l : Launch) (G : Gt) (om : Nat) (μ : Sx) (p : Nat) (hp : p < 25) (hcl : ∀ k, k < 20 → clM μ p k < 16) : Cr l G yX7_open cX7_open 4 ((some .int)) 0 [.ref om, .int (nI p)] (fun H => bk G om (mL G om μ) H) (some (.int (nI (opn (clM μ p) 20)))) := by
  refine cr_entry [(0, .ref om), (1, .int (nI p))] (by decide) (Nat.le_of_ble_eq_true rfl) rfl ?_
  intro zp ze zs zm za zb zt zc Q S hK hPre hE ls hl
  have hx := S.1
  have hb := S.2.1
  have hM := hPre
  refine lv_iconst (v := nI 0) hx hb dX7_open_0 (by decide) ?_
  refine lv_istore_n (lv' := [(2, .int (nI 0)), (0, .ref om), (1, .int (nI p))]) hx hb dX7_open_1 rfl hl (by decide) rfl (fun ls hl => ?_)
  refine lv_iconst (v := nI 0) hx hb dX7_open_2 (by decide) ?_
  refine lv_istore_n (lv' := [(3, .int (nI 0)), (2, .int (nI 0)), (0, .ref om), (1, .int (nI p))]) hx hb dX7_open_3 rfl hl (by decide) rfl (fun ls hl => ?_)
  have L4 : ∀ (fu : Nat), ∀ (vk : Nat), (vk ≤ 20) → 20 - vk < fu → ∀ ls : Array Slot, lv_has ls 4 [(0, .ref om), (1, .int (nI p)), (2, .int (nI (opn (clM μ p) vk))), (3, .int (nI vk))] → W zp l ze (rL 0 0 0) zs zm za zb zt zc zs.heap [] 0 0 Q (F0 zm 4 ls []) := by
    intro fu
    induction fu with
    | zero =>
      intro vk hvk hmu ls hl
      exact absurd hmu (Nat.not_lt_zero _)
    | succ fu ih4 =>
      intro vk hvk hmu ls hl
      refine lv_iload_n hx hb dX7_open_4 rfl (lv_at hl 3 rfl) ?_
      refine lv_bipush (v := nI 20) hx hb dX7_open_5 (by decide) ?_
      refine n_icmp_ge (tgt := 38) hx hb dX7_open_7 (by decide) (by omega) (by decide) (fun c_7 => ?_) (fun c_7 => ?_)
      ·
        have hr : opn (clM μ p) vk = opn (clM μ p) 20 := by rw [show vk = 20 from by omega]
        refine lv_iload_n hx hb dX7_open_38 rfl (lv_at hl 2 rfl) ?_
        refine w_top (v' := .int (nI (opn (clM μ p) 20))) (congrArg (fun z => Value.int (nI z)) (show (opn (clM μ p) vk) = (opn (clM μ p) 20) from hr)) ?_
        exact hE _ _ (kr_i dX7_open_39)
      ·
        have hck : μ.2.1 4 (20 * p + vk) < 16 := hcl vk (by omega)
        refine lv_iload_n hx hb dX7_open_10 rfl (lv_at hl 2 rfl) ?_
        refine lv_aload_n hx hb dX7_open_11 rfl (lv_at hl 0 rfl) ?_
        refine kg (C := RX7) (T := TX7) (N := 32) (ci := 5) (k := 4) (v := .ref (om + 5)) S hK rfl inX7 (by decide) q_734 dX7_open_12 hM rfl rfl ?_
        refine lv_bipush (v := nI 20) hx hb dX7_open_15 (by decide) ?_
        refine lv_iload_n hx hb dX7_open_17 rfl (lv_at hl 1 rfl) ?_
        refine n_imul hx hb dX7_open_18 ?_
        refine lv_iload_n hx hb dX7_open_19 rfl (lv_at hl 3 rfl) ?_
        refine n_iadd hx hb dX7_open_20 ?_
        refine kil (f := μ.2.1 4) S hK dX7_open_21 5 hM rfl (by decide) rfl (by omega) ?_
        refine n_if_eq (tgt := 29) hx hb dX7_open_22 (by decide) (by omega) (fun c_22 => ?_) (fun c_22 => ?_)
        ·
          have e2 := opn_0 (cl := clM μ p) (n := vk) c_22
          refine lv_iconst (v := nI 0) hx hb dX7_open_29 (by decide) ?_
          refine n_iadd hx hb dX7_open_30 ?_
          refine lv_istore_n (lv' := [(2, .int (nI ((opn (clM μ p) vk) + 0))), (0, .ref om), (1, .int (nI p)), (3, .int (nI vk))]) hx hb dX7_open_31 rfl hl (by decide) rfl (fun ls hl => ?_)
          refine lv_iinc (v := nI (vk + 1)) (lv' := [(3, .int (nI (vk + 1))), (2, .int (nI ((opn (clM μ p) vk) + 0))), (0, .ref om), (1, .int (nI p))]) hx hb dX7_open_32 hl (k := 3) rfl (inc1 _) (by decide) rfl (fun ls hl => ?_)
          refine lv_goto (tgt := 4) hx hb dX7_open_35 (by decide) ?_
          replace hl := lv_eq 1 hl rfl (v2 := .int (nI (opn (clM μ p) (vk + 1)))) (congrArg (fun z => Value.int (nI z)) (show ((opn (clM μ p) vk) + 0) = (opn (clM μ p) (vk + 1)) from e2.symm))
          exact ih4 (vk + 1) (by first | assumption | omega) (by omega) ls (lv_sub hl [2, 3, 1, 0] rfl)
        ·
          have e2 := opn_1 (cl := clM μ p) (n := vk) c_22
          refine lv_iconst (v := nI 1) hx hb dX7_open_25 (by decide) ?_
          refine lv_goto (tgt := 30) hx hb dX7_open_26 (by decide) ?_
          refine n_iadd hx hb dX7_open_30 ?_
          refine lv_istore_n (lv' := [(2, .int (nI ((opn (clM μ p) vk) + 1))), (0, .ref om), (1, .int (nI p)), (3, .int (nI vk))]) hx hb dX7_open_31 rfl hl (by decide) rfl (fun ls hl => ?_)
          refine lv_iinc (v := nI (vk + 1)) (lv' := [(3, .int (nI (vk + 1))), (2, .int (nI ((opn (clM μ p) vk) + 1))), (0, .ref om), (1, .int (nI p))]) hx hb dX7_open_32 hl (k := 3) rfl (inc1 _) (by decide) rfl (fun ls hl => ?_)
          refine lv_goto (tgt := 4) hx hb dX7_open_35 (by decide) ?_
          replace hl := lv_eq 1 hl rfl (v2 := .int (nI (opn (clM μ p) (vk + 1)))) (congrArg (fun z => Value.int (nI z)) (show ((opn (clM μ p) vk) + 1) = (opn (clM μ p) (vk + 1)) from e2.symm))
          exact ih4 (vk + 1) (by first | assumption | omega) (by omega) ls (lv_sub hl [2, 3, 1, 0] rfl)
  replace hl := lv_eq 1 hl rfl (v2 := .int (nI (opn (clM μ p) 0))) (congrArg (fun z => Value.int (nI z)) (show 0 = (opn (clM μ p) 0) from by first | rfl | omega))
  exact L4 ((20 - 0) + 1) 0 (Nat.zero_le _) (Nat.lt_succ_self _) ls (lv_sub hl [2, 3, 1, 0] rfl)

set_option maxHeartbeats 1000000 in
set_option maxRecDepth 100000 in
theorem c_X7_toCover (l : Launch) (G : Gt) (om : Nat) (μ : Sx) (p : Nat) (st : Nat) (hp : p < 25) (hst : st < 2 ^ 31) (hcl : ∀ k, k < 20 → clM μ p k < 16) : Cr l G yX7_toCover cX7_toCover 6 ((some .int)) 0 [.ref om, .int (nI p), .int (nI st)] (fun H => bk G om (mL G om μ) H) (some (.int (nI (tcM (clM μ p) st)))) := by
  refine cr_entry [(0, .ref om), (1, .int (nI p)), (2, .int (nI st))] (by decide) (Nat.le_of_ble_eq_true rfl) rfl ?_
  intro zp ze zs zm za zb zt zc Q S hK hPre hE ls hl
  have hx := S.1
  have hb := S.2.1
  have hM := hPre
  refine lv_iconst (v := nI 0) hx hb dX7_toCover_0 (by decide) ?_
  refine lv_istore_n (lv' := [(3, .int (nI 0)), (0, .ref om), (1, .int (nI p)), (2, .int (nI st))]) hx hb dX7_toCover_1 rfl hl (by decide) rfl (fun ls hl => ?_)
  refine lv_iconst (v := nI 0) hx hb dX7_toCover_2 (by decide) ?_
  refine lv_istore (lv' := [(4, .int (nI 0)), (3, .int (nI 0)), (0, .ref om), (1, .int (nI p)), (2, .int (nI st))]) hx hb dX7_toCover_3 hl (by decide) rfl (fun ls hl => ?_)
  have L5 : ∀ (fu : Nat), ∀ (vk : Nat), (vk ≤ 20) → 20 - vk < fu → ∀ ls : Array Slot, lv_has ls 6 [(0, .ref om), (1, .int (nI p)), (2, .int (nI st)), (3, .int (nI (bo (cov (clM μ p) st) vk))), (4, .int (nI vk))] → W zp l ze (rL 0 0 0) zs zm za zb zt zc zs.heap [] 0 0 Q (F0 zm 5 ls []) := by
    intro fu
    induction fu with
    | zero =>
      intro vk hvk hmu ls hl
      exact absurd hmu (Nat.not_lt_zero _)
    | succ fu ih5 =>
      intro vk hvk hmu ls hl
      refine lv_iload hx hb dX7_toCover_5 (lv_at hl 4 rfl) ?_
      refine lv_bipush (v := nI 20) hx hb dX7_toCover_7 (by decide) ?_
      refine n_icmp_ge (tgt := 68) hx hb dX7_toCover_9 (by decide) (by omega) (by decide) (fun c_9 => ?_) (fun c_9 => ?_)
      ·
        have hr : bo (cov (clM μ p) st) vk = tcM (clM μ p) st := by rw [show vk = 20 from by omega]
        refine lv_iload_n hx hb dX7_toCover_68 rfl (lv_at hl 3 rfl) ?_
        refine w_top (v' := .int (nI (tcM (clM μ p) st))) (congrArg (fun z => Value.int (nI z)) (show (bo (cov (clM μ p) st) vk) = (tcM (clM μ p) st) from hr)) ?_
        exact hE _ _ (kr_i dX7_toCover_69)
      ·
        have hck : μ.2.1 4 (20 * p + vk) < 16 := hcl vk (by omega)
        refine lv_aload_n hx hb dX7_toCover_12 rfl (lv_at hl 0 rfl) ?_
        refine kg (C := RX7) (T := TX7) (N := 32) (ci := 5) (k := 4) (v := .ref (om + 5)) S hK rfl inX7 (by decide) q_734 dX7_toCover_13 hM rfl rfl ?_
        refine lv_bipush (v := nI 20) hx hb dX7_toCover_16 (by decide) ?_
        refine lv_iload_n hx hb dX7_toCover_18 rfl (lv_at hl 1 rfl) ?_
        refine n_imul hx hb dX7_toCover_19 ?_
        refine lv_iload hx hb dX7_toCover_20 (lv_at hl 4 rfl) ?_
        refine n_iadd hx hb dX7_toCover_22 ?_
        refine kil (f := μ.2.1 4) S hK dX7_toCover_23 5 hM rfl (by decide) rfl (by omega) ?_
        refine lv_istore (lv' := [(5, .int (nI (μ.2.1 4 ((20 * p) + vk)))), (0, .ref om), (1, .int (nI p)), (2, .int (nI st)), (3, .int (nI (bo (cov (clM μ p) st) vk))), (4, .int (nI vk))]) hx hb dX7_toCover_24 hl (by decide) rfl (fun ls hl => ?_)
        refine lv_iload_n hx hb dX7_toCover_26 rfl (lv_at hl 4 rfl) ?_
        refine lv_iload hx hb dX7_toCover_27 (lv_at hl 0 rfl) ?_
        refine lv_iconst (v := nI 1) hx hb dX7_toCover_29 (by decide) ?_
        refine n_icmp_eq (tgt := 52) hx hb dX7_toCover_30 (by decide) (by omega) (by decide) (fun c_30 => ?_) (fun c_30 => ?_)
        ·
          have e2 := bo_or1 (P := cov (clM μ p) st) (n := vk) (by unfold cov; rw [decide_eq_true (p := clM μ p vk = 1) c_30]; rfl)
          refine lv_iconst (v := nI 1) hx hb dX7_toCover_52 (by decide) ?_
          refine lv_iload hx hb dX7_toCover_53 (lv_at hl 5 rfl) ?_
          refine n_ishl hx hb dX7_toCover_55 (by omega) ?_
          refine lv_goto (tgt := 60) hx hb dX7_toCover_56 (by decide) ?_
          refine n_ior hx hb dX7_toCover_60 ?_
          refine lv_istore_n (lv' := [(3, .int (nI ((bo (cov (clM μ p) st) vk) ||| (1 <<< vk)))), (5, .int (nI (μ.2.1 4 ((20 * p) + vk)))), (0, .ref om), (1, .int (nI p)), (2, .int (nI st)), (4, .int (nI vk))]) hx hb dX7_toCover_61 rfl hl (by decide) rfl (fun ls hl => ?_)
          refine lv_iinc (v := nI (vk + 1)) (lv' := [(4, .int (nI (vk + 1))), (3, .int (nI ((bo (cov (clM μ p) st) vk) ||| (1 <<< vk)))), (5, .int (nI (μ.2.1 4 ((20 * p) + vk)))), (0, .ref om), (1, .int (nI p)), (2, .int (nI st))]) hx hb dX7_toCover_62 hl (k := 5) rfl (inc1 _) (by decide) rfl (fun ls hl => ?_)
          refine lv_goto (tgt := 5) hx hb dX7_toCover_65 (by decide) ?_
          replace hl := lv_eq 1 hl rfl (v2 := .int (nI (bo (cov (clM μ p) st) (vk + 1)))) (congrArg (fun z => Value.int (nI z)) (show ((bo (cov (clM μ p) st) vk) ||| (1 <<< vk)) = (bo (cov (clM μ p) st) (vk + 1)) from e2))
          exact ih5 (vk + 1) (by first | assumption | omega) (by omega) ls (lv_sub hl [3, 4, 5, 1, 0] rfl)
        ·
          refine lv_iload hx hb dX7_toCover_33 (lv_at hl 0 rfl) ?_
          refine lv_bipush (v := nI 10) hx hb dX7_toCover_35 (by decide) ?_
          refine n_icmp_lt (tgt := 59) hx hb dX7_toCover_37 (by decide) (by omega) (by decide) (fun c_37 => ?_) (fun c_37 => ?_)
          ·
            have e2 := bo_or0 (P := cov (clM μ p) st) (n := vk) (by unfold cov; rw [decide_eq_false (p := clM μ p vk = 1) c_30, decide_eq_false (p := 10 ≤ clM μ p vk) (by show ¬ 10 ≤ μ.2.1 4 (20 * p + vk); omega)]; rfl)
            refine lv_iconst (v := nI 0) hx hb dX7_toCover_59 (by decide) ?_
            refine n_ior hx hb dX7_toCover_60 ?_
            refine lv_istore_n (lv' := [(3, .int (nI ((bo (cov (clM μ p) st) vk) ||| 0))), (5, .int (nI (μ.2.1 4 ((20 * p) + vk)))), (0, .ref om), (1, .int (nI p)), (2, .int (nI st)), (4, .int (nI vk))]) hx hb dX7_toCover_61 rfl hl (by decide) rfl (fun ls hl => ?_)
            refine lv_iinc (v := nI (vk + 1)) (lv' := [(4, .int (nI (vk + 1))), (3, .int (nI ((bo (cov (clM μ p) st) vk) ||| 0))), (5, .int (nI (μ.2.1 4 ((20 * p) + vk)))), (0, .ref om), (1, .int (nI p)), (2, .int (nI st))]) hx hb dX7_toCover_62 hl (k := 5) rfl (inc1 _) (by decide) rfl (fun ls hl => ?_)
            refine lv_goto (tgt := 5) hx hb dX7_toCover_65 (by decide) ?_
            replace hl := lv_eq 1 hl rfl (v2 := .int (nI (bo (cov (clM μ p) st) (vk + 1)))) (congrArg (fun z => Value.int (nI z)) (show ((bo (cov (clM μ p) st) vk) ||| 0) = (bo (cov (clM μ p) st) (vk + 1)) from e2))
            exact ih5 (vk + 1) (by first | assumption | omega) (by omega) ls (lv_sub hl [3, 4, 5, 1, 0] rfl)
          ·
            refine lv_iload_n hx hb dX7_toCover_40 rfl (lv_at hl 3 rfl) ?_
            refine lv_iload hx hb dX7_toCover_41 (lv_at hl 0 rfl) ?_
            refine lv_bipush (v := nI 10) hx hb dX7_toCover_43 (by decide) ?_
            refine n_isub hx hb dX7_toCover_45 (by omega) ?_
            refine n_ishr hx hb dX7_toCover_46 (by omega) (by omega) ?_
            refine lv_iconst (v := nI 1) hx hb dX7_toCover_47 (by decide) ?_
            refine n_iand hx hb dX7_toCover_48 ?_
            refine n_if_ne (tgt := 59) hx hb dX7_toCover_49 (by decide) (Nat.lt_of_le_of_lt Nat.and_le_right (by decide)) (fun c_49 => ?_) (fun c_49 => ?_)
            ·
              have e2 := bo_or0 (P := cov (clM μ p) st) (n := vk) (by unfold cov; rw [decide_eq_false (p := clM μ p vk = 1) c_30, decide_eq_false (p := st >>> (clM μ p vk - 10) &&& 1 = 0) c_49, Bool.and_false]; rfl)
              refine lv_iconst (v := nI 0) hx hb dX7_toCover_59 (by decide) ?_
              refine n_ior hx hb dX7_toCover_60 ?_
              refine lv_istore_n (lv' := [(3, .int (nI ((bo (cov (clM μ p) st) vk) ||| 0))), (5, .int (nI (μ.2.1 4 ((20 * p) + vk)))), (0, .ref om), (1, .int (nI p)), (2, .int (nI st)), (4, .int (nI vk))]) hx hb dX7_toCover_61 rfl hl (by decide) rfl (fun ls hl => ?_)
              refine lv_iinc (v := nI (vk + 1)) (lv' := [(4, .int (nI (vk + 1))), (3, .int (nI ((bo (cov (clM μ p) st) vk) ||| 0))), (5, .int (nI (μ.2.1 4 ((20 * p) + vk)))), (0, .ref om), (1, .int (nI p)), (2, .int (nI st))]) hx hb dX7_toCover_62 hl (k := 5) rfl (inc1 _) (by decide) rfl (fun ls hl => ?_)
              refine lv_goto (tgt := 5) hx hb dX7_toCover_65 (by decide) ?_
              replace hl := lv_eq 1 hl rfl (v2 := .int (nI (bo (cov (clM μ p) st) (vk + 1)))) (congrArg (fun z => Value.int (nI z)) (show ((bo (cov (clM μ p) st) vk) ||| 0) = (bo (cov (clM μ p) st) (vk + 1)) from e2))
              exact ih5 (vk + 1) (by first | assumption | omega) (by omega) ls (lv_sub hl [3, 4, 5, 1, 0] rfl)
            ·
              have e2 := bo_or1 (P := cov (clM μ p) st) (n := vk) (by unfold cov; rw [decide_eq_true (p := st >>> (clM μ p vk - 10) &&& 1 = 0) c_49, decide_eq_true (p := 10 ≤ clM μ p vk) (by show 10 ≤ μ.2.1 4 (20 * p + vk); omega)]; simp)
              refine lv_iconst (v := nI 1) hx hb dX7_toCover_52 (by decide) ?_
              refine lv_iload hx hb dX7_toCover_53 (lv_at hl 5 rfl) ?_
              refine n_ishl hx hb dX7_toCover_55 (by omega) ?_
              refine lv_goto (tgt := 60) hx hb dX7_toCover_56 (by decide) ?_
              refine n_ior hx hb dX7_toCover_60 ?_
              refine lv_istore_n (lv' := [(3, .int (nI ((bo (cov (clM μ p) st) vk) ||| (1 <<< vk)))), (5, .int (nI (μ.2.1 4 ((20 * p) + vk)))), (0, .ref om), (1, .int (nI p)), (2, .int (nI st)), (4, .int (nI vk))]) hx hb dX7_toCover_61 rfl hl (by decide) rfl (fun ls hl => ?_)
              refine lv_iinc (v := nI (vk + 1)) (lv' := [(4, .int (nI (vk + 1))), (3, .int (nI ((bo (cov (clM μ p) st) vk) ||| (1 <<< vk)))), (5, .int (nI (μ.2.1 4 ((20 * p) + vk)))), (0, .ref om), (1, .int (nI p)), (2, .int (nI st))]) hx hb dX7_toCover_62 hl (k := 5) rfl (inc1 _) (by decide) rfl (fun ls hl => ?_)
              refine lv_goto (tgt := 5) hx hb dX7_toCover_65 (by decide) ?_
              replace hl := lv_eq 1 hl rfl (v2 := .int (nI (bo (cov (clM μ p) st) (vk + 1)))) (congrArg (fun z => Value.int (nI z)) (show ((bo (cov (clM μ p) st) vk) ||| (1 <<< vk)) = (bo (cov (clM μ p) st) (vk + 1)) from e2))
              exact ih5 (vk + 1) (by first | assumption | omega) (by omega) ls (lv_sub hl [3, 4, 5, 1, 0] rfl)
  replace hl := lv_eq 1 hl rfl (v2 := .int (nI (bo (cov (clM μ p) st) 0))) (congrArg (fun z => Value.int (nI z)) (show 0 = (bo (cov (clM μ p) st) 0) from by first | rfl | omega))
  exact L5 ((20 - 0) + 1) 0 (Nat.zero_le _) (Nat.lt_succ_self _) ls (lv_sub hl [2, 3, 4, 1, 0] rfl)
