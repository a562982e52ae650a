
/-! walks: the reference's links and free faces -/
def fnd (P : Nat → Bool) : Nat → Nat → Option Nat
  | 0, _ => none
  | n + 1, i => if P i then some i else fnd P n (i + 1)
theorem fnd_t {P : Nat → Bool} {n i : Nat} (h : P i = true) : fnd P (n + 1) i = some i := by unfold fnd; rw [if_pos h]
theorem fnd_f {P : Nat → Bool} {n i : Nat} (h : P i = false) : fnd P (n + 1) i = fnd P n (i + 1) := by conv => lhs; unfold fnd; rw [if_neg (by rw [h]; decide)]
theorem fnd_lt {P : Nat → Bool} {j : Nat} : ∀ (n i : Nat), fnd P n i = some j → i ≤ j ∧ j < i + n ∧ P j = true
  | 0, i, h => by cases h
  | n + 1, i, h => by
    by_cases hp : P i = true
    · rw [fnd_t hp] at h
      cases h
      exact ⟨Nat.le_refl _, by omega, hp⟩
    · rw [fnd_f (by simpa using hp)] at h
      obtain ⟨h1, h2, h3⟩ := fnd_lt n (i + 1) h
      exact ⟨by omega, by omega, h3⟩
theorem fnd_none {P : Nat → Bool} : ∀ (n i : Nat), fnd P n i = none → ∀ j, i ≤ j → j < i + n → P j = false
  | 0, i, h, j, h1, h2 => by omega
  | n + 1, i, h, j, h1, h2 => by
    by_cases hp : P i = true
    · rw [fnd_t hp] at h
      cases h
    · have hp2 : P i = false := by simpa using hp
      rw [fnd_f hp2] at h
      by_cases e : j = i
      · rw [e]; exact hp2
      · exact fnd_none n (i + 1) h j (by omega) (by omega)
def oI : Option Nat → Int32
  | none => -9
  | some k => nI k
def lkP (A B : Nat → Nat) (v : Nat) : Nat → Bool := fun k => decide (A k = v) || decide (B k = v)
abbrev lkM (μ : Sx) (n v : Nat) : Option Nat := fnd (lkP (fun k => μ.2.1 10 (12 * n + k)) (fun k => μ.2.1 11 (12 * n + k)) v) (μ.2.1 8 n) 0
def isFc (μ : Sx) (n : Nat) (v : Int32) : Bool := decide (0 ≤ v.toInt) && (decide (cx v / 10 < μ.2.1 7 n) && decide (cx v % 10 < μ.2.1 3 (μ.2.1 9 (8 * n + cx v / 10))))
theorem isFc_neg {μ : Sx} {n : Nat} {v : Int32} (hv : v < 0) : isFc μ n v = false := by
  have := Int32.lt_iff_toInt_lt.mp hv
  have e : (0 : Int32).toInt = 0 := rfl
  unfold isFc
  rw [decide_eq_false (by omega)]
  rfl
theorem isFc_n {μ : Sx} {n j : Nat} (hj : j < 2 ^ 31) : isFc μ n (nI j) = (decide (j / 10 < μ.2.1 7 n) && decide (j % 10 < μ.2.1 3 (μ.2.1 9 (8 * n + j / 10)))) := by
  unfold isFc
  rw [cx_n hj, nI_toInt hj, decide_eq_true (by omega)]
  rfl
theorem isFc_x {μ : Sx} {n : Nat} {v : Int32} (h : isFc μ n v = true) (h8 : μ.2.1 7 n ≤ 8) : ∃ j : Nat, j < 80 ∧ v = nI j ∧ j / 10 < μ.2.1 7 n ∧ j % 10 < μ.2.1 3 (μ.2.1 9 (8 * n + j / 10)) := by
  unfold isFc at h
  simp only [Bool.and_eq_true, decide_eq_true_eq] at h
  obtain ⟨h2, h3, h4⟩ := h
  obtain ⟨j, hj, e⟩ := nI_of (x := v) (fun q => by have := Int32.lt_iff_toInt_lt.mp q; have e0 : (0 : Int32).toInt = 0 := rfl; omega)
  subst e
  rw [cx_n hj] at h3 h4
  exact ⟨j, by omega, rfl, h3, h4⟩
def link_M (μ : Sx) (n a b : Int32) : Int32 × Sx := if inI n (μ.1 18) && (isFc μ (cx n) a && isFc μ (cx n) b) then
    (if a = b then (-3, rfM μ 3) else if (lkM μ (cx n) (cx a)).isSome then (-3, rfM μ 3) else if (lkM μ (cx n) (cx b)).isSome then (-3, rfM μ 3) else if μ.2.1 8 (cx n) = 12 then (-6, rfM μ 6) else
      (nI (μ.2.1 8 (cx n) + 1), uA (uA (uA μ 10 (12 * cx n + μ.2.1 8 (cx n)) (cx a)) 11 (12 * cx n + μ.2.1 8 (cx n)) (cx b)) 8 (cx n) (μ.2.1 8 (cx n) + 1))) else (-1, rfM μ 1)
/-- how many FREE ones are ahead; which is the i-th -/
def fc1 (Z : Nat → Nat → Bool) (k : Nat) : Nat → Nat
  | 0 => 0
  | m + 1 => fc1 Z k m + (if Z k m then 1 else 0)
def fcN (F : Nat → Nat) (Z : Nat → Nat → Bool) : Nat → Nat
  | 0 => 0
  | k + 1 => fcN F Z k + fc1 Z k (F k)
def frW (P : Nat) (F : Nat → Nat) (Z : Nat → Nat → Bool) (i last : Int32) : Nat → Nat → Nat → Nat → Int32
  | 0, _, _, _ => 0
  | u + 1, k, f, many => if k < P then (if f < F k then (if Z k f then (if nI many = i then nI (10 * k + f) else frW P F Z i last u k (f + 1) (many + 1)) else frW P F Z i last u k (f + 1) many) else frW P F Z i last u (k + 1) 0 many) else if i < 0 then nI many else last
theorem frW_e {P : Nat} {F : Nat → Nat} {Z : Nat → Nat → Bool} {i last : Int32} {u k f many : Nat} (h : ¬ k < P) : frW P F Z i last (u + 1) k f many = if i < 0 then nI many else last := by conv => lhs; unfold frW; rw [if_neg h]
theorem frW_k {P : Nat} {F : Nat → Nat} {Z : Nat → Nat → Bool} {i last : Int32} {u k f many : Nat} (h : k < P) (h2 : ¬ f < F k) : frW P F Z i last (u + 1) k f many = frW P F Z i last u (k + 1) 0 many := by conv => lhs; unfold frW; rw [if_pos h, if_neg h2]
theorem frW_n {P : Nat} {F : Nat → Nat} {Z : Nat → Nat → Bool} {i last : Int32} {u k f many : Nat} (h : k < P) (h2 : f < F k) (h3 : Z k f = false) : frW P F Z i last (u + 1) k f many = frW P F Z i last u k (f + 1) many := by conv => lhs; unfold frW; rw [if_pos h, if_pos h2, if_neg (by rw [h3]; decide)]
theorem frW_y {P : Nat} {F : Nat → Nat} {Z : Nat → Nat → Bool} {i last : Int32} {u k f many : Nat} (h : k < P) (h2 : f < F k) (h3 : Z k f = true) (h4 : ¬ nI many = i) : frW P F Z i last (u + 1) k f many = frW P F Z i last u k (f + 1) (many + 1) := by conv => lhs; unfold frW; rw [if_pos h, if_pos h2, if_pos h3, if_neg h4]
theorem frW_r {P : Nat} {F : Nat → Nat} {Z : Nat → Nat → Bool} {i last : Int32} {u k f many : Nat} (h : k < P) (h2 : f < F k) (h3 : Z k f = true) (h4 : nI many = i) : frW P F Z i last (u + 1) k f many = nI (10 * k + f) := by conv => lhs; unfold frW; rw [if_pos h, if_pos h2, if_pos h3, if_pos h4]
abbrev fM (μ : Sx) (n : Nat) : Nat → Nat := fun k => μ.2.1 3 (μ.2.1 9 (8 * n + k))
abbrev zM (μ : Sx) (n : Nat) : Nat → Nat → Bool := fun k f => (lkM μ n (10 * k + f)).isNone
abbrev freeOf_M (μ : Sx) (n : Nat) (i : Int32) : Int32 := frW (μ.2.1 7 n) (fM μ n) (zM μ n) i (-9) 100 0 0 0
def free_M (μ : Sx) (n i : Int32) : Int32 × Sx := if inI n (μ.1 18) then (if -1 ≤ i then (freeOf_M μ (cx n) i, μ) else (-1, rfM μ 1)) else (-1, rfM μ 1)
/-- what holds of one NET's parts -/
def MN1 (μ : Sx) (n : Nat) : Prop := n < 6 ∧ μ.2.1 7 n ≤ 8 ∧ μ.2.1 8 n ≤ 12 ∧ (∀ k, k < μ.2.1 7 n → μ.2.1 9 (8 * n + k) < 24 ∧ fM μ n k ≤ 5) ∧ ∀ k, k < μ.2.1 8 n → μ.2.1 10 (12 * n + k) < 80 ∧ μ.2.1 11 (12 * n + k) < 80
theorem mn1 {μ : Sx} {n : Nat} (h0 : MI0 μ) (hn : MIn μ) (h : n < μ.1 18) : MN1 μ n := by
  obtain ⟨h1, h2, h3, h4⟩ := hn.2 n h
  exact ⟨by have := hn.1; omega, h1, h2, fun k hk => ⟨by have := h3 k hk; have := h0.1; omega, (h0.2 _ (h3 k hk)).2.2.2.2.1⟩, h4⟩

set_option maxHeartbeats 1000000 in
set_option maxRecDepth 100000 in
theorem c_X7_partAt (l : Launch) (G : Gt) (om : Nat) (μ : Sx) (n : Nat) (k : Nat) (hnk : 8 * n + k < 48) : Cr l G yX7_partAt cX7_partAt 3 ((some .int)) 0 [.ref om, .int (nI n), .int (nI k)] (fun H => bk G om (mL G om μ) H) (some (.int (nI (μ.2.1 9 (8 * n + k))))) := by
  refine cr_entry [(0, .ref om), (1, .int (nI n)), (2, .int (nI k))] (by decide) (Nat.le_of_ble_eq_true rfl) rfl ?_
  intro zp ze zs zm za zb zt zc Q S hK hPre hE ls hl
  have hx := S.1
  have hb := S.2.1
  have hM := hPre
  refine lv_aload_n hx hb dX7_partAt_0 rfl (lv_at hl 0 rfl) ?_
  refine kg (C := RX7) (T := TX7) (N := 32) (ci := 5) (k := 9) (v := .ref (om + 10)) S hK rfl inX7 (by decide) q_739 dX7_partAt_1 hM rfl rfl ?_
  refine lv_bipush (v := nI 8) hx hb dX7_partAt_4 (by decide) ?_
  refine lv_iload_n hx hb dX7_partAt_6 rfl (lv_at hl 1 rfl) ?_
  refine n_imul hx hb dX7_partAt_7 ?_
  refine lv_iload_n hx hb dX7_partAt_8 rfl (lv_at hl 2 rfl) ?_
  refine n_iadd hx hb dX7_partAt_9 ?_
  refine kil (f := μ.2.1 9) S hK dX7_partAt_10 10 hM rfl (by decide) rfl (by omega) ?_
  refine w_top (v' := .int (nI (μ.2.1 9 (8 * n + k)))) (congrArg (fun z => Value.int (nI z)) (show (μ.2.1 9 ((8 * n) + k)) = (μ.2.1 9 (8 * n + k)) from by first | rfl | omega)) ?_
  exact hE _ _ (kr_i dX7_partAt_11)

set_option maxHeartbeats 1000000 in
set_option maxRecDepth 100000 in
theorem c_X7_isFace (l : Launch) (G : Gt) (om : Nat) (μ : Sx) (n : Nat) (v : Int32) (hN : MN1 μ n) : Cr l G yX7_isFace cX7_isFace 3 ((some .boolean)) 1 [.ref om, .int (nI n), .int v] (fun H => bk G om (mL G om μ) H) (some (.int (b2i (isFc μ n v)))) := by
  refine cr_entry [(0, .ref om), (1, .int (nI n)), (2, .int v)] (by decide) (Nat.le_of_ble_eq_true rfl) rfl ?_
  intro zp ze zs zm za zb zt zc Q S hK hPre hE ls hl
  have hx := S.1
  have hb := S.2.1
  have hM := hPre
  obtain ⟨hn6, hp8, hl12, hpf, hll⟩ := hN
  refine lv_iload_n hx hb dX7_isFace_0 rfl (lv_at hl 2 rfl) ?_
  refine lv_if_lt (tgt := 42) hx hb dX7_isFace_1 (by decide) (fun c_1 => ?_) (fun c_1 => ?_)
  ·
    have hr : isFc μ n v = false := isFc_neg c_1
    refine lv_iconst (v := nI 0) hx hb dX7_isFace_42 (by decide) ?_
    refine w_top (v' := .int (b2i (isFc μ n v))) (bz_f (show (isFc μ n v) = false from hr)) ?_
    exact hE _ _ (kr_z dX7_isFace_43)
  ·
    obtain ⟨j, hj, rfl⟩ := nI_of c_1
    refine lv_iload_n hx hb dX7_isFace_4 rfl (lv_at hl 2 rfl) ?_
    refine lv_bipush (v := nI 10) hx hb dX7_isFace_5 (by decide) ?_
    refine n_idiv hx hb dX7_isFace_7 (by omega) (by decide) (by decide) ?_
    refine lv_aload_n hx hb dX7_isFace_8 rfl (lv_at hl 0 rfl) ?_
    refine kg (C := RX7) (T := TX7) (N := 32) (ci := 5) (k := 7) (v := .ref (om + 8)) S hK rfl inX7 (by decide) q_737 dX7_isFace_9 hM rfl rfl ?_
    refine lv_iload_n hx hb dX7_isFace_12 rfl (lv_at hl 1 rfl) ?_
    refine kil (f := μ.2.1 7) S hK dX7_isFace_13 8 hM rfl (by decide) rfl (by omega) ?_
    refine n_icmp_ge (tgt := 42) hx hb dX7_isFace_14 (by decide) (by omega) (by omega) (fun c_14 => ?_) (fun c_14 => ?_)
    ·
      have hr : isFc μ n (nI j) = false := by rw [isFc_n hj, decide_eq_false (by omega)]; rfl
      refine lv_iconst (v := nI 0) hx hb dX7_isFace_42 (by decide) ?_
      refine w_top (v' := .int (b2i (isFc μ n (nI j)))) (bz_f (show (isFc μ n (nI j)) = false from hr)) ?_
      exact hE _ _ (kr_z dX7_isFace_43)
    ·
      have hjp := hpf (j / 10) (by omega)
      have hjf : μ.2.1 3 (μ.2.1 9 (8 * n + j / 10)) ≤ 5 := hjp.2
      refine lv_iload_n hx hb dX7_isFace_17 rfl (lv_at hl 2 rfl) ?_
      refine lv_bipush (v := nI 10) hx hb dX7_isFace_18 (by decide) ?_
      refine n_irem hx hb dX7_isFace_20 (by omega) (by decide) (by decide) ?_
      refine lv_aload_n hx hb dX7_isFace_21 rfl (lv_at hl 0 rfl) ?_
      refine kg (C := RX7) (T := TX7) (N := 32) (ci := 5) (k := 3) (v := .ref (om + 4)) S hK rfl inX7 (by decide) q_733 dX7_isFace_22 hM rfl rfl ?_
      refine lv_aload_n hx hb dX7_isFace_25 rfl (lv_at hl 0 rfl) ?_
      refine lv_iload_n hx hb dX7_isFace_26 rfl (lv_at hl 1 rfl) ?_
      refine lv_iload_n hx hb dX7_isFace_27 rfl (lv_at hl 2 rfl) ?_
      refine lv_bipush (v := nI 10) hx hb dX7_isFace_28 (by decide) ?_
      refine n_idiv hx hb dX7_isFace_30 (by omega) (by decide) (by decide) ?_
      refine crV (rest := [.ref (om + 4), .int (nI (j % 10))]) S hK (c_X7_partAt l G om μ n (j / 10) (by first | assumption | omega | decide)) cw_X7_232 rfl ⟨Nat.le_of_ble_eq_true rfl, Nat.le_of_ble_eq_true rfl⟩ ⟨Nat.le_of_ble_eq_true rfl, Nat.le_of_ble_eq_true rfl⟩ (bk.recv hK hM rfl rfl) hl.1 rfl (Nat.le_of_ble_eq_true rfl) dX7_isFace_31 hM ?_
      refine kil (f := μ.2.1 3) S hK dX7_isFace_34 4 hM rfl (by decide) rfl (by omega) ?_
      refine n_icmp_ge (tgt := 42) hx hb dX7_isFace_35 (by decide) (Nat.lt_trans (Nat.mod_lt _ (by decide)) (by decide)) (by omega) (fun c_35 => ?_) (fun c_35 => ?_)
      ·
        have hr : isFc μ n (nI j) = false := by rw [isFc_n hj, decide_eq_false (p := j % 10 < _) (by omega), Bool.and_false]
        refine lv_iconst (v := nI 0) hx hb dX7_isFace_42 (by decide) ?_
        refine w_top (v' := .int (b2i (isFc μ n (nI j)))) (bz_f (show (isFc μ n (nI j)) = false from hr)) ?_
        exact hE _ _ (kr_z dX7_isFace_43)
      ·
        have hr : isFc μ n (nI j) = true := by rw [isFc_n hj, decide_eq_true (by omega), decide_eq_true (by omega)]; rfl
        refine lv_iconst (v := nI 1) hx hb dX7_isFace_38 (by decide) ?_
        refine lv_goto (tgt := 43) hx hb dX7_isFace_39 (by decide) ?_
        refine w_top (v' := .int (b2i (isFc μ n (nI j)))) (bz_t (show (isFc μ n (nI j)) = true from hr)) ?_
        exact hE _ _ (kr_z dX7_isFace_43)

set_option maxHeartbeats 1000000 in
set_option maxRecDepth 100000 in
theorem c_X7_linkOf (l : Launch) (G : Gt) (om : Nat) (μ : Sx) (n : Nat) (v : Nat) (hN : MN1 μ n) (hv : v < 2 ^ 31) : Cr l G yX7_linkOf cX7_linkOf 4 ((some .int)) 0 [.ref om, .int (nI n), .int (nI v)] (fun H => bk G om (mL G om μ) H) (some (.int (oI (lkM μ n v)))) := by
  refine cr_entry [(0, .ref om), (1, .int (nI n)), (2, .int (nI v))] (by decide) (Nat.le_of_ble_eq_true rfl) rfl ?_
  intro zp ze zs zm za zb zt zc Q S hK hPre hE ls hl
  have hx := S.1
  have hb := S.2.1
  have hM := hPre
  obtain ⟨hn6, hp8, hl12, hpf, hll⟩ := hN
  refine lv_iconst (v := nI 0) hx hb dX7_linkOf_0 (by decide) ?_
  refine lv_istore_n (lv' := [(3, .int (nI 0)), (0, .ref om), (1, .int (nI n)), (2, .int (nI v))]) hx hb dX7_linkOf_1 rfl hl (by decide) rfl (fun ls hl => ?_)
  have L2 : ∀ (fu : Nat), ∀ (vk : Nat), (vk ≤ μ.2.1 8 n) → (fnd (lkP (fun k => μ.2.1 10 (12 * n + k)) (fun k => μ.2.1 11 (12 * n + k)) v) (μ.2.1 8 n - vk) vk = lkM μ n v) → μ.2.1 8 n - vk < fu → ∀ ls : Array Slot, lv_has ls 4 [(0, .ref om), (1, .int (nI n)), (2, .int (nI v)), (3, .int (nI vk))] → W zp l ze (rL 0 0 0) zs zm za zb zt zc zs.heap [] 0 0 Q (F0 zm 2 ls []) := by
    intro fu
    induction fu with
    | zero =>
      intro vk hvk hfin hmu ls hl
      exact absurd hmu (Nat.not_lt_zero _)
    | succ fu ih2 =>
      intro vk hvk hfin hmu ls hl
      refine lv_iload_n hx hb dX7_linkOf_2 rfl (lv_at hl 3 rfl) ?_
      refine lv_aload_n hx hb dX7_linkOf_3 rfl (lv_at hl 0 rfl) ?_
      refine kg (C := RX7) (T := TX7) (N := 32) (ci := 5) (k := 8) (v := .ref (om + 9)) S hK rfl inX7 (by decide) q_738 dX7_linkOf_4 hM rfl rfl ?_
      refine lv_iload_n hx hb dX7_linkOf_7 rfl (lv_at hl 1 rfl) ?_
      refine kil (f := μ.2.1 8) S hK dX7_linkOf_8 9 hM rfl (by decide) rfl (by omega) ?_
      refine n_icmp_ge (tgt := 50) hx hb dX7_linkOf_9 (by decide) (by omega) (by omega) (fun c_9 => ?_) (fun c_9 => ?_)
      ·
        have hr : (-9 : Int32) = oI (lkM μ n v) := by rw [← hfin, show μ.2.1 8 n - vk = 0 from by omega]; rfl
        refine lv_bipush (v := (-9)) hx hb dX7_linkOf_50 (by decide) ?_
        refine w_top (v' := .int (oI (lkM μ n v))) (congrArg (fun z => Value.int z) (show (-9) = (oI (lkM μ n v)) from hr)) ?_
        exact hE _ _ (kr_i dX7_linkOf_52)
      ·
        have hes : μ.2.1 8 n - vk = (μ.2.1 8 n - (vk + 1)) + 1 := by omega
        have hll1 := hll vk (by omega)
        refine lv_aload_n hx hb dX7_linkOf_12 rfl (lv_at hl 0 rfl) ?_
        refine kg (C := RX7) (T := TX7) (N := 32) (ci := 5) (k := 10) (v := .ref (om + 11)) S hK rfl inX7 (by decide) q_740 dX7_linkOf_13 hM rfl rfl ?_
        refine lv_bipush (v := nI 12) hx hb dX7_linkOf_16 (by decide) ?_
        refine lv_iload_n hx hb dX7_linkOf_18 rfl (lv_at hl 1 rfl) ?_
        refine n_imul hx hb dX7_linkOf_19 ?_
        refine lv_iload_n hx hb dX7_linkOf_20 rfl (lv_at hl 3 rfl) ?_
        refine n_iadd hx hb dX7_linkOf_21 ?_
        refine kil (f := μ.2.1 10) S hK dX7_linkOf_22 11 hM rfl (by decide) rfl (by omega) ?_
        refine lv_iload_n hx hb dX7_linkOf_23 rfl (lv_at hl 2 rfl) ?_
        refine n_icmp_eq (tgt := 42) hx hb dX7_linkOf_24 (by decide) (by omega) (by omega) (fun c_24 => ?_) (fun c_24 => ?_)
        ·
          have hr : nI vk = oI (lkM μ n v) := by rw [← hfin, hes, fnd_t (by unfold lkP; rw [decide_eq_true (p := μ.2.1 10 (12 * n + vk) = v) c_24]; rfl)]; rfl
          refine lv_iload_n hx hb dX7_linkOf_42 rfl (lv_at hl 3 rfl) ?_
          refine w_top (v' := .int (oI (lkM μ n v))) (show (.int (nI vk) : Value) = .int (oI (lkM μ n v)) from (congrArg (fun z => Value.int z) hr)) ?_
          exact hE _ _ (kr_i dX7_linkOf_43)
        ·
          refine lv_aload_n hx hb dX7_linkOf_27 rfl (lv_at hl 0 rfl) ?_
          refine kg (C := RX7) (T := TX7) (N := 32) (ci := 5) (k := 11) (v := .ref (om + 12)) S hK rfl inX7 (by decide) q_741 dX7_linkOf_28 hM rfl rfl ?_
          refine lv_bipush (v := nI 12) hx hb dX7_linkOf_31 (by decide) ?_
          refine lv_iload_n hx hb dX7_linkOf_33 rfl (lv_at hl 1 rfl) ?_
          refine n_imul hx hb dX7_linkOf_34 ?_
          refine lv_iload_n hx hb dX7_linkOf_35 rfl (lv_at hl 3 rfl) ?_
          refine n_iadd hx hb dX7_linkOf_36 ?_
          refine kil (f := μ.2.1 11) S hK dX7_linkOf_37 12 hM rfl (by decide) rfl (by omega) ?_
          refine lv_iload_n hx hb dX7_linkOf_38 rfl (lv_at hl 2 rfl) ?_
          refine n_icmp_ne (tgt := 44) hx hb dX7_linkOf_39 (by decide) (by omega) (by omega) (fun c_39 => ?_) (fun c_39 => ?_)
          ·
            have hpn : (lkP (fun k => μ.2.1 10 (12 * n + k)) (fun k => μ.2.1 11 (12 * n + k)) v) vk = false := by unfold lkP; rw [decide_eq_false (p := μ.2.1 10 (12 * n + vk) = v) c_24, decide_eq_false (p := μ.2.1 11 (12 * n + vk) = v) c_39]; rfl
            refine lv_iinc (v := nI (vk + 1)) (lv' := [(3, .int (nI (vk + 1))), (0, .ref om), (1, .int (nI n)), (2, .int (nI v))]) hx hb dX7_linkOf_44 hl (k := 3) rfl (inc1 _) (by decide) rfl (fun ls hl => ?_)
            refine lv_goto (tgt := 2) hx hb dX7_linkOf_47 (by decide) ?_
            exact ih2 (vk + 1) (by first | assumption | omega) (by rw [← hfin, hes]; exact (fnd_f hpn).symm) (by omega) ls (lv_sub hl [1, 2, 3, 0] rfl)
          ·
            have hr : nI vk = oI (lkM μ n v) := by rw [← hfin, hes, fnd_t (by unfold lkP; rw [decide_eq_true (p := μ.2.1 11 (12 * n + vk) = v) c_39, Bool.or_true])]; rfl
            refine lv_iload_n hx hb dX7_linkOf_42 rfl (lv_at hl 3 rfl) ?_
            refine w_top (v' := .int (oI (lkM μ n v))) (show (.int (nI vk) : Value) = .int (oI (lkM μ n v)) from (congrArg (fun z => Value.int z) hr)) ?_
            exact hE _ _ (kr_i dX7_linkOf_43)
  exact L2 ((μ.2.1 8 n - 0) + 1) 0 (Nat.zero_le _) rfl (Nat.lt_succ_self _) ls (lv_sub hl [1, 2, 3, 0] rfl)

theorem c_X7_linkOf_n (l : Launch) (G : Gt) (om : Nat) (μ : Sx) (n : Nat) (v : Nat) (hN : MN1 μ n) (hv : v < 2 ^ 31) (hq : lkM μ n v = none) : Cr l G yX7_linkOf cX7_linkOf 4 ((some .int)) 0 [.ref om, .int (nI n), .int (nI v)] (fun H => bk G om (mL G om μ) H) (some (.int (-9))) := by
  have h := c_X7_linkOf l G om μ n v hN hv
  rw [hq] at h; exact h

theorem c_X7_linkOf_s (l : Launch) (G : Gt) (om : Nat) (μ : Sx) (n : Nat) (v : Nat) (vl : Nat) (hN : MN1 μ n) (hv : v < 2 ^ 31) (hq : lkM μ n v = some vl) : Cr l G yX7_linkOf cX7_linkOf 4 ((some .int)) 0 [.ref om, .int (nI n), .int (nI v)] (fun H => bk G om (mL G om μ) H) (some (.int (nI vl))) := by
  have h := c_X7_linkOf l G om μ n v hN hv
  rw [hq] at h; exact h

set_option maxHeartbeats 1000000 in
set_option maxRecDepth 100000 in
theorem c_X7_link (l : Launch) (G : Gt) (om : Nat) (μ : Sx) (n : Int32) (a : Int32) (b : Int32) (h0 : MI0 μ) (hI : MIn μ) : Ct l G yX7_link cX7_link 5 ((some .int)) 3 0 0 [.ref om, .int n, .int a, .int b] (fun H => bk G om (mL G om μ) H) (some (.int ((link_M μ n a b).1))) (fun H => bk G om (mL G om ((link_M μ n a b).2)) H) (fun q => om ≤ q ∧ q < om + 20) := by
  refine ct_entry [(0, .ref om), (1, .int n), (2, .int a), (3, .int b)] (by decide) (Nat.le_of_ble_eq_true rfl) rfl ?_
  intro zp ze zs zm za zb zt zc Q S hK hPre hin hE ls hl
  have hx := S.1
  have hb := S.2.1
  have hM := hPre
  have hS : va_S (fun q => om ≤ q ∧ q < om + 20) zs.heap zs.heap [] := va_S.rf
  have hn18 := hI.1
  refine lv_aload_n hx hb dX7_link_0 rfl (lv_at hl 0 rfl) ?_
  refine lv_iload_n hx hb dX7_link_1 rfl (lv_at hl 1 rfl) ?_
  refine crV (rest := []) S hK (c_X7_isNet l G om μ n (by first | assumption | omega | decide)) cw_X7_229 rfl ⟨Nat.le_of_ble_eq_true rfl, Nat.le_of_ble_eq_true rfl⟩ ⟨Nat.le_of_ble_eq_true rfl, Nat.le_of_ble_eq_true rfl⟩ (bk.recv hK hM rfl rfl) hl.1 rfl (Nat.le_of_ble_eq_true rfl) dX7_link_2 hM ?_
  refine z_if_eq (tgt := 26) hx hb dX7_link_5 (by decide) (fun c_5 => ?_) (fun c_5 => ?_)
  ·
    refine lv_iconst (v := (-1)) hx hb dX7_link_26 (by decide) ?_
    refine lv_goto (tgt := 75) hx hb dX7_link_27 (by decide) ?_
    refine lv_istore (lv' := [(4, .int (-1)), (0, .ref om), (1, .int n), (2, .int a), (3, .int b)]) hx hb dX7_link_75 hl (by decide) rfl (fun ls hl => ?_)
    refine lv_iload hx hb dX7_link_77 (lv_at hl 0 rfl) ?_
    refine lv_if_eq (tgt := 89) hx hb dX7_link_79 (by decide) (fun c_79 => ?_) (fun c_79 => ?_)
    ·
      exact absurd c_79 (by decide)
    ·
      refine lv_aload_n hx hb dX7_link_82 rfl (lv_at hl 1 rfl) ?_
      refine lv_iload hx hb dX7_link_83 (lv_at hl 0 rfl) ?_
      refine ctV (rest := []) S hK (c_X7_refuse l G om μ (-1) 1 (by first | assumption | omega | decide) (by first | assumption | omega | decide)) cw_X7_72 rfl ⟨Nat.le_of_ble_eq_true rfl, Nat.le_of_ble_eq_true rfl⟩ ⟨Nat.le_of_ble_eq_true rfl, Nat.le_of_ble_eq_true rfl⟩ (bk.recv hK hM rfl rfl) hl.1 rfl (Nat.le_of_ble_eq_true rfl) dX7_link_85 hM hS (fun _ h => h) (fun H locs hPost hz hk hS => ?_)
      have hM := hPost
      have hr : link_M μ n a b = ((-1), uA μ 0 1 (μ.2.1 0 1 + 1)) := by unfold link_M; simp [c_5, c_79]
      refine w_top (v' := .int ((link_M μ n a b).1)) (congrArg (fun z => Value.int z) (congrArg Prod.fst hr).symm) ?_
      replace hM := bk_eq hM (show mL G om (uA μ 0 1 (μ.2.1 0 1 + 1)) = mL G om ((link_M μ n a b).2) from by rw [hr])
      exact hE _ _ _ _ _ _ (kr_i dX7_link_88) hS (by decide) (by decide) hM
  ·
    obtain ⟨vn, hvn, rfl⟩ := inI_x c_5
    have hcn := cx_n (j := vn) (by omega)
    have hN := mn1 h0 hI hvn
    obtain ⟨hn6, hp8, hl12, hpf, hll⟩ := id hN
    refine lv_aload_n hx hb dX7_link_8 rfl (lv_at hl 0 rfl) ?_
    refine lv_iload_n hx hb dX7_link_9 rfl (lv_at hl 1 rfl) ?_
    refine lv_iload_n hx hb dX7_link_10 rfl (lv_at hl 2 rfl) ?_
    refine crV (rest := []) S hK (c_X7_isFace l G om μ vn a (by first | assumption | omega | decide)) cw_X7_235 rfl ⟨Nat.le_of_ble_eq_true rfl, Nat.le_of_ble_eq_true rfl⟩ ⟨Nat.le_of_ble_eq_true rfl, Nat.le_of_ble_eq_true rfl⟩ (bk.recv hK hM rfl rfl) hl.1 rfl (Nat.le_of_ble_eq_true rfl) dX7_link_11 hM ?_
    refine z_if_eq (tgt := 26) hx hb dX7_link_14 (by decide) (fun c_14 => ?_) (fun c_14 => ?_)
    ·
      refine lv_iconst (v := (-1)) hx hb dX7_link_26 (by decide) ?_
      refine lv_goto (tgt := 75) hx hb dX7_link_27 (by decide) ?_
      refine lv_istore (lv' := [(4, .int (-1)), (0, .ref om), (1, .int (nI vn)), (2, .int a), (3, .int b)]) hx hb dX7_link_75 hl (by decide) rfl (fun ls hl => ?_)
      refine lv_iload hx hb dX7_link_77 (lv_at hl 0 rfl) ?_
      refine lv_if_eq (tgt := 89) hx hb dX7_link_79 (by decide) (fun c_79 => ?_) (fun c_79 => ?_)
      ·
        exact absurd c_79 (by decide)
      ·
        refine lv_aload_n hx hb dX7_link_82 rfl (lv_at hl 1 rfl) ?_
        refine lv_iload hx hb dX7_link_83 (lv_at hl 0 rfl) ?_
        refine ctV (rest := []) S hK (c_X7_refuse l G om μ (-1) 1 (by first | assumption | omega | decide) (by first | assumption | omega | decide)) cw_X7_72 rfl ⟨Nat.le_of_ble_eq_true rfl, Nat.le_of_ble_eq_true rfl⟩ ⟨Nat.le_of_ble_eq_true rfl, Nat.le_of_ble_eq_true rfl⟩ (bk.recv hK hM rfl rfl) hl.1 rfl (Nat.le_of_ble_eq_true rfl) dX7_link_85 hM hS (fun _ h => h) (fun H locs hPost hz hk hS => ?_)
        have hM := hPost
        have hr : link_M μ (nI vn) a b = ((-1), uA μ 0 1 (μ.2.1 0 1 + 1)) := by unfold link_M; simp [c_5, hcn, c_14, c_79]
        refine w_top (v' := .int ((link_M μ (nI vn) a b).1)) (congrArg (fun z => Value.int z) (congrArg Prod.fst hr).symm) ?_
        replace hM := bk_eq hM (show mL G om (uA μ 0 1 (μ.2.1 0 1 + 1)) = mL G om ((link_M μ (nI vn) a b).2) from by rw [hr])
        exact hE _ _ _ _ _ _ (kr_i dX7_link_88) hS (by decide) (by decide) hM
    ·
      obtain ⟨va, hva, rfl, hva1, hva2⟩ := isFc_x c_14 hp8
      have hca := cx_n (j := va) (by omega)
      refine lv_aload_n hx hb dX7_link_17 rfl (lv_at hl 0 rfl) ?_
      refine lv_iload_n hx hb dX7_link_18 rfl (lv_at hl 1 rfl) ?_
      refine lv_iload_n hx hb dX7_link_19 rfl (lv_at hl 3 rfl) ?_
      refine crV (rest := []) S hK (c_X7_isFace l G om μ vn b (by first | assumption | omega | decide)) cw_X7_235 rfl ⟨Nat.le_of_ble_eq_true rfl, Nat.le_of_ble_eq_true rfl⟩ ⟨Nat.le_of_ble_eq_true rfl, Nat.le_of_ble_eq_true rfl⟩ (bk.recv hK hM rfl rfl) hl.1 rfl (Nat.le_of_ble_eq_true rfl) dX7_link_20 hM ?_
      refine z_if_ne (tgt := 30) hx hb dX7_link_23 (by decide) (fun c_23 => ?_) (fun c_23 => ?_)
      ·
        obtain ⟨vb, hvb, rfl, hvb1, hvb2⟩ := isFc_x c_23 hp8
        have hcb := cx_n (j := vb) (by omega)
        have hab := nI_eq (a := va) (b := vb) (by omega) (by omega)
        refine lv_iload_n hx hb dX7_link_30 rfl (lv_at hl 2 rfl) ?_
        refine lv_iload_n hx hb dX7_link_31 rfl (lv_at hl 3 rfl) ?_
        refine n_icmp_eq (tgt := 53) hx hb dX7_link_32 (by decide) (by omega) (by omega) (fun c_32 => ?_) (fun c_32 => ?_)
        ·
          refine lv_bipush (v := (-3)) hx hb dX7_link_53 (by decide) ?_
          refine lv_goto (tgt := 75) hx hb dX7_link_55 (by decide) ?_
          refine lv_istore (lv' := [(4, .int (-3)), (0, .ref om), (1, .int (nI vn)), (2, .int (nI va)), (3, .int (nI vb))]) hx hb dX7_link_75 hl (by decide) rfl (fun ls hl => ?_)
          refine lv_iload hx hb dX7_link_77 (lv_at hl 0 rfl) ?_
          refine lv_if_eq (tgt := 89) hx hb dX7_link_79 (by decide) (fun c_79 => ?_) (fun c_79 => ?_)
          ·
            exact absurd c_79 (by decide)
          ·
            refine lv_aload_n hx hb dX7_link_82 rfl (lv_at hl 1 rfl) ?_
            refine lv_iload hx hb dX7_link_83 (lv_at hl 0 rfl) ?_
            refine ctV (rest := []) S hK (c_X7_refuse l G om μ (-3) 3 (by first | assumption | omega | decide) (by first | assumption | omega | decide)) cw_X7_72 rfl ⟨Nat.le_of_ble_eq_true rfl, Nat.le_of_ble_eq_true rfl⟩ ⟨Nat.le_of_ble_eq_true rfl, Nat.le_of_ble_eq_true rfl⟩ (bk.recv hK hM rfl rfl) hl.1 rfl (Nat.le_of_ble_eq_true rfl) dX7_link_85 hM hS (fun _ h => h) (fun H locs hPost hz hk hS => ?_)
            have hM := hPost
            have hr : link_M μ (nI vn) (nI va) (nI vb) = ((-3), uA μ 0 3 (μ.2.1 0 3 + 1)) := by unfold link_M; simp [c_5, hcn, c_14, hca, c_23, hcb, hab, c_32, c_79]
            refine w_top (v' := .int ((link_M μ (nI vn) (nI va) (nI vb)).1)) (congrArg (fun z => Value.int z) (congrArg Prod.fst hr).symm) ?_
            replace hM := bk_eq hM (show mL G om (uA μ 0 3 (μ.2.1 0 3 + 1)) = mL G om ((link_M μ (nI vn) (nI va) (nI vb)).2) from by rw [hr])
            exact hE _ _ _ _ _ _ (kr_i dX7_link_88) hS (by decide) (by decide) hM
        ·
          refine lv_aload_n hx hb dX7_link_35 rfl (lv_at hl 0 rfl) ?_
          refine lv_iload_n hx hb dX7_link_36 rfl (lv_at hl 1 rfl) ?_
          refine lv_iload_n hx hb dX7_link_37 rfl (lv_at hl 2 rfl) ?_
          rcases hqa : lkM μ vn va with _ | vlqa
          ·
            refine crV (rest := []) S hK (c_X7_linkOf_n l G om μ vn va (by first | assumption | omega | decide) (by first | assumption | omega | decide) hqa) cw_X7_238 rfl ⟨Nat.le_of_ble_eq_true rfl, Nat.le_of_ble_eq_true rfl⟩ ⟨Nat.le_of_ble_eq_true rfl, Nat.le_of_ble_eq_true rfl⟩ (bk.recv hK hM rfl rfl) hl.1 rfl (Nat.le_of_ble_eq_true rfl) dX7_link_38 hM ?_
            refine lv_if_ge (tgt := 53) hx hb dX7_link_41 (by decide) (fun c_41 => ?_) (fun c_41 => ?_)
            ·
              exact absurd c_41 (by decide)
            ·
              refine lv_aload_n hx hb dX7_link_44 rfl (lv_at hl 0 rfl) ?_
              refine lv_iload_n hx hb dX7_link_45 rfl (lv_at hl 1 rfl) ?_
              refine lv_iload_n hx hb dX7_link_46 rfl (lv_at hl 3 rfl) ?_
              rcases hqb : lkM μ vn vb with _ | vlqb
              ·
                refine crV (rest := []) S hK (c_X7_linkOf_n l G om μ vn vb (by first | assumption | omega | decide) (by first | assumption | omega | decide) hqb) cw_X7_238 rfl ⟨Nat.le_of_ble_eq_true rfl, Nat.le_of_ble_eq_true rfl⟩ ⟨Nat.le_of_ble_eq_true rfl, Nat.le_of_ble_eq_true rfl⟩ (bk.recv hK hM rfl rfl) hl.1 rfl (Nat.le_of_ble_eq_true rfl) dX7_link_47 hM ?_
                refine lv_if_lt (tgt := 58) hx hb dX7_link_50 (by decide) (fun c_50 => ?_) (fun c_50 => ?_)
                ·
                  refine lv_aload_n hx hb dX7_link_58 rfl (lv_at hl 0 rfl) ?_
                  refine kg (C := RX7) (T := TX7) (N := 32) (ci := 5) (k := 8) (v := .ref (om + 9)) S hK rfl inX7 (by decide) q_738 dX7_link_59 hM rfl rfl ?_
                  refine lv_iload_n hx hb dX7_link_62 rfl (lv_at hl 1 rfl) ?_
                  refine kil (f := μ.2.1 8) S hK dX7_link_63 9 hM rfl (by decide) rfl (by omega) ?_
                  refine lv_bipush (v := nI 12) hx hb dX7_link_64 (by decide) ?_
                  refine n_icmp_ne (tgt := 74) hx hb dX7_link_66 (by decide) (by omega) (by decide) (fun c_66 => ?_) (fun c_66 => ?_)
                  ·
                    refine lv_iconst (v := nI 0) hx hb dX7_link_74 (by decide) ?_
                    refine lv_istore (lv' := [(4, .int (nI 0)), (0, .ref om), (1, .int (nI vn)), (2, .int (nI va)), (3, .int (nI vb))]) hx hb dX7_link_75 hl (by decide) rfl (fun ls hl => ?_)
                    refine lv_iload hx hb dX7_link_77 (lv_at hl 0 rfl) ?_
                    refine n_if_eq (tgt := 89) hx hb dX7_link_79 (by decide) (by decide) (fun c_79 => ?_) (fun c_79 => ?_)
                    ·
                      refine lv_aload_n hx hb dX7_link_89 rfl (lv_at hl 1 rfl) ?_
                      refine kg (C := RX7) (T := TX7) (N := 32) (ci := 5) (k := 10) (v := .ref (om + 11)) S hK rfl inX7 (by decide) q_740 dX7_link_90 hM rfl rfl ?_
                      refine lv_bipush (v := nI 12) hx hb dX7_link_93 (by decide) ?_
                      refine lv_iload_n hx hb dX7_link_95 rfl (lv_at hl 2 rfl) ?_
                      refine n_imul hx hb dX7_link_96 ?_
                      refine lv_aload_n hx hb dX7_link_97 rfl (lv_at hl 1 rfl) ?_
                      refine kg (C := RX7) (T := TX7) (N := 32) (ci := 5) (k := 8) (v := .ref (om + 9)) S hK rfl inX7 (by decide) q_738 dX7_link_98 hM rfl rfl ?_
                      refine lv_iload_n hx hb dX7_link_101 rfl (lv_at hl 2 rfl) ?_
                      refine kil (f := μ.2.1 8) S hK dX7_link_102 9 hM rfl (by decide) rfl (by omega) ?_
                      refine n_iadd hx hb dX7_link_103 ?_
                      refine lv_iload_n hx hb dX7_link_104 rfl (lv_at hl 3 rfl) ?_
                      refine kis S hK dX7_link_105 11 hM rfl (by decide) rfl (by omega) rfl (L1 := mL G om (uA μ 10 ((12 * vn) + (μ.2.1 8 vn)) va)) rfl hS (by first | exact ⟨by omega, by omega⟩ | omega) (fun H locs hM hS hz hk => ?_)
                      refine lv_aload_n hx hb dX7_link_106 rfl (lv_at hl 1 rfl) ?_
                      refine kg (C := RX7) (T := TX7) (N := 32) (ci := 5) (k := 11) (v := .ref (om + 12)) S hK rfl inX7 (by decide) q_741 dX7_link_107 hM rfl rfl ?_
                      refine lv_bipush (v := nI 12) hx hb dX7_link_110 (by decide) ?_
                      refine lv_iload_n hx hb dX7_link_112 rfl (lv_at hl 2 rfl) ?_
                      refine n_imul hx hb dX7_link_113 ?_
                      refine lv_aload_n hx hb dX7_link_114 rfl (lv_at hl 1 rfl) ?_
                      refine kg (C := RX7) (T := TX7) (N := 32) (ci := 5) (k := 8) (v := .ref (om + 9)) S hK rfl inX7 (by decide) q_738 dX7_link_115 hM rfl rfl ?_
                      refine lv_iload_n hx hb dX7_link_118 rfl (lv_at hl 2 rfl) ?_
                      refine kil (f := μ.2.1 8) S hK dX7_link_119 9 hM rfl (by decide) rfl (by omega) ?_
                      refine n_iadd hx hb dX7_link_120 ?_
                      refine lv_iload_n hx hb dX7_link_121 rfl (lv_at hl 4 rfl) ?_
                      refine kis S hK dX7_link_122 12 hM rfl (by decide) rfl (by omega) rfl (L1 := mL G om (uA (uA μ 10 ((12 * vn) + (μ.2.1 8 vn)) va) 11 ((12 * vn) + (μ.2.1 8 vn)) vb)) rfl hS (by first | exact ⟨by omega, by omega⟩ | omega) (fun H locs hM hS hz hk => ?_)
                      refine lv_aload_n hx hb dX7_link_123 rfl (lv_at hl 1 rfl) ?_
                      refine kg (C := RX7) (T := TX7) (N := 32) (ci := 5) (k := 8) (v := .ref (om + 9)) S hK rfl inX7 (by decide) q_738 dX7_link_124 hM rfl rfl ?_
                      refine lv_iload_n hx hb dX7_link_127 rfl (lv_at hl 2 rfl) ?_
                      refine lv_dup2_11 hx hb dX7_link_128 rfl rfl ?_
                      refine kil (f := μ.2.1 8) S hK dX7_link_129 9 hM rfl (by decide) rfl (by omega) ?_
                      refine lv_iconst (v := nI 1) hx hb dX7_link_130 (by decide) ?_
                      refine n_iadd hx hb dX7_link_131 ?_
                      refine kis S hK dX7_link_132 9 hM rfl (by decide) rfl (by omega) rfl (L1 := mL G om (uA (uA (uA μ 10 ((12 * vn) + (μ.2.1 8 vn)) va) 11 ((12 * vn) + (μ.2.1 8 vn)) vb) 8 vn ((μ.2.1 8 vn) + 1))) rfl hS (by first | exact ⟨by omega, by omega⟩ | omega) (fun H locs hM hS hz hk => ?_)
                      refine lv_aload_n hx hb dX7_link_133 rfl (lv_at hl 1 rfl) ?_
                      refine kg (C := RX7) (T := TX7) (N := 32) (ci := 5) (k := 8) (v := .ref (om + 9)) S hK rfl inX7 (by decide) q_738 dX7_link_134 hM rfl rfl ?_
                      refine lv_iload_n hx hb dX7_link_137 rfl (lv_at hl 2 rfl) ?_
                      refine kil (f := (uA (uA (uA μ 10 ((12 * vn) + (μ.2.1 8 vn)) va) 11 ((12 * vn) + (μ.2.1 8 vn)) vb) 8 vn ((μ.2.1 8 vn) + 1)).2.1 8) S hK dX7_link_138 9 hM rfl (by decide) rfl (by omega) ?_
                      have hr : link_M μ (nI vn) (nI va) (nI vb) = (nI ((uA (uA (uA μ 10 ((12 * vn) + (μ.2.1 8 vn)) va) 11 ((12 * vn) + (μ.2.1 8 vn)) vb) 8 vn ((μ.2.1 8 vn) + 1)).2.1 8 vn), uA (uA (uA μ 10 ((12 * vn) + (μ.2.1 8 vn)) va) 11 ((12 * vn) + (μ.2.1 8 vn)) vb) 8 vn ((μ.2.1 8 vn) + 1)) := by unfold link_M; rw [c_5, hcn, c_14, c_23, if_pos (show (true && (true && true)) = true from rfl), hca, hcb, if_neg (fun q => c_32 (hab.mp q)), hqa, hqb, if_neg (by decide), if_neg (by decide), if_neg c_66]; refine Prod.ext (congrArg nI ?_) rfl; show μ.2.1 8 vn + 1 = uN (μ.2.1 8) vn (μ.2.1 8 vn + 1) vn; rw [uN_s]
                      refine w_top (v' := .int ((link_M μ (nI vn) (nI va) (nI vb)).1)) (congrArg (fun z => Value.int z) (congrArg Prod.fst hr).symm) ?_
                      replace hM := bk_eq hM (show mL G om (uA (uA (uA μ 10 ((12 * vn) + (μ.2.1 8 vn)) va) 11 ((12 * vn) + (μ.2.1 8 vn)) vb) 8 vn ((μ.2.1 8 vn) + 1)) = mL G om ((link_M μ (nI vn) (nI va) (nI vb)).2) from by rw [hr])
                      exact hE _ _ _ _ _ _ (kr_i dX7_link_139) hS (by decide) (by decide) hM
                    ·
                      exact absurd c_79 (by decide)
                  ·
                    refine lv_bipush (v := (-6)) hx hb dX7_link_69 (by decide) ?_
                    refine lv_goto (tgt := 75) hx hb dX7_link_71 (by decide) ?_
                    refine lv_istore (lv' := [(4, .int (-6)), (0, .ref om), (1, .int (nI vn)), (2, .int (nI va)), (3, .int (nI vb))]) hx hb dX7_link_75 hl (by decide) rfl (fun ls hl => ?_)
                    refine lv_iload hx hb dX7_link_77 (lv_at hl 0 rfl) ?_
                    refine lv_if_eq (tgt := 89) hx hb dX7_link_79 (by decide) (fun c_79 => ?_) (fun c_79 => ?_)
                    ·
                      exact absurd c_79 (by decide)
                    ·
                      refine lv_aload_n hx hb dX7_link_82 rfl (lv_at hl 1 rfl) ?_
                      refine lv_iload hx hb dX7_link_83 (lv_at hl 0 rfl) ?_
                      refine ctV (rest := []) S hK (c_X7_refuse l G om μ (-6) 6 (by first | assumption | omega | decide) (by first | assumption | omega | decide)) cw_X7_72 rfl ⟨Nat.le_of_ble_eq_true rfl, Nat.le_of_ble_eq_true rfl⟩ ⟨Nat.le_of_ble_eq_true rfl, Nat.le_of_ble_eq_true rfl⟩ (bk.recv hK hM rfl rfl) hl.1 rfl (Nat.le_of_ble_eq_true rfl) dX7_link_85 hM hS (fun _ h => h) (fun H locs hPost hz hk hS => ?_)
                      have hM := hPost
                      have hr : link_M μ (nI vn) (nI va) (nI vb) = ((-6), uA μ 0 6 (μ.2.1 0 6 + 1)) := by unfold link_M; simp [c_5, hcn, c_14, hca, c_23, hcb, hab, c_32, hqa, c_41, hqb, c_50, c_66, c_79]
                      refine w_top (v' := .int ((link_M μ (nI vn) (nI va) (nI vb)).1)) (congrArg (fun z => Value.int z) (congrArg Prod.fst hr).symm) ?_
                      replace hM := bk_eq hM (show mL G om (uA μ 0 6 (μ.2.1 0 6 + 1)) = mL G om ((link_M μ (nI vn) (nI va) (nI vb)).2) from by rw [hr])
                      exact hE _ _ _ _ _ _ (kr_i dX7_link_88) hS (by decide) (by decide) hM
                ·
                  exact absurd c_50 (by decide)
              ·
                have hvlqb : vlqb < 12 := by have := (fnd_lt _ _ hqb).2.1; omega
                refine crV (rest := []) S hK (c_X7_linkOf_s l G om μ vn vb vlqb (by first | assumption | omega | decide) (by first | assumption | omega | decide) hqb) cw_X7_238 rfl ⟨Nat.le_of_ble_eq_true rfl, Nat.le_of_ble_eq_true rfl⟩ ⟨Nat.le_of_ble_eq_true rfl, Nat.le_of_ble_eq_true rfl⟩ (bk.recv hK hM rfl rfl) hl.1 rfl (Nat.le_of_ble_eq_true rfl) dX7_link_47 hM ?_
                refine n_if_lt (tgt := 58) hx hb dX7_link_50 (by decide) (by omega) (fun c_50 => ?_)
                refine lv_bipush (v := (-3)) hx hb dX7_link_53 (by decide) ?_
                refine lv_goto (tgt := 75) hx hb dX7_link_55 (by decide) ?_
                refine lv_istore (lv' := [(4, .int (-3)), (0, .ref om), (1, .int (nI vn)), (2, .int (nI va)), (3, .int (nI vb))]) hx hb dX7_link_75 hl (by decide) rfl (fun ls hl => ?_)
                refine lv_iload hx hb dX7_link_77 (lv_at hl 0 rfl) ?_
                refine lv_if_eq (tgt := 89) hx hb dX7_link_79 (by decide) (fun c_79 => ?_) (fun c_79 => ?_)
                ·
                  exact absurd c_79 (by decide)
                ·
                  refine lv_aload_n hx hb dX7_link_82 rfl (lv_at hl 1 rfl) ?_
                  refine lv_iload hx hb dX7_link_83 (lv_at hl 0 rfl) ?_
                  refine ctV (rest := []) S hK (c_X7_refuse l G om μ (-3) 3 (by first | assumption | omega | decide) (by first | assumption | omega | decide)) cw_X7_72 rfl ⟨Nat.le_of_ble_eq_true rfl, Nat.le_of_ble_eq_true rfl⟩ ⟨Nat.le_of_ble_eq_true rfl, Nat.le_of_ble_eq_true rfl⟩ (bk.recv hK hM rfl rfl) hl.1 rfl (Nat.le_of_ble_eq_true rfl) dX7_link_85 hM hS (fun _ h => h) (fun H locs hPost hz hk hS => ?_)
                  have hM := hPost
                  have hr : link_M μ (nI vn) (nI va) (nI vb) = ((-3), uA μ 0 3 (μ.2.1 0 3 + 1)) := by unfold link_M; simp [c_5, hcn, c_14, hca, c_23, hcb, hab, c_32, hqa, c_41, hqb, c_79]
                  refine w_top (v' := .int ((link_M μ (nI vn) (nI va) (nI vb)).1)) (congrArg (fun z => Value.int z) (congrArg Prod.fst hr).symm) ?_
                  replace hM := bk_eq hM (show mL G om (uA μ 0 3 (μ.2.1 0 3 + 1)) = mL G om ((link_M μ (nI vn) (nI va) (nI vb)).2) from by rw [hr])
                  exact hE _ _ _ _ _ _ (kr_i dX7_link_88) hS (by decide) (by decide) hM
          ·
            have hvlqa : vlqa < 12 := by have := (fnd_lt _ _ hqa).2.1; omega
            refine crV (rest := []) S hK (c_X7_linkOf_s l G om μ vn va vlqa (by first | assumption | omega | decide) (by first | assumption | omega | decide) hqa) cw_X7_238 rfl ⟨Nat.le_of_ble_eq_true rfl, Nat.le_of_ble_eq_true rfl⟩ ⟨Nat.le_of_ble_eq_true rfl, Nat.le_of_ble_eq_true rfl⟩ (bk.recv hK hM rfl rfl) hl.1 rfl (Nat.le_of_ble_eq_true rfl) dX7_link_38 hM ?_
            refine n_if_ge (tgt := 53) hx hb dX7_link_41 (by decide) (by omega) (fun c_41 => ?_)
            refine lv_bipush (v := (-3)) hx hb dX7_link_53 (by decide) ?_
            refine lv_goto (tgt := 75) hx hb dX7_link_55 (by decide) ?_
            refine lv_istore (lv' := [(4, .int (-3)), (0, .ref om), (1, .int (nI vn)), (2, .int (nI va)), (3, .int (nI vb))]) hx hb dX7_link_75 hl (by decide) rfl (fun ls hl => ?_)
            refine lv_iload hx hb dX7_link_77 (lv_at hl 0 rfl) ?_
            refine lv_if_eq (tgt := 89) hx hb dX7_link_79 (by decide) (fun c_79 => ?_) (fun c_79 => ?_)
            ·
              exact absurd c_79 (by decide)
            ·
              refine lv_aload_n hx hb dX7_link_82 rfl (lv_at hl 1 rfl) ?_
              refine lv_iload hx hb dX7_link_83 (lv_at hl 0 rfl) ?_
              refine ctV (rest := []) S hK (c_X7_refuse l G om μ (-3) 3 (by first | assumption | omega | decide) (by first | assumption | omega | decide)) cw_X7_72 rfl ⟨Nat.le_of_ble_eq_true rfl, Nat.le_of_ble_eq_true rfl⟩ ⟨Nat.le_of_ble_eq_true rfl, Nat.le_of_ble_eq_true rfl⟩ (bk.recv hK hM rfl rfl) hl.1 rfl (Nat.le_of_ble_eq_true rfl) dX7_link_85 hM hS (fun _ h => h) (fun H locs hPost hz hk hS => ?_)
              have hM := hPost
              have hr : link_M μ (nI vn) (nI va) (nI vb) = ((-3), uA μ 0 3 (μ.2.1 0 3 + 1)) := by unfold link_M; simp [c_5, hcn, c_14, hca, c_23, hcb, hab, c_32, hqa, c_79]
              refine w_top (v' := .int ((link_M μ (nI vn) (nI va) (nI vb)).1)) (congrArg (fun z => Value.int z) (congrArg Prod.fst hr).symm) ?_
              replace hM := bk_eq hM (show mL G om (uA μ 0 3 (μ.2.1 0 3 + 1)) = mL G om ((link_M μ (nI vn) (nI va) (nI vb)).2) from by rw [hr])
              exact hE _ _ _ _ _ _ (kr_i dX7_link_88) hS (by decide) (by decide) hM
      ·
        refine lv_iconst (v := (-1)) hx hb dX7_link_26 (by decide) ?_
        refine lv_goto (tgt := 75) hx hb dX7_link_27 (by decide) ?_
        refine lv_istore (lv' := [(4, .int (-1)), (0, .ref om), (1, .int (nI vn)), (2, .int (nI va)), (3, .int b)]) hx hb dX7_link_75 hl (by decide) rfl (fun ls hl => ?_)
        refine lv_iload hx hb dX7_link_77 (lv_at hl 0 rfl) ?_
        refine lv_if_eq (tgt := 89) hx hb dX7_link_79 (by decide) (fun c_79 => ?_) (fun c_79 => ?_)
        ·
          exact absurd c_79 (by decide)
        ·
          refine lv_aload_n hx hb dX7_link_82 rfl (lv_at hl 1 rfl) ?_
          refine lv_iload hx hb dX7_link_83 (lv_at hl 0 rfl) ?_
          refine ctV (rest := []) S hK (c_X7_refuse l G om μ (-1) 1 (by first | assumption | omega | decide) (by first | assumption | omega | decide)) cw_X7_72 rfl ⟨Nat.le_of_ble_eq_true rfl, Nat.le_of_ble_eq_true rfl⟩ ⟨Nat.le_of_ble_eq_true rfl, Nat.le_of_ble_eq_true rfl⟩ (bk.recv hK hM rfl rfl) hl.1 rfl (Nat.le_of_ble_eq_true rfl) dX7_link_85 hM hS (fun _ h => h) (fun H locs hPost hz hk hS => ?_)
          have hM := hPost
          have hr : link_M μ (nI vn) (nI va) b = ((-1), uA μ 0 1 (μ.2.1 0 1 + 1)) := by unfold link_M; simp [c_5, hcn, c_14, hca, c_23, c_79]
          refine w_top (v' := .int ((link_M μ (nI vn) (nI va) b).1)) (congrArg (fun z => Value.int z) (congrArg Prod.fst hr).symm) ?_
          replace hM := bk_eq hM (show mL G om (uA μ 0 1 (μ.2.1 0 1 + 1)) = mL G om ((link_M μ (nI vn) (nI va) b).2) from by rw [hr])
          exact hE _ _ _ _ _ _ (kr_i dX7_link_88) hS (by decide) (by decide) hM

set_option maxHeartbeats 1000000 in
set_option maxRecDepth 100000 in
theorem c_X7_freeOf (l : Launch) (G : Gt) (om : Nat) (μ : Sx) (n : Nat) (i : Int32) (hN : MN1 μ n) : Cr l G yX7_freeOf cX7_freeOf 6 ((some .int)) 1 [.ref om, .int (nI n), .int i] (fun H => bk G om (mL G om μ) H) (some (.int (freeOf_M μ n i))) := by
  refine cr_entry [(0, .ref om), (1, .int (nI n)), (2, .int i)] (by decide) (Nat.le_of_ble_eq_true rfl) rfl ?_
  intro zp ze zs zm za zb zt zc Q S hK hPre hE ls hl
  have hx := S.1
  have hb := S.2.1
  have hM := hPre
  obtain ⟨hn6, hp8, hl12, hpf, hll⟩ := id hN
  refine lv_iconst (v := nI 0) hx hb dX7_freeOf_0 (by decide) ?_
  refine lv_istore_n (lv' := [(3, .int (nI 0)), (0, .ref om), (1, .int (nI n)), (2, .int i)]) hx hb dX7_freeOf_1 rfl hl (by decide) rfl (fun ls hl => ?_)
  refine lv_iconst (v := nI 0) hx hb dX7_freeOf_2 (by decide) ?_
  refine lv_istore (lv' := [(4, .int (nI 0)), (3, .int (nI 0)), (0, .ref om), (1, .int (nI n)), (2, .int i)]) hx hb dX7_freeOf_3 hl (by decide) rfl (fun ls hl => ?_)
  have L5 : ∀ (fu : Nat), ∀ (vu : Nat) (vk : Nat) (vm : Nat), (vk ≤ μ.2.1 7 n) → (6 * (μ.2.1 7 n - vk) + 1 ≤ vu) → (vm ≤ 5 * vk) → (frW (μ.2.1 7 n) (fM μ n) (zM μ n) i (-9) vu vk 0 vm = freeOf_M μ n i) → μ.2.1 7 n - vk < fu → ∀ ls : Array Slot, lv_has ls 6 [(0, .ref om), (1, .int (nI n)), (2, .int i), (3, .int (nI vm)), (4, .int (nI vk))] → W zp l ze (rL 1 0 0) zs zm za zb zt zc zs.heap [] 0 0 Q (F0 zm 5 ls []) := by
    intro fu
    induction fu with
    | zero =>
      intro vu vk vm hvk hvu hvm hfin hmu ls hl
      exact absurd hmu (Nat.not_lt_zero _)
    | succ fu ih5 =>
      intro vu vk vm hvk hvu hvm hfin hmu ls hl
      refine lv_iload hx hb dX7_freeOf_5 (lv_at hl 4 rfl) ?_
      refine lv_aload_n hx hb dX7_freeOf_7 rfl (lv_at hl 0 rfl) ?_
      refine kg (C := RX7) (T := TX7) (N := 32) (ci := 5) (k := 7) (v := .ref (om + 8)) S hK rfl inX7 (by decide) q_737 dX7_freeOf_8 hM rfl rfl ?_
      refine lv_iload_n hx hb dX7_freeOf_11 rfl (lv_at hl 1 rfl) ?_
      refine kil (f := μ.2.1 7) S hK dX7_freeOf_12 8 hM rfl (by decide) rfl (by omega) ?_
      refine n_icmp_ge (tgt := 84) hx hb dX7_freeOf_13 (by decide) (by omega) (by omega) (fun c_13 => ?_) (fun c_13 => ?_)
      ·
        obtain ⟨vv, rfl⟩ : ∃ z, vu = z + 1 := ⟨vu - 1, by omega⟩
        rw [frW_e (by omega)] at hfin
        refine lv_iload_n hx hb dX7_freeOf_84 rfl (lv_at hl 2 rfl) ?_
        refine lv_if_ge (tgt := 92) hx hb dX7_freeOf_85 (by decide) (fun c_85 => ?_) (fun c_85 => ?_)
        ·
          have hr : (-9 : Int32) = freeOf_M μ n i := by rw [← hfin, if_neg (Int32.not_lt.mpr c_85)]
          refine lv_bipush (v := (-9)) hx hb dX7_freeOf_92 (by decide) ?_
          refine w_top (v' := .int (freeOf_M μ n i)) (congrArg (fun z => Value.int z) (show (-9) = (freeOf_M μ n i) from hr)) ?_
          exact hE _ _ (kr_i dX7_freeOf_94)
        ·
          have hr : nI vm = freeOf_M μ n i := by rw [← hfin, if_pos (Int32.not_le.mp (by simpa using c_85))]
          refine lv_iload_n hx hb dX7_freeOf_88 rfl (lv_at hl 3 rfl) ?_
          refine lv_goto (tgt := 94) hx hb dX7_freeOf_89 (by decide) ?_
          refine w_top (v' := .int (freeOf_M μ n i)) (show (.int (nI vm) : Value) = .int (freeOf_M μ n i) from (congrArg (fun z => Value.int z) hr)) ?_
          exact hE _ _ (kr_i dX7_freeOf_94)
      ·
        have c_13 : vk < μ.2.1 7 n := by omega
        have hfk := hpf vk c_13
        have hfk5 : μ.2.1 3 (μ.2.1 9 (8 * n + vk)) ≤ 5 := hfk.2
        refine lv_iconst (v := nI 0) hx hb dX7_freeOf_16 (by decide) ?_
        refine lv_istore (lv' := [(5, .int (nI 0)), (0, .ref om), (1, .int (nI n)), (2, .int i), (3, .int (nI vm)), (4, .int (nI vk))]) hx hb dX7_freeOf_17 hl (by decide) rfl (fun ls hl => ?_)
        have L19 : ∀ (fu : Nat), ∀ (vw : Nat) (vf : Nat) (vm : Nat), (vf ≤ fM μ n vk) → (6 * (μ.2.1 7 n - vk) + 1 ≤ vw + vf) → (vm ≤ 5 * vk + vf) → (frW (μ.2.1 7 n) (fM μ n) (zM μ n) i (-9) vw vk vf vm = freeOf_M μ n i) → fM μ n vk - vf < fu → ∀ ls : Array Slot, lv_has ls 6 [(0, .ref om), (1, .int (nI n)), (2, .int i), (3, .int (nI vm)), (4, .int (nI vk)), (5, .int (nI vf))] → W zp l ze (rL 1 0 0) zs zm za zb zt zc zs.heap [] 0 0 Q (F0 zm 19 ls []) := by
          intro fu
          induction fu with
          | zero =>
            intro vw vf vm hvf hvw hvm2 hfin2 hmu ls hl
            exact absurd hmu (Nat.not_lt_zero _)
          | succ fu ih19 =>
            intro vw vf vm hvf hvw hvm2 hfin2 hmu ls hl
            obtain ⟨vv, rfl⟩ : ∃ z, vw = z + 1 := ⟨vw - 1, by omega⟩
            refine lv_iload hx hb dX7_freeOf_19 (lv_at hl 5 rfl) ?_
            refine lv_aload_n hx hb dX7_freeOf_21 rfl (lv_at hl 0 rfl) ?_
            refine kg (C := RX7) (T := TX7) (N := 32) (ci := 5) (k := 3) (v := .ref (om + 4)) S hK rfl inX7 (by decide) q_733 dX7_freeOf_22 hM rfl rfl ?_
            refine lv_aload_n hx hb dX7_freeOf_25 rfl (lv_at hl 0 rfl) ?_
            refine lv_iload_n hx hb dX7_freeOf_26 rfl (lv_at hl 1 rfl) ?_
            refine lv_iload hx hb dX7_freeOf_27 (lv_at hl 4 rfl) ?_
            refine crV (rest := [.ref (om + 4), .int (nI vf)]) S hK (c_X7_partAt l G om μ n vk (by first | assumption | omega | decide)) cw_X7_232 rfl ⟨Nat.le_of_ble_eq_true rfl, Nat.le_of_ble_eq_true rfl⟩ ⟨Nat.le_of_ble_eq_true rfl, Nat.le_of_ble_eq_true rfl⟩ (bk.recv hK hM rfl rfl) hl.1 rfl (Nat.le_of_ble_eq_true rfl) dX7_freeOf_29 hM ?_
            refine kil (f := μ.2.1 3) S hK dX7_freeOf_32 4 hM rfl (by decide) rfl (by omega) ?_
            refine n_icmp_ge (tgt := 78) hx hb dX7_freeOf_33 (by decide) (by omega) (by omega) (fun c_33 => ?_) (fun c_33 => ?_)
            ·
              have c_33 : ¬ vf < fM μ n vk := Nat.not_lt.mpr c_33
              refine lv_iinc (v := nI (vk + 1)) (lv' := [(4, .int (nI (vk + 1))), (0, .ref om), (1, .int (nI n)), (2, .int i), (3, .int (nI vm)), (5, .int (nI vf))]) hx hb dX7_freeOf_78 hl (k := 4) rfl (inc1 _) (by decide) rfl (fun ls hl => ?_)
              refine lv_goto (tgt := 5) hx hb dX7_freeOf_81 (by decide) ?_
              exact ih5 vv (vk + 1) vm (by first | assumption | omega) (by omega) (by omega) ((frW_k c_13 c_33).symm.trans hfin2) (by omega) ls (lv_sub hl [1, 2, 3, 4, 0] rfl)
            ·
              have c_33 : vf < fM μ n vk := Nat.not_le.mp c_33
              refine lv_aload_n hx hb dX7_freeOf_36 rfl (lv_at hl 0 rfl) ?_
              refine lv_iload_n hx hb dX7_freeOf_37 rfl (lv_at hl 1 rfl) ?_
              refine lv_bipush (v := nI 10) hx hb dX7_freeOf_38 (by decide) ?_
              refine lv_iload hx hb dX7_freeOf_40 (lv_at hl 4 rfl) ?_
              refine n_imul hx hb dX7_freeOf_42 ?_
              refine lv_iload hx hb dX7_freeOf_43 (lv_at hl 5 rfl) ?_
              refine n_iadd hx hb dX7_freeOf_45 ?_
              rcases hqq : lkM μ n (10 * vk + vf) with _ | vl
              ·
                have hz1 : zM μ n vk vf = true := by show (lkM μ n (10 * vk + vf)).isNone = true; rw [hqq]; rfl
                refine crV (rest := []) S hK (c_X7_linkOf_n l G om μ n ((10 * vk) + vf) (by first | assumption | omega | decide) (by first | assumption | omega | decide) hqq) cw_X7_238 rfl ⟨Nat.le_of_ble_eq_true rfl, Nat.le_of_ble_eq_true rfl⟩ ⟨Nat.le_of_ble_eq_true rfl, Nat.le_of_ble_eq_true rfl⟩ (bk.recv hK hM rfl rfl) hl.1 rfl (Nat.le_of_ble_eq_true rfl) dX7_freeOf_46 hM ?_
                refine lv_if_lt (tgt := 55) hx hb dX7_freeOf_49 (by decide) (fun c_49 => ?_) (fun c_49 => ?_)
                ·
                  refine lv_iload_n hx hb dX7_freeOf_55 rfl (lv_at hl 3 rfl) ?_
                  refine lv_iload_n hx hb dX7_freeOf_56 rfl (lv_at hl 2 rfl) ?_
                  refine lv_icmp_ne (tgt := 69) hx hb dX7_freeOf_57 (by decide) (fun c_57 => ?_) (fun c_57 => ?_)
                  ·
                    refine lv_iinc (v := nI (vm + 1)) (lv' := [(3, .int (nI (vm + 1))), (0, .ref om), (1, .int (nI n)), (2, .int i), (4, .int (nI vk)), (5, .int (nI vf))]) hx hb dX7_freeOf_69 hl (k := 3) rfl (inc1 _) (by decide) rfl (fun ls hl => ?_)
                    refine lv_iinc (v := nI (vf + 1)) (lv' := [(5, .int (nI (vf + 1))), (3, .int (nI (vm + 1))), (0, .ref om), (1, .int (nI n)), (2, .int i), (4, .int (nI vk))]) hx hb dX7_freeOf_72 hl (k := 5) rfl (inc1 _) (by decide) rfl (fun ls hl => ?_)
                    refine lv_goto (tgt := 19) hx hb dX7_freeOf_75 (by decide) ?_
                    exact ih19 vv (vf + 1) (vm + 1) (by omega) (by omega) (by first | assumption | omega) ((frW_y c_13 c_33 hz1 c_57).symm.trans hfin2) (by omega) ls (lv_sub hl [2, 3, 4, 1, 5, 0] rfl)
                  ·
                    refine lv_bipush (v := nI 10) hx hb dX7_freeOf_60 (by decide) ?_
                    refine lv_iload hx hb dX7_freeOf_62 (lv_at hl 4 rfl) ?_
                    refine n_imul hx hb dX7_freeOf_64 ?_
                    refine lv_iload hx hb dX7_freeOf_65 (lv_at hl 5 rfl) ?_
                    refine n_iadd hx hb dX7_freeOf_67 ?_
                    refine w_top (v' := .int (freeOf_M μ n i)) (show (.int (nI ((10 * vk) + vf)) : Value) = .int (freeOf_M μ n i) from (congrArg (fun z => Value.int z) ((frW_r c_13 c_33 hz1 c_57).symm.trans hfin2))) ?_
                    exact hE _ _ (kr_i dX7_freeOf_68)
                ·
                  exact absurd c_49 (by decide)
              ·
                have hvl : vl < 12 := by have := (fnd_lt _ _ hqq).2.1; omega
                have hz1 : zM μ n vk vf = false := by show (lkM μ n (10 * vk + vf)).isNone = false; rw [hqq]; rfl
                refine crV (rest := []) S hK (c_X7_linkOf_s l G om μ n ((10 * vk) + vf) vl (by first | assumption | omega | decide) (by first | assumption | omega | decide) hqq) cw_X7_238 rfl ⟨Nat.le_of_ble_eq_true rfl, Nat.le_of_ble_eq_true rfl⟩ ⟨Nat.le_of_ble_eq_true rfl, Nat.le_of_ble_eq_true rfl⟩ (bk.recv hK hM rfl rfl) hl.1 rfl (Nat.le_of_ble_eq_true rfl) dX7_freeOf_46 hM ?_
                refine n_if_lt (tgt := 55) hx hb dX7_freeOf_49 (by decide) (by omega) (fun c_49 => ?_)
                refine lv_goto (tgt := 72) hx hb dX7_freeOf_52 (by decide) ?_
                refine lv_iinc (v := nI (vf + 1)) (lv' := [(5, .int (nI (vf + 1))), (0, .ref om), (1, .int (nI n)), (2, .int i), (3, .int (nI vm)), (4, .int (nI vk))]) hx hb dX7_freeOf_72 hl (k := 5) rfl (inc1 _) (by decide) rfl (fun ls hl => ?_)
                refine lv_goto (tgt := 19) hx hb dX7_freeOf_75 (by decide) ?_
                exact ih19 vv (vf + 1) vm (by omega) (by omega) (by first | assumption | omega) ((frW_n c_13 c_33 hz1).symm.trans hfin2) (by omega) ls (lv_sub hl [1, 2, 3, 4, 5, 0] rfl)
        exact L19 ((fM μ n vk - 0) + 1) vu 0 vm (Nat.zero_le _) (by omega) (by omega) hfin (Nat.lt_succ_self _) ls (lv_sub hl [1, 2, 3, 4, 5, 0] rfl)
  exact L5 ((μ.2.1 7 n - 0) + 1) 100 0 0 (Nat.zero_le _) (by omega) (by omega) rfl (Nat.lt_succ_self _) ls (lv_sub hl [2, 3, 4, 1, 0] rfl)
