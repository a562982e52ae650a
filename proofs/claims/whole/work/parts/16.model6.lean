
/-! walks: the reference's NETS, what they let -/
/-- a state with another array at one slot -/
def uR (σ : Sx) (k : Nat) (g : Nat → Nat) : Sx := (σ.1, fun i => if i = k then g else σ.2.1 i, σ.2.2)
theorem fcN_le {F : Nat → Nat} {Z : Nat → Nat → Bool} : ∀ k f, fc1 Z k f ≤ f
  | k, 0 => Nat.le_refl 0
  | k, f + 1 => by
    have := @fcN_le F Z k f
    unfold fc1
    split <;> omega
theorem nI_ne1 {a : Nat} (h : a < 2 ^ 31) : ¬ nI a = -1 := by
  intro q
  have q2 := congrArg Int32.toInt q
  rw [nI_toInt h] at q2
  have e : (-1 : Int32).toInt = -1 := rfl
  omega
/-- the count of FREE ones: the search for none of them -/
theorem frW_c {P : Nat} {F : Nat → Nat} {Z : Nat → Nat → Bool} {last : Int32} (hP : P ≤ 8) (hF : ∀ k, k < P → F k ≤ 5) : ∀ u k f, k ≤ P → (k < P → f ≤ F k) → (k = P → f = 0) → 6 * (P - k) + 1 ≤ u + f → frW P F Z (-1) last u k f (fcN F Z k + fc1 Z k f) = nI (fcN F Z P) ∧ fcN F Z k + fc1 Z k f ≤ 5 * k + f
  | 0, k, f, hk, hf, hf0, hu => by
    exfalso
    by_cases e : k = P
    · have := hf0 e
      omega
    · have := hf (by omega)
      have := hF k (by omega)
      omega
  | u + 1, k, f, hk, hf, hf0, hu => by
    have hb : ∀ k, k ≤ P → fcN F Z k ≤ 5 * k := by
      intro k
      induction k with
      | zero => intro _; exact Nat.le_refl 0
      | succ k ih =>
        intro h
        have h1 := ih (by omega)
        have h2 := @fcN_le F Z k (F k)
        have h3 := hF k (by omega)
        show fcN F Z k + fc1 Z k (F k) ≤ _
        omega
    have hbk := hb k hk
    have hbf := @fcN_le F Z k f
    refine ⟨?_, by omega⟩
    by_cases e : k < P
    · by_cases ef : f < F k
      · have h5 := hF k e
        cases hz : Z k f
        · rw [frW_n e ef hz]
          have ih := (frW_c (Z := Z) (last := last) hP hF u k (f + 1) hk (fun _ => ef) (fun q => by omega) (by omega)).1
          rw [show fc1 Z k (f + 1) = fc1 Z k f from by show fc1 Z k f + (if _ then _ else _) = _; rw [hz]; rfl] at ih
          exact ih
        · rw [frW_y e ef hz (nI_ne1 (by omega))]
          have ih := (frW_c (Z := Z) (last := last) hP hF u k (f + 1) hk (fun _ => ef) (fun q => by omega) (by omega)).1
          rw [show fc1 Z k (f + 1) = fc1 Z k f + 1 from by show fc1 Z k f + (if _ then _ else _) = _; rw [hz]; rfl] at ih
          exact ih
      · have h5 := hf e
        have efe : f = F k := by omega
        rw [frW_k e ef]
        have h55 := hF k e
        have ih := (frW_c (Z := Z) (last := last) hP hF u (k + 1) 0 (by omega) (fun _ => Nat.zero_le _) (fun _ => rfl) (by omega)).1
        rw [efe]
        exact ih
    · have ek : k = P := by omega
      have e0 := hf0 ek
      subst ek; subst e0
      rw [frW_e (by omega), if_pos (by decide)]
      rfl
abbrev fcM (μ : Sx) (n : Nat) : Nat := fcN (fM μ n) (zM μ n) (μ.2.1 7 n)
theorem freeOf_c {μ : Sx} {n : Nat} (hN : MN1 μ n) : freeOf_M μ n (-1) = nI (fcM μ n) := (frW_c (Z := zM μ n) (last := -9) hN.2.1 (fun k hk => (hN.2.2.2.1 k hk).2) 100 0 0 (Nat.zero_le _) (fun _ => Nat.zero_le _) (fun _ => rfl) (by have := hN.2.1; omega)).1
theorem fcN_mono {F : Nat → Nat} {Z : Nat → Nat → Bool} {P : Nat} : ∀ d k, k + d = P → fcN F Z k ≤ fcN F Z P
  | 0, k, h => by rw [show k = P from h]; exact Nat.le_refl _
  | d + 1, k, h => by
    have := @fcN_mono F Z P d (k + 1) (by omega)
    have e : fcN F Z (k + 1) = fcN F Z k + fc1 Z k (F k) := rfl
    omega
theorem fc1_mono {Z : Nat → Nat → Bool} {k m : Nat} : ∀ d f, f + d = m → fc1 Z k f ≤ fc1 Z k m
  | 0, f, h => by rw [show f = m from h]; exact Nat.le_refl _
  | d + 1, f, h => by
    have := @fc1_mono Z k m d (f + 1) (by omega)
    have e : fc1 Z k (f + 1) = fc1 Z k f + (if Z k f then 1 else 0) := rfl
    omega
theorem fc_lt {F : Nat → Nat} {Z : Nat → Nat → Bool} {P k f : Nat} (hk : k < P) (hf : f < F k) : fcN F Z k + fc1 Z k f ≤ fcN F Z P := by
  have h1 := @fc1_mono Z k (F k) (F k - f) f (by omega)
  have h2 := @fcN_mono F Z P (P - (k + 1)) (k + 1) (by omega)
  have e : fcN F Z (k + 1) = fcN F Z k + fc1 Z k (F k) := rfl
  omega
/-- the STATE of a PIECE in a STATE of LINKS and of FREE ones -/
def psB (μ : Sx) (n st lk k f : Nat) : Bool := match lkM μ n (10 * k + f) with
  | some l => lk.testBit l
  | none => st.testBit (fcN (fM μ n) (zM μ n) k + fc1 (zM μ n) k f)
abbrev psV (μ : Sx) (n st lk k : Nat) : Nat := bo (psB μ n st lk k) (fM μ n k)
theorem psB_s {μ : Sx} {n st lk k f l : Nat} (h : lkM μ n (10 * k + f) = some l) : psB μ n st lk k f = lk.testBit l := by unfold psB; rw [h]
theorem psB_n {μ : Sx} {n st lk k f : Nat} (h : lkM μ n (10 * k + f) = none) : psB μ n st lk k f = st.testBit (fcN (fM μ n) (zM μ n) k + fc1 (zM μ n) k f) := by unfold psB; rw [h]
theorem b_or {P : Nat → Bool} {n x : Nat} {z : Bool} (h : P n = z) (hx : x = if z then 1 else 0) : bo P n ||| x <<< n = bo P (n + 1) := by
  cases z
  · rw [hx, bo_f h]
    simp
  · rw [hx, bo_t h]
    rfl
theorem and1 (s k : Nat) : s >>> k &&& 1 = if s.testBit k then 1 else 0 := by
  cases hb : s.testBit k
  · exact tb0.mpr hb
  · exact bit1.mpr hb
theorem zM_n {μ : Sx} {n k f : Nat} (h : lkM μ n (10 * k + f) = none) : fc1 (zM μ n) k (f + 1) = fc1 (zM μ n) k f + 1 := by
  show fc1 (zM μ n) k f + (if (lkM μ n (10 * k + f)).isNone then 1 else 0) = _
  rw [h]
  rfl
theorem zM_s {μ : Sx} {n k f l : Nat} (h : lkM μ n (10 * k + f) = some l) : fc1 (zM μ n) k (f + 1) = fc1 (zM μ n) k f := by
  show fc1 (zM μ n) k f + (if (lkM μ n (10 * k + f)).isNone then 1 else 0) = _
  rw [h]
  rfl
def MN2 (μ : Sx) (n : Nat) : Prop := ∀ k, k < μ.2.1 7 n → ∀ j, j < 20 → clM μ (μ.2.1 9 (8 * n + k)) j < 16
theorem mn2 {μ : Sx} {n : Nat} (h0 : MI0 μ) (hn : MIn μ) (h : n < μ.1 18) : MN2 μ n := fun k hk j hj => (h0.2 _ ((hn.2 n h).2.2.1 k hk)).2.2.2.2.2 j hj
abbrev wyM (μ : Sx) (n k s : Nat) : Nat := tl 10 (tcM (clM μ (μ.2.1 9 (8 * n + k))) s)
def prV (w ps : Nat → Nat) : Nat → Nat
  | 0 => 1
  | k + 1 => prV w ps k * w (32 * k + ps k) % 1000000007
def suV (w : Nat → Nat) (pv : Nat → Nat → Nat) (P : Nat) : Nat → Nat
  | 0 => 0
  | lk + 1 => (suV w pv P lk + prV w (pv lk) P) % 1000000007
theorem prV_lt (w ps : Nat → Nat) : ∀ k, prV w ps k < 1000000007
  | 0 => by show (1 : Nat) < _; decide
  | k + 1 => Nat.mod_lt _ (by decide)
theorem suV_lt (w : Nat → Nat) (pv : Nat → Nat → Nat) (P : Nat) : ∀ k, suV w pv P k < 1000000007
  | 0 => by show (0 : Nat) < _; decide
  | k + 1 => Nat.mod_lt _ (by decide)
def alB (w ps : Nat → Nat) : Nat → Bool
  | 0 => true
  | k + 1 => alB w ps k && decide (0 < w (32 * k + ps k))
theorem psV_lt {μ : Sx} {n : Nat} (hN : MN1 μ n) (st lk : Nat) {k : Nat} (hk : k < μ.2.1 7 n) : psV μ n st lk k < 32 := Nat.lt_of_lt_of_le (bo_lt _ _) (Nat.pow_le_pow_right (by decide) (hN.2.2.2.1 k hk).2)
theorem alB_congr {w w' p p' : Nat → Nat} : ∀ {k : Nat}, (∀ j, j < k → w (32 * j + p j) = w' (32 * j + p' j)) → alB w p k = alB w' p' k
  | 0, _ => rfl
  | k + 1, h => by unfold alB; rw [alB_congr (fun j hj => h j (by omega)), h k (by omega)]
theorem prV_congr {w w' p p' : Nat → Nat} : ∀ {k : Nat}, (∀ j, j < k → w (32 * j + p j) = w' (32 * j + p' j)) → prV w p k = prV w' p' k
  | 0, _ => rfl
  | k + 1, h => by unfold prV; rw [prV_congr (fun j hj => h j (by omega)), h k (by omega)]

theorem c_X7_freeOf_c (l : Launch) (G : Gt) (om : Nat) (μ : Sx) (n : Nat) (hN : MN1 μ n) : Cr l G yX7_freeOf cX7_freeOf 6 ((some .int)) 1 [.ref om, .int (nI n), .int (-1)] (fun H => bk G om (mL G om μ) H) (some (.int (nI (fcM μ n)))) := by
  have h := c_X7_freeOf l G om μ n (-1) hN
  rw [freeOf_c hN] at h; exact h

set_option maxHeartbeats 1000000 in
set_option maxRecDepth 100000 in
theorem c_X7_free (l : Launch) (G : Gt) (om : Nat) (μ : Sx) (n : Int32) (i : Int32) (h0 : MI0 μ) (hI : MIn μ) : Ct l G yX7_free cX7_free 3 ((some .int)) 3 0 0 [.ref om, .int n, .int i] (fun H => bk G om (mL G om μ) H) (some (.int ((free_M μ n i).1))) (fun H => bk G om (mL G om ((free_M μ n i).2)) H) (fun q => om ≤ q ∧ q < om + 20) := by
  refine ct_entry [(0, .ref om), (1, .int n), (2, .int i)] (by decide) (Nat.le_of_ble_eq_true rfl) rfl ?_
  intro zp ze zs zm za zb zt zc Q S hK hPre hin hE ls hl
  have hx := S.1
  have hb := S.2.1
  have hM := hPre
  have hS : va_S (fun q => om ≤ q ∧ q < om + 20) zs.heap zs.heap [] := va_S.rf
  have hn18 := hI.1
  refine lv_aload_n hx hb dX7_free_0 rfl (lv_at hl 0 rfl) ?_
  refine lv_iload_n hx hb dX7_free_1 rfl (lv_at hl 1 rfl) ?_
  refine crV (rest := []) S hK (c_X7_isNet l G om μ n (by first | assumption | omega | decide)) cw_X7_229 rfl ⟨Nat.le_of_ble_eq_true rfl, Nat.le_of_ble_eq_true rfl⟩ ⟨Nat.le_of_ble_eq_true rfl, Nat.le_of_ble_eq_true rfl⟩ (bk.recv hK hM rfl rfl) hl.1 rfl (Nat.le_of_ble_eq_true rfl) dX7_free_2 hM ?_
  refine z_if_eq (tgt := 22) hx hb dX7_free_5 (by decide) (fun c_5 => ?_) (fun c_5 => ?_)
  ·
    refine lv_aload_n hx hb dX7_free_22 rfl (lv_at hl 0 rfl) ?_
    refine lv_iconst (v := (-1)) hx hb dX7_free_23 (by decide) ?_
    refine ctV (rest := []) S hK (c_X7_refuse l G om μ (-1) 1 (by first | assumption | omega | decide) (by first | assumption | omega | decide)) cw_X7_72 rfl ⟨Nat.le_of_ble_eq_true rfl, Nat.le_of_ble_eq_true rfl⟩ ⟨Nat.le_of_ble_eq_true rfl, Nat.le_of_ble_eq_true rfl⟩ (bk.recv hK hM rfl rfl) hl.1 rfl (Nat.le_of_ble_eq_true rfl) dX7_free_24 hM hS (fun _ h => h) (fun H locs hPost hz hk hS => ?_)
    have hM := hPost
    have hr : free_M μ n i = ((-1), uA μ 0 1 (μ.2.1 0 1 + 1)) := by unfold free_M; simp [c_5]
    refine w_top (v' := .int ((free_M μ n i).1)) (congrArg (fun z => Value.int z) (congrArg Prod.fst hr).symm) ?_
    replace hM := bk_eq hM (show mL G om (uA μ 0 1 (μ.2.1 0 1 + 1)) = mL G om ((free_M μ n i).2) from by rw [hr])
    exact hE _ _ _ _ _ _ (kr_i dX7_free_27) hS (by decide) (by decide) hM
  ·
    obtain ⟨vn, hvn, rfl⟩ := inI_x c_5
    have hcn := cx_n (j := vn) (by omega)
    have hN := mn1 h0 hI hvn
    refine lv_iload_n hx hb dX7_free_8 rfl (lv_at hl 2 rfl) ?_
    refine lv_iconst (v := (-1)) hx hb dX7_free_9 (by decide) ?_
    refine lv_icmp_lt (tgt := 22) hx hb dX7_free_10 (by decide) (fun c_10 => ?_) (fun c_10 => ?_)
    ·
      have hi1 : ¬ -1 ≤ i := Int32.not_le.mpr c_10
      refine lv_aload_n hx hb dX7_free_22 rfl (lv_at hl 0 rfl) ?_
      refine lv_iconst (v := (-1)) hx hb dX7_free_23 (by decide) ?_
      refine ctV (rest := []) S hK (c_X7_refuse l G om μ (-1) 1 (by first | assumption | omega | decide) (by first | assumption | omega | decide)) cw_X7_72 rfl ⟨Nat.le_of_ble_eq_true rfl, Nat.le_of_ble_eq_true rfl⟩ ⟨Nat.le_of_ble_eq_true rfl, Nat.le_of_ble_eq_true rfl⟩ (bk.recv hK hM rfl rfl) hl.1 rfl (Nat.le_of_ble_eq_true rfl) dX7_free_24 hM hS (fun _ h => h) (fun H locs hPost hz hk hS => ?_)
      have hM := hPost
      have hr : free_M μ (nI vn) i = ((-1), uA μ 0 1 (μ.2.1 0 1 + 1)) := by unfold free_M; simp [c_5, hcn, c_10, hi1]
      refine w_top (v' := .int ((free_M μ (nI vn) i).1)) (congrArg (fun z => Value.int z) (congrArg Prod.fst hr).symm) ?_
      replace hM := bk_eq hM (show mL G om (uA μ 0 1 (μ.2.1 0 1 + 1)) = mL G om ((free_M μ (nI vn) i).2) from by rw [hr])
      exact hE _ _ _ _ _ _ (kr_i dX7_free_27) hS (by decide) (by decide) hM
    ·
      have hi1 : -1 ≤ i := Int32.not_lt.mp c_10
      refine lv_aload_n hx hb dX7_free_13 rfl (lv_at hl 0 rfl) ?_
      refine lv_iload_n hx hb dX7_free_14 rfl (lv_at hl 1 rfl) ?_
      refine lv_iload_n hx hb dX7_free_15 rfl (lv_at hl 2 rfl) ?_
      refine crV (rest := []) S hK (c_X7_freeOf l G om μ vn i (by first | assumption | omega | decide)) cw_X7_241 rfl ⟨Nat.le_of_ble_eq_true rfl, Nat.le_of_ble_eq_true rfl⟩ ⟨Nat.le_of_ble_eq_true rfl, Nat.le_of_ble_eq_true rfl⟩ (bk.recv hK hM rfl rfl) hl.1 rfl (Nat.le_of_ble_eq_true rfl) dX7_free_16 hM ?_
      refine lv_goto (tgt := 27) hx hb dX7_free_19 (by decide) ?_
      have hr : free_M μ (nI vn) i = ((freeOf_M μ vn i), μ) := by unfold free_M; simp [c_5, hcn, c_10, hi1]
      refine w_top (v' := .int ((free_M μ (nI vn) i).1)) (congrArg (fun z => Value.int z) (congrArg Prod.fst hr).symm) ?_
      replace hM := bk_eq hM (show mL G om μ = mL G om ((free_M μ (nI vn) i).2) from by rw [hr])
      exact hE _ _ _ _ _ _ (kr_i dX7_free_27) hS (by decide) (by decide) hM

set_option maxHeartbeats 1000000 in
set_option maxRecDepth 100000 in
theorem c_X7_states_ (l : Launch) (G : Gt) (om : Nat) (μ : Sx) (n : Nat) (st : Nat) (lk : Nat) (hN : MN1 μ n) (hst : st < 2 ^ 31) (hlk : lk < 2 ^ 31) (hfc : fcM μ n ≤ 31) : Ct l G yX7_states_ cX7_states_ 9 (none) 1 0 0 [.ref om, .int (nI n), .int (nI st), .int (nI lk)] (fun H => bk G om (mL G om μ) H) none (fun H => ∃ g : Nat → Nat, bk G om (mL G om (uR μ 30 g)) H ∧ ∀ k, k < μ.2.1 7 n → g k = psV μ n st lk k) (fun q => om ≤ q ∧ q < om + 20) := by
  refine ct_entry [(0, .ref om), (1, .int (nI n)), (2, .int (nI st)), (3, .int (nI lk))] (by decide) (Nat.le_of_ble_eq_true rfl) rfl ?_
  intro zp ze zs zm za zb zt zc Q S hK hPre hin hE ls hl
  have hx := S.1
  have hb := S.2.1
  have hM := hPre
  have hS : va_S (fun q => om ≤ q ∧ q < om + 20) zs.heap zs.heap [] := va_S.rf
  obtain ⟨hn6, hp8, hl12, hpf, hll⟩ := id hN
  replace hM : bk G om (mL G om (uR μ 30 (μ.2.1 30))) zs.heap := bk_eq hM rfl
  refine lv_iconst (v := nI 0) hx hb dX7_states__0 (by decide) ?_
  refine lv_istore (lv' := [(4, .int (nI 0)), (0, .ref om), (1, .int (nI n)), (2, .int (nI st)), (3, .int (nI lk))]) hx hb dX7_states__1 hl (by decide) rfl (fun ls hl => ?_)
  refine lv_iconst (v := nI 0) hx hb dX7_states__3 (by decide) ?_
  refine lv_istore (lv' := [(5, .int (nI 0)), (4, .int (nI 0)), (0, .ref om), (1, .int (nI n)), (2, .int (nI st)), (3, .int (nI lk))]) hx hb dX7_states__4 hl (by decide) rfl (fun ls hl => ?_)
  have L6 : ∀ (fu : Nat), ∀ (vk : Nat) (g : Nat → Nat), (vk ≤ μ.2.1 7 n) → (∀ k, k < vk → g k = psV μ n st lk k) → μ.2.1 7 n - vk < fu → ∀ (H : Heap) (locs : List Loc), bk G om (mL G om (uR μ 30 g)) H → va_S (fun q => om ≤ q ∧ q < om + 20) zs.heap H locs → ∀ ls : Array Slot, lv_has ls 9 [(0, .ref om), (1, .int (nI n)), (2, .int (nI st)), (3, .int (nI lk)), (4, .int (nI (fcN (fM μ n) (zM μ n) vk))), (5, .int (nI vk))] → W zp l ze (rL 1 0 0) zs zm za zb zt zc H locs 0 0 Q (F0 zm 6 ls []) := by
    intro fu
    induction fu with
    | zero =>
      intro vk g hvk hg hmu H locs hM hS ls hl
      exact absurd hmu (Nat.not_lt_zero _)
    | succ fu ih6 =>
      intro vk g hvk hg hmu H locs hM hS ls hl
      refine lv_iload hx hb dX7_states__6 (lv_at hl 5 rfl) ?_
      refine lv_aload_n hx hb dX7_states__8 rfl (lv_at hl 0 rfl) ?_
      refine kg (C := RX7) (T := TX7) (N := 32) (ci := 5) (k := 7) (v := .ref (om + 8)) S hK rfl inX7 (by decide) q_737 dX7_states__9 hM rfl rfl ?_
      refine lv_iload_n hx hb dX7_states__12 rfl (lv_at hl 1 rfl) ?_
      refine kil (f := μ.2.1 7) S hK dX7_states__13 8 hM rfl (by decide) rfl (by omega) ?_
      refine n_icmp_ge (tgt := 124) hx hb dX7_states__14 (by decide) (by omega) (by omega) (fun c_14 => ?_) (fun c_14 => ?_)
      ·
        exact hE _ _ _ _ _ _ (kr_v dX7_states__124) hS (by decide) (by decide) ⟨g, hM, (fun k hk => hg k (by omega))⟩
      ·
        have hvk2 : vk < μ.2.1 7 n := by omega
        have hfk := (hpf vk hvk2).2
        have hpk := (hpf vk hvk2).1
        have hfk5 : μ.2.1 3 (μ.2.1 9 (8 * n + vk)) ≤ 5 := hfk
        refine lv_aload_n hx hb dX7_states__17 rfl (lv_at hl 0 rfl) ?_
        refine kg (C := RX7) (T := TX7) (N := 32) (ci := 5) (k := 30) (v := .ref (om + 18)) S hK rfl inX7 (by decide) q_760 dX7_states__18 hM rfl rfl ?_
        refine lv_iload hx hb dX7_states__21 (lv_at hl 5 rfl) ?_
        refine lv_iconst (v := nI 0) hx hb dX7_states__23 (by decide) ?_
        refine kis S hK dX7_states__24 18 hM rfl (by decide) rfl (by omega) rfl (L1 := mL G om (uR μ 30 (uN g vk 0))) rfl hS (by first | exact ⟨by omega, by omega⟩ | omega) (fun H locs hM hS hz hk => ?_)
        refine lv_iconst (v := nI 0) hx hb dX7_states__25 (by decide) ?_
        refine lv_istore (lv' := [(6, .int (nI 0)), (0, .ref om), (1, .int (nI n)), (2, .int (nI st)), (3, .int (nI lk)), (4, .int (nI (fcN (fM μ n) (zM μ n) vk))), (5, .int (nI vk))]) hx hb dX7_states__26 hl (by decide) rfl (fun ls hl => ?_)
        have L28 : ∀ (fu : Nat), ∀ (vf : Nat) (g : Nat → Nat), (vf ≤ fM μ n vk) → (∀ k, k < vk → g k = psV μ n st lk k) → (g vk = bo (psB μ n st lk vk) vf) → fM μ n vk - vf < fu → ∀ (H : Heap) (locs : List Loc), bk G om (mL G om (uR μ 30 g)) H → va_S (fun q => om ≤ q ∧ q < om + 20) zs.heap H locs → ∀ ls : Array Slot, lv_has ls 9 [(0, .ref om), (1, .int (nI n)), (2, .int (nI st)), (3, .int (nI lk)), (4, .int (nI (fcN (fM μ n) (zM μ n) vk + fc1 (zM μ n) vk vf))), (5, .int (nI vk)), (6, .int (nI vf))] → W zp l ze (rL 1 0 0) zs zm za zb zt zc H locs 0 0 Q (F0 zm 28 ls []) := by
          intro fu
          induction fu with
          | zero =>
            intro vf g hvf hgo hgf hmu H locs hM hS ls hl
            exact absurd hmu (Nat.not_lt_zero _)
          | succ fu ih28 =>
            intro vf g hvf hgo hgf hmu H locs hM hS ls hl
            refine lv_iload hx hb dX7_states__28 (lv_at hl 6 rfl) ?_
            refine lv_aload_n hx hb dX7_states__30 rfl (lv_at hl 0 rfl) ?_
            refine kg (C := RX7) (T := TX7) (N := 32) (ci := 5) (k := 3) (v := .ref (om + 4)) S hK rfl inX7 (by decide) q_733 dX7_states__31 hM rfl rfl ?_
            refine lv_aload_n hx hb dX7_states__34 rfl (lv_at hl 0 rfl) ?_
            refine lv_iload_n hx hb dX7_states__35 rfl (lv_at hl 1 rfl) ?_
            refine lv_iload hx hb dX7_states__36 (lv_at hl 5 rfl) ?_
            refine crV (v := .int (nI (μ.2.1 9 (8 * n + vk)))) (rest := [.ref (om + 4), .int (nI vf)]) S hK (c_X7_partAt l G om (uR μ 30 g) n vk (by first | assumption | omega | decide)) cw_X7_232 rfl ⟨Nat.le_of_ble_eq_true rfl, Nat.le_of_ble_eq_true rfl⟩ ⟨Nat.le_of_ble_eq_true rfl, Nat.le_of_ble_eq_true rfl⟩ (bk.recv hK hM rfl rfl) hl.1 rfl (Nat.le_of_ble_eq_true rfl) dX7_states__38 hM ?_
            refine kil (f := μ.2.1 3) S hK dX7_states__41 4 hM rfl (by decide) rfl (by omega) ?_
            refine n_icmp_ge (tgt := 118) hx hb dX7_states__42 (by decide) (by omega) (by omega) (fun c_42 => ?_) (fun c_42 => ?_)
            ·
              have hvf3 : vf = fM μ n vk := by have : fM μ n vk ≤ vf := c_42; omega
              refine lv_iinc (v := nI (vk + 1)) (lv' := [(5, .int (nI (vk + 1))), (0, .ref om), (1, .int (nI n)), (2, .int (nI st)), (3, .int (nI lk)), (4, .int (nI (fcN (fM μ n) (zM μ n) vk + fc1 (zM μ n) vk vf))), (6, .int (nI vf))]) hx hb dX7_states__118 hl (k := 5) rfl (inc1 _) (by decide) rfl (fun ls hl => ?_)
              refine lv_goto (tgt := 6) hx hb dX7_states__121 (by decide) ?_
              replace hl := lv_eq 5 hl rfl (v2 := .int (nI (fcN (fM μ n) (zM μ n) (vk + 1)))) (congrArg (fun z => Value.int (nI z)) (show (fcN (fM μ n) (zM μ n) vk + fc1 (zM μ n) vk vf) = (fcN (fM μ n) (zM μ n) (vk + 1)) from by rw [hvf3]; rfl))
              exact ih6 (vk + 1) g (by first | assumption | omega) (fun k hk => by
                by_cases e : k = vk
                · rw [e]; rw [hgf, show vf = fM μ n vk from by omega]
                · exact hgo k (by omega)) (by omega) _ _ hM hS ls (lv_sub hl [1, 2, 3, 4, 5, 0] rfl)
            ·
              have hvf2 : vf < fM μ n vk := Nat.not_le.mp c_42
              have hfcl : fcN (fM μ n) (zM μ n) vk + fc1 (zM μ n) vk vf ≤ 31 := Nat.le_trans (fc_lt (Z := zM μ n) hvk2 hvf2) hfc
              refine lv_aload_n hx hb dX7_states__45 rfl (lv_at hl 0 rfl) ?_
              refine lv_iload_n hx hb dX7_states__46 rfl (lv_at hl 1 rfl) ?_
              refine lv_bipush (v := nI 10) hx hb dX7_states__47 (by decide) ?_
              refine lv_iload hx hb dX7_states__49 (lv_at hl 5 rfl) ?_
              refine n_imul hx hb dX7_states__51 ?_
              refine lv_iload hx hb dX7_states__52 (lv_at hl 6 rfl) ?_
              refine n_iadd hx hb dX7_states__54 ?_
              rcases hqq : lkM μ n (10 * vk + vf) with _ | vl
              ·
                refine crV (rest := []) S hK (c_X7_linkOf_n l G om (uR μ 30 g) n ((10 * vk) + vf) hN (by first | assumption | omega | decide) hqq) cw_X7_238 rfl ⟨Nat.le_of_ble_eq_true rfl, Nat.le_of_ble_eq_true rfl⟩ ⟨Nat.le_of_ble_eq_true rfl, Nat.le_of_ble_eq_true rfl⟩ (bk.recv hK hM rfl rfl) hl.1 rfl (Nat.le_of_ble_eq_true rfl) dX7_states__55 hM ?_
                refine lv_istore (lv' := [(7, .int (-9)), (0, .ref om), (1, .int (nI n)), (2, .int (nI st)), (3, .int (nI lk)), (4, .int (nI (fcN (fM μ n) (zM μ n) vk + fc1 (zM μ n) vk vf))), (5, .int (nI vk)), (6, .int (nI vf))]) hx hb dX7_states__58 hl (by decide) rfl (fun ls hl => ?_)
                refine lv_iload hx hb dX7_states__60 (lv_at hl 0 rfl) ?_
                refine lv_if_lt (tgt := 74) hx hb dX7_states__62 (by decide) (fun c_62 => ?_) (fun c_62 => ?_)
                ·
                  refine lv_iload_n hx hb dX7_states__74 rfl (lv_at hl 3 rfl) ?_
                  refine lv_iload hx hb dX7_states__75 (lv_at hl 5 rfl) ?_
                  refine n_ishr hx hb dX7_states__77 (by omega) (by omega) ?_
                  refine lv_iconst (v := nI 1) hx hb dX7_states__78 (by decide) ?_
                  refine n_iand hx hb dX7_states__79 ?_
                  refine lv_istore (lv' := [(8, .int (nI ((st >>> (fcN (fM μ n) (zM μ n) vk + fc1 (zM μ n) vk vf)) &&& 1))), (7, .int (-9)), (0, .ref om), (1, .int (nI n)), (2, .int (nI st)), (3, .int (nI lk)), (4, .int (nI (fcN (fM μ n) (zM μ n) vk + fc1 (zM μ n) vk vf))), (5, .int (nI vk)), (6, .int (nI vf))]) hx hb dX7_states__80 hl (by decide) rfl (fun ls hl => ?_)
                  refine lv_iload hx hb dX7_states__82 (lv_at hl 6 rfl) ?_
                  refine lv_iload hx hb dX7_states__84 (lv_at hl 1 rfl) ?_
                  refine lv_if_lt (tgt := 93) hx hb dX7_states__86 (by decide) (fun c_86 => ?_) (fun c_86 => ?_)
                  ·
                    refine lv_iconst (v := nI 1) hx hb dX7_states__93 (by decide) ?_
                    refine n_iadd hx hb dX7_states__94 ?_
                    refine lv_istore (lv' := [(4, .int (nI ((fcN (fM μ n) (zM μ n) vk + fc1 (zM μ n) vk vf) + 1))), (8, .int (nI ((st >>> (fcN (fM μ n) (zM μ n) vk + fc1 (zM μ n) vk vf)) &&& 1))), (7, .int (-9)), (0, .ref om), (1, .int (nI n)), (2, .int (nI st)), (3, .int (nI lk)), (5, .int (nI vk)), (6, .int (nI vf))]) hx hb dX7_states__95 hl (by decide) rfl (fun ls hl => ?_)
                    refine lv_aload_n hx hb dX7_states__97 rfl (lv_at hl 3 rfl) ?_
                    refine kg (C := RX7) (T := TX7) (N := 32) (ci := 5) (k := 30) (v := .ref (om + 18)) S hK rfl inX7 (by decide) q_760 dX7_states__98 hM rfl rfl ?_
                    refine lv_iload hx hb dX7_states__101 (lv_at hl 7 rfl) ?_
                    refine lv_dup2_11 hx hb dX7_states__103 rfl rfl ?_
                    refine kil (f := g) S hK dX7_states__104 18 hM rfl (by decide) rfl (by omega) ?_
                    refine lv_iload hx hb dX7_states__105 (lv_at hl 1 rfl) ?_
                    refine lv_iload hx hb dX7_states__107 (lv_at hl 8 rfl) ?_
                    refine n_ishl hx hb dX7_states__109 (by omega) ?_
                    refine n_ior hx hb dX7_states__110 ?_
                    refine kis S hK dX7_states__111 18 hM rfl (by decide) rfl (by omega) rfl (L1 := mL G om (uR μ 30 (uN g vk ((g vk) ||| (((st >>> (fcN (fM μ n) (zM μ n) vk + fc1 (zM μ n) vk vf)) &&& 1) <<< vf))))) rfl hS (by first | exact ⟨by omega, by omega⟩ | omega) (fun H locs hM hS hz hk => ?_)
                    refine lv_iinc (v := nI (vf + 1)) (lv' := [(6, .int (nI (vf + 1))), (4, .int (nI ((fcN (fM μ n) (zM μ n) vk + fc1 (zM μ n) vk vf) + 1))), (8, .int (nI ((st >>> (fcN (fM μ n) (zM μ n) vk + fc1 (zM μ n) vk vf)) &&& 1))), (7, .int (-9)), (0, .ref om), (1, .int (nI n)), (2, .int (nI st)), (3, .int (nI lk)), (5, .int (nI vk))]) hx hb dX7_states__112 hl (k := 8) rfl (inc1 _) (by decide) rfl (fun ls hl => ?_)
                    refine lv_goto (tgt := 28) hx hb dX7_states__115 (by decide) ?_
                    replace hl := lv_eq 1 hl rfl (v2 := .int (nI (fcN (fM μ n) (zM μ n) vk + fc1 (zM μ n) vk (vf + 1)))) (congrArg (fun z => Value.int (nI z)) (show ((fcN (fM μ n) (zM μ n) vk + fc1 (zM μ n) vk vf) + 1) = (fcN (fM μ n) (zM μ n) vk + fc1 (zM μ n) vk (vf + 1)) from by rw [zM_n hqq]; rfl))
                    exact ih28 (vf + 1) (uN g vk ((g vk) ||| (((st >>> (fcN (fM μ n) (zM μ n) vk + fc1 (zM μ n) vk vf)) &&& 1) <<< vf))) (by first | assumption | omega) (fun k hk => by rw [uN_n (by omega)]; exact hgo k hk) (by rw [uN_s, hgf]; exact b_or (psB_n hqq) (and1 _ _)) (by omega) _ _ hM hS ls (lv_sub hl [4, 5, 6, 7, 1, 8, 0] rfl)
                  ·
                    exact absurd c_86 (by decide)
                ·
                  exact absurd c_62 (by decide)
              ·
                have hvl : vl < 12 := by have := (fnd_lt _ _ hqq).2.1; omega
                refine crV (rest := []) S hK (c_X7_linkOf_s l G om (uR μ 30 g) n ((10 * vk) + vf) vl hN (by first | assumption | omega | decide) hqq) cw_X7_238 rfl ⟨Nat.le_of_ble_eq_true rfl, Nat.le_of_ble_eq_true rfl⟩ ⟨Nat.le_of_ble_eq_true rfl, Nat.le_of_ble_eq_true rfl⟩ (bk.recv hK hM rfl rfl) hl.1 rfl (Nat.le_of_ble_eq_true rfl) dX7_states__55 hM ?_
                refine lv_istore (lv' := [(7, .int (nI vl)), (0, .ref om), (1, .int (nI n)), (2, .int (nI st)), (3, .int (nI lk)), (4, .int (nI (fcN (fM μ n) (zM μ n) vk + fc1 (zM μ n) vk vf))), (5, .int (nI vk)), (6, .int (nI vf))]) hx hb dX7_states__58 hl (by decide) rfl (fun ls hl => ?_)
                refine lv_iload hx hb dX7_states__60 (lv_at hl 0 rfl) ?_
                refine n_if_lt (tgt := 74) hx hb dX7_states__62 (by decide) (by omega) (fun c_62 => ?_)
                refine lv_iload_n hx hb dX7_states__65 rfl (lv_at hl 4 rfl) ?_
                refine lv_iload hx hb dX7_states__66 (lv_at hl 0 rfl) ?_
                refine n_ishr hx hb dX7_states__68 (by omega) (by omega) ?_
                refine lv_iconst (v := nI 1) hx hb dX7_states__69 (by decide) ?_
                refine n_iand hx hb dX7_states__70 ?_
                refine lv_goto (tgt := 80) hx hb dX7_states__71 (by decide) ?_
                refine lv_istore (lv' := [(8, .int (nI ((lk >>> vl) &&& 1))), (7, .int (nI vl)), (0, .ref om), (1, .int (nI n)), (2, .int (nI st)), (3, .int (nI lk)), (4, .int (nI (fcN (fM μ n) (zM μ n) vk + fc1 (zM μ n) vk vf))), (5, .int (nI vk)), (6, .int (nI vf))]) hx hb dX7_states__80 hl (by decide) rfl (fun ls hl => ?_)
                refine lv_iload hx hb dX7_states__82 (lv_at hl 6 rfl) ?_
                refine lv_iload hx hb dX7_states__84 (lv_at hl 1 rfl) ?_
                refine n_if_lt (tgt := 93) hx hb dX7_states__86 (by decide) (by omega) (fun c_86 => ?_)
                refine lv_iconst (v := nI 0) hx hb dX7_states__89 (by decide) ?_
                refine lv_goto (tgt := 94) hx hb dX7_states__90 (by decide) ?_
                refine n_iadd hx hb dX7_states__94 ?_
                refine lv_istore (lv' := [(4, .int (nI ((fcN (fM μ n) (zM μ n) vk + fc1 (zM μ n) vk vf) + 0))), (8, .int (nI ((lk >>> vl) &&& 1))), (7, .int (nI vl)), (0, .ref om), (1, .int (nI n)), (2, .int (nI st)), (3, .int (nI lk)), (5, .int (nI vk)), (6, .int (nI vf))]) hx hb dX7_states__95 hl (by decide) rfl (fun ls hl => ?_)
                refine lv_aload_n hx hb dX7_states__97 rfl (lv_at hl 3 rfl) ?_
                refine kg (C := RX7) (T := TX7) (N := 32) (ci := 5) (k := 30) (v := .ref (om + 18)) S hK rfl inX7 (by decide) q_760 dX7_states__98 hM rfl rfl ?_
                refine lv_iload hx hb dX7_states__101 (lv_at hl 7 rfl) ?_
                refine lv_dup2_11 hx hb dX7_states__103 rfl rfl ?_
                refine kil (f := g) S hK dX7_states__104 18 hM rfl (by decide) rfl (by omega) ?_
                refine lv_iload hx hb dX7_states__105 (lv_at hl 1 rfl) ?_
                refine lv_iload hx hb dX7_states__107 (lv_at hl 8 rfl) ?_
                refine n_ishl hx hb dX7_states__109 (by omega) ?_
                refine n_ior hx hb dX7_states__110 ?_
                refine kis S hK dX7_states__111 18 hM rfl (by decide) rfl (by omega) rfl (L1 := mL G om (uR μ 30 (uN g vk ((g vk) ||| (((lk >>> vl) &&& 1) <<< vf))))) rfl hS (by first | exact ⟨by omega, by omega⟩ | omega) (fun H locs hM hS hz hk => ?_)
                refine lv_iinc (v := nI (vf + 1)) (lv' := [(6, .int (nI (vf + 1))), (4, .int (nI ((fcN (fM μ n) (zM μ n) vk + fc1 (zM μ n) vk vf) + 0))), (8, .int (nI ((lk >>> vl) &&& 1))), (7, .int (nI vl)), (0, .ref om), (1, .int (nI n)), (2, .int (nI st)), (3, .int (nI lk)), (5, .int (nI vk))]) hx hb dX7_states__112 hl (k := 8) rfl (inc1 _) (by decide) rfl (fun ls hl => ?_)
                refine lv_goto (tgt := 28) hx hb dX7_states__115 (by decide) ?_
                replace hl := lv_eq 1 hl rfl (v2 := .int (nI (fcN (fM μ n) (zM μ n) vk + fc1 (zM μ n) vk (vf + 1)))) (congrArg (fun z => Value.int (nI z)) (show ((fcN (fM μ n) (zM μ n) vk + fc1 (zM μ n) vk vf) + 0) = (fcN (fM μ n) (zM μ n) vk + fc1 (zM μ n) vk (vf + 1)) from by rw [zM_s hqq]; rfl))
                exact ih28 (vf + 1) (uN g vk ((g vk) ||| (((lk >>> vl) &&& 1) <<< vf))) (by first | assumption | omega) (fun k hk => by rw [uN_n (by omega)]; exact hgo k hk) (by rw [uN_s, hgf]; exact b_or (psB_s hqq) (and1 _ _)) (by omega) _ _ hM hS ls (lv_sub hl [4, 5, 6, 7, 1, 8, 0] rfl)
        replace hl := lv_eq 5 hl rfl (v2 := .int (nI (fcN (fM μ n) (zM μ n) vk + fc1 (zM μ n) vk 0))) (congrArg (fun z => Value.int (nI z)) (show (fcN (fM μ n) (zM μ n) vk) = (fcN (fM μ n) (zM μ n) vk + fc1 (zM μ n) vk 0) from by first | rfl | omega))
        exact L28 ((fM μ n vk - 0) + 1) 0 (uN g vk 0) (Nat.zero_le _) (fun k hk => by rw [uN_n (by omega)]; exact hg k hk) (uN_s _ _ _) (Nat.lt_succ_self _) _ _ hM hS ls (lv_sub hl [1, 2, 3, 4, 5, 6, 0] rfl)
  replace hl := lv_eq 1 hl rfl (v2 := .int (nI (fcN (fM μ n) (zM μ n) 0))) (congrArg (fun z => Value.int (nI z)) (show 0 = (fcN (fM μ n) (zM μ n) 0) from by first | rfl | omega))
  exact L6 ((μ.2.1 7 n - 0) + 1) 0 (μ.2.1 30) (Nat.zero_le _) (fun k hk => absurd hk (Nat.not_lt_zero k)) (Nat.lt_succ_self _) _ _ hM hS ls (lv_sub hl [2, 3, 4, 5, 1, 0] rfl)

set_option maxHeartbeats 1000000 in
set_option maxRecDepth 100000 in
theorem c_X7_findWays (l : Launch) (G : Gt) (om : Nat) (μ : Sx) (n : Nat) (hN : MN1 μ n) (hN2 : MN2 μ n) : Ct l G yX7_findWays cX7_findWays 4 (none) 25 0 0 [.ref om, .int (nI n)] (fun H => bk G om (mL G om μ) H) none (fun H => ∃ w : Nat → Nat, bk G om (mL G om (uR μ 31 w)) H ∧ ∀ k, k < μ.2.1 7 n → ∀ s, s < 1 <<< fM μ n k → w (32 * k + s) = wyM μ n k s) (fun q => om ≤ q ∧ q < om + 20) := by
  refine ct_entry [(0, .ref om), (1, .int (nI n))] (by decide) (Nat.le_of_ble_eq_true rfl) rfl ?_
  intro zp ze zs zm za zb zt zc Q S hK hPre hin hE ls hl
  have hx := S.1
  have hb := S.2.1
  have hM := hPre
  have hS : va_S (fun q => om ≤ q ∧ q < om + 20) zs.heap zs.heap [] := va_S.rf
  obtain ⟨hn6, hp8, hl12, hpf, hll⟩ := id hN
  replace hM : bk G om (mL G om (uR μ 31 (μ.2.1 31))) zs.heap := bk_eq hM rfl
  refine lv_iconst (v := nI 0) hx hb dX7_findWays_0 (by decide) ?_
  refine lv_istore_n (lv' := [(2, .int (nI 0)), (0, .ref om), (1, .int (nI n))]) hx hb dX7_findWays_1 rfl hl (by decide) rfl (fun ls hl => ?_)
  have L2 : ∀ (fu : Nat), ∀ (vk : Nat) (w : Nat → Nat), (vk ≤ μ.2.1 7 n) → (∀ k, k < vk → ∀ s, s < 1 <<< fM μ n k → w (32 * k + s) = wyM μ n k s) → μ.2.1 7 n - vk < fu → ∀ (H : Heap) (locs : List Loc), bk G om (mL G om (uR μ 31 w)) H → va_S (fun q => om ≤ q ∧ q < om + 20) zs.heap H locs → ∀ ls : Array Slot, lv_has ls 4 [(0, .ref om), (1, .int (nI n)), (2, .int (nI vk))] → W zp l ze (rL 25 0 0) zs zm za zb zt zc H locs 0 0 Q (F0 zm 2 ls []) := by
    intro fu
    induction fu with
    | zero =>
      intro vk w hvk hw hmu H locs hM hS ls hl
      exact absurd hmu (Nat.not_lt_zero _)
    | succ fu ih2 =>
      intro vk w hvk hw hmu H locs hM hS ls hl
      refine lv_iload_n hx hb dX7_findWays_2 rfl (lv_at hl 2 rfl) ?_
      refine lv_aload_n hx hb dX7_findWays_3 rfl (lv_at hl 0 rfl) ?_
      refine kg (C := RX7) (T := TX7) (N := 32) (ci := 5) (k := 7) (v := .ref (om + 8)) S hK rfl inX7 (by decide) q_737 dX7_findWays_4 hM rfl rfl ?_
      refine lv_iload_n hx hb dX7_findWays_7 rfl (lv_at hl 1 rfl) ?_
      refine kil (f := μ.2.1 7) S hK dX7_findWays_8 8 hM rfl (by decide) rfl (by omega) ?_
      refine n_icmp_ge (tgt := 66) hx hb dX7_findWays_9 (by decide) (by omega) (by omega) (fun c_9 => ?_) (fun c_9 => ?_)
      ·
        exact hE _ _ _ _ _ _ (kr_v dX7_findWays_66) hS (by decide) (by decide) ⟨w, hM, (fun k hk => hw k (by omega))⟩
      ·
        have hvk2 : vk < μ.2.1 7 n := by omega
        have hfk := (hpf vk hvk2).2
        have hfk5 : μ.2.1 3 (μ.2.1 9 (8 * n + vk)) ≤ 5 := hfk
        have hpk : μ.2.1 9 (8 * n + vk) < 24 := (hpf vk hvk2).1
        have h5 : 1 <<< μ.2.1 3 (μ.2.1 9 (8 * n + vk)) ≤ 2 ^ 5 := shl_le hfk5
        have hcl := hN2 vk hvk2
        refine lv_iconst (v := nI 0) hx hb dX7_findWays_12 (by decide) ?_
        refine lv_istore_n (lv' := [(3, .int (nI 0)), (0, .ref om), (1, .int (nI n)), (2, .int (nI vk))]) hx hb dX7_findWays_13 rfl hl (by decide) rfl (fun ls hl => ?_)
        have L14 : ∀ (fu : Nat), ∀ (vs : Nat) (w : Nat → Nat), (vs ≤ 1 <<< fM μ n vk) → (∀ k, k < vk → ∀ s, s < 1 <<< fM μ n k → w (32 * k + s) = wyM μ n k s) → (∀ s, s < vs → w (32 * vk + s) = wyM μ n vk s) → 1 <<< fM μ n vk - vs < fu → ∀ (H : Heap) (locs : List Loc), bk G om (mL G om (uR μ 31 w)) H → va_S (fun q => om ≤ q ∧ q < om + 20) zs.heap H locs → ∀ ls : Array Slot, lv_has ls 4 [(0, .ref om), (1, .int (nI n)), (2, .int (nI vk)), (3, .int (nI vs))] → W zp l ze (rL 25 0 0) zs zm za zb zt zc H locs 0 0 Q (F0 zm 14 ls []) := by
          intro fu
          induction fu with
          | zero =>
            intro vs w hvs hwo hwf hmu H locs hM hS ls hl
            exact absurd hmu (Nat.not_lt_zero _)
          | succ fu ih14 =>
            intro vs w hvs hwo hwf hmu H locs hM hS ls hl
            refine lv_iload_n hx hb dX7_findWays_14 rfl (lv_at hl 3 rfl) ?_
            refine lv_aload_n hx hb dX7_findWays_15 rfl (lv_at hl 0 rfl) ?_
            refine lv_aload_n hx hb dX7_findWays_16 rfl (lv_at hl 0 rfl) ?_
            refine lv_iload_n hx hb dX7_findWays_17 rfl (lv_at hl 1 rfl) ?_
            refine lv_iload_n hx hb dX7_findWays_18 rfl (lv_at hl 2 rfl) ?_
            refine crV (v := .int (nI (μ.2.1 9 (8 * n + vk)))) (rest := [.ref om, .int (nI vs)]) S hK (c_X7_partAt l G om (uR μ 31 w) n vk (by first | assumption | omega | decide)) cw_X7_232 rfl ⟨Nat.le_of_ble_eq_true rfl, Nat.le_of_ble_eq_true rfl⟩ ⟨Nat.le_of_ble_eq_true rfl, Nat.le_of_ble_eq_true rfl⟩ (bk.recv hK hM rfl rfl) hl.1 rfl (Nat.le_of_ble_eq_true rfl) dX7_findWays_19 hM ?_
            refine crV (v := .int (nI (1 <<< μ.2.1 3 (μ.2.1 9 (8 * n + vk))))) (rest := [.int (nI vs)]) S hK (c_X7_states l G om (uR μ 31 w) (μ.2.1 9 (8 * n + vk)) (by omega) hfk) cw_X7_131 rfl ⟨Nat.le_of_ble_eq_true rfl, Nat.le_of_ble_eq_true rfl⟩ ⟨Nat.le_of_ble_eq_true rfl, Nat.le_of_ble_eq_true rfl⟩ (bk.recv hK hM rfl rfl) hl.1 rfl (Nat.le_of_ble_eq_true rfl) dX7_findWays_22 hM ?_
            refine n_icmp_ge (tgt := 60) hx hb dX7_findWays_25 (by decide) (Nat.lt_of_le_of_lt (Nat.le_trans hvs h5) (by decide)) (Nat.lt_of_le_of_lt h5 (by decide)) (fun c_25 => ?_) (fun c_25 => ?_)
            ·
              have hvs3 : 1 <<< fM μ n vk ≤ vs := c_25
              refine lv_iinc (v := nI (vk + 1)) (lv' := [(2, .int (nI (vk + 1))), (0, .ref om), (1, .int (nI n)), (3, .int (nI vs))]) hx hb dX7_findWays_60 hl (k := 2) rfl (inc1 _) (by decide) rfl (fun ls hl => ?_)
              refine lv_goto (tgt := 2) hx hb dX7_findWays_63 (by decide) ?_
              exact ih2 (vk + 1) w (by first | assumption | omega) (fun k hk s hs => by
                by_cases e : k = vk
                · subst e; exact hwf s (by omega)
                · exact hwo k (by omega) s hs) (by omega) _ _ hM hS ls (lv_sub hl [1, 2, 0] rfl)
            ·
              have hvs2 : vs + 1 ≤ 1 <<< fM μ n vk := Nat.not_le.mp c_25
              refine lv_aload_n hx hb dX7_findWays_28 rfl (lv_at hl 0 rfl) ?_
              refine kg (C := RX7) (T := TX7) (N := 32) (ci := 5) (k := 31) (v := .ref (om + 19)) S hK rfl inX7 (by decide) q_761 dX7_findWays_29 hM rfl rfl ?_
              refine lv_bipush (v := nI 32) hx hb dX7_findWays_32 (by decide) ?_
              refine lv_iload_n hx hb dX7_findWays_34 rfl (lv_at hl 2 rfl) ?_
              refine n_imul hx hb dX7_findWays_35 ?_
              refine lv_iload_n hx hb dX7_findWays_36 rfl (lv_at hl 3 rfl) ?_
              refine n_iadd hx hb dX7_findWays_37 ?_
              refine lv_aload_n hx hb dX7_findWays_38 rfl (lv_at hl 0 rfl) ?_
              refine lv_aload_n hx hb dX7_findWays_39 rfl (lv_at hl 0 rfl) ?_
              refine lv_aload_n hx hb dX7_findWays_40 rfl (lv_at hl 0 rfl) ?_
              refine lv_iload_n hx hb dX7_findWays_41 rfl (lv_at hl 1 rfl) ?_
              refine lv_iload_n hx hb dX7_findWays_42 rfl (lv_at hl 2 rfl) ?_
              refine crV (v := .int (nI (μ.2.1 9 (8 * n + vk)))) (rest := [.ref om, .ref om, .int (nI ((32 * vk) + vs)), .ref (om + 19)]) S hK (c_X7_partAt l G om (uR μ 31 w) n vk (by first | assumption | omega | decide)) cw_X7_232 rfl ⟨Nat.le_of_ble_eq_true rfl, Nat.le_of_ble_eq_true rfl⟩ ⟨Nat.le_of_ble_eq_true rfl, Nat.le_of_ble_eq_true rfl⟩ (bk.recv hK hM rfl rfl) hl.1 rfl (Nat.le_of_ble_eq_true rfl) dX7_findWays_43 hM ?_
              refine lv_iload_n hx hb dX7_findWays_46 rfl (lv_at hl 3 rfl) ?_
              refine crV (v := .int (nI (tcM (clM μ (μ.2.1 9 (8 * n + vk))) vs))) (rest := [.ref om, .int (nI ((32 * vk) + vs)), .ref (om + 19)]) S hK (c_X7_toCover l G om (uR μ 31 w) (μ.2.1 9 (8 * n + vk)) vs (by omega) (by omega) hcl) cw_X7_134 rfl ⟨Nat.le_of_ble_eq_true rfl, Nat.le_of_ble_eq_true rfl⟩ ⟨Nat.le_of_ble_eq_true rfl, Nat.le_of_ble_eq_true rfl⟩ (bk.recv hK hM rfl rfl) hl.1 rfl (Nat.le_of_ble_eq_true rfl) dX7_findWays_47 hM ?_
              refine crV (rest := [.int (nI ((32 * vk) + vs)), .ref (om + 19)]) S hK (c_X7_tilings l G 10 om (uR μ 31 w) (tcM (clM μ (μ.2.1 9 (8 * n + vk))) vs) (tcM_lt _ _) (pc_20 _)) cw_X7_122 rfl ⟨Nat.le_of_ble_eq_true rfl, Nat.le_of_ble_eq_true rfl⟩ ⟨Nat.le_of_ble_eq_true rfl, Nat.le_of_ble_eq_true rfl⟩ (bk.recv hK hM rfl rfl) hl.1 rfl (Nat.le_of_ble_eq_true rfl) dX7_findWays_50 hM ?_
              refine kis S hK dX7_findWays_53 19 hM rfl (by decide) rfl (by omega) rfl (L1 := mL G om (uR μ 31 (uN w ((32 * vk) + vs) (tl 10 (tcM (clM μ (μ.2.1 9 (8 * n + vk))) vs))))) rfl hS (by first | exact ⟨by omega, by omega⟩ | omega) (fun H locs hM hS hz hk => ?_)
              refine lv_iinc (v := nI (vs + 1)) (lv' := [(3, .int (nI (vs + 1))), (0, .ref om), (1, .int (nI n)), (2, .int (nI vk))]) hx hb dX7_findWays_54 hl (k := 3) rfl (inc1 _) (by decide) rfl (fun ls hl => ?_)
              refine lv_goto (tgt := 14) hx hb dX7_findWays_57 (by decide) ?_
              exact ih14 (vs + 1) (uN w ((32 * vk) + vs) (tl 10 (tcM (clM μ (μ.2.1 9 (8 * n + vk))) vs))) hvs2 (fun k hk s hs => by
                have h5 := shl_le (hpf k (by omega)).2
                rw [uN_n (by omega)]
                exact hwo k hk s hs) (fun s hs => by
                by_cases e : s = vs
                · subst e; exact uN_s _ _ _
                · rw [uN_n (by omega)]; exact hwf s (by omega)) (by omega) _ _ hM hS ls (lv_sub hl [1, 2, 3, 0] rfl)
        exact L14 ((1 <<< fM μ n vk - 0) + 1) 0 w (Nat.zero_le _) hw (fun s hs => absurd hs (Nat.not_lt_zero s)) (Nat.lt_succ_self _) _ _ hM hS ls (lv_sub hl [1, 2, 3, 0] rfl)
  exact L2 ((μ.2.1 7 n - 0) + 1) 0 (μ.2.1 31) (Nat.zero_le _) (fun k hk => absurd hk (Nat.not_lt_zero k)) (Nat.lt_succ_self _) _ _ hM hS ls (lv_sub hl [1, 2, 0] rfl)

theorem wy_lt (μ : Sx) (n k s : Nat) : wyM μ n k s ≤ 1024 := tl_le 10 _
theorem psV_lt2 {μ : Sx} {n : Nat} (st lk k : Nat) : psV μ n st lk k < 1 <<< fM μ n k := by rw [Nat.one_shiftLeft]; exact bo_lt _ _

set_option maxHeartbeats 1000000 in
set_option maxRecDepth 100000 in
theorem c_X7_howOf (l : Launch) (G : Gt) (om : Nat) (μ : Sx) (n : Nat) (st : Nat) (hN : MN1 μ n) (hst : st < 2 ^ 31) (hfc : fcM μ n ≤ 31) (hw : ∀ k, k < μ.2.1 7 n → ∀ s, s < 1 <<< fM μ n k → μ.2.1 31 (32 * k + s) ≤ 1024) : Ct l G yX7_howOf cX7_howOf 9 ((some .long)) 3 0 0 [.ref om, .int (nI n), .int (nI st)] (fun H => bk G om (mL G om μ) H) (some (.long (lN (suV (μ.2.1 31) (psV μ n st) (μ.2.1 7 n) (1 <<< μ.2.1 8 n))))) (fun H => ∃ g : Nat → Nat, bk G om (mL G om (uR μ 30 g)) H ∧ True) (fun q => om ≤ q ∧ q < om + 20) := by
  refine ct_entry [(0, .ref om), (1, .int (nI n)), (2, .int (nI st))] (by decide) (Nat.le_of_ble_eq_true rfl) rfl ?_
  intro zp ze zs zm za zb zt zc Q S hK hPre hin hE ls hl
  have hx := S.1
  have hb := S.2.1
  have hM := hPre
  have hS : va_S (fun q => om ≤ q ∧ q < om + 20) zs.heap zs.heap [] := va_S.rf
  obtain ⟨hn6, hp8, hl12, hpf, hll⟩ := id hN
  have hsh := shl_le hl12
  replace hM : bk G om (mL G om (uR μ 30 (μ.2.1 30))) zs.heap := bk_eq hM rfl
  refine lv_lconst (v := lN 0) hx hb dX7_howOf_0 (by decide) ?_
  refine lv_lstore_n (lv' := [(3, .long (lN 0)), (0, .ref om), (1, .int (nI n)), (2, .int (nI st))]) hx hb dX7_howOf_1 rfl hl (by decide) rfl (fun ls hl => ?_)
  refine lv_iconst (v := nI 0) hx hb dX7_howOf_2 (by decide) ?_
  refine lv_istore (lv' := [(5, .int (nI 0)), (3, .long (lN 0)), (0, .ref om), (1, .int (nI n)), (2, .int (nI st))]) hx hb dX7_howOf_3 hl (by decide) rfl (fun ls hl => ?_)
  have L5 : ∀ (fu : Nat), ∀ (vl : Nat) (g : Nat → Nat), (vl ≤ 1 <<< μ.2.1 8 n) → 1 <<< μ.2.1 8 n - vl < fu → ∀ (H : Heap) (locs : List Loc), bk G om (mL G om (uR μ 30 g)) H → va_S (fun q => om ≤ q ∧ q < om + 20) zs.heap H locs → ∀ ls : Array Slot, lv_has ls 9 [(0, .ref om), (1, .int (nI n)), (2, .int (nI st)), (3, .long (lN (suV (μ.2.1 31) (psV μ n st) (μ.2.1 7 n) vl))), (5, .int (nI vl))] → W zp l ze (rL 3 0 0) zs zm za zb zt zc H locs 0 0 Q (F0 zm 5 ls []) := by
    intro fu
    induction fu with
    | zero =>
      intro vl g hvl hmu H locs hM hS ls hl
      exact absurd hmu (Nat.not_lt_zero _)
    | succ fu ih5 =>
      intro vl g hvl hmu H locs hM hS ls hl
      refine lv_iload hx hb dX7_howOf_5 (lv_at hl 4 rfl) ?_
      refine lv_iconst (v := nI 1) hx hb dX7_howOf_7 (by decide) ?_
      refine lv_aload_n hx hb dX7_howOf_8 rfl (lv_at hl 0 rfl) ?_
      refine kg (C := RX7) (T := TX7) (N := 32) (ci := 5) (k := 8) (v := .ref (om + 9)) S hK rfl inX7 (by decide) q_738 dX7_howOf_9 hM rfl rfl ?_
      refine lv_iload_n hx hb dX7_howOf_12 rfl (lv_at hl 1 rfl) ?_
      refine kil (f := μ.2.1 8) S hK dX7_howOf_13 9 hM rfl (by decide) rfl (by omega) ?_
      refine n_ishl hx hb dX7_howOf_14 (by omega) ?_
      refine n_icmp_ge (tgt := 92) hx hb dX7_howOf_15 (by decide) (by omega) (by omega) (fun c_15 => ?_) (fun c_15 => ?_)
      ·
        have hr : suV (μ.2.1 31) (psV μ n st) (μ.2.1 7 n) vl = suV (μ.2.1 31) (psV μ n st) (μ.2.1 7 n) (1 <<< μ.2.1 8 n) := by rw [show vl = 1 <<< μ.2.1 8 n from by omega]
        refine lv_lload_n hx hb dX7_howOf_92 rfl (lv_at hl 3 rfl) ?_
        refine w_top (v' := .long (lN (suV (μ.2.1 31) (psV μ n st) (μ.2.1 7 n) (1 <<< μ.2.1 8 n)))) (congrArg (fun z => Value.long (lN z)) (show (suV (μ.2.1 31) (psV μ n st) (μ.2.1 7 n) vl) = (suV (μ.2.1 31) (psV μ n st) (μ.2.1 7 n) (1 <<< μ.2.1 8 n)) from hr)) ?_
        exact hE _ _ _ _ _ _ (kr_l dX7_howOf_93) hS (by decide) (by decide) ⟨g, hM, trivial⟩
      ·
        refine lv_aload_n hx hb dX7_howOf_18 rfl (lv_at hl 0 rfl) ?_
        refine lv_iload_n hx hb dX7_howOf_19 rfl (lv_at hl 1 rfl) ?_
        refine lv_iload_n hx hb dX7_howOf_20 rfl (lv_at hl 2 rfl) ?_
        refine lv_iload hx hb dX7_howOf_21 (lv_at hl 4 rfl) ?_
        refine ctVv (rest := []) S hK (c_X7_states_ l G om (uR μ 30 g) n st vl hN (by first | assumption | omega | decide) (by first | assumption | omega | decide) hfc) cw_X7_244 rfl ⟨Nat.le_of_ble_eq_true rfl, Nat.le_of_ble_eq_true rfl⟩ ⟨Nat.le_of_ble_eq_true rfl, Nat.le_of_ble_eq_true rfl⟩ (bk.recv hK hM rfl rfl) hl.1 rfl (Nat.le_of_ble_eq_true rfl) dX7_howOf_23 hM hS (fun _ h => h) (fun H locs hPost hz hk hS => ?_)
        obtain ⟨g23, hM, hq23⟩ := hPost
        refine lv_lconst (v := lN 1) hx hb dX7_howOf_26 (by decide) ?_
        refine lv_lstore (lv' := [(6, .long (lN 1)), (0, .ref om), (1, .int (nI n)), (2, .int (nI st)), (3, .long (lN (suV (μ.2.1 31) (psV μ n st) (μ.2.1 7 n) vl))), (5, .int (nI vl))]) hx hb dX7_howOf_27 hl (by decide) rfl (fun ls hl => ?_)
        refine lv_iconst (v := nI 0) hx hb dX7_howOf_29 (by decide) ?_
        refine lv_istore (lv' := [(8, .int (nI 0)), (6, .long (lN 1)), (0, .ref om), (1, .int (nI n)), (2, .int (nI st)), (3, .long (lN (suV (μ.2.1 31) (psV μ n st) (μ.2.1 7 n) vl))), (5, .int (nI vl))]) hx hb dX7_howOf_30 hl (by decide) rfl (fun ls hl => ?_)
        have L32 : ∀ (fu : Nat), ∀ (vk : Nat), (vk ≤ μ.2.1 7 n) → μ.2.1 7 n - vk < fu → ∀ (H : Heap) (locs : List Loc), bk G om (mL G om (uR μ 30 g23)) H → va_S (fun q => om ≤ q ∧ q < om + 20) zs.heap H locs → ∀ ls : Array Slot, lv_has ls 9 [(0, .ref om), (1, .int (nI n)), (2, .int (nI st)), (3, .long (lN (suV (μ.2.1 31) (psV μ n st) (μ.2.1 7 n) vl))), (5, .int (nI vl)), (6, .long (lN (prV (μ.2.1 31) (psV μ n st vl) vk))), (8, .int (nI vk))] → W zp l ze (rL 3 0 0) zs zm za zb zt zc H locs 0 0 Q (F0 zm 32 ls []) := by
          intro fu
          induction fu with
          | zero =>
            intro vk hvk hmu H locs hM hS ls hl
            exact absurd hmu (Nat.not_lt_zero _)
          | succ fu ih32 =>
            intro vk hvk hmu H locs hM hS ls hl
            refine lv_iload hx hb dX7_howOf_32 (lv_at hl 6 rfl) ?_
            refine lv_aload_n hx hb dX7_howOf_34 rfl (lv_at hl 0 rfl) ?_
            refine kg (C := RX7) (T := TX7) (N := 32) (ci := 5) (k := 7) (v := .ref (om + 8)) S hK rfl inX7 (by decide) q_737 dX7_howOf_35 hM rfl rfl ?_
            refine lv_iload_n hx hb dX7_howOf_38 rfl (lv_at hl 1 rfl) ?_
            refine kil (f := μ.2.1 7) S hK dX7_howOf_39 8 hM rfl (by decide) rfl (by omega) ?_
            refine n_icmp_ge (tgt := 77) hx hb dX7_howOf_40 (by decide) (by omega) (by omega) (fun c_40 => ?_) (fun c_40 => ?_)
            ·
              have hvk9 : vk = μ.2.1 7 n := by omega
              have hsu := suV_lt (μ.2.1 31) (psV μ n st) (μ.2.1 7 n) vl
              have hpr := prV_lt (μ.2.1 31) (psV μ n st vl) vk
              refine lv_lload_n hx hb dX7_howOf_77 rfl (lv_at hl 3 rfl) ?_
              refine lv_lload hx hb dX7_howOf_78 (lv_at hl 5 rfl) ?_
              refine n_ladd hx hb dX7_howOf_80 ?_
              refine lv_ldc2 (v := lN 1000000007) hx hb S.2.2.2.1 (S.2.2.2.2 _ q_1109) dX7_howOf_81 ?_
              refine n_lrem hx hb dX7_howOf_84 (by omega) (by decide) (by decide) ?_
              refine lv_lstore_n (lv' := [(3, .long (lN (((suV (μ.2.1 31) (psV μ n st) (μ.2.1 7 n) vl) + (prV (μ.2.1 31) (psV μ n st vl) vk)) % 1000000007))), (0, .ref om), (1, .int (nI n)), (2, .int (nI st)), (5, .int (nI vl)), (6, .long (lN (prV (μ.2.1 31) (psV μ n st vl) vk))), (8, .int (nI vk))]) hx hb dX7_howOf_85 rfl hl (by decide) rfl (fun ls hl => ?_)
              refine lv_iinc (v := nI (vl + 1)) (lv' := [(5, .int (nI (vl + 1))), (3, .long (lN (((suV (μ.2.1 31) (psV μ n st) (μ.2.1 7 n) vl) + (prV (μ.2.1 31) (psV μ n st vl) vk)) % 1000000007))), (0, .ref om), (1, .int (nI n)), (2, .int (nI st)), (6, .long (lN (prV (μ.2.1 31) (psV μ n st vl) vk))), (8, .int (nI vk))]) hx hb dX7_howOf_86 hl (k := 4) rfl (inc1 _) (by decide) rfl (fun ls hl => ?_)
              refine lv_goto (tgt := 5) hx hb dX7_howOf_89 (by decide) ?_
              replace hl := lv_eq 1 hl rfl (v2 := .long (lN (suV (μ.2.1 31) (psV μ n st) (μ.2.1 7 n) (vl + 1)))) (congrArg (fun z => Value.long (lN z)) (show (((suV (μ.2.1 31) (psV μ n st) (μ.2.1 7 n) vl) + (prV (μ.2.1 31) (psV μ n st vl) vk)) % 1000000007) = (suV (μ.2.1 31) (psV μ n st) (μ.2.1 7 n) (vl + 1)) from by rw [hvk9]; rfl))
              exact ih5 (vl + 1) g23 (by first | assumption | omega) (by omega) _ _ hM hS ls (lv_sub hl [2, 3, 4, 1, 0] rfl)
            ·
              have hvk2 : vk < μ.2.1 7 n := by omega
              have hgk : g23 vk = psV μ n st vl vk := hq23 vk hvk2
              have hgk32 : g23 vk < 32 := by rw [hgk]; exact psV_lt hN st vl hvk2
              have hwk : μ.2.1 31 (32 * vk + g23 vk) ≤ 1024 := by rw [hgk]; exact hw vk hvk2 _ (psV_lt2 st vl vk)
              have hpr := prV_lt (μ.2.1 31) (psV μ n st vl) vk
              have hmm : prV (μ.2.1 31) (psV μ n st vl) vk * μ.2.1 31 (32 * vk + g23 vk) ≤ 1000000007 * 1024 := Nat.mul_le_mul (by omega) hwk
              refine lv_lload hx hb dX7_howOf_43 (lv_at hl 5 rfl) ?_
              refine lv_aload_n hx hb dX7_howOf_45 rfl (lv_at hl 0 rfl) ?_
              refine kg (C := RX7) (T := TX7) (N := 32) (ci := 5) (k := 31) (v := .ref (om + 19)) S hK rfl inX7 (by decide) q_761 dX7_howOf_46 hM rfl rfl ?_
              refine lv_bipush (v := nI 32) hx hb dX7_howOf_49 (by decide) ?_
              refine lv_iload hx hb dX7_howOf_51 (lv_at hl 6 rfl) ?_
              refine n_imul hx hb dX7_howOf_53 ?_
              refine lv_aload_n hx hb dX7_howOf_54 rfl (lv_at hl 0 rfl) ?_
              refine kg (C := RX7) (T := TX7) (N := 32) (ci := 5) (k := 30) (v := .ref (om + 18)) S hK rfl inX7 (by decide) q_760 dX7_howOf_55 hM rfl rfl ?_
              refine lv_iload hx hb dX7_howOf_58 (lv_at hl 6 rfl) ?_
              refine kil (f := g23) S hK dX7_howOf_60 18 hM rfl (by decide) rfl (by omega) ?_
              refine n_iadd hx hb dX7_howOf_61 ?_
              refine kil (f := μ.2.1 31) S hK dX7_howOf_62 19 hM rfl (by decide) rfl (by omega) ?_
              refine n_i2l hx hb dX7_howOf_63 (by omega) ?_
              refine n_lmul hx hb dX7_howOf_64 ?_
              refine lv_ldc2 (v := lN 1000000007) hx hb S.2.2.2.1 (S.2.2.2.2 _ q_1109) dX7_howOf_65 ?_
              refine n_lrem hx hb dX7_howOf_68 (by omega) (by decide) (by decide) ?_
              refine lv_lstore (lv' := [(6, .long (lN (((prV (μ.2.1 31) (psV μ n st vl) vk) * (μ.2.1 31 ((32 * vk) + (g23 vk)))) % 1000000007))), (0, .ref om), (1, .int (nI n)), (2, .int (nI st)), (3, .long (lN (suV (μ.2.1 31) (psV μ n st) (μ.2.1 7 n) vl))), (5, .int (nI vl)), (8, .int (nI vk))]) hx hb dX7_howOf_69 hl (by decide) rfl (fun ls hl => ?_)
              refine lv_iinc (v := nI (vk + 1)) (lv' := [(8, .int (nI (vk + 1))), (6, .long (lN (((prV (μ.2.1 31) (psV μ n st vl) vk) * (μ.2.1 31 ((32 * vk) + (g23 vk)))) % 1000000007))), (0, .ref om), (1, .int (nI n)), (2, .int (nI st)), (3, .long (lN (suV (μ.2.1 31) (psV μ n st) (μ.2.1 7 n) vl))), (5, .int (nI vl))]) hx hb dX7_howOf_71 hl (k := 6) rfl (inc1 _) (by decide) rfl (fun ls hl => ?_)
              refine lv_goto (tgt := 32) hx hb dX7_howOf_74 (by decide) ?_
              replace hl := lv_eq 1 hl rfl (v2 := .long (lN (prV (μ.2.1 31) (psV μ n st vl) (vk + 1)))) (congrArg (fun z => Value.long (lN z)) (show (((prV (μ.2.1 31) (psV μ n st vl) vk) * (μ.2.1 31 ((32 * vk) + (g23 vk)))) % 1000000007) = (prV (μ.2.1 31) (psV μ n st vl) (vk + 1)) from by show _ = prV _ _ vk * _ % _; rw [← hgk]))
              exact ih32 (vk + 1) (by first | assumption | omega) (by omega) _ _ hM hS ls (lv_sub hl [2, 3, 4, 5, 6, 1, 0] rfl)
        replace hl := lv_eq 1 hl rfl (v2 := .long (lN (prV (μ.2.1 31) (psV μ n st vl) 0))) (congrArg (fun z => Value.long (lN z)) (show 1 = (prV (μ.2.1 31) (psV μ n st vl) 0) from by first | rfl | omega))
        replace hM := bk_eq hM (show mL G om (uR (uR μ 30 g) 30 g23) = mL G om (uR μ 30 g23) from rfl)
        exact L32 ((μ.2.1 7 n - 0) + 1) 0 (Nat.zero_le _) (Nat.lt_succ_self _) _ _ hM hS ls (lv_sub hl [2, 3, 4, 5, 6, 1, 0] rfl)
  replace hl := lv_eq 1 hl rfl (v2 := .long (lN (suV (μ.2.1 31) (psV μ n st) (μ.2.1 7 n) 0))) (congrArg (fun z => Value.long (lN z)) (show 0 = (suV (μ.2.1 31) (psV μ n st) (μ.2.1 7 n) 0) from by first | rfl | omega))
  exact L5 ((1 <<< μ.2.1 8 n - 0) + 1) 0 (μ.2.1 30) (Nat.zero_le _) (Nat.lt_succ_self _) _ _ hM hS ls (lv_sub hl [2, 3, 4, 1, 0] rfl)

set_option maxHeartbeats 1000000 in
set_option maxRecDepth 100000 in
theorem c_X7_isLet (l : Launch) (G : Gt) (om : Nat) (μ : Sx) (n : Nat) (st : Nat) (hN : MN1 μ n) (hst : st < 2 ^ 31) (hfc : fcM μ n ≤ 31) (hw : ∀ k, k < μ.2.1 7 n → ∀ s, s < 1 <<< fM μ n k → μ.2.1 31 (32 * k + s) ≤ 1024) : Ct l G yX7_isLet cX7_isLet 6 ((some .boolean)) 3 0 0 [.ref om, .int (nI n), .int (nI st)] (fun H => bk G om (mL G om μ) H) (some (.int (b2i ((fnd (fun vl => alB (μ.2.1 31) (psV μ n st vl) (μ.2.1 7 n)) (1 <<< μ.2.1 8 n) 0).isSome)))) (fun H => ∃ g : Nat → Nat, bk G om (mL G om (uR μ 30 g)) H ∧ True) (fun q => om ≤ q ∧ q < om + 20) := by
  refine ct_entry [(0, .ref om), (1, .int (nI n)), (2, .int (nI st))] (by decide) (Nat.le_of_ble_eq_true rfl) rfl ?_
  intro zp ze zs zm za zb zt zc Q S hK hPre hin hE ls hl
  have hx := S.1
  have hb := S.2.1
  have hM := hPre
  have hS : va_S (fun q => om ≤ q ∧ q < om + 20) zs.heap zs.heap [] := va_S.rf
  obtain ⟨hn6, hp8, hl12, hpf, hll⟩ := id hN
  have hsh := shl_le hl12
  replace hM : bk G om (mL G om (uR μ 30 (μ.2.1 30))) zs.heap := bk_eq hM rfl
  refine lv_iconst (v := nI 0) hx hb dX7_isLet_0 (by decide) ?_
  refine lv_istore_n (lv' := [(3, .int (nI 0)), (0, .ref om), (1, .int (nI n)), (2, .int (nI st))]) hx hb dX7_isLet_1 rfl hl (by decide) rfl (fun ls hl => ?_)
  have L2 : ∀ (fu : Nat), ∀ (vl : Nat) (g : Nat → Nat), (vl ≤ 1 <<< μ.2.1 8 n) → (fnd (fun vl => alB (μ.2.1 31) (psV μ n st vl) (μ.2.1 7 n)) (1 <<< μ.2.1 8 n - vl) vl = fnd (fun vl => alB (μ.2.1 31) (psV μ n st vl) (μ.2.1 7 n)) (1 <<< μ.2.1 8 n) 0) → 1 <<< μ.2.1 8 n - vl < fu → ∀ (H : Heap) (locs : List Loc), bk G om (mL G om (uR μ 30 g)) H → va_S (fun q => om ≤ q ∧ q < om + 20) zs.heap H locs → ∀ ls : Array Slot, lv_has ls 6 [(0, .ref om), (1, .int (nI n)), (2, .int (nI st)), (3, .int (nI vl))] → W zp l ze (rL 3 0 0) zs zm za zb zt zc H locs 0 0 Q (F0 zm 2 ls []) := by
    intro fu
    induction fu with
    | zero =>
      intro vl g hvl hfin hmu H locs hM hS ls hl
      exact absurd hmu (Nat.not_lt_zero _)
    | succ fu ih2 =>
      intro vl g hvl hfin hmu H locs hM hS ls hl
      refine lv_iload_n hx hb dX7_isLet_2 rfl (lv_at hl 3 rfl) ?_
      refine lv_iconst (v := nI 1) hx hb dX7_isLet_3 (by decide) ?_
      refine lv_aload_n hx hb dX7_isLet_4 rfl (lv_at hl 0 rfl) ?_
      refine kg (C := RX7) (T := TX7) (N := 32) (ci := 5) (k := 8) (v := .ref (om + 9)) S hK rfl inX7 (by decide) q_738 dX7_isLet_5 hM rfl rfl ?_
      refine lv_iload_n hx hb dX7_isLet_8 rfl (lv_at hl 1 rfl) ?_
      refine kil (f := μ.2.1 8) S hK dX7_isLet_9 9 hM rfl (by decide) rfl (by omega) ?_
      refine n_ishl hx hb dX7_isLet_10 (by omega) ?_
      refine n_icmp_ge (tgt := 90) hx hb dX7_isLet_11 (by decide) (by omega) (by omega) (fun c_11 => ?_) (fun c_11 => ?_)
      ·
        have hr : (fnd (fun vl => alB (μ.2.1 31) (psV μ n st vl) (μ.2.1 7 n)) (1 <<< μ.2.1 8 n) 0).isSome = false := by rw [← hfin, show 1 <<< μ.2.1 8 n - vl = 0 from by omega]; rfl
        refine lv_iconst (v := nI 0) hx hb dX7_isLet_90 (by decide) ?_
        refine w_top (v' := .int (b2i ((fnd (fun vl => alB (μ.2.1 31) (psV μ n st vl) (μ.2.1 7 n)) (1 <<< μ.2.1 8 n) 0).isSome))) (bz_f (show ((fnd (fun vl => alB (μ.2.1 31) (psV μ n st vl) (μ.2.1 7 n)) (1 <<< μ.2.1 8 n) 0).isSome) = false from hr)) ?_
        exact hE _ _ _ _ _ _ (kr_z dX7_isLet_91) hS (by decide) (by decide) ⟨g, hM, trivial⟩
      ·
        have hes : 1 <<< μ.2.1 8 n - vl = (1 <<< μ.2.1 8 n - (vl + 1)) + 1 := by omega
        refine lv_aload_n hx hb dX7_isLet_14 rfl (lv_at hl 0 rfl) ?_
        refine lv_iload_n hx hb dX7_isLet_15 rfl (lv_at hl 1 rfl) ?_
        refine lv_iload_n hx hb dX7_isLet_16 rfl (lv_at hl 2 rfl) ?_
        refine lv_iload_n hx hb dX7_isLet_17 rfl (lv_at hl 3 rfl) ?_
        refine ctVv (rest := []) S hK (c_X7_states_ l G om (uR μ 30 g) n st vl hN (by first | assumption | omega | decide) (by first | assumption | omega | decide) hfc) cw_X7_244 rfl ⟨Nat.le_of_ble_eq_true rfl, Nat.le_of_ble_eq_true rfl⟩ ⟨Nat.le_of_ble_eq_true rfl, Nat.le_of_ble_eq_true rfl⟩ (bk.recv hK hM rfl rfl) hl.1 rfl (Nat.le_of_ble_eq_true rfl) dX7_isLet_18 hM hS (fun _ h => h) (fun H locs hPost hz hk hS => ?_)
        obtain ⟨g18, hM, hq18⟩ := hPost
        refine lv_iconst (v := nI 1) hx hb dX7_isLet_21 (by decide) ?_
        refine lv_istore (lv' := [(4, .int (nI 1)), (0, .ref om), (1, .int (nI n)), (2, .int (nI st)), (3, .int (nI vl))]) hx hb dX7_isLet_22 hl (by decide) rfl (fun ls hl => ?_)
        refine lv_iconst (v := nI 0) hx hb dX7_isLet_24 (by decide) ?_
        refine lv_istore (lv' := [(5, .int (nI 0)), (4, .int (nI 1)), (0, .ref om), (1, .int (nI n)), (2, .int (nI st)), (3, .int (nI vl))]) hx hb dX7_isLet_25 hl (by decide) rfl (fun ls hl => ?_)
        have L27 : ∀ (fu : Nat), ∀ (vk : Nat), (vk ≤ μ.2.1 7 n) → μ.2.1 7 n - vk < fu → ∀ (H : Heap) (locs : List Loc), bk G om (mL G om (uR μ 30 g18)) H → va_S (fun q => om ≤ q ∧ q < om + 20) zs.heap H locs → ∀ ls : Array Slot, lv_has ls 6 [(0, .ref om), (1, .int (nI n)), (2, .int (nI st)), (3, .int (nI vl)), (4, .int (b2i (alB (μ.2.1 31) (psV μ n st vl) vk))), (5, .int (nI vk))] → W zp l ze (rL 3 0 0) zs zm za zb zt zc H locs 0 0 Q (F0 zm 27 ls []) := by
          intro fu
          induction fu with
          | zero =>
            intro vk hvk hmu H locs hM hS ls hl
            exact absurd hmu (Nat.not_lt_zero _)
          | succ fu ih27 =>
            intro vk hvk hmu H locs hM hS ls hl
            refine lv_iload hx hb dX7_isLet_27 (lv_at hl 5 rfl) ?_
            refine lv_aload_n hx hb dX7_isLet_29 rfl (lv_at hl 0 rfl) ?_
            refine kg (C := RX7) (T := TX7) (N := 32) (ci := 5) (k := 7) (v := .ref (om + 8)) S hK rfl inX7 (by decide) q_737 dX7_isLet_30 hM rfl rfl ?_
            refine lv_iload_n hx hb dX7_isLet_33 rfl (lv_at hl 1 rfl) ?_
            refine kil (f := μ.2.1 7) S hK dX7_isLet_34 8 hM rfl (by decide) rfl (by omega) ?_
            refine n_icmp_ge (tgt := 77) hx hb dX7_isLet_35 (by decide) (by omega) (by omega) (fun c_35 => ?_) (fun c_35 => ?_)
            ·
              have hvk9 : vk = μ.2.1 7 n := by omega
              rw [hvk9] at hl
              refine lv_iload hx hb dX7_isLet_77 (lv_at hl 4 rfl) ?_
              refine z_if_eq (tgt := 84) hx hb dX7_isLet_79 (by decide) (fun c_79 => ?_) (fun c_79 => ?_)
              ·
                have hal : (fun vl => alB (μ.2.1 31) (psV μ n st vl) (μ.2.1 7 n)) vl = false := by exact c_79
                refine lv_iinc (v := nI (vl + 1)) (lv' := [(3, .int (nI (vl + 1))), (0, .ref om), (1, .int (nI n)), (2, .int (nI st)), (4, .int (b2i (alB (μ.2.1 31) (psV μ n st vl) (μ.2.1 7 n)))), (5, .int (nI (μ.2.1 7 n)))]) hx hb dX7_isLet_84 hl (k := 3) rfl (inc1 _) (by decide) rfl (fun ls hl => ?_)
                refine lv_goto (tgt := 2) hx hb dX7_isLet_87 (by decide) ?_
                exact ih2 (vl + 1) g18 (by first | assumption | omega) (by rw [← hfin, hes]; exact (fnd_f (P := (fun vl => alB (μ.2.1 31) (psV μ n st vl) (μ.2.1 7 n))) hal).symm) (by omega) _ _ hM hS ls (lv_sub hl [1, 2, 3, 0] rfl)
              ·
                have hr : (fnd (fun vl => alB (μ.2.1 31) (psV μ n st vl) (μ.2.1 7 n)) (1 <<< μ.2.1 8 n) 0).isSome = true := by rw [← hfin, hes, fnd_t (P := (fun vl => alB (μ.2.1 31) (psV μ n st vl) (μ.2.1 7 n))) c_79]; rfl
                refine lv_iconst (v := nI 1) hx hb dX7_isLet_82 (by decide) ?_
                refine w_top (v' := .int (b2i ((fnd (fun vl => alB (μ.2.1 31) (psV μ n st vl) (μ.2.1 7 n)) (1 <<< μ.2.1 8 n) 0).isSome))) (bz_t (show ((fnd (fun vl => alB (μ.2.1 31) (psV μ n st vl) (μ.2.1 7 n)) (1 <<< μ.2.1 8 n) 0).isSome) = true from hr)) ?_
                exact hE _ _ _ _ _ _ (kr_z dX7_isLet_83) hS (by decide) (by decide) ⟨g18, hM, trivial⟩
            ·
              have hvk2 : vk < μ.2.1 7 n := by omega
              have hgk : g18 vk = psV μ n st vl vk := hq18 vk hvk2
              have hgk32 : g18 vk < 32 := by rw [hgk]; exact psV_lt hN st vl hvk2
              have hwk : μ.2.1 31 (32 * vk + g18 vk) ≤ 1024 := by rw [hgk]; exact hw vk hvk2 _ (psV_lt2 st vl vk)
              refine lv_iload hx hb dX7_isLet_38 (lv_at hl 4 rfl) ?_
              refine z_if_eq (tgt := 68) hx hb dX7_isLet_40 (by decide) (fun c_40 => ?_) (fun c_40 => ?_)
              ·
                refine lv_iconst (v := nI 0) hx hb dX7_isLet_68 (by decide) ?_
                refine lv_istore (lv' := [(4, .int (nI 0)), (0, .ref om), (1, .int (nI n)), (2, .int (nI st)), (3, .int (nI vl)), (5, .int (nI vk))]) hx hb dX7_isLet_69 hl (by decide) rfl (fun ls hl => ?_)
                refine lv_iinc (v := nI (vk + 1)) (lv' := [(5, .int (nI (vk + 1))), (4, .int (nI 0)), (0, .ref om), (1, .int (nI n)), (2, .int (nI st)), (3, .int (nI vl))]) hx hb dX7_isLet_71 hl (k := 5) rfl (inc1 _) (by decide) rfl (fun ls hl => ?_)
                refine lv_goto (tgt := 27) hx hb dX7_isLet_74 (by decide) ?_
                replace hl := lv_eq 1 hl rfl (v2 := .int (b2i (alB (μ.2.1 31) (psV μ n st vl) (vk + 1)))) (show (.int (nI 0) : Value) = .int (b2i (alB (μ.2.1 31) (psV μ n st vl) (vk + 1))) from bz_f (show alB (μ.2.1 31) (psV μ n st vl) (vk + 1) = false from by unfold alB; rw [c_40]; rfl))
                exact ih27 (vk + 1) (by first | assumption | omega) (by omega) _ _ hM hS ls (lv_sub hl [2, 3, 4, 5, 1, 0] rfl)
              ·
                refine lv_aload_n hx hb dX7_isLet_43 rfl (lv_at hl 0 rfl) ?_
                refine kg (C := RX7) (T := TX7) (N := 32) (ci := 5) (k := 31) (v := .ref (om + 19)) S hK rfl inX7 (by decide) q_761 dX7_isLet_44 hM rfl rfl ?_
                refine lv_bipush (v := nI 32) hx hb dX7_isLet_47 (by decide) ?_
                refine lv_iload hx hb dX7_isLet_49 (lv_at hl 5 rfl) ?_
                refine n_imul hx hb dX7_isLet_51 ?_
                refine lv_aload_n hx hb dX7_isLet_52 rfl (lv_at hl 0 rfl) ?_
                refine kg (C := RX7) (T := TX7) (N := 32) (ci := 5) (k := 30) (v := .ref (om + 18)) S hK rfl inX7 (by decide) q_760 dX7_isLet_53 hM rfl rfl ?_
                refine lv_iload hx hb dX7_isLet_56 (lv_at hl 5 rfl) ?_
                refine kil (f := g18) S hK dX7_isLet_58 18 hM rfl (by decide) rfl (by omega) ?_
                refine n_iadd hx hb dX7_isLet_59 ?_
                refine kil (f := μ.2.1 31) S hK dX7_isLet_60 19 hM rfl (by decide) rfl (by omega) ?_
                refine n_if_le (tgt := 68) hx hb dX7_isLet_61 (by decide) (by omega) (fun c_61 => ?_) (fun c_61 => ?_)
                ·
                  refine lv_iconst (v := nI 0) hx hb dX7_isLet_68 (by decide) ?_
                  refine lv_istore (lv' := [(4, .int (nI 0)), (0, .ref om), (1, .int (nI n)), (2, .int (nI st)), (3, .int (nI vl)), (5, .int (nI vk))]) hx hb dX7_isLet_69 hl (by decide) rfl (fun ls hl => ?_)
                  refine lv_iinc (v := nI (vk + 1)) (lv' := [(5, .int (nI (vk + 1))), (4, .int (nI 0)), (0, .ref om), (1, .int (nI n)), (2, .int (nI st)), (3, .int (nI vl))]) hx hb dX7_isLet_71 hl (k := 5) rfl (inc1 _) (by decide) rfl (fun ls hl => ?_)
                  refine lv_goto (tgt := 27) hx hb dX7_isLet_74 (by decide) ?_
                  replace hl := lv_eq 1 hl rfl (v2 := .int (b2i (alB (μ.2.1 31) (psV μ n st vl) (vk + 1)))) (show (.int (nI 0) : Value) = .int (b2i (alB (μ.2.1 31) (psV μ n st vl) (vk + 1))) from bz_f (show alB (μ.2.1 31) (psV μ n st vl) (vk + 1) = false from by unfold alB; rw [← hgk, decide_eq_false (by omega), Bool.and_false]))
                  exact ih27 (vk + 1) (by first | assumption | omega) (by omega) _ _ hM hS ls (lv_sub hl [2, 3, 4, 5, 1, 0] rfl)
                ·
                  refine lv_iconst (v := nI 1) hx hb dX7_isLet_64 (by decide) ?_
                  refine lv_goto (tgt := 69) hx hb dX7_isLet_65 (by decide) ?_
                  refine lv_istore (lv' := [(4, .int (nI 1)), (0, .ref om), (1, .int (nI n)), (2, .int (nI st)), (3, .int (nI vl)), (5, .int (nI vk))]) hx hb dX7_isLet_69 hl (by decide) rfl (fun ls hl => ?_)
                  refine lv_iinc (v := nI (vk + 1)) (lv' := [(5, .int (nI (vk + 1))), (4, .int (nI 1)), (0, .ref om), (1, .int (nI n)), (2, .int (nI st)), (3, .int (nI vl))]) hx hb dX7_isLet_71 hl (k := 5) rfl (inc1 _) (by decide) rfl (fun ls hl => ?_)
                  refine lv_goto (tgt := 27) hx hb dX7_isLet_74 (by decide) ?_
                  replace hl := lv_eq 1 hl rfl (v2 := .int (b2i (alB (μ.2.1 31) (psV μ n st vl) (vk + 1)))) (show (.int (nI 1) : Value) = .int (b2i (alB (μ.2.1 31) (psV μ n st vl) (vk + 1))) from bz_t (show alB (μ.2.1 31) (psV μ n st vl) (vk + 1) = true from by unfold alB; rw [c_40, ← hgk, decide_eq_true (by omega)]; rfl))
                  exact ih27 (vk + 1) (by first | assumption | omega) (by omega) _ _ hM hS ls (lv_sub hl [2, 3, 4, 5, 1, 0] rfl)
        replace hl := lv_eq 1 hl rfl (v2 := .int (b2i (alB (μ.2.1 31) (psV μ n st vl) 0))) (show (.int (nI 1) : Value) = .int (b2i (alB (μ.2.1 31) (psV μ n st vl) 0)) from bz_t rfl)
        replace hM := bk_eq hM (show mL G om (uR (uR μ 30 g) 30 g18) = mL G om (uR μ 30 g18) from rfl)
        exact L27 ((μ.2.1 7 n - 0) + 1) 0 (Nat.zero_le _) (Nat.lt_succ_self _) _ _ hM hS ls (lv_sub hl [2, 3, 4, 5, 1, 0] rfl)
  exact L2 ((1 <<< μ.2.1 8 n - 0) + 1) 0 (μ.2.1 30) (Nat.zero_le _) rfl (Nat.lt_succ_self _) _ _ hM hS ls (lv_sub hl [1, 2, 3, 0] rfl)

theorem alB_e {μ σ : Sx} {n st : Nat} {w : Nat → Nat} (hw : ∀ k, k < μ.2.1 7 n → ∀ s, s < 1 <<< fM μ n k → w (32 * k + s) = wyM μ n k s) (lk : Nat) : alB w (psV μ n st lk) (μ.2.1 7 n) = alB (fun q => wyM μ n (q / 32) (q % 32)) (psV μ n st lk) (μ.2.1 7 n) ∨ ¬ MN1 μ n := by
  by_cases hN : MN1 μ n
  · left
    apply alB_congr
    intro j hj
    have h1 := psV_lt hN st lk hj
    show w (32 * j + psV μ n st lk j) = wyM μ n ((32 * j + psV μ n st lk j) / 32) ((32 * j + psV μ n st lk j) % 32)
    rw [hw j hj _ (psV_lt2 st lk j), show (32 * j + psV μ n st lk j) / 32 = j by omega, show (32 * j + psV μ n st lk j) % 32 = psV μ n st lk j by omega]
  · right
    exact hN
abbrev wyF (μ : Sx) (n : Nat) : Nat → Nat := fun q => wyM μ n (q / 32) (q % 32)
theorem wyF_c {μ : Sx} {n st lk j : Nat} {w : Nat → Nat} (hN : MN1 μ n) (hw : ∀ k, k < μ.2.1 7 n → ∀ s, s < 1 <<< fM μ n k → w (32 * k + s) = wyM μ n k s) (hj : j < μ.2.1 7 n) : w (32 * j + psV μ n st lk j) = wyF μ n (32 * j + psV μ n st lk j) := by
  have h1 := psV_lt hN st lk hj
  show _ = wyM μ n ((32 * j + psV μ n st lk j) / 32) ((32 * j + psV μ n st lk j) % 32)
  rw [hw j hj _ (psV_lt2 st lk j), show (32 * j + psV μ n st lk j) / 32 = j by omega, show (32 * j + psV μ n st lk j) % 32 = psV μ n st lk j by omega]
theorem fnd_congr {P Q : Nat → Bool} : ∀ (n i : Nat), (∀ j, i ≤ j → j < i + n → P j = Q j) → fnd P n i = fnd Q n i
  | 0, i, h => rfl
  | n + 1, i, h => by
    unfold fnd
    rw [h i (Nat.le_refl _) (by omega), fnd_congr n (i + 1) (fun j h1 h2 => h j (by omega) (by omega))]
theorem suV_congr {w w' : Nat → Nat} {pv : Nat → Nat → Nat} {P : Nat} : ∀ L, (∀ lk j, j < P → w (32 * j + pv lk j) = w' (32 * j + pv lk j)) → suV w pv P L = suV w' pv P L
  | 0, _ => rfl
  | L + 1, h => by
    unfold suV
    rw [suV_congr L h, prV_congr (fun j hj => h L j hj)]
/-- whether a NET lets a STATE of its FREE ones; in how many ways -/
abbrev letN (μ : Sx) (n st : Nat) : Bool := (fnd (fun vl => alB (wyF μ n) (psV μ n st vl) (μ.2.1 7 n)) (1 <<< μ.2.1 8 n) 0).isSome
abbrev howN (μ : Sx) (n st : Nat) : Nat := suV (wyF μ n) (psV μ n st) (μ.2.1 7 n) (1 <<< μ.2.1 8 n)
def wrS (μ : Sx) (n st : Int32) : Int32 := if inI n (μ.1 18) then (if 10 < fcM μ (cx n) then -3 else if inI st (1 <<< fcM μ (cx n)) then 0 else -1) else -1
def netLets_M (μ : Sx) (n st : Int32) : Int32 × Sx := if inI n (μ.1 18) then (if 10 < fcM μ (cx n) then (-3, rfM μ 3) else if inI st (1 <<< fcM μ (cx n)) then (b2i (letN μ (cx n) (cx st)), μ) else (-1, rfM μ 1)) else (-1, rfM μ 1)
def howMany_M (μ : Sx) (n st : Int32) : Int32 × Sx := if inI n (μ.1 18) then (if 10 < fcM μ (cx n) then (-3, rfM μ 3) else if inI st (1 <<< fcM μ (cx n)) then (nI (howN μ (cx n) (cx st)), μ) else (-1, rfM μ 1)) else (-1, rfM μ 1)
theorem fcM_le {μ : Sx} {n : Nat} (hN : MN1 μ n) : fcM μ n ≤ 40 := by
  have h := (frW_c (Z := zM μ n) (last := -9) hN.2.1 (fun k hk => (hN.2.2.2.1 k hk).2) 100 0 0 (Nat.zero_le _) (fun _ => Nat.zero_le _) (fun _ => rfl) (by have := hN.2.1; omega)).1
  have hb : ∀ k, k ≤ μ.2.1 7 n → fcN (fM μ n) (zM μ n) k ≤ 5 * k := by
    intro k
    induction k with
    | zero => intro _; exact Nat.le_refl 0
    | succ k ih =>
      intro h
      have h1 := ih (by omega)
      have h2 := @fcN_le (fM μ n) (zM μ n) k (fM μ n k)
      have h3 := (hN.2.2.2.1 k (by omega)).2
      show fcN (fM μ n) (zM μ n) k + fc1 (zM μ n) k (fM μ n k) ≤ _
      omega
  have h1 := hb _ (Nat.le_refl _)
  have h2 := hN.2.1
  show fcN (fM μ n) (zM μ n) (μ.2.1 7 n) ≤ 40
  omega

set_option maxHeartbeats 1000000 in
set_option maxRecDepth 100000 in
theorem c_X7_wrongState (l : Launch) (G : Gt) (om : Nat) (μ : Sx) (n : Int32) (st : Int32) (h0 : MI0 μ) (hI : MIn μ) : Cr l G yX7_wrongState cX7_wrongState 3 ((some .int)) 3 [.ref om, .int n, .int st] (fun H => bk G om (mL G om μ) H) (some (.int (wrS μ n st))) := by
  refine cr_entry [(0, .ref om), (1, .int n), (2, .int st)] (by decide) (Nat.le_of_ble_eq_true rfl) rfl ?_
  intro zp ze zs zm za zb zt zc Q S hK hPre hE ls hl
  have hx := S.1
  have hb := S.2.1
  have hM := hPre
  have hn18 := hI.1
  refine lv_aload_n hx hb dX7_wrongState_0 rfl (lv_at hl 0 rfl) ?_
  refine lv_iload_n hx hb dX7_wrongState_1 rfl (lv_at hl 1 rfl) ?_
  refine crV (rest := []) S hK (c_X7_isNet l G om μ n (by first | assumption | omega | decide)) cw_X7_229 rfl ⟨Nat.le_of_ble_eq_true rfl, Nat.le_of_ble_eq_true rfl⟩ ⟨Nat.le_of_ble_eq_true rfl, Nat.le_of_ble_eq_true rfl⟩ (bk.recv hK hM rfl rfl) hl.1 rfl (Nat.le_of_ble_eq_true rfl) dX7_wrongState_2 hM ?_
  refine z_if_ne (tgt := 12) hx hb dX7_wrongState_5 (by decide) (fun c_5 => ?_) (fun c_5 => ?_)
  ·
    obtain ⟨vn, hvn, rfl⟩ := inI_x c_5
    have hcn := cx_n (j := vn) (by omega)
    have hN := mn1 h0 hI hvn
    have hfc40 := fcM_le hN
    refine lv_aload_n hx hb dX7_wrongState_12 rfl (lv_at hl 0 rfl) ?_
    refine lv_iload_n hx hb dX7_wrongState_13 rfl (lv_at hl 1 rfl) ?_
    refine lv_iconst (v := (-1)) hx hb dX7_wrongState_14 (by decide) ?_
    refine crV (rest := []) S hK (c_X7_freeOf_c l G om μ vn (by first | assumption | omega | decide)) cw_X7_241 rfl ⟨Nat.le_of_ble_eq_true rfl, Nat.le_of_ble_eq_true rfl⟩ ⟨Nat.le_of_ble_eq_true rfl, Nat.le_of_ble_eq_true rfl⟩ (bk.recv hK hM rfl rfl) hl.1 rfl (Nat.le_of_ble_eq_true rfl) dX7_wrongState_15 hM ?_
    refine lv_bipush (v := nI 10) hx hb dX7_wrongState_18 (by decide) ?_
    refine n_icmp_le (tgt := 28) hx hb dX7_wrongState_20 (by decide) (by omega) (by decide) (fun c_20 => ?_) (fun c_20 => ?_)
    ·
      have hsh := shl_le c_20
      refine lv_iload_n hx hb dX7_wrongState_28 rfl (lv_at hl 2 rfl) ?_
      refine lv_iconst (v := nI 1) hx hb dX7_wrongState_29 (by decide) ?_
      refine lv_aload_n hx hb dX7_wrongState_30 rfl (lv_at hl 0 rfl) ?_
      refine lv_iload_n hx hb dX7_wrongState_31 rfl (lv_at hl 1 rfl) ?_
      refine lv_iconst (v := (-1)) hx hb dX7_wrongState_32 (by decide) ?_
      refine crV (rest := [.int (nI 1), .int st]) S hK (c_X7_freeOf_c l G om μ vn (by first | assumption | omega | decide)) cw_X7_241 rfl ⟨Nat.le_of_ble_eq_true rfl, Nat.le_of_ble_eq_true rfl⟩ ⟨Nat.le_of_ble_eq_true rfl, Nat.le_of_ble_eq_true rfl⟩ (bk.recv hK hM rfl rfl) hl.1 rfl (Nat.le_of_ble_eq_true rfl) dX7_wrongState_33 hM ?_
      refine n_ishl hx hb dX7_wrongState_36 (by omega) ?_
      refine crS (rest := []) S hK (c_X7_isIn l G st (1 <<< (fcM μ vn)) (by omega)) cw_X7_80 rfl ⟨Nat.le_of_ble_eq_true rfl, Nat.le_of_ble_eq_true rfl⟩ ⟨Nat.le_of_ble_eq_true rfl, Nat.le_of_ble_eq_true rfl⟩ hl.1 rfl (Nat.le_of_ble_eq_true rfl) dX7_wrongState_37 trivial ?_
      refine z_if_eq (tgt := 47) hx hb dX7_wrongState_40 (by decide) (fun c_40 => ?_) (fun c_40 => ?_)
      ·
        have hr : (-1 : Int32) = wrS μ (nI vn) st := by unfold wrS; rw [c_5, hcn, if_pos rfl, if_neg (by omega), c_40, if_neg (by decide)]
        refine lv_iconst (v := (-1)) hx hb dX7_wrongState_47 (by decide) ?_
        refine w_top (v' := .int (wrS μ (nI vn) st)) (congrArg (fun z => Value.int z) (show (-1) = (wrS μ (nI vn) st) from hr)) ?_
        exact hE _ _ (kr_i dX7_wrongState_48)
      ·
        have hr : nI 0 = wrS μ (nI vn) st := by unfold wrS; rw [c_5, hcn, if_pos rfl, if_neg (by omega), c_40, if_pos rfl]; rfl
        refine lv_iconst (v := nI 0) hx hb dX7_wrongState_43 (by decide) ?_
        refine lv_goto (tgt := 48) hx hb dX7_wrongState_44 (by decide) ?_
        refine w_top (v' := .int (wrS μ (nI vn) st)) (show (.int (nI 0) : Value) = .int (wrS μ (nI vn) st) from (congrArg (fun z => Value.int z) hr)) ?_
        exact hE _ _ (kr_i dX7_wrongState_48)
    ·
      have hr : (-3 : Int32) = wrS μ (nI vn) st := by unfold wrS; rw [c_5, hcn, if_pos rfl, if_pos (by omega)]
      refine lv_bipush (v := (-3)) hx hb dX7_wrongState_23 (by decide) ?_
      refine lv_goto (tgt := 48) hx hb dX7_wrongState_25 (by decide) ?_
      refine w_top (v' := .int (wrS μ (nI vn) st)) (congrArg (fun z => Value.int z) (show (-3) = (wrS μ (nI vn) st) from hr)) ?_
      exact hE _ _ (kr_i dX7_wrongState_48)
  ·
    have hr : (-1 : Int32) = wrS μ n st := by unfold wrS; simp [c_5]
    refine lv_iconst (v := (-1)) hx hb dX7_wrongState_8 (by decide) ?_
    refine lv_goto (tgt := 48) hx hb dX7_wrongState_9 (by decide) ?_
    refine w_top (v' := .int (wrS μ n st)) (congrArg (fun z => Value.int z) (show (-1) = (wrS μ n st) from hr)) ?_
    exact hE _ _ (kr_i dX7_wrongState_48)

theorem c_X7_wrongState_1 (l : Launch) (G : Gt) (om : Nat) (μ : Sx) (n : Int32) (st : Int32) (h0 : MI0 μ) (hI : MIn μ) (hq : wrS μ n st = -1) : Cr l G yX7_wrongState cX7_wrongState 3 ((some .int)) 3 [.ref om, .int n, .int st] (fun H => bk G om (mL G om μ) H) (some (.int (-1))) := by
  have h := c_X7_wrongState l G om μ n st h0 hI
  rw [hq] at h; exact h

theorem c_X7_wrongState_3 (l : Launch) (G : Gt) (om : Nat) (μ : Sx) (n : Int32) (st : Int32) (h0 : MI0 μ) (hI : MIn μ) (hq : wrS μ n st = -3) : Cr l G yX7_wrongState cX7_wrongState 3 ((some .int)) 3 [.ref om, .int n, .int st] (fun H => bk G om (mL G om μ) H) (some (.int (-3))) := by
  have h := c_X7_wrongState l G om μ n st h0 hI
  rw [hq] at h; exact h

theorem c_X7_wrongState_0 (l : Launch) (G : Gt) (om : Nat) (μ : Sx) (n : Int32) (st : Int32) (h0 : MI0 μ) (hI : MIn μ) (hq : wrS μ n st = 0) : Cr l G yX7_wrongState cX7_wrongState 3 ((some .int)) 3 [.ref om, .int n, .int st] (fun H => bk G om (mL G om μ) H) (some (.int (nI 0))) := by
  have h := c_X7_wrongState l G om μ n st h0 hI
  rw [hq] at h; exact h

theorem wrS_c {μ : Sx} (n st : Int32) : (wrS μ n st = -1 ∧ netLets_M μ n st = (-1, rfM μ 1) ∧ howMany_M μ n st = (-1, rfM μ 1)) ∨ (wrS μ n st = -3 ∧ netLets_M μ n st = (-3, rfM μ 3) ∧ howMany_M μ n st = (-3, rfM μ 3)) ∨ (wrS μ n st = 0 ∧ ∃ vn vs, vn < μ.1 18 ∧ n = nI vn ∧ fcM μ vn ≤ 10 ∧ vs < 1 <<< fcM μ vn ∧ st = nI vs) ∨ ¬ μ.1 18 ≤ 6 := by
  by_cases h6 : μ.1 18 ≤ 6
  · unfold wrS netLets_M howMany_M
    cases h1 : inI n (μ.1 18)
    · left
      exact ⟨rfl, rfl, rfl⟩
    · rw [if_pos rfl, if_pos rfl, if_pos rfl]
      obtain ⟨vn, hvn, rfl⟩ := inI_x h1
      rw [cx_n (by omega)]
      by_cases h2 : 10 < fcM μ vn
      · rw [if_pos h2, if_pos h2, if_pos h2]
        exact Or.inr (Or.inl ⟨rfl, rfl, rfl⟩)
      · rw [if_neg h2, if_neg h2, if_neg h2]
        cases h3 : inI st (1 <<< fcM μ vn)
        · left
          exact ⟨rfl, rfl, rfl⟩
        · obtain ⟨vs, hvs, e⟩ := inI_x h3
          exact Or.inr (Or.inr (Or.inl ⟨rfl, vn, vs, hvn, rfl, by omega, hvs, e⟩))
  · exact Or.inr (Or.inr (Or.inr h6))
theorem nl_e {μ : Sx} {vn vs : Nat} (h6 : μ.1 18 ≤ 6) (hvn : vn < μ.1 18) (h10 : fcM μ vn ≤ 10) (hvs : vs < 1 <<< fcM μ vn) : netLets_M μ (nI vn) (nI vs) = (b2i (letN μ vn vs), μ) ∧ howMany_M μ (nI vn) (nI vs) = (nI (howN μ vn vs), μ) := by
  have h5 := shl_le h10
  constructor
  · unfold netLets_M
    rw [inI_n (by omega), cx_n (by omega), inI_n (by omega), cx_n (by omega), decide_eq_true hvn, decide_eq_true hvs, if_pos rfl, if_neg (by omega), if_pos rfl]
  · unfold howMany_M
    rw [inI_n (by omega), cx_n (by omega), inI_n (by omega), cx_n (by omega), decide_eq_true hvn, decide_eq_true hvs, if_pos rfl, if_neg (by omega), if_pos rfl]
theorem letN_e {μ : Sx} {n st : Nat} {w : Nat → Nat} (hN : MN1 μ n) (hw : ∀ k, k < μ.2.1 7 n → ∀ s, s < 1 <<< fM μ n k → w (32 * k + s) = wyM μ n k s) : (fnd (fun vl => alB w (psV μ n st vl) (μ.2.1 7 n)) (1 <<< μ.2.1 8 n) 0).isSome = letN μ n st := by
  show _ = (fnd (fun vl => alB (wyF μ n) (psV μ n st vl) (μ.2.1 7 n)) (1 <<< μ.2.1 8 n) 0).isSome
  rw [fnd_congr (Q := fun vl => alB (wyF μ n) (psV μ n st vl) (μ.2.1 7 n)) _ _ (fun lk _ _ => alB_congr (fun j hj => wyF_c hN hw hj))]
theorem howN_e {μ : Sx} {n st : Nat} {w : Nat → Nat} (hN : MN1 μ n) (hw : ∀ k, k < μ.2.1 7 n → ∀ s, s < 1 <<< fM μ n k → w (32 * k + s) = wyM μ n k s) : suV w (psV μ n st) (μ.2.1 7 n) (1 <<< μ.2.1 8 n) = howN μ n st := suV_congr _ (fun lk j hj => wyF_c hN hw hj)
/-- the same but for what is only written on the way (slots 23 to 31) -/
def scr (σ μ : Sx) : Prop := (∀ k, k < 23 → σ.1 k = μ.1 k) ∧ ∀ k, k < 23 → σ.2.1 k = μ.2.1 k
theorem scr_rf (μ : Sx) : scr μ μ := ⟨fun _ _ => rfl, fun _ _ => rfl⟩
theorem scr_R {σ μ : Sx} {k : Nat} {g : Nat → Nat} (h : scr σ μ) (hk : 23 ≤ k) : scr (uR σ k g) μ := ⟨fun j hj => h.1 j hj, fun j hj => by
  show (if j = k then g else σ.2.1 j) = _
  rw [if_neg (by omega)]
  exact h.2 j hj⟩
theorem scr_S {σ μ : Sx} {k v : Nat} (h : scr σ μ) (hk : 23 ≤ k) : scr (uS σ k v) μ := ⟨fun j hj => by
  show (if j = k then v else σ.1 j) = _
  rw [if_neg (by omega)]
  exact h.1 j hj, h.2⟩

set_option maxHeartbeats 1000000 in
set_option maxRecDepth 100000 in
theorem c_X7_netLets (l : Launch) (G : Gt) (om : Nat) (μ : Sx) (n : Int32) (st : Int32) (h0 : MI0 μ) (hI : MIn μ) : Ct l G yX7_netLets cX7_netLets 4 ((some .int)) 26 0 0 [.ref om, .int n, .int st] (fun H => bk G om (mL G om μ) H) (some (.int ((netLets_M μ n st).1))) (fun H => ∃ σ : Sx, bk G om (mL G om σ) H ∧ scr σ (netLets_M μ n st).2) (fun q => om ≤ q ∧ q < om + 20) := by
  refine ct_entry [(0, .ref om), (1, .int n), (2, .int st)] (by decide) (Nat.le_of_ble_eq_true rfl) rfl ?_
  intro zp ze zs zm za zb zt zc Q S hK hPre hin hE ls hl
  have hx := S.1
  have hb := S.2.1
  have hM := hPre
  have hS : va_S (fun q => om ≤ q ∧ q < om + 20) zs.heap zs.heap [] := va_S.rf
  have hn18 := hI.1
  refine lv_aload_n hx hb dX7_netLets_0 rfl (lv_at hl 0 rfl) ?_
  refine lv_iload_n hx hb dX7_netLets_1 rfl (lv_at hl 1 rfl) ?_
  refine lv_iload_n hx hb dX7_netLets_2 rfl (lv_at hl 2 rfl) ?_
  rcases wrS_c (μ := μ) n st with ⟨hq1, hq2, hq3⟩ | ⟨hq1, hq2, hq3⟩ | ⟨hq1, vn, vs, hvn, rfl, h10, hvs, rfl⟩ | hno
  ·
    refine crV (rest := []) S hK (c_X7_wrongState_1 l G om μ n st (by first | assumption | omega | decide) (by first | assumption | omega | decide) hq1) cw_X7_249 rfl ⟨Nat.le_of_ble_eq_true rfl, Nat.le_of_ble_eq_true rfl⟩ ⟨Nat.le_of_ble_eq_true rfl, Nat.le_of_ble_eq_true rfl⟩ (bk.recv hK hM rfl rfl) hl.1 rfl (Nat.le_of_ble_eq_true rfl) dX7_netLets_3 hM ?_
    refine lv_istore_n (lv' := [(3, .int (-1)), (0, .ref om), (1, .int n), (2, .int st)]) hx hb dX7_netLets_6 rfl hl (by decide) rfl (fun ls hl => ?_)
    refine lv_iload_n hx hb dX7_netLets_7 rfl (lv_at hl 0 rfl) ?_
    refine lv_if_eq (tgt := 17) hx hb dX7_netLets_8 (by decide) (fun c_8 => ?_) (fun c_8 => ?_)
    ·
      exact absurd c_8 (by decide)
    ·
      refine lv_aload_n hx hb dX7_netLets_11 rfl (lv_at hl 1 rfl) ?_
      refine lv_iload_n hx hb dX7_netLets_12 rfl (lv_at hl 0 rfl) ?_
      refine ctV (rest := []) S hK (c_X7_refuse l G om μ (-1) 1 (by first | assumption | omega | decide) (by first | assumption | omega | decide)) cw_X7_72 rfl ⟨Nat.le_of_ble_eq_true rfl, Nat.le_of_ble_eq_true rfl⟩ ⟨Nat.le_of_ble_eq_true rfl, Nat.le_of_ble_eq_true rfl⟩ (bk.recv hK hM rfl rfl) hl.1 rfl (Nat.le_of_ble_eq_true rfl) dX7_netLets_13 hM hS (fun _ h => h) (fun H locs hPost hz hk hS => ?_)
      have hM := hPost
      have hr : netLets_M μ n st = ((-1), uA μ 0 1 (μ.2.1 0 1 + 1)) := hq2
      refine w_top (v' := .int ((netLets_M μ n st).1)) (congrArg (fun z => Value.int z) (congrArg Prod.fst hr).symm) ?_
      exact hE _ _ _ _ _ _ (kr_i dX7_netLets_16) hS (by decide) (by decide) ⟨(uA μ 0 1 (μ.2.1 0 1 + 1)), hM, (by rw [hr]; exact scr_rf _)⟩
  ·
    refine crV (rest := []) S hK (c_X7_wrongState_3 l G om μ n st (by first | assumption | omega | decide) (by first | assumption | omega | decide) hq1) cw_X7_249 rfl ⟨Nat.le_of_ble_eq_true rfl, Nat.le_of_ble_eq_true rfl⟩ ⟨Nat.le_of_ble_eq_true rfl, Nat.le_of_ble_eq_true rfl⟩ (bk.recv hK hM rfl rfl) hl.1 rfl (Nat.le_of_ble_eq_true rfl) dX7_netLets_3 hM ?_
    refine lv_istore_n (lv' := [(3, .int (-3)), (0, .ref om), (1, .int n), (2, .int st)]) hx hb dX7_netLets_6 rfl hl (by decide) rfl (fun ls hl => ?_)
    refine lv_iload_n hx hb dX7_netLets_7 rfl (lv_at hl 0 rfl) ?_
    refine lv_if_eq (tgt := 17) hx hb dX7_netLets_8 (by decide) (fun c_8 => ?_) (fun c_8 => ?_)
    ·
      exact absurd c_8 (by decide)
    ·
      refine lv_aload_n hx hb dX7_netLets_11 rfl (lv_at hl 1 rfl) ?_
      refine lv_iload_n hx hb dX7_netLets_12 rfl (lv_at hl 0 rfl) ?_
      refine ctV (rest := []) S hK (c_X7_refuse l G om μ (-3) 3 (by first | assumption | omega | decide) (by first | assumption | omega | decide)) cw_X7_72 rfl ⟨Nat.le_of_ble_eq_true rfl, Nat.le_of_ble_eq_true rfl⟩ ⟨Nat.le_of_ble_eq_true rfl, Nat.le_of_ble_eq_true rfl⟩ (bk.recv hK hM rfl rfl) hl.1 rfl (Nat.le_of_ble_eq_true rfl) dX7_netLets_13 hM hS (fun _ h => h) (fun H locs hPost hz hk hS => ?_)
      have hM := hPost
      have hr : netLets_M μ n st = ((-3), uA μ 0 3 (μ.2.1 0 3 + 1)) := hq2
      refine w_top (v' := .int ((netLets_M μ n st).1)) (congrArg (fun z => Value.int z) (congrArg Prod.fst hr).symm) ?_
      exact hE _ _ _ _ _ _ (kr_i dX7_netLets_16) hS (by decide) (by decide) ⟨(uA μ 0 3 (μ.2.1 0 3 + 1)), hM, (by rw [hr]; exact scr_rf _)⟩
  ·
    have hN := mn1 h0 hI hvn
    have hN2 := mn2 h0 hI hvn
    obtain ⟨hn6, hp8, hl12, hpf, hll⟩ := id hN
    have hsh := shl_le h10
    have hqe := (nl_e hI.1 hvn h10 hvs).1
    refine crV (rest := []) S hK (c_X7_wrongState_0 l G om μ (nI vn) (nI vs) (by first | assumption | omega | decide) (by first | assumption | omega | decide) hq1) cw_X7_249 rfl ⟨Nat.le_of_ble_eq_true rfl, Nat.le_of_ble_eq_true rfl⟩ ⟨Nat.le_of_ble_eq_true rfl, Nat.le_of_ble_eq_true rfl⟩ (bk.recv hK hM rfl rfl) hl.1 rfl (Nat.le_of_ble_eq_true rfl) dX7_netLets_3 hM ?_
    refine lv_istore_n (lv' := [(3, .int (nI 0)), (0, .ref om), (1, .int (nI vn)), (2, .int (nI vs))]) hx hb dX7_netLets_6 rfl hl (by decide) rfl (fun ls hl => ?_)
    refine lv_iload_n hx hb dX7_netLets_7 rfl (lv_at hl 0 rfl) ?_
    refine n_if_eq (tgt := 17) hx hb dX7_netLets_8 (by decide) (by decide) (fun c_8 => ?_) (fun c_8 => ?_)
    ·
      refine lv_aload_n hx hb dX7_netLets_17 rfl (lv_at hl 1 rfl) ?_
      refine lv_iload_n hx hb dX7_netLets_18 rfl (lv_at hl 2 rfl) ?_
      refine ctVv (rest := []) S hK (c_X7_findWays l G om μ vn hN hN2) cw_X7_252 rfl ⟨Nat.le_of_ble_eq_true rfl, Nat.le_of_ble_eq_true rfl⟩ ⟨Nat.le_of_ble_eq_true rfl, Nat.le_of_ble_eq_true rfl⟩ (bk.recv hK hM rfl rfl) hl.1 rfl (Nat.le_of_ble_eq_true rfl) dX7_netLets_19 hM hS (fun _ h => h) (fun H locs hPost hz hk hS => ?_)
      obtain ⟨g19, hM, hq19⟩ := hPost
      refine lv_aload_n hx hb dX7_netLets_22 rfl (lv_at hl 1 rfl) ?_
      refine lv_iload_n hx hb dX7_netLets_23 rfl (lv_at hl 2 rfl) ?_
      refine lv_iload_n hx hb dX7_netLets_24 rfl (lv_at hl 3 rfl) ?_
      refine ctV (v := .int (b2i ((fnd (fun vl => alB (g19) (psV μ vn vs vl) (μ.2.1 7 vn)) (1 <<< μ.2.1 8 vn) 0).isSome))) (rest := []) S hK (c_X7_isLet l G om (uR μ 31 g19) vn vs hN (by omega) (by show fcM μ vn ≤ 31; omega) (fun k hk s hs => by
        show g19 (32 * k + s) ≤ 1024
        rw [hq19 k hk s hs]
        exact wy_lt μ vn k s)) cw_X7_256 rfl ⟨Nat.le_of_ble_eq_true rfl, Nat.le_of_ble_eq_true rfl⟩ ⟨Nat.le_of_ble_eq_true rfl, Nat.le_of_ble_eq_true rfl⟩ (bk.recv hK hM rfl rfl) hl.1 rfl (Nat.le_of_ble_eq_true rfl) dX7_netLets_25 hM hS (fun _ h => h) (fun H locs hPost hz hk hS => ?_)
      obtain ⟨g25, hM, hq25⟩ := hPost
      refine z_if_eq (tgt := 35) hx hb dX7_netLets_28 (by decide) (fun c_28 => ?_) (fun c_28 => ?_)
      ·
        have hr : netLets_M μ (nI vn) (nI vs) = (nI 0, μ) := by rw [hqe, ← letN_e hN hq19, c_28]; rfl
        refine lv_iconst (v := nI 0) hx hb dX7_netLets_35 (by decide) ?_
        refine w_top (v' := .int ((netLets_M μ (nI vn) (nI vs)).1)) (show (.int (nI 0) : Value) = .int ((netLets_M μ (nI vn) (nI vs)).1) from (congrArg (fun z => Value.int z) (congrArg Prod.fst hr).symm)) ?_
        exact hE _ _ _ _ _ _ (kr_i dX7_netLets_36) hS (by decide) (by decide) ⟨(uR (uR μ 31 g19) 30 g25), hM, (by rw [hr]; exact scr_R (scr_R (scr_rf _) (by decide)) (by decide))⟩
      ·
        have hr : netLets_M μ (nI vn) (nI vs) = (nI 1, μ) := by rw [hqe, ← letN_e hN hq19, c_28]; rfl
        refine lv_iconst (v := nI 1) hx hb dX7_netLets_31 (by decide) ?_
        refine lv_goto (tgt := 36) hx hb dX7_netLets_32 (by decide) ?_
        refine w_top (v' := .int ((netLets_M μ (nI vn) (nI vs)).1)) (show (.int (nI 1) : Value) = .int ((netLets_M μ (nI vn) (nI vs)).1) from (congrArg (fun z => Value.int z) (congrArg Prod.fst hr).symm)) ?_
        exact hE _ _ _ _ _ _ (kr_i dX7_netLets_36) hS (by decide) (by decide) ⟨(uR (uR μ 31 g19) 30 g25), hM, (by rw [hr]; exact scr_R (scr_R (scr_rf _) (by decide)) (by decide))⟩
    ·
      exact absurd c_8 (by decide)
  ·
    exact absurd hI.1 hno

set_option maxHeartbeats 1000000 in
set_option maxRecDepth 100000 in
theorem c_X7_howMany (l : Launch) (G : Gt) (om : Nat) (μ : Sx) (n : Int32) (st : Int32) (h0 : MI0 μ) (hI : MIn μ) : Ct l G yX7_howMany cX7_howMany 4 ((some .int)) 26 0 0 [.ref om, .int n, .int st] (fun H => bk G om (mL G om μ) H) (some (.int ((howMany_M μ n st).1))) (fun H => ∃ σ : Sx, bk G om (mL G om σ) H ∧ scr σ (howMany_M μ n st).2) (fun q => om ≤ q ∧ q < om + 20) := by
  refine ct_entry [(0, .ref om), (1, .int n), (2, .int st)] (by decide) (Nat.le_of_ble_eq_true rfl) rfl ?_
  intro zp ze zs zm za zb zt zc Q S hK hPre hin hE ls hl
  have hx := S.1
  have hb := S.2.1
  have hM := hPre
  have hS : va_S (fun q => om ≤ q ∧ q < om + 20) zs.heap zs.heap [] := va_S.rf
  have hn18 := hI.1
  refine lv_aload_n hx hb dX7_howMany_0 rfl (lv_at hl 0 rfl) ?_
  refine lv_iload_n hx hb dX7_howMany_1 rfl (lv_at hl 1 rfl) ?_
  refine lv_iload_n hx hb dX7_howMany_2 rfl (lv_at hl 2 rfl) ?_
  rcases wrS_c (μ := μ) n st with ⟨hq1, hq2, hq3⟩ | ⟨hq1, hq2, hq3⟩ | ⟨hq1, vn, vs, hvn, rfl, h10, hvs, rfl⟩ | hno
  ·
    refine crV (rest := []) S hK (c_X7_wrongState_1 l G om μ n st (by first | assumption | omega | decide) (by first | assumption | omega | decide) hq1) cw_X7_249 rfl ⟨Nat.le_of_ble_eq_true rfl, Nat.le_of_ble_eq_true rfl⟩ ⟨Nat.le_of_ble_eq_true rfl, Nat.le_of_ble_eq_true rfl⟩ (bk.recv hK hM rfl rfl) hl.1 rfl (Nat.le_of_ble_eq_true rfl) dX7_howMany_3 hM ?_
    refine lv_istore_n (lv' := [(3, .int (-1)), (0, .ref om), (1, .int n), (2, .int st)]) hx hb dX7_howMany_6 rfl hl (by decide) rfl (fun ls hl => ?_)
    refine lv_iload_n hx hb dX7_howMany_7 rfl (lv_at hl 0 rfl) ?_
    refine lv_if_eq (tgt := 17) hx hb dX7_howMany_8 (by decide) (fun c_8 => ?_) (fun c_8 => ?_)
    ·
      exact absurd c_8 (by decide)
    ·
      refine lv_aload_n hx hb dX7_howMany_11 rfl (lv_at hl 1 rfl) ?_
      refine lv_iload_n hx hb dX7_howMany_12 rfl (lv_at hl 0 rfl) ?_
      refine ctV (rest := []) S hK (c_X7_refuse l G om μ (-1) 1 (by first | assumption | omega | decide) (by first | assumption | omega | decide)) cw_X7_72 rfl ⟨Nat.le_of_ble_eq_true rfl, Nat.le_of_ble_eq_true rfl⟩ ⟨Nat.le_of_ble_eq_true rfl, Nat.le_of_ble_eq_true rfl⟩ (bk.recv hK hM rfl rfl) hl.1 rfl (Nat.le_of_ble_eq_true rfl) dX7_howMany_13 hM hS (fun _ h => h) (fun H locs hPost hz hk hS => ?_)
      have hM := hPost
      have hr : howMany_M μ n st = ((-1), uA μ 0 1 (μ.2.1 0 1 + 1)) := hq3
      refine w_top (v' := .int ((howMany_M μ n st).1)) (congrArg (fun z => Value.int z) (congrArg Prod.fst hr).symm) ?_
      exact hE _ _ _ _ _ _ (kr_i dX7_howMany_16) hS (by decide) (by decide) ⟨(uA μ 0 1 (μ.2.1 0 1 + 1)), hM, (by rw [hr]; exact scr_rf _)⟩
  ·
    refine crV (rest := []) S hK (c_X7_wrongState_3 l G om μ n st (by first | assumption | omega | decide) (by first | assumption | omega | decide) hq1) cw_X7_249 rfl ⟨Nat.le_of_ble_eq_true rfl, Nat.le_of_ble_eq_true rfl⟩ ⟨Nat.le_of_ble_eq_true rfl, Nat.le_of_ble_eq_true rfl⟩ (bk.recv hK hM rfl rfl) hl.1 rfl (Nat.le_of_ble_eq_true rfl) dX7_howMany_3 hM ?_
    refine lv_istore_n (lv' := [(3, .int (-3)), (0, .ref om), (1, .int n), (2, .int st)]) hx hb dX7_howMany_6 rfl hl (by decide) rfl (fun ls hl => ?_)
    refine lv_iload_n hx hb dX7_howMany_7 rfl (lv_at hl 0 rfl) ?_
    refine lv_if_eq (tgt := 17) hx hb dX7_howMany_8 (by decide) (fun c_8 => ?_) (fun c_8 => ?_)
    ·
      exact absurd c_8 (by decide)
    ·
      refine lv_aload_n hx hb dX7_howMany_11 rfl (lv_at hl 1 rfl) ?_
      refine lv_iload_n hx hb dX7_howMany_12 rfl (lv_at hl 0 rfl) ?_
      refine ctV (rest := []) S hK (c_X7_refuse l G om μ (-3) 3 (by first | assumption | omega | decide) (by first | assumption | omega | decide)) cw_X7_72 rfl ⟨Nat.le_of_ble_eq_true rfl, Nat.le_of_ble_eq_true rfl⟩ ⟨Nat.le_of_ble_eq_true rfl, Nat.le_of_ble_eq_true rfl⟩ (bk.recv hK hM rfl rfl) hl.1 rfl (Nat.le_of_ble_eq_true rfl) dX7_howMany_13 hM hS (fun _ h => h) (fun H locs hPost hz hk hS => ?_)
      have hM := hPost
      have hr : howMany_M μ n st = ((-3), uA μ 0 3 (μ.2.1 0 3 + 1)) := hq3
      refine w_top (v' := .int ((howMany_M μ n st).1)) (congrArg (fun z => Value.int z) (congrArg Prod.fst hr).symm) ?_
      exact hE _ _ _ _ _ _ (kr_i dX7_howMany_16) hS (by decide) (by decide) ⟨(uA μ 0 3 (μ.2.1 0 3 + 1)), hM, (by rw [hr]; exact scr_rf _)⟩
  ·
    have hN := mn1 h0 hI hvn
    have hN2 := mn2 h0 hI hvn
    obtain ⟨hn6, hp8, hl12, hpf, hll⟩ := id hN
    have hsh := shl_le h10
    have hqe := (nl_e hI.1 hvn h10 hvs).2
    refine crV (rest := []) S hK (c_X7_wrongState_0 l G om μ (nI vn) (nI vs) (by first | assumption | omega | decide) (by first | assumption | omega | decide) hq1) cw_X7_249 rfl ⟨Nat.le_of_ble_eq_true rfl, Nat.le_of_ble_eq_true rfl⟩ ⟨Nat.le_of_ble_eq_true rfl, Nat.le_of_ble_eq_true rfl⟩ (bk.recv hK hM rfl rfl) hl.1 rfl (Nat.le_of_ble_eq_true rfl) dX7_howMany_3 hM ?_
    refine lv_istore_n (lv' := [(3, .int (nI 0)), (0, .ref om), (1, .int (nI vn)), (2, .int (nI vs))]) hx hb dX7_howMany_6 rfl hl (by decide) rfl (fun ls hl => ?_)
    refine lv_iload_n hx hb dX7_howMany_7 rfl (lv_at hl 0 rfl) ?_
    refine n_if_eq (tgt := 17) hx hb dX7_howMany_8 (by decide) (by decide) (fun c_8 => ?_) (fun c_8 => ?_)
    ·
      refine lv_aload_n hx hb dX7_howMany_17 rfl (lv_at hl 1 rfl) ?_
      refine lv_iload_n hx hb dX7_howMany_18 rfl (lv_at hl 2 rfl) ?_
      refine ctVv (rest := []) S hK (c_X7_findWays l G om μ vn hN hN2) cw_X7_252 rfl ⟨Nat.le_of_ble_eq_true rfl, Nat.le_of_ble_eq_true rfl⟩ ⟨Nat.le_of_ble_eq_true rfl, Nat.le_of_ble_eq_true rfl⟩ (bk.recv hK hM rfl rfl) hl.1 rfl (Nat.le_of_ble_eq_true rfl) dX7_howMany_19 hM hS (fun _ h => h) (fun H locs hPost hz hk hS => ?_)
      obtain ⟨g19, hM, hq19⟩ := hPost
      refine lv_aload_n hx hb dX7_howMany_22 rfl (lv_at hl 1 rfl) ?_
      refine lv_iload_n hx hb dX7_howMany_23 rfl (lv_at hl 2 rfl) ?_
      refine lv_iload_n hx hb dX7_howMany_24 rfl (lv_at hl 3 rfl) ?_
      refine ctV (v := .long (lN (suV (g19) (psV μ vn vs) (μ.2.1 7 vn) (1 <<< μ.2.1 8 vn)))) (rest := []) S hK (c_X7_howOf l G om (uR μ 31 g19) vn vs hN (by omega) (by show fcM μ vn ≤ 31; omega) (fun k hk s hs => by
        show g19 (32 * k + s) ≤ 1024
        rw [hq19 k hk s hs]
        exact wy_lt μ vn k s)) cw_X7_259 rfl ⟨Nat.le_of_ble_eq_true rfl, Nat.le_of_ble_eq_true rfl⟩ ⟨Nat.le_of_ble_eq_true rfl, Nat.le_of_ble_eq_true rfl⟩ (bk.recv hK hM rfl rfl) hl.1 rfl (Nat.le_of_ble_eq_true rfl) dX7_howMany_25 hM hS (fun _ h => h) (fun H locs hPost hz hk hS => ?_)
      obtain ⟨g25, hM, hq25⟩ := hPost
      have hr : howMany_M μ (nI vn) (nI vs) = (nI (suV g19 (psV μ vn vs) (μ.2.1 7 vn) (1 <<< μ.2.1 8 vn)), μ) := by rw [hqe, howN_e hN hq19]
      refine n_l2i hx hb dX7_howMany_28 ?_
      refine w_top (v' := .int ((howMany_M μ (nI vn) (nI vs)).1)) (show (.int (nI (suV (g19) (psV μ vn vs) (μ.2.1 7 vn) (1 <<< μ.2.1 8 vn))) : Value) = .int ((howMany_M μ (nI vn) (nI vs)).1) from (congrArg (fun z => Value.int z) (congrArg Prod.fst hr).symm)) ?_
      exact hE _ _ _ _ _ _ (kr_i dX7_howMany_29) hS (by decide) (by decide) ⟨(uR (uR μ 31 g19) 30 g25), hM, (by rw [hr]; exact scr_R (scr_R (scr_rf _) (by decide)) (by decide))⟩
    ·
      exact absurd c_8 (by decide)
  ·
    exact absurd hI.1 hno
