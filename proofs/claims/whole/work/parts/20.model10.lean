
/-! walks: the reference reads BOARDS -/
/-- the same but for one part's own places, and what is only written on the way -/
def pth (p : Nat) (σ μ : Sx) : Prop := (∀ k, k < 23 → σ.1 k = μ.1 k) ∧ (∀ k, k < 23 → (k = 0 ∨ 4 < k) → σ.2.1 k = μ.2.1 k) ∧ (∀ i, ¬ i = p → σ.2.1 1 i = μ.2.1 1 i ∧ σ.2.1 2 i = μ.2.1 2 i ∧ σ.2.1 3 i = μ.2.1 3 i) ∧ ∀ i, ¬ (20 * p ≤ i ∧ i < 20 * p + 20) → σ.2.1 4 i = μ.2.1 4 i
theorem pth_rf (p : Nat) (μ : Sx) : pth p μ μ := ⟨fun _ _ => rfl, fun _ _ _ => rfl, fun _ _ => ⟨rfl, rfl, rfl⟩, fun _ _ => rfl⟩
theorem pth_S {p : Nat} {σ μ : Sx} {k v : Nat} (h : pth p σ μ) (hk : 23 ≤ k) : pth p (uS σ k v) μ := ⟨fun j hj => by
  show (if j = k then v else σ.1 j) = _
  rw [if_neg (by omega)]
  exact h.1 j hj, h.2⟩
theorem pth_A {p : Nat} {σ μ : Sx} {k v : Nat} (h : pth p σ μ) (hk : k = 1 ∨ k = 2 ∨ k = 3) : pth p (uA σ k p v) μ := by
  have e : ∀ j, ¬ j = k → (uA σ k p v).2.1 j = σ.2.1 j := fun j hj => by
    show (if j = k then _ else σ.2.1 j) = _
    rw [if_neg hj]
  have e2 : ∀ j i, ¬ i = p → (uA σ k p v).2.1 j i = σ.2.1 j i := fun j i hi => by
    by_cases q : j = k
    · show (if j = k then uN (σ.2.1 k) p v else σ.2.1 j) i = _
      rw [if_pos q, uN_n hi, q]
    · rw [e j q]
  refine ⟨h.1, fun j hj hj2 => ?_, fun i hi => ?_, fun i hi => ?_⟩
  · rw [e j (by omega)]
    exact h.2.1 j hj hj2
  · rw [e2 1 i hi, e2 2 i hi, e2 3 i hi]
    exact h.2.2.1 i hi
  · rw [e 4 (by omega)]
    exact h.2.2.2 i hi
theorem pth_4 {p : Nat} {σ μ : Sx} {i v : Nat} (h : pth p σ μ) (hi : 20 * p ≤ i ∧ i < 20 * p + 20) : pth p (uA σ 4 i v) μ := by
  have e : ∀ j, ¬ j = 4 → (uA σ 4 i v).2.1 j = σ.2.1 j := fun j hj => by
    show (if j = 4 then _ else σ.2.1 j) = _
    rw [if_neg hj]
  refine ⟨h.1, fun j hj hj2 => ?_, fun q hq => ?_, fun q hq => ?_⟩
  · rw [e j (by omega)]
    exact h.2.1 j hj hj2
  · rw [e 1 (by decide), e 2 (by decide), e 3 (by decide)]
    exact h.2.2.1 q hq
  · show uN (σ.2.1 4) i v q = _
    rw [uN_n (by intro z; subst z; exact hq hi)]
    exact h.2.2.2 q hq
theorem aA_s (σ : Sx) (k i v : Nat) : (uA σ k i v).2.1 k i = v := by
  show (if k = k then uN (σ.2.1 k) i v else σ.2.1 k) i = v
  rw [if_pos rfl, uN_s]
theorem aA_n {σ : Sx} {k j i v : Nat} (h : ¬ j = k) : (uA σ k i v).2.1 j = σ.2.1 j := by
  show (if j = k then _ else σ.2.1 j) = _
  rw [if_neg h]
theorem aA_i {σ : Sx} {k i j v : Nat} (h : ¬ j = i) : (uA σ k i v).2.1 k j = σ.2.1 k j := by
  show (if k = k then uN (σ.2.1 k) i v else σ.2.1 k) j = _
  rw [if_pos rfl, uN_n h]
theorem aA_e {σ : Sx} {k i j v : Nat} : (uA σ k i v).2.1 k j = if j = i then v else σ.2.1 k j := by
  by_cases h : j = i
  · rw [if_pos h, h, aA_s]
  · rw [if_neg h, aA_i h]
theorem clZ_1 (σ : Sx) (p : Nat) : ∀ k, (clZ σ p k).1 = σ.1
  | 0 => rfl
  | k + 1 => clZ_1 σ p k
theorem clZ_2 (σ : Sx) (p : Nat) {j : Nat} (hj : ¬ j = 4) : ∀ k, (clZ σ p k).2.1 j = σ.2.1 j
  | 0 => rfl
  | k + 1 => by
    show (uA (clZ σ p k) 4 (20 * p + k) 0).2.1 j = _
    rw [aA_n hj]
    exact clZ_2 σ p hj k
theorem clZ_4 (σ : Sx) (p i : Nat) : ∀ k, (clZ σ p k).2.1 4 i = if 20 * p ≤ i ∧ i < 20 * p + k then 0 else σ.2.1 4 i
  | 0 => by
    show σ.2.1 4 i = _
    rw [if_neg (by omega)]
  | k + 1 => by
    show (uA (clZ σ p k) 4 (20 * p + k) 0).2.1 4 i = _
    rw [aA_e, clZ_4 σ p i k]
    by_cases h : i = 20 * p + k
    · rw [if_pos h, if_pos (by omega)]
    · rw [if_neg h]
      by_cases h2 : 20 * p ≤ i ∧ i < 20 * p + k
      · rw [if_pos h2, if_pos (by omega)]
      · rw [if_neg h2, if_neg (by omega)]
/-- a fresh board's state -/
abbrev bgS (μ : Sx) (p w h f : Nat) : Sx := clZ (uA (uA (uA μ 1 p w) 2 p h) 3 p f) p 20
theorem bg_pth (μ : Sx) (p w h f : Nat) : pth p (bgS μ p w h f) μ := by
  have h0 : pth p (uA (uA (uA μ 1 p w) 2 p h) 3 p f) μ := pth_A (pth_A (pth_A (pth_rf p μ) (by decide)) (by decide)) (by decide)
  refine ⟨fun k hk => by rw [clZ_1]; exact h0.1 k hk, fun k hk hk2 => by rw [clZ_2 _ _ (by omega)]; exact h0.2.1 k hk hk2, fun i hi => ?_, fun i hi => ?_⟩
  · rw [clZ_2 _ _ (by decide), clZ_2 _ _ (by decide), clZ_2 _ _ (by decide)]
    exact h0.2.2.1 i hi
  · rw [clZ_4, if_neg hi]
    exact h0.2.2.2 i hi
theorem bg_1 (μ : Sx) (p w h f : Nat) : (bgS μ p w h f).2.1 1 p = w := by rw [clZ_2 _ _ (by decide), aA_n (by decide), aA_n (by decide), aA_s]
theorem bg_2 (μ : Sx) (p w h f : Nat) : (bgS μ p w h f).2.1 2 p = h := by rw [clZ_2 _ _ (by decide), aA_n (by decide), aA_s]
theorem bg_3 (μ : Sx) (p w h f : Nat) : (bgS μ p w h f).2.1 3 p = f := by rw [clZ_2 _ _ (by decide), aA_s]
theorem bg_4 (μ : Sx) (p w h f : Nat) {k : Nat} (hk : k < 20) : (bgS μ p w h f).2.1 4 (20 * p + k) = 0 := by rw [clZ_4, if_pos (by omega)]
/-- what a sign stands for -/
def cdT (c : Nat) : Nat := if c = 35 then 0 else if c = 46 then 1 else 10 + c - 48
def bdC (c sn : Nat) : Bool := !decide (c = 35) && (!decide (c = 46) && (decide (c < 48) || (decide (52 < c) || sn.testBit (c - 48))))
def seN (c sn : Nat) : Nat := if 48 ≤ c ∧ c ≤ 52 then sn ||| 1 <<< (c - 48) else sn
def rdL (t : Nat → Nat) : Nat → Nat → Nat → Nat → Nat → Nat → Nat × Option (Nat × Nat × Nat × Nat)
  | 0, q, sn, x, y, w => (q, some (sn, x, y, w))
  | k + 1, q, sn, x, y, w => if t q = 47 then (if x = 0 ∨ (0 < y ∧ x < w) ∨ y = 3 then (q, none) else rdL t k (q + 1) sn 0 (y + 1) x)
      else if x = 5 ∨ (0 < y ∧ x = w) ∨ bdC (t q) sn = true then (q, none) else rdL t k (q + 1) (seN (t q) sn) (x + 1) y w
def tro (s : Nat) : Nat → Nat → Nat
  | 0, i => i
  | k + 1, i => if s.testBit i then tro s k (i + 1) else i
/-- where the reading ends; WIDE, HIGH and FACES if it was well -/
def rdE : Nat × Option (Nat × Nat × Nat × Nat) → Nat × Option (Nat × Nat × Nat)
  | (q, none) => (q, none)
  | (q, some (sn, x, y, w)) => if x = 0 ∨ (0 < y ∧ x < w) then (q, none) else if sn = 1 <<< tro sn 5 0 - 1 then (q, some (x, y + 1, tro sn 5 0)) else (q, none)
abbrev rdF (μ : Sx) : Nat × Option (Nat × Nat × Nat) := rdE (rdL (μ.2.1 21) (μ.1 22) 0 0 0 0 0)
def rdc (t : Nat → Nat) (w x y k : Nat) : Nat := if (k / 5 < y ∧ k % 5 < w) ∨ (k / 5 = y ∧ k % 5 < x) then cdT (t (k / 5 * (w + 1) + k % 5)) else 0
theorem rdc_0 (t : Nat → Nat) (w k : Nat) : rdc t w 0 0 k = 0 := by unfold rdc; rw [if_neg (by omega)]
theorem rdc_l {t : Nat → Nat} {w x y k : Nat} (h : 0 < y → x = w) : rdc t w x y k = rdc t x 0 (y + 1) k := by
  unfold rdc
  by_cases h0 : y = 0
  · subst h0
    by_cases hk : k / 5 = 0 ∧ k % 5 < x
    · rw [if_pos (Or.inr hk), if_pos (Or.inl ⟨by omega, hk.2⟩), hk.1, Nat.zero_mul, Nat.zero_mul]
    · rw [if_neg (by omega), if_neg (by omega)]
  · have e := h (by omega)
    subst e
    by_cases hk : k / 5 < y + 1 ∧ k % 5 < x
    · rw [if_pos (by omega), if_pos (by omega)]
    · rw [if_neg (by omega), if_neg (by omega)]
theorem rdc_c {t : Nat → Nat} {w x y k q : Nat} (hx : x < 5) (hw : 0 < y → x < w) (hq : q = y * (w + 1) + x) : rdc t w (x + 1) y k = if k = 5 * y + x then cdT (t q) else rdc t w x y k := by
  unfold rdc
  by_cases hk : k = 5 * y + x
  · have e1 : k / 5 = y := by omega
    have e2 : k % 5 = x := by omega
    rw [if_pos hk, if_pos (Or.inr ⟨e1, by omega⟩), e1, e2, hq]
  · rw [if_neg hk]
    by_cases hc : (k / 5 < y ∧ k % 5 < w) ∨ (k / 5 = y ∧ k % 5 < x)
    · rw [if_pos hc, if_pos (by omega)]
    · rw [if_neg hc, if_neg (by omega)]
theorem rd_q1 {q y w x : Nat} (h : q = y * (w + 1) + x) (hx : 0 < y → x = w) : q + 1 = (y + 1) * (x + 1) + 0 := by
  by_cases h0 : y = 0
  · subst h0
    omega
  · have e := hx (by omega)
    subst e
    rw [h, Nat.succ_mul]
    omega
theorem seN_lt {c sn : Nat} (h : sn < 32) : seN c sn < 32 := by
  unfold seN
  by_cases hc : 48 ≤ c ∧ c ≤ 52
  · rw [if_pos hc]
    refine Nat.or_lt_two_pow (n := 5) h ?_
    rw [Nat.one_shiftLeft]
    exact Nat.pow_lt_pow_right (by decide) (by omega)
  · rw [if_neg hc]
    exact h
section RD
variable {t : Nat → Nat} {k q sn x y w n : Nat}
theorem rd_s (hk : q < n) (h : t q = 47) (hn : ¬ (x = 0 ∨ (0 < y ∧ x < w) ∨ y = 3)) : rdL t (n - q) q sn x y w = rdL t (n - (q + 1)) (q + 1) sn 0 (y + 1) x := by
  rw [show n - q = (n - (q + 1)) + 1 from by omega]
  show (if t q = 47 then (if x = 0 ∨ (0 < y ∧ x < w) ∨ y = 3 then _ else _) else _) = _
  rw [if_pos h, if_neg hn]
theorem rd_sf (hk : q < n) (h : t q = 47) (hn : x = 0 ∨ (0 < y ∧ x < w) ∨ y = 3) : rdL t (n - q) q sn x y w = (q, none) := by
  rw [show n - q = (n - (q + 1)) + 1 from by omega]
  show (if t q = 47 then (if x = 0 ∨ (0 < y ∧ x < w) ∨ y = 3 then _ else _) else _) = _
  rw [if_pos h, if_pos hn]
theorem rd_c (hk : q < n) (h : ¬ t q = 47) (hn : ¬ (x = 5 ∨ (0 < y ∧ x = w) ∨ bdC (t q) sn = true)) : rdL t (n - q) q sn x y w = rdL t (n - (q + 1)) (q + 1) (seN (t q) sn) (x + 1) y w := by
  rw [show n - q = (n - (q + 1)) + 1 from by omega]
  show (if t q = 47 then _ else if x = 5 ∨ (0 < y ∧ x = w) ∨ bdC (t q) sn = true then _ else _) = _
  rw [if_neg h, if_neg hn]
theorem rd_cf (hk : q < n) (h : ¬ t q = 47) (hn : x = 5 ∨ (0 < y ∧ x = w) ∨ bdC (t q) sn = true) : rdL t (n - q) q sn x y w = (q, none) := by
  rw [show n - q = (n - (q + 1)) + 1 from by omega]
  show (if t q = 47 then _ else if x = 5 ∨ (0 < y ∧ x = w) ∨ bdC (t q) sn = true then _ else _) = _
  rw [if_neg h, if_pos hn]
theorem rd_e (hk : ¬ q < n) : rdL t (n - q) q sn x y w = (q, some (sn, x, y, w)) := by
  rw [show n - q = 0 from by omega]
  rfl
end RD
theorem bdC_1 {c sn : Nat} (h : c = 35 ∨ c = 46) : ¬ bdC c sn = true := by
  unfold bdC
  rcases h with h | h
  · rw [h]
    simp
  · rw [h]
    simp
theorem bdC_2 {c sn : Nat} (h1 : 48 ≤ c) (h2 : c ≤ 52) (hs : sn.testBit (c - 48) = false) : ¬ bdC c sn = true := by
  unfold bdC
  rw [hs, decide_eq_false (p := c < 48) (by omega), decide_eq_false (p := 52 < c) (by omega)]
  simp
theorem bdC_3 {c sn : Nat} (h35 : ¬ c = 35) (h46 : ¬ c = 46) (h : c < 48 ∨ 52 < c ∨ sn.testBit (c - 48) = true) : bdC c sn = true := by
  unfold bdC
  rw [decide_eq_false h35, decide_eq_false h46]
  simp only [Bool.not_false, Bool.true_and, Bool.or_eq_true, decide_eq_true_eq]
  exact h
theorem tro_t {s k i : Nat} (h : s.testBit i = true) : tro s (k + 1) i = tro s k (i + 1) := by
  show (if s.testBit i = true then _ else _) = _
  rw [if_pos h]
theorem tro_f {s k i : Nat} (h : s.testBit i = false) : tro s (k + 1) i = i := by
  show (if s.testBit i = true then _ else _) = _
  rw [if_neg (by rw [h]; decide)]
/-- what a reading leaves behind -/
def RBp (μ : Sx) (p : Nat) (σ : Sx) : Prop := pth p σ μ ∧ σ.1 23 = (rdF μ).1 ∧ ∀ w h f, (rdF μ).2 = some (w, h, f) → σ.2.1 1 p = w ∧ σ.2.1 2 p = h ∧ σ.2.1 3 p = f ∧ ∀ k, k < 20 → σ.2.1 4 (20 * p + k) = rdc (μ.2.1 21) w 0 h k

set_option maxHeartbeats 1000000 in
set_option maxRecDepth 100000 in
theorem c_X7_readsBoard (l : Launch) (G : Gt) (om : Nat) (μ : Sx) (p : Nat) (hp : p < 25) (hIt : MIt μ) : Ct l G yX7_readsBoard cX7_readsBoard 6 ((some .boolean)) 1 0 0 [.ref om, .int (nI p)] (fun H => bk G om (mL G om μ) H) (some (.int (b2i ((rdF μ).2.isSome)))) (fun H => ∃ σ : Sx, bk G om (mL G om σ) H ∧ RBp μ p σ) (fun q => om ≤ q ∧ q < om + 20) := by
  refine ct_entry [(0, .ref om), (1, .int (nI p))] (by decide) (Nat.le_of_ble_eq_true rfl) rfl ?_
  intro zp ze zs zm za zb zt zc Q S hK hPre hin hE ls hl
  have hx := S.1
  have hb := S.2.1
  have hM := hPre
  have hS : va_S (fun q => om ≤ q ∧ q < om + 20) zs.heap zs.heap [] := va_S.rf
  have ht40 := hIt.1
  refine lv_aload_n hx hb dX7_readsBoard_0 rfl (lv_at hl 0 rfl) ?_
  refine lv_iload_n hx hb dX7_readsBoard_1 rfl (lv_at hl 1 rfl) ?_
  refine lv_iconst (v := nI 0) hx hb dX7_readsBoard_2 (by decide) ?_
  refine lv_iconst (v := nI 0) hx hb dX7_readsBoard_3 (by decide) ?_
  refine lv_iconst (v := nI 0) hx hb dX7_readsBoard_4 (by decide) ?_
  refine ctVv (rest := []) S hK (c_X7_begins l G om μ p 0 0 0 (by first | assumption | omega | decide)) cw_X7_89 rfl ⟨Nat.le_of_ble_eq_true rfl, Nat.le_of_ble_eq_true rfl⟩ ⟨Nat.le_of_ble_eq_true rfl, Nat.le_of_ble_eq_true rfl⟩ (bk.recv hK hM rfl rfl) hl.1 rfl (Nat.le_of_ble_eq_true rfl) dX7_readsBoard_5 hM hS (fun _ h => h) (fun H locs hPost hz hk hS => ?_)
  have hM := hPost
  refine lv_iconst (v := nI 0) hx hb dX7_readsBoard_8 (by decide) ?_
  refine lv_istore_n (lv' := [(2, .int (nI 0)), (0, .ref om), (1, .int (nI p))]) hx hb dX7_readsBoard_9 rfl hl (by decide) rfl (fun ls hl => ?_)
  refine lv_iconst (v := nI 0) hx hb dX7_readsBoard_10 (by decide) ?_
  refine lv_istore_n (lv' := [(3, .int (nI 0)), (2, .int (nI 0)), (0, .ref om), (1, .int (nI p))]) hx hb dX7_readsBoard_11 rfl hl (by decide) rfl (fun ls hl => ?_)
  refine lv_iconst (v := nI 0) hx hb dX7_readsBoard_12 (by decide) ?_
  refine lv_istore (lv' := [(4, .int (nI 0)), (3, .int (nI 0)), (2, .int (nI 0)), (0, .ref om), (1, .int (nI p))]) hx hb dX7_readsBoard_13 hl (by decide) rfl (fun ls hl => ?_)
  refine lv_aload_n hx hb dX7_readsBoard_15 rfl (lv_at hl 3 rfl) ?_
  refine lv_iconst (v := nI 0) hx hb dX7_readsBoard_16 (by decide) ?_
  refine kp (C := RX7) (T := TX7) (N := 32) (ci := 5) (k := 23) (ty := .int) tyX7 tyX7_ok nmX7 S hK rfl inX7 (by decide) q_753 rfl dX7_readsBoard_17 rfl rfl rfl hM rfl (Nat.le_of_ble_eq_true rfl) (L1 := mL G om (uS (clZ (uA (uA (uA μ 1 p 0) 2 p 0) 3 p 0) p 20) 23 0)) rfl hS (by first | exact ⟨by omega, by omega⟩ | omega) (fun H locs hM hS hz hk => ?_)
  have L20 : ∀ (fu : Nat), ∀ (vq : Nat) (vs : Nat) (vx : Nat) (vy : Nat) (vw : Nat) (ν : Sx), (pth p ν μ) → (ν.1 23 = vq) → (ν.2.1 1 p = vw) → (ν.2.1 3 p = 0) → (∀ k, k < 20 → ν.2.1 4 (20 * p + k) = rdc (μ.2.1 21) vw vx vy k) → (vq = vy * (vw + 1) + vx) → (vx ≤ 5) → (vy ≤ 3) → (vw ≤ 5) → (0 < vy → vx ≤ vw) → (vs < 32) → (vq ≤ μ.1 22) → (rdL (μ.2.1 21) (μ.1 22) 0 0 0 0 0 = rdL (μ.2.1 21) (μ.1 22 - vq) vq vs vx vy vw) → μ.1 22 - vq < fu → ∀ (H : Heap) (locs : List Loc), bk G om (mL G om ν) H → va_S (fun q => om ≤ q ∧ q < om + 20) zs.heap H locs → ∀ ls : Array Slot, lv_has ls 6 [(0, .ref om), (1, .int (nI p)), (2, .int (nI vs)), (3, .int (nI vx)), (4, .int (nI vy))] → W zp l ze (rL 1 0 0) zs zm za zb zt zc H locs 0 0 Q (F0 zm 20 ls []) := by
    intro fu
    induction fu with
    | zero =>
      intro vq vs vx vy vw ν hP h23 hw hf0 hc hq hx5 hy3 hw5 hxw hs32 hqn hres hmu H locs hM hS ls hl
      exact absurd hmu (Nat.not_lt_zero _)
    | succ fu ih20 =>
      intro vq vs vx vy vw ν hP h23 hw hf0 hc hq hx5 hy3 hw5 hxw hs32 hqn hres hmu H locs hM hS ls hl
      have h22 : ν.1 22 = μ.1 22 := hP.1 22 (by decide)
      have h21 : ν.2.1 21 = μ.2.1 21 := hP.2.1 21 (by decide) (by decide)
      refine lv_aload_n hx hb dX7_readsBoard_20 rfl (lv_at hl 0 rfl) ?_
      refine kg (C := RX7) (T := TX7) (N := 32) (ci := 5) (k := 23) (v := .int (nI (ν.1 23))) S hK rfl inX7 (by decide) q_753 dX7_readsBoard_21 hM rfl rfl ?_
      refine lv_aload_n hx hb dX7_readsBoard_24 rfl (lv_at hl 0 rfl) ?_
      refine kg (C := RX7) (T := TX7) (N := 32) (ci := 5) (k := 22) (v := .int (nI (ν.1 22))) S hK rfl inX7 (by decide) q_752 dX7_readsBoard_25 hM rfl rfl ?_
      refine n_icmp_ge (tgt := 238) hx hb dX7_readsBoard_28 (by decide) (by omega) (by omega) (fun c_28 => ?_) (fun c_28 => ?_)
      ·
        refine lv_iload_n hx hb dX7_readsBoard_238 rfl (lv_at hl 3 rfl) ?_
        refine n_if_eq (tgt := 257) hx hb dX7_readsBoard_239 (by decide) (by omega) (fun c_239 => ?_) (fun c_239 => ?_)
        ·
          refine lv_iconst (v := nI 0) hx hb dX7_readsBoard_257 (by decide) ?_
          have hr : rdF μ = (vq, none) := by
            show rdE (rdL (μ.2.1 21) (μ.1 22) 0 0 0 0 0) = _
            rw [hres, rd_e (by omega)]
            show (if vx = 0 ∨ (0 < vy ∧ vx < vw) then _ else _) = _
            rw [if_pos (by omega)]
          refine w_top (v' := .int (b2i ((rdF μ).2.isSome))) (bz_f (show ((rdF μ).2.isSome) = false from (by rw [hr]; rfl))) ?_
          exact hE _ _ _ _ _ _ (kr_z dX7_readsBoard_258) hS (by decide) (by decide) ⟨ν, hM, ⟨hP, by rw [hr]; exact h23, fun a b c e => by rw [hr] at e; cases e⟩⟩
        ·
          refine lv_iload hx hb dX7_readsBoard_242 (lv_at hl 4 rfl) ?_
          refine n_if_le (tgt := 259) hx hb dX7_readsBoard_244 (by decide) (by omega) (fun c_244 => ?_) (fun c_244 => ?_)
          ·
            have hr0 : rdF μ = (if vs = 1 <<< tro vs 5 0 - 1 then (vq, some (vx, vy + 1, tro vs 5 0)) else (vq, none)) := by
              show rdE (rdL (μ.2.1 21) (μ.1 22) 0 0 0 0 0) = _
              rw [hres, rd_e (by omega)]
              show (if vx = 0 ∨ (0 < vy ∧ vx < vw) then _ else _) = _
              rw [if_neg (by omega)]
            have hxw9 : 0 < vy → vx = vw := fun z => by omega
            refine lv_aload_n hx hb dX7_readsBoard_259 rfl (lv_at hl 0 rfl) ?_
            refine kg (C := RX7) (T := TX7) (N := 32) (ci := 5) (k := 1) (v := .ref (om + 2)) S hK rfl inX7 (by decide) q_731 dX7_readsBoard_260 hM rfl rfl ?_
            refine lv_iload_n hx hb dX7_readsBoard_263 rfl (lv_at hl 1 rfl) ?_
            refine lv_iload_n hx hb dX7_readsBoard_264 rfl (lv_at hl 3 rfl) ?_
            refine kis S hK dX7_readsBoard_265 2 hM rfl (by decide) rfl (by omega) rfl (L1 := mL G om (uA ν 1 p vx)) rfl hS (by first | exact ⟨by omega, by omega⟩ | omega) (fun H locs hM hS hz hk => ?_)
            refine lv_aload_n hx hb dX7_readsBoard_266 rfl (lv_at hl 0 rfl) ?_
            refine kg (C := RX7) (T := TX7) (N := 32) (ci := 5) (k := 2) (v := .ref (om + 3)) S hK rfl inX7 (by decide) q_732 dX7_readsBoard_267 hM rfl rfl ?_
            refine lv_iload_n hx hb dX7_readsBoard_270 rfl (lv_at hl 1 rfl) ?_
            refine lv_iload hx hb dX7_readsBoard_271 (lv_at hl 4 rfl) ?_
            refine lv_iconst (v := nI 1) hx hb dX7_readsBoard_273 (by decide) ?_
            refine n_iadd hx hb dX7_readsBoard_274 ?_
            refine kis S hK dX7_readsBoard_275 3 hM rfl (by decide) rfl (by omega) rfl (L1 := mL G om (uA (uA ν 1 p vx) 2 p (vy + 1))) rfl hS (by first | exact ⟨by omega, by omega⟩ | omega) (fun H locs hM hS hz hk => ?_)
            have L276 : ∀ (fu : Nat), ∀ (vf : Nat) (ρ : Sx), (pth p ρ μ) → (ρ.1 23 = vq) → (ρ.2.1 1 p = vx) → (ρ.2.1 2 p = vy + 1) → (ρ.2.1 3 p = vf) → (∀ k, k < 20 → ρ.2.1 4 (20 * p + k) = rdc (μ.2.1 21) vw vx vy k) → (vf ≤ 5) → (tro vs 5 0 = tro vs (5 - vf) vf) → 6 - vf < fu → ∀ (H : Heap) (locs : List Loc), bk G om (mL G om ρ) H → va_S (fun q => om ≤ q ∧ q < om + 20) zs.heap H locs → ∀ ls : Array Slot, lv_has ls 6 [(0, .ref om), (1, .int (nI p)), (2, .int (nI vs))] → W zp l ze (rL 1 0 0) zs zm za zb zt zc H locs 0 0 Q (F0 zm 276 ls []) := by
              intro fu
              induction fu with
              | zero =>
                intro vf ρ gP g23 g1 g2 g3 g4 gf gt hmu H locs hM hS ls hl
                exact absurd hmu (Nat.not_lt_zero _)
              | succ fu ih276 =>
                intro vf ρ gP g23 g1 g2 g3 g4 gf gt hmu H locs hM hS ls hl
                have hsh := shl_le (show ρ.2.1 3 p ≤ 5 by omega)
                refine lv_iload_n hx hb dX7_readsBoard_276 rfl (lv_at hl 2 rfl) ?_
                refine lv_aload_n hx hb dX7_readsBoard_277 rfl (lv_at hl 0 rfl) ?_
                refine kg (C := RX7) (T := TX7) (N := 32) (ci := 5) (k := 3) (v := .ref (om + 4)) S hK rfl inX7 (by decide) q_733 dX7_readsBoard_278 hM rfl rfl ?_
                refine lv_iload_n hx hb dX7_readsBoard_281 rfl (lv_at hl 1 rfl) ?_
                refine kil (f := ρ.2.1 3) S hK dX7_readsBoard_282 4 hM rfl (by decide) rfl (by omega) ?_
                refine n_ishr hx hb dX7_readsBoard_283 (by omega) (by omega) ?_
                refine lv_iconst (v := nI 1) hx hb dX7_readsBoard_284 (by decide) ?_
                refine n_iand hx hb dX7_readsBoard_285 ?_
                refine lv_iconst (v := nI 1) hx hb dX7_readsBoard_286 (by decide) ?_
                refine n_icmp_ne (tgt := 303) hx hb dX7_readsBoard_287 (by decide) (Nat.lt_of_le_of_lt Nat.and_le_right (by decide)) (by decide) (fun c_287 => ?_) (fun c_287 => ?_)
                ·
                  have ht5 : tro vs 5 0 = vf := by
                    rw [gt]
                    by_cases z : vf = 5
                    · rw [z]; rfl
                    · rw [show 5 - vf = (5 - (vf + 1)) + 1 from by omega]
                      refine tro_f ?_
                      rw [← g3]
                      cases hq9 : vs.testBit (ρ.2.1 3 p)
                      · rfl
                      · exact absurd (bit1.mpr hq9) c_287
                  refine lv_iload_n hx hb dX7_readsBoard_303 rfl (lv_at hl 2 rfl) ?_
                  refine lv_iconst (v := nI 1) hx hb dX7_readsBoard_304 (by decide) ?_
                  refine lv_aload_n hx hb dX7_readsBoard_305 rfl (lv_at hl 0 rfl) ?_
                  refine kg (C := RX7) (T := TX7) (N := 32) (ci := 5) (k := 3) (v := .ref (om + 4)) S hK rfl inX7 (by decide) q_733 dX7_readsBoard_306 hM rfl rfl ?_
                  refine lv_iload_n hx hb dX7_readsBoard_309 rfl (lv_at hl 1 rfl) ?_
                  refine kil (f := ρ.2.1 3) S hK dX7_readsBoard_310 4 hM rfl (by decide) rfl (by omega) ?_
                  refine n_ishl hx hb dX7_readsBoard_311 (by omega) ?_
                  refine lv_iconst (v := nI 1) hx hb dX7_readsBoard_312 (by decide) ?_
                  refine n_isub hx hb dX7_readsBoard_313 (by rw [Nat.one_shiftLeft]; exact Nat.one_le_two_pow) ?_
                  refine n_icmp_ne (tgt := 321) hx hb dX7_readsBoard_314 (by decide) (by omega) (by omega) (fun c_314 => ?_) (fun c_314 => ?_)
                  ·
                    have hr : rdF μ = (vq, none) := by rw [hr0, if_neg (by rw [ht5, ← g3]; exact c_314)]
                    refine lv_iconst (v := nI 0) hx hb dX7_readsBoard_321 (by decide) ?_
                    refine w_top (v' := .int (b2i ((rdF μ).2.isSome))) (bz_f (show ((rdF μ).2.isSome) = false from (by rw [hr]; rfl))) ?_
                    exact hE _ _ _ _ _ _ (kr_z dX7_readsBoard_322) hS (by decide) (by decide) ⟨ρ, hM, ⟨gP, by rw [hr]; exact g23, fun a b c e => by rw [hr] at e; cases e⟩⟩
                  ·
                    have hr : rdF μ = (vq, some (vx, vy + 1, vf)) := by rw [hr0, ht5, if_pos (by rw [← g3]; exact c_314)]
                    refine lv_iconst (v := nI 1) hx hb dX7_readsBoard_317 (by decide) ?_
                    refine lv_goto (tgt := 322) hx hb dX7_readsBoard_318 (by decide) ?_
                    refine w_top (v' := .int (b2i ((rdF μ).2.isSome))) (bz_t (show ((rdF μ).2.isSome) = true from (by rw [hr]; rfl))) ?_
                    exact hE _ _ _ _ _ _ (kr_z dX7_readsBoard_322) hS (by decide) (by decide) ⟨ρ, hM, ⟨gP, by rw [hr]; exact g23, fun a b c e => by rw [hr] at e; cases e; exact ⟨g1, g2, g3, fun k hk => (g4 k hk).trans (rdc_l hxw9)⟩⟩⟩
                ·
                  have hbt : vs.testBit vf = true := by rw [← g3]; exact bit1.mp c_287
                  have hv5 : vf < 5 := by
                    rcases Nat.lt_or_ge vf 5 with z | z
                    · exact z
                    · exact absurd (hbt.symm.trans (tb_lt (n := 5) hs32 z)) (by decide)
                  refine lv_aload_n hx hb dX7_readsBoard_290 rfl (lv_at hl 0 rfl) ?_
                  refine kg (C := RX7) (T := TX7) (N := 32) (ci := 5) (k := 3) (v := .ref (om + 4)) S hK rfl inX7 (by decide) q_733 dX7_readsBoard_291 hM rfl rfl ?_
                  refine lv_iload_n hx hb dX7_readsBoard_294 rfl (lv_at hl 1 rfl) ?_
                  refine lv_dup2_11 hx hb dX7_readsBoard_295 rfl rfl ?_
                  refine kil (f := ρ.2.1 3) S hK dX7_readsBoard_296 4 hM rfl (by decide) rfl (by omega) ?_
                  refine lv_iconst (v := nI 1) hx hb dX7_readsBoard_297 (by decide) ?_
                  refine n_iadd hx hb dX7_readsBoard_298 ?_
                  refine kis S hK dX7_readsBoard_299 4 hM rfl (by decide) rfl (by omega) rfl (L1 := mL G om (uA ρ 3 p ((ρ.2.1 3 p) + 1))) rfl hS (by first | exact ⟨by omega, by omega⟩ | omega) (fun H locs hM hS hz hk => ?_)
                  refine lv_goto (tgt := 276) hx hb dX7_readsBoard_300 (by decide) ?_
                  exact ih276 (vf + 1) (uA ρ 3 p ((ρ.2.1 3 p) + 1)) (pth_A gP (by decide)) g23 (by rw [aA_n (by decide)]; exact g1) (by rw [aA_n (by decide)]; exact g2) (by rw [aA_s, g3]) (fun k hk => by rw [aA_n (by decide)]; exact g4 k hk) (by omega) (by rw [gt, show 5 - vf = (5 - (vf + 1)) + 1 from by omega]; exact tro_t hbt) (by omega) _ _ hM hS ls (lv_sub hl [0, 1, 2] rfl)
            exact L276 ((6 - 0) + 1) 0 (uA (uA ν 1 p vx) 2 p (vy + 1)) (pth_A (pth_A hP (by decide)) (by decide)) h23 (by rw [aA_n (by decide), aA_s]) (aA_s _ _ _ _) (by rw [aA_n (by decide), aA_n (by decide)]; exact hf0) (fun k hk => by rw [aA_n (by decide), aA_n (by decide)]; exact hc k hk) (by first | assumption | omega) rfl (Nat.lt_succ_self _) _ _ hM hS ls (lv_sub hl [0, 1, 2] rfl)
          ·
            refine lv_iload_n hx hb dX7_readsBoard_247 rfl (lv_at hl 3 rfl) ?_
            refine lv_aload_n hx hb dX7_readsBoard_248 rfl (lv_at hl 0 rfl) ?_
            refine kg (C := RX7) (T := TX7) (N := 32) (ci := 5) (k := 1) (v := .ref (om + 2)) S hK rfl inX7 (by decide) q_731 dX7_readsBoard_249 hM rfl rfl ?_
            refine lv_iload_n hx hb dX7_readsBoard_252 rfl (lv_at hl 1 rfl) ?_
            refine kil (f := ν.2.1 1) S hK dX7_readsBoard_253 2 hM rfl (by decide) rfl (by omega) ?_
            refine n_icmp_ge (tgt := 259) hx hb dX7_readsBoard_254 (by decide) (by omega) (by omega) (fun c_254 => ?_) (fun c_254 => ?_)
            ·
              have hr0 : rdF μ = (if vs = 1 <<< tro vs 5 0 - 1 then (vq, some (vx, vy + 1, tro vs 5 0)) else (vq, none)) := by
                show rdE (rdL (μ.2.1 21) (μ.1 22) 0 0 0 0 0) = _
                rw [hres, rd_e (by omega)]
                show (if vx = 0 ∨ (0 < vy ∧ vx < vw) then _ else _) = _
                rw [if_neg (by omega)]
              have hxw9 : 0 < vy → vx = vw := fun z => by omega
              refine lv_aload_n hx hb dX7_readsBoard_259 rfl (lv_at hl 0 rfl) ?_
              refine kg (C := RX7) (T := TX7) (N := 32) (ci := 5) (k := 1) (v := .ref (om + 2)) S hK rfl inX7 (by decide) q_731 dX7_readsBoard_260 hM rfl rfl ?_
              refine lv_iload_n hx hb dX7_readsBoard_263 rfl (lv_at hl 1 rfl) ?_
              refine lv_iload_n hx hb dX7_readsBoard_264 rfl (lv_at hl 3 rfl) ?_
              refine kis S hK dX7_readsBoard_265 2 hM rfl (by decide) rfl (by omega) rfl (L1 := mL G om (uA ν 1 p vx)) rfl hS (by first | exact ⟨by omega, by omega⟩ | omega) (fun H locs hM hS hz hk => ?_)
              refine lv_aload_n hx hb dX7_readsBoard_266 rfl (lv_at hl 0 rfl) ?_
              refine kg (C := RX7) (T := TX7) (N := 32) (ci := 5) (k := 2) (v := .ref (om + 3)) S hK rfl inX7 (by decide) q_732 dX7_readsBoard_267 hM rfl rfl ?_
              refine lv_iload_n hx hb dX7_readsBoard_270 rfl (lv_at hl 1 rfl) ?_
              refine lv_iload hx hb dX7_readsBoard_271 (lv_at hl 4 rfl) ?_
              refine lv_iconst (v := nI 1) hx hb dX7_readsBoard_273 (by decide) ?_
              refine n_iadd hx hb dX7_readsBoard_274 ?_
              refine kis S hK dX7_readsBoard_275 3 hM rfl (by decide) rfl (by omega) rfl (L1 := mL G om (uA (uA ν 1 p vx) 2 p (vy + 1))) rfl hS (by first | exact ⟨by omega, by omega⟩ | omega) (fun H locs hM hS hz hk => ?_)
              have L276 : ∀ (fu : Nat), ∀ (vf : Nat) (ρ : Sx), (pth p ρ μ) → (ρ.1 23 = vq) → (ρ.2.1 1 p = vx) → (ρ.2.1 2 p = vy + 1) → (ρ.2.1 3 p = vf) → (∀ k, k < 20 → ρ.2.1 4 (20 * p + k) = rdc (μ.2.1 21) vw vx vy k) → (vf ≤ 5) → (tro vs 5 0 = tro vs (5 - vf) vf) → 6 - vf < fu → ∀ (H : Heap) (locs : List Loc), bk G om (mL G om ρ) H → va_S (fun q => om ≤ q ∧ q < om + 20) zs.heap H locs → ∀ ls : Array Slot, lv_has ls 6 [(0, .ref om), (1, .int (nI p)), (2, .int (nI vs))] → W zp l ze (rL 1 0 0) zs zm za zb zt zc H locs 0 0 Q (F0 zm 276 ls []) := by
                intro fu
                induction fu with
                | zero =>
                  intro vf ρ gP g23 g1 g2 g3 g4 gf gt hmu H locs hM hS ls hl
                  exact absurd hmu (Nat.not_lt_zero _)
                | succ fu ih276 =>
                  intro vf ρ gP g23 g1 g2 g3 g4 gf gt hmu H locs hM hS ls hl
                  have hsh := shl_le (show ρ.2.1 3 p ≤ 5 by omega)
                  refine lv_iload_n hx hb dX7_readsBoard_276 rfl (lv_at hl 2 rfl) ?_
                  refine lv_aload_n hx hb dX7_readsBoard_277 rfl (lv_at hl 0 rfl) ?_
                  refine kg (C := RX7) (T := TX7) (N := 32) (ci := 5) (k := 3) (v := .ref (om + 4)) S hK rfl inX7 (by decide) q_733 dX7_readsBoard_278 hM rfl rfl ?_
                  refine lv_iload_n hx hb dX7_readsBoard_281 rfl (lv_at hl 1 rfl) ?_
                  refine kil (f := ρ.2.1 3) S hK dX7_readsBoard_282 4 hM rfl (by decide) rfl (by omega) ?_
                  refine n_ishr hx hb dX7_readsBoard_283 (by omega) (by omega) ?_
                  refine lv_iconst (v := nI 1) hx hb dX7_readsBoard_284 (by decide) ?_
                  refine n_iand hx hb dX7_readsBoard_285 ?_
                  refine lv_iconst (v := nI 1) hx hb dX7_readsBoard_286 (by decide) ?_
                  refine n_icmp_ne (tgt := 303) hx hb dX7_readsBoard_287 (by decide) (Nat.lt_of_le_of_lt Nat.and_le_right (by decide)) (by decide) (fun c_287 => ?_) (fun c_287 => ?_)
                  ·
                    have ht5 : tro vs 5 0 = vf := by
                      rw [gt]
                      by_cases z : vf = 5
                      · rw [z]; rfl
                      · rw [show 5 - vf = (5 - (vf + 1)) + 1 from by omega]
                        refine tro_f ?_
                        rw [← g3]
                        cases hq9 : vs.testBit (ρ.2.1 3 p)
                        · rfl
                        · exact absurd (bit1.mpr hq9) c_287
                    refine lv_iload_n hx hb dX7_readsBoard_303 rfl (lv_at hl 2 rfl) ?_
                    refine lv_iconst (v := nI 1) hx hb dX7_readsBoard_304 (by decide) ?_
                    refine lv_aload_n hx hb dX7_readsBoard_305 rfl (lv_at hl 0 rfl) ?_
                    refine kg (C := RX7) (T := TX7) (N := 32) (ci := 5) (k := 3) (v := .ref (om + 4)) S hK rfl inX7 (by decide) q_733 dX7_readsBoard_306 hM rfl rfl ?_
                    refine lv_iload_n hx hb dX7_readsBoard_309 rfl (lv_at hl 1 rfl) ?_
                    refine kil (f := ρ.2.1 3) S hK dX7_readsBoard_310 4 hM rfl (by decide) rfl (by omega) ?_
                    refine n_ishl hx hb dX7_readsBoard_311 (by omega) ?_
                    refine lv_iconst (v := nI 1) hx hb dX7_readsBoard_312 (by decide) ?_
                    refine n_isub hx hb dX7_readsBoard_313 (by rw [Nat.one_shiftLeft]; exact Nat.one_le_two_pow) ?_
                    refine n_icmp_ne (tgt := 321) hx hb dX7_readsBoard_314 (by decide) (by omega) (by omega) (fun c_314 => ?_) (fun c_314 => ?_)
                    ·
                      have hr : rdF μ = (vq, none) := by rw [hr0, if_neg (by rw [ht5, ← g3]; exact c_314)]
                      refine lv_iconst (v := nI 0) hx hb dX7_readsBoard_321 (by decide) ?_
                      refine w_top (v' := .int (b2i ((rdF μ).2.isSome))) (bz_f (show ((rdF μ).2.isSome) = false from (by rw [hr]; rfl))) ?_
                      exact hE _ _ _ _ _ _ (kr_z dX7_readsBoard_322) hS (by decide) (by decide) ⟨ρ, hM, ⟨gP, by rw [hr]; exact g23, fun a b c e => by rw [hr] at e; cases e⟩⟩
                    ·
                      have hr : rdF μ = (vq, some (vx, vy + 1, vf)) := by rw [hr0, ht5, if_pos (by rw [← g3]; exact c_314)]
                      refine lv_iconst (v := nI 1) hx hb dX7_readsBoard_317 (by decide) ?_
                      refine lv_goto (tgt := 322) hx hb dX7_readsBoard_318 (by decide) ?_
                      refine w_top (v' := .int (b2i ((rdF μ).2.isSome))) (bz_t (show ((rdF μ).2.isSome) = true from (by rw [hr]; rfl))) ?_
                      exact hE _ _ _ _ _ _ (kr_z dX7_readsBoard_322) hS (by decide) (by decide) ⟨ρ, hM, ⟨gP, by rw [hr]; exact g23, fun a b c e => by rw [hr] at e; cases e; exact ⟨g1, g2, g3, fun k hk => (g4 k hk).trans (rdc_l hxw9)⟩⟩⟩
                  ·
                    have hbt : vs.testBit vf = true := by rw [← g3]; exact bit1.mp c_287
                    have hv5 : vf < 5 := by
                      rcases Nat.lt_or_ge vf 5 with z | z
                      · exact z
                      · exact absurd (hbt.symm.trans (tb_lt (n := 5) hs32 z)) (by decide)
                    refine lv_aload_n hx hb dX7_readsBoard_290 rfl (lv_at hl 0 rfl) ?_
                    refine kg (C := RX7) (T := TX7) (N := 32) (ci := 5) (k := 3) (v := .ref (om + 4)) S hK rfl inX7 (by decide) q_733 dX7_readsBoard_291 hM rfl rfl ?_
                    refine lv_iload_n hx hb dX7_readsBoard_294 rfl (lv_at hl 1 rfl) ?_
                    refine lv_dup2_11 hx hb dX7_readsBoard_295 rfl rfl ?_
                    refine kil (f := ρ.2.1 3) S hK dX7_readsBoard_296 4 hM rfl (by decide) rfl (by omega) ?_
                    refine lv_iconst (v := nI 1) hx hb dX7_readsBoard_297 (by decide) ?_
                    refine n_iadd hx hb dX7_readsBoard_298 ?_
                    refine kis S hK dX7_readsBoard_299 4 hM rfl (by decide) rfl (by omega) rfl (L1 := mL G om (uA ρ 3 p ((ρ.2.1 3 p) + 1))) rfl hS (by first | exact ⟨by omega, by omega⟩ | omega) (fun H locs hM hS hz hk => ?_)
                    refine lv_goto (tgt := 276) hx hb dX7_readsBoard_300 (by decide) ?_
                    exact ih276 (vf + 1) (uA ρ 3 p ((ρ.2.1 3 p) + 1)) (pth_A gP (by decide)) g23 (by rw [aA_n (by decide)]; exact g1) (by rw [aA_n (by decide)]; exact g2) (by rw [aA_s, g3]) (fun k hk => by rw [aA_n (by decide)]; exact g4 k hk) (by omega) (by rw [gt, show 5 - vf = (5 - (vf + 1)) + 1 from by omega]; exact tro_t hbt) (by omega) _ _ hM hS ls (lv_sub hl [0, 1, 2] rfl)
              exact L276 ((6 - 0) + 1) 0 (uA (uA ν 1 p vx) 2 p (vy + 1)) (pth_A (pth_A hP (by decide)) (by decide)) h23 (by rw [aA_n (by decide), aA_s]) (aA_s _ _ _ _) (by rw [aA_n (by decide), aA_n (by decide)]; exact hf0) (fun k hk => by rw [aA_n (by decide), aA_n (by decide)]; exact hc k hk) (by first | assumption | omega) rfl (Nat.lt_succ_self _) _ _ hM hS ls (lv_sub hl [0, 1, 2] rfl)
            ·
              refine lv_iconst (v := nI 0) hx hb dX7_readsBoard_257 (by decide) ?_
              have hr : rdF μ = (vq, none) := by
                show rdE (rdL (μ.2.1 21) (μ.1 22) 0 0 0 0 0) = _
                rw [hres, rd_e (by omega)]
                show (if vx = 0 ∨ (0 < vy ∧ vx < vw) then _ else _) = _
                rw [if_pos (by omega)]
              refine w_top (v' := .int (b2i ((rdF μ).2.isSome))) (bz_f (show ((rdF μ).2.isSome) = false from (by rw [hr]; rfl))) ?_
              exact hE _ _ _ _ _ _ (kr_z dX7_readsBoard_258) hS (by decide) (by decide) ⟨ν, hM, ⟨hP, by rw [hr]; exact h23, fun a b c e => by rw [hr] at e; cases e⟩⟩
      ·
        refine lv_aload_n hx hb dX7_readsBoard_31 rfl (lv_at hl 0 rfl) ?_
        refine kg (C := RX7) (T := TX7) (N := 32) (ci := 5) (k := 21) (v := .ref (om + 17)) S hK rfl inX7 (by decide) q_751 dX7_readsBoard_32 hM rfl rfl ?_
        refine lv_aload_n hx hb dX7_readsBoard_35 rfl (lv_at hl 0 rfl) ?_
        refine kg (C := RX7) (T := TX7) (N := 32) (ci := 5) (k := 23) (v := .int (nI (ν.1 23))) S hK rfl inX7 (by decide) q_753 dX7_readsBoard_36 hM rfl rfl ?_
        refine kil (f := ν.2.1 21) S hK dX7_readsBoard_39 17 hM rfl (by decide) rfl (by omega) ?_
        have hv256 := hIt.2 vq (by omega)
        refine w_top (v' := .int (nI (μ.2.1 21 vq))) (by rw [h21, h23]) ?_
        refine lv_istore (lv' := [(5, .int (nI (μ.2.1 21 vq))), (0, .ref om), (1, .int (nI p)), (2, .int (nI vs)), (3, .int (nI vx)), (4, .int (nI vy))]) hx hb dX7_readsBoard_40 hl (by decide) rfl (fun ls hl => ?_)
        refine lv_iload hx hb dX7_readsBoard_42 (lv_at hl 0 rfl) ?_
        refine lv_bipush (v := nI 47) hx hb dX7_readsBoard_44 (by decide) ?_
        refine n_icmp_ne (tgt := 91) hx hb dX7_readsBoard_46 (by decide) (by omega) (by decide) (fun c_46 => ?_) (fun c_46 => ?_)
        ·
          refine lv_iload_n hx hb dX7_readsBoard_91 rfl (lv_at hl 4 rfl) ?_
          refine lv_iconst (v := nI 5) hx hb dX7_readsBoard_92 (by decide) ?_
          refine n_icmp_eq (tgt := 111) hx hb dX7_readsBoard_93 (by decide) (by omega) (by decide) (fun c_93 => ?_) (fun c_93 => ?_)
          ·
            refine lv_iconst (v := nI 0) hx hb dX7_readsBoard_111 (by decide) ?_
            have hr : rdF μ = (vq, none) := by show rdE (rdL (μ.2.1 21) (μ.1 22) 0 0 0 0 0) = _; rw [hres, rd_cf (by omega) c_46 (by omega)]; rfl
            refine w_top (v' := .int (b2i ((rdF μ).2.isSome))) (bz_f (show ((rdF μ).2.isSome) = false from (by rw [hr]; rfl))) ?_
            exact hE _ _ _ _ _ _ (kr_z dX7_readsBoard_112) hS (by decide) (by decide) ⟨ν, hM, ⟨hP, by rw [hr]; exact h23, fun a b c e => by rw [hr] at e; cases e⟩⟩
          ·
            refine lv_iload hx hb dX7_readsBoard_96 (lv_at hl 5 rfl) ?_
            refine n_if_le (tgt := 113) hx hb dX7_readsBoard_98 (by decide) (by omega) (fun c_98 => ?_) (fun c_98 => ?_)
            ·
              refine lv_iload hx hb dX7_readsBoard_113 (lv_at hl 0 rfl) ?_
              refine lv_bipush (v := nI 35) hx hb dX7_readsBoard_115 (by decide) ?_
              refine n_icmp_eq (tgt := 156) hx hb dX7_readsBoard_117 (by decide) (by omega) (by decide) (fun c_117 => ?_) (fun c_117 => ?_)
              ·
                have hnb : ¬ bdC (μ.2.1 21 vq) vs = true := by
                  first | exact bdC_1 (Or.inl c_117) | exact bdC_1 (Or.inr c_124) | exact bdC_2 (by omega) (by omega) (by cases hq9 : vs.testBit (μ.2.1 21 vq - 48); rfl; exact absurd (bit1.mpr hq9) c_151)
                refine lv_aload_n hx hb dX7_readsBoard_156 rfl (lv_at hl 1 rfl) ?_
                refine lv_iload_n hx hb dX7_readsBoard_157 rfl (lv_at hl 2 rfl) ?_
                refine lv_iload_n hx hb dX7_readsBoard_158 rfl (lv_at hl 4 rfl) ?_
                refine lv_iload hx hb dX7_readsBoard_159 (lv_at hl 5 rfl) ?_
                refine lv_iload hx hb dX7_readsBoard_161 (lv_at hl 0 rfl) ?_
                refine lv_bipush (v := nI 35) hx hb dX7_readsBoard_163 (by decide) ?_
                refine n_icmp_ne (tgt := 172) hx hb dX7_readsBoard_165 (by decide) (by omega) (by decide) (fun c_165 => ?_) (fun c_165 => ?_)
                ·
                  exact absurd c_117 c_165
                ·
                  refine lv_iconst (v := nI 0) hx hb dX7_readsBoard_168 (by decide) ?_
                  refine lv_goto (tgt := 191) hx hb dX7_readsBoard_169 (by decide) ?_
                  refine ctVv (rest := []) S hK (c_X7_puts l G om ν p vx vy 0 (by first | assumption | omega | decide)) cw_X7_96 rfl ⟨Nat.le_of_ble_eq_true rfl, Nat.le_of_ble_eq_true rfl⟩ ⟨Nat.le_of_ble_eq_true rfl, Nat.le_of_ble_eq_true rfl⟩ (bk.recv hK hM rfl rfl) hl.1 rfl (Nat.le_of_ble_eq_true rfl) dX7_readsBoard_191 hM hS (fun _ h => h) (fun H locs hPost hz hk hS => ?_)
                  have hM := hPost
                  refine lv_iload_n hx hb dX7_readsBoard_194 rfl (lv_at hl 3 rfl) ?_
                  refine lv_iload hx hb dX7_readsBoard_195 (lv_at hl 0 rfl) ?_
                  refine lv_bipush (v := nI 48) hx hb dX7_readsBoard_197 (by decide) ?_
                  refine n_icmp_lt (tgt := 219) hx hb dX7_readsBoard_199 (by decide) (by omega) (by decide) (fun c_199 => ?_) (fun c_199 => ?_)
                  ·
                    refine lv_iconst (v := nI 0) hx hb dX7_readsBoard_219 (by decide) ?_
                    refine n_ior hx hb dX7_readsBoard_220 ?_
                    refine lv_istore_n (lv' := [(2, .int (nI (vs ||| 0))), (5, .int (nI (μ.2.1 21 vq))), (0, .ref om), (1, .int (nI p)), (3, .int (nI vx)), (4, .int (nI vy))]) hx hb dX7_readsBoard_221 rfl hl (by decide) rfl (fun ls hl => ?_)
                    refine lv_iinc (v := nI (vx + 1)) (lv' := [(3, .int (nI (vx + 1))), (2, .int (nI (vs ||| 0))), (5, .int (nI (μ.2.1 21 vq))), (0, .ref om), (1, .int (nI p)), (4, .int (nI vy))]) hx hb dX7_readsBoard_222 hl (k := 4) rfl (inc1 _) (by decide) rfl (fun ls hl => ?_)
                    refine lv_aload_n hx hb dX7_readsBoard_225 rfl (lv_at hl 3 rfl) ?_
                    refine lv_dup hx hb dX7_readsBoard_226 rfl ?_
                    refine kg (C := RX7) (T := TX7) (N := 32) (ci := 5) (k := 23) (v := .int (nI (ν.1 23))) S hK rfl inX7 (by decide) q_753 dX7_readsBoard_227 hM rfl rfl ?_
                    refine lv_iconst (v := nI 1) hx hb dX7_readsBoard_230 (by decide) ?_
                    refine n_iadd hx hb dX7_readsBoard_231 ?_
                    refine kp (C := RX7) (T := TX7) (N := 32) (ci := 5) (k := 23) (ty := .int) tyX7 tyX7_ok nmX7 S hK rfl inX7 (by decide) q_753 rfl dX7_readsBoard_232 rfl rfl rfl hM rfl (Nat.le_of_ble_eq_true rfl) (L1 := mL G om (uS (uA ν 4 (20 * p + 5 * vy + vx) 0) 23 ((ν.1 23) + 1))) rfl hS (by first | exact ⟨by omega, by omega⟩ | omega) (fun H locs hM hS hz hk => ?_)
                    refine lv_goto (tgt := 20) hx hb dX7_readsBoard_235 (by decide) ?_
                    replace hl := lv_eq 1 hl rfl (v2 := .int (nI (seN (μ.2.1 21 vq) vs))) (congrArg (fun z => Value.int (nI z)) (show (vs ||| 0) = (seN (μ.2.1 21 vq) vs) from by unfold seN; first | rw [if_pos (by omega)] | rw [if_neg (by omega), Nat.or_zero]))
                    exact ih20 (vq + 1) (seN (μ.2.1 21 vq) vs) (vx + 1) vy vw (uS (uA ν 4 (20 * p + 5 * vy + vx) 0) 23 ((ν.1 23) + 1)) (pth_S (pth_4 hP (by omega)) (by decide)) (by show ν.1 23 + 1 = _; rw [h23]) hw hf0 (fun k hk => by
                      show (uA ν 4 _ _).2.1 4 (20 * p + k) = _
                      rw [aA_e, rdc_c (by omega) (fun z => by omega) hq, hc k hk]
                      by_cases e : k = 5 * vy + vx
                      · rw [if_pos (by omega), if_pos e]
                        unfold cdT
                        first | rw [if_pos (by assumption)] | rw [if_neg (by assumption), if_pos (by assumption)] | rw [if_neg (by assumption), if_neg (by assumption)]
                      · rw [if_neg (by omega), if_neg e]) (by omega) (by first | assumption | omega) (by first | assumption | omega) (by first | assumption | omega) (by first | assumption | omega) (seN_lt hs32) (by first | assumption | omega) (by rw [hres]; exact rd_c (by omega) c_46 (by rintro (z | z | z); omega; omega; exact hnb z)) (by omega) _ _ hM hS ls (lv_sub hl [3, 4, 1, 0, 5] rfl)
                  ·
                    omega
              ·
                refine lv_iload hx hb dX7_readsBoard_120 (lv_at hl 0 rfl) ?_
                refine lv_bipush (v := nI 46) hx hb dX7_readsBoard_122 (by decide) ?_
                refine n_icmp_eq (tgt := 156) hx hb dX7_readsBoard_124 (by decide) (by omega) (by decide) (fun c_124 => ?_) (fun c_124 => ?_)
                ·
                  have hnb : ¬ bdC (μ.2.1 21 vq) vs = true := by
                    first | exact bdC_1 (Or.inl c_117) | exact bdC_1 (Or.inr c_124) | exact bdC_2 (by omega) (by omega) (by cases hq9 : vs.testBit (μ.2.1 21 vq - 48); rfl; exact absurd (bit1.mpr hq9) c_151)
                  refine lv_aload_n hx hb dX7_readsBoard_156 rfl (lv_at hl 1 rfl) ?_
                  refine lv_iload_n hx hb dX7_readsBoard_157 rfl (lv_at hl 2 rfl) ?_
                  refine lv_iload_n hx hb dX7_readsBoard_158 rfl (lv_at hl 4 rfl) ?_
                  refine lv_iload hx hb dX7_readsBoard_159 (lv_at hl 5 rfl) ?_
                  refine lv_iload hx hb dX7_readsBoard_161 (lv_at hl 0 rfl) ?_
                  refine lv_bipush (v := nI 35) hx hb dX7_readsBoard_163 (by decide) ?_
                  refine n_icmp_ne (tgt := 172) hx hb dX7_readsBoard_165 (by decide) (by omega) (by decide) (fun c_165 => ?_) (fun c_165 => ?_)
                  ·
                    refine lv_iload hx hb dX7_readsBoard_172 (lv_at hl 0 rfl) ?_
                    refine lv_bipush (v := nI 46) hx hb dX7_readsBoard_174 (by decide) ?_
                    refine n_icmp_ne (tgt := 183) hx hb dX7_readsBoard_176 (by decide) (by omega) (by decide) (fun c_176 => ?_) (fun c_176 => ?_)
                    ·
                      exact absurd c_124 c_176
                    ·
                      refine lv_iconst (v := nI 1) hx hb dX7_readsBoard_179 (by decide) ?_
                      refine lv_goto (tgt := 191) hx hb dX7_readsBoard_180 (by decide) ?_
                      refine ctVv (rest := []) S hK (c_X7_puts l G om ν p vx vy 1 (by first | assumption | omega | decide)) cw_X7_96 rfl ⟨Nat.le_of_ble_eq_true rfl, Nat.le_of_ble_eq_true rfl⟩ ⟨Nat.le_of_ble_eq_true rfl, Nat.le_of_ble_eq_true rfl⟩ (bk.recv hK hM rfl rfl) hl.1 rfl (Nat.le_of_ble_eq_true rfl) dX7_readsBoard_191 hM hS (fun _ h => h) (fun H locs hPost hz hk hS => ?_)
                      have hM := hPost
                      refine lv_iload_n hx hb dX7_readsBoard_194 rfl (lv_at hl 3 rfl) ?_
                      refine lv_iload hx hb dX7_readsBoard_195 (lv_at hl 0 rfl) ?_
                      refine lv_bipush (v := nI 48) hx hb dX7_readsBoard_197 (by decide) ?_
                      refine n_icmp_lt (tgt := 219) hx hb dX7_readsBoard_199 (by decide) (by omega) (by decide) (fun c_199 => ?_) (fun c_199 => ?_)
                      ·
                        refine lv_iconst (v := nI 0) hx hb dX7_readsBoard_219 (by decide) ?_
                        refine n_ior hx hb dX7_readsBoard_220 ?_
                        refine lv_istore_n (lv' := [(2, .int (nI (vs ||| 0))), (5, .int (nI (μ.2.1 21 vq))), (0, .ref om), (1, .int (nI p)), (3, .int (nI vx)), (4, .int (nI vy))]) hx hb dX7_readsBoard_221 rfl hl (by decide) rfl (fun ls hl => ?_)
                        refine lv_iinc (v := nI (vx + 1)) (lv' := [(3, .int (nI (vx + 1))), (2, .int (nI (vs ||| 0))), (5, .int (nI (μ.2.1 21 vq))), (0, .ref om), (1, .int (nI p)), (4, .int (nI vy))]) hx hb dX7_readsBoard_222 hl (k := 4) rfl (inc1 _) (by decide) rfl (fun ls hl => ?_)
                        refine lv_aload_n hx hb dX7_readsBoard_225 rfl (lv_at hl 3 rfl) ?_
                        refine lv_dup hx hb dX7_readsBoard_226 rfl ?_
                        refine kg (C := RX7) (T := TX7) (N := 32) (ci := 5) (k := 23) (v := .int (nI (ν.1 23))) S hK rfl inX7 (by decide) q_753 dX7_readsBoard_227 hM rfl rfl ?_
                        refine lv_iconst (v := nI 1) hx hb dX7_readsBoard_230 (by decide) ?_
                        refine n_iadd hx hb dX7_readsBoard_231 ?_
                        refine kp (C := RX7) (T := TX7) (N := 32) (ci := 5) (k := 23) (ty := .int) tyX7 tyX7_ok nmX7 S hK rfl inX7 (by decide) q_753 rfl dX7_readsBoard_232 rfl rfl rfl hM rfl (Nat.le_of_ble_eq_true rfl) (L1 := mL G om (uS (uA ν 4 (20 * p + 5 * vy + vx) 1) 23 ((ν.1 23) + 1))) rfl hS (by first | exact ⟨by omega, by omega⟩ | omega) (fun H locs hM hS hz hk => ?_)
                        refine lv_goto (tgt := 20) hx hb dX7_readsBoard_235 (by decide) ?_
                        replace hl := lv_eq 1 hl rfl (v2 := .int (nI (seN (μ.2.1 21 vq) vs))) (congrArg (fun z => Value.int (nI z)) (show (vs ||| 0) = (seN (μ.2.1 21 vq) vs) from by unfold seN; first | rw [if_pos (by omega)] | rw [if_neg (by omega), Nat.or_zero]))
                        exact ih20 (vq + 1) (seN (μ.2.1 21 vq) vs) (vx + 1) vy vw (uS (uA ν 4 (20 * p + 5 * vy + vx) 1) 23 ((ν.1 23) + 1)) (pth_S (pth_4 hP (by omega)) (by decide)) (by show ν.1 23 + 1 = _; rw [h23]) hw hf0 (fun k hk => by
                          show (uA ν 4 _ _).2.1 4 (20 * p + k) = _
                          rw [aA_e, rdc_c (by omega) (fun z => by omega) hq, hc k hk]
                          by_cases e : k = 5 * vy + vx
                          · rw [if_pos (by omega), if_pos e]
                            unfold cdT
                            first | rw [if_pos (by assumption)] | rw [if_neg (by assumption), if_pos (by assumption)] | rw [if_neg (by assumption), if_neg (by assumption)]
                          · rw [if_neg (by omega), if_neg e]) (by omega) (by first | assumption | omega) (by first | assumption | omega) (by first | assumption | omega) (by first | assumption | omega) (seN_lt hs32) (by first | assumption | omega) (by rw [hres]; exact rd_c (by omega) c_46 (by rintro (z | z | z); omega; omega; exact hnb z)) (by omega) _ _ hM hS ls (lv_sub hl [3, 4, 1, 0, 5] rfl)
                      ·
                        omega
                  ·
                    exact absurd c_165 c_117
                ·
                  refine lv_iload hx hb dX7_readsBoard_127 (lv_at hl 0 rfl) ?_
                  refine lv_bipush (v := nI 48) hx hb dX7_readsBoard_129 (by decide) ?_
                  refine n_icmp_lt (tgt := 154) hx hb dX7_readsBoard_131 (by decide) (by omega) (by decide) (fun c_131 => ?_) (fun c_131 => ?_)
                  ·
                    refine lv_iconst (v := nI 0) hx hb dX7_readsBoard_154 (by decide) ?_
                    have hr : rdF μ = (vq, none) := by show rdE (rdL (μ.2.1 21) (μ.1 22) 0 0 0 0 0) = _; rw [hres, rd_cf (by omega) c_46 (Or.inr (Or.inr (bdC_3 c_117 c_124 (by first | omega | exact Or.inr (Or.inr (bit1.mp c_151))))))]; rfl
                    refine w_top (v' := .int (b2i ((rdF μ).2.isSome))) (bz_f (show ((rdF μ).2.isSome) = false from (by rw [hr]; rfl))) ?_
                    exact hE _ _ _ _ _ _ (kr_z dX7_readsBoard_155) hS (by decide) (by decide) ⟨ν, hM, ⟨hP, by rw [hr]; exact h23, fun a b c e => by rw [hr] at e; cases e⟩⟩
                  ·
                    refine lv_iload hx hb dX7_readsBoard_134 (lv_at hl 0 rfl) ?_
                    refine lv_bipush (v := nI 52) hx hb dX7_readsBoard_136 (by decide) ?_
                    refine n_icmp_gt (tgt := 154) hx hb dX7_readsBoard_138 (by decide) (by omega) (by decide) (fun c_138 => ?_) (fun c_138 => ?_)
                    ·
                      refine lv_iconst (v := nI 0) hx hb dX7_readsBoard_154 (by decide) ?_
                      have hr : rdF μ = (vq, none) := by show rdE (rdL (μ.2.1 21) (μ.1 22) 0 0 0 0 0) = _; rw [hres, rd_cf (by omega) c_46 (Or.inr (Or.inr (bdC_3 c_117 c_124 (by first | omega | exact Or.inr (Or.inr (bit1.mp c_151))))))]; rfl
                      refine w_top (v' := .int (b2i ((rdF μ).2.isSome))) (bz_f (show ((rdF μ).2.isSome) = false from (by rw [hr]; rfl))) ?_
                      exact hE _ _ _ _ _ _ (kr_z dX7_readsBoard_155) hS (by decide) (by decide) ⟨ν, hM, ⟨hP, by rw [hr]; exact h23, fun a b c e => by rw [hr] at e; cases e⟩⟩
                    ·
                      refine lv_iload_n hx hb dX7_readsBoard_141 rfl (lv_at hl 3 rfl) ?_
                      refine lv_iload hx hb dX7_readsBoard_142 (lv_at hl 0 rfl) ?_
                      refine lv_bipush (v := nI 48) hx hb dX7_readsBoard_144 (by decide) ?_
                      refine n_isub hx hb dX7_readsBoard_146 (by omega) ?_
                      refine n_ishr hx hb dX7_readsBoard_147 (by omega) (by omega) ?_
                      refine lv_iconst (v := nI 1) hx hb dX7_readsBoard_148 (by decide) ?_
                      refine n_iand hx hb dX7_readsBoard_149 ?_
                      refine lv_iconst (v := nI 1) hx hb dX7_readsBoard_150 (by decide) ?_
                      refine n_icmp_ne (tgt := 156) hx hb dX7_readsBoard_151 (by decide) (Nat.lt_of_le_of_lt Nat.and_le_right (by decide)) (by decide) (fun c_151 => ?_) (fun c_151 => ?_)
                      ·
                        have hnb : ¬ bdC (μ.2.1 21 vq) vs = true := by
                          first | exact bdC_1 (Or.inl c_117) | exact bdC_1 (Or.inr c_124) | exact bdC_2 (by omega) (by omega) (by cases hq9 : vs.testBit (μ.2.1 21 vq - 48); rfl; exact absurd (bit1.mpr hq9) c_151)
                        refine lv_aload_n hx hb dX7_readsBoard_156 rfl (lv_at hl 1 rfl) ?_
                        refine lv_iload_n hx hb dX7_readsBoard_157 rfl (lv_at hl 2 rfl) ?_
                        refine lv_iload_n hx hb dX7_readsBoard_158 rfl (lv_at hl 4 rfl) ?_
                        refine lv_iload hx hb dX7_readsBoard_159 (lv_at hl 5 rfl) ?_
                        refine lv_iload hx hb dX7_readsBoard_161 (lv_at hl 0 rfl) ?_
                        refine lv_bipush (v := nI 35) hx hb dX7_readsBoard_163 (by decide) ?_
                        refine n_icmp_ne (tgt := 172) hx hb dX7_readsBoard_165 (by decide) (by omega) (by decide) (fun c_165 => ?_) (fun c_165 => ?_)
                        ·
                          refine lv_iload hx hb dX7_readsBoard_172 (lv_at hl 0 rfl) ?_
                          refine lv_bipush (v := nI 46) hx hb dX7_readsBoard_174 (by decide) ?_
                          refine n_icmp_ne (tgt := 183) hx hb dX7_readsBoard_176 (by decide) (by omega) (by decide) (fun c_176 => ?_) (fun c_176 => ?_)
                          ·
                            refine lv_bipush (v := nI 10) hx hb dX7_readsBoard_183 (by decide) ?_
                            refine lv_iload hx hb dX7_readsBoard_185 (lv_at hl 0 rfl) ?_
                            refine n_iadd hx hb dX7_readsBoard_187 ?_
                            refine lv_bipush (v := nI 48) hx hb dX7_readsBoard_188 (by decide) ?_
                            refine n_isub hx hb dX7_readsBoard_190 (by omega) ?_
                            refine ctVv (rest := []) S hK (c_X7_puts l G om ν p vx vy ((10 + (μ.2.1 21 vq)) - 48) (by first | assumption | omega | decide)) cw_X7_96 rfl ⟨Nat.le_of_ble_eq_true rfl, Nat.le_of_ble_eq_true rfl⟩ ⟨Nat.le_of_ble_eq_true rfl, Nat.le_of_ble_eq_true rfl⟩ (bk.recv hK hM rfl rfl) hl.1 rfl (Nat.le_of_ble_eq_true rfl) dX7_readsBoard_191 hM hS (fun _ h => h) (fun H locs hPost hz hk hS => ?_)
                            have hM := hPost
                            refine lv_iload_n hx hb dX7_readsBoard_194 rfl (lv_at hl 3 rfl) ?_
                            refine lv_iload hx hb dX7_readsBoard_195 (lv_at hl 0 rfl) ?_
                            refine lv_bipush (v := nI 48) hx hb dX7_readsBoard_197 (by decide) ?_
                            refine n_icmp_lt (tgt := 219) hx hb dX7_readsBoard_199 (by decide) (by omega) (by decide) (fun c_199 => ?_) (fun c_199 => ?_)
                            ·
                              omega
                            ·
                              refine lv_iload hx hb dX7_readsBoard_202 (lv_at hl 0 rfl) ?_
                              refine lv_bipush (v := nI 52) hx hb dX7_readsBoard_204 (by decide) ?_
                              refine n_icmp_gt (tgt := 219) hx hb dX7_readsBoard_206 (by decide) (by omega) (by decide) (fun c_206 => ?_) (fun c_206 => ?_)
                              ·
                                omega
                              ·
                                refine lv_iconst (v := nI 1) hx hb dX7_readsBoard_209 (by decide) ?_
                                refine lv_iload hx hb dX7_readsBoard_210 (lv_at hl 0 rfl) ?_
                                refine lv_bipush (v := nI 48) hx hb dX7_readsBoard_212 (by decide) ?_
                                refine n_isub hx hb dX7_readsBoard_214 (by omega) ?_
                                refine n_ishl hx hb dX7_readsBoard_215 (by omega) ?_
                                refine lv_goto (tgt := 220) hx hb dX7_readsBoard_216 (by decide) ?_
                                refine n_ior hx hb dX7_readsBoard_220 ?_
                                refine lv_istore_n (lv' := [(2, .int (nI (vs ||| (1 <<< ((μ.2.1 21 vq) - 48))))), (5, .int (nI (μ.2.1 21 vq))), (0, .ref om), (1, .int (nI p)), (3, .int (nI vx)), (4, .int (nI vy))]) hx hb dX7_readsBoard_221 rfl hl (by decide) rfl (fun ls hl => ?_)
                                refine lv_iinc (v := nI (vx + 1)) (lv' := [(3, .int (nI (vx + 1))), (2, .int (nI (vs ||| (1 <<< ((μ.2.1 21 vq) - 48))))), (5, .int (nI (μ.2.1 21 vq))), (0, .ref om), (1, .int (nI p)), (4, .int (nI vy))]) hx hb dX7_readsBoard_222 hl (k := 4) rfl (inc1 _) (by decide) rfl (fun ls hl => ?_)
                                refine lv_aload_n hx hb dX7_readsBoard_225 rfl (lv_at hl 3 rfl) ?_
                                refine lv_dup hx hb dX7_readsBoard_226 rfl ?_
                                refine kg (C := RX7) (T := TX7) (N := 32) (ci := 5) (k := 23) (v := .int (nI (ν.1 23))) S hK rfl inX7 (by decide) q_753 dX7_readsBoard_227 hM rfl rfl ?_
                                refine lv_iconst (v := nI 1) hx hb dX7_readsBoard_230 (by decide) ?_
                                refine n_iadd hx hb dX7_readsBoard_231 ?_
                                refine kp (C := RX7) (T := TX7) (N := 32) (ci := 5) (k := 23) (ty := .int) tyX7 tyX7_ok nmX7 S hK rfl inX7 (by decide) q_753 rfl dX7_readsBoard_232 rfl rfl rfl hM rfl (Nat.le_of_ble_eq_true rfl) (L1 := mL G om (uS (uA ν 4 (20 * p + 5 * vy + vx) ((10 + (μ.2.1 21 vq)) - 48)) 23 ((ν.1 23) + 1))) rfl hS (by first | exact ⟨by omega, by omega⟩ | omega) (fun H locs hM hS hz hk => ?_)
                                refine lv_goto (tgt := 20) hx hb dX7_readsBoard_235 (by decide) ?_
                                replace hl := lv_eq 1 hl rfl (v2 := .int (nI (seN (μ.2.1 21 vq) vs))) (congrArg (fun z => Value.int (nI z)) (show (vs ||| (1 <<< ((μ.2.1 21 vq) - 48))) = (seN (μ.2.1 21 vq) vs) from by unfold seN; first | rw [if_pos (by omega)] | rw [if_neg (by omega), Nat.or_zero]))
                                exact ih20 (vq + 1) (seN (μ.2.1 21 vq) vs) (vx + 1) vy vw (uS (uA ν 4 (20 * p + 5 * vy + vx) ((10 + (μ.2.1 21 vq)) - 48)) 23 ((ν.1 23) + 1)) (pth_S (pth_4 hP (by omega)) (by decide)) (by show ν.1 23 + 1 = _; rw [h23]) hw hf0 (fun k hk => by
                                  show (uA ν 4 _ _).2.1 4 (20 * p + k) = _
                                  rw [aA_e, rdc_c (by omega) (fun z => by omega) hq, hc k hk]
                                  by_cases e : k = 5 * vy + vx
                                  · rw [if_pos (by omega), if_pos e]
                                    unfold cdT
                                    first | rw [if_pos (by assumption)] | rw [if_neg (by assumption), if_pos (by assumption)] | rw [if_neg (by assumption), if_neg (by assumption)]
                                  · rw [if_neg (by omega), if_neg e]) (by omega) (by first | assumption | omega) (by first | assumption | omega) (by first | assumption | omega) (by first | assumption | omega) (seN_lt hs32) (by first | assumption | omega) (by rw [hres]; exact rd_c (by omega) c_46 (by rintro (z | z | z); omega; omega; exact hnb z)) (by omega) _ _ hM hS ls (lv_sub hl [3, 4, 1, 0, 5] rfl)
                          ·
                            exact absurd c_176 c_124
                        ·
                          exact absurd c_165 c_117
                      ·
                        refine lv_iconst (v := nI 0) hx hb dX7_readsBoard_154 (by decide) ?_
                        have hr : rdF μ = (vq, none) := by show rdE (rdL (μ.2.1 21) (μ.1 22) 0 0 0 0 0) = _; rw [hres, rd_cf (by omega) c_46 (Or.inr (Or.inr (bdC_3 c_117 c_124 (by first | omega | exact Or.inr (Or.inr (bit1.mp c_151))))))]; rfl
                        refine w_top (v' := .int (b2i ((rdF μ).2.isSome))) (bz_f (show ((rdF μ).2.isSome) = false from (by rw [hr]; rfl))) ?_
                        exact hE _ _ _ _ _ _ (kr_z dX7_readsBoard_155) hS (by decide) (by decide) ⟨ν, hM, ⟨hP, by rw [hr]; exact h23, fun a b c e => by rw [hr] at e; cases e⟩⟩
            ·
              refine lv_iload_n hx hb dX7_readsBoard_101 rfl (lv_at hl 4 rfl) ?_
              refine lv_aload_n hx hb dX7_readsBoard_102 rfl (lv_at hl 1 rfl) ?_
              refine kg (C := RX7) (T := TX7) (N := 32) (ci := 5) (k := 1) (v := .ref (om + 2)) S hK rfl inX7 (by decide) q_731 dX7_readsBoard_103 hM rfl rfl ?_
              refine lv_iload_n hx hb dX7_readsBoard_106 rfl (lv_at hl 2 rfl) ?_
              refine kil (f := ν.2.1 1) S hK dX7_readsBoard_107 2 hM rfl (by decide) rfl (by omega) ?_
              refine n_icmp_ne (tgt := 113) hx hb dX7_readsBoard_108 (by decide) (by omega) (by omega) (fun c_108 => ?_) (fun c_108 => ?_)
              ·
                refine lv_iload hx hb dX7_readsBoard_113 (lv_at hl 0 rfl) ?_
                refine lv_bipush (v := nI 35) hx hb dX7_readsBoard_115 (by decide) ?_
                refine n_icmp_eq (tgt := 156) hx hb dX7_readsBoard_117 (by decide) (by omega) (by decide) (fun c_117 => ?_) (fun c_117 => ?_)
                ·
                  have hnb : ¬ bdC (μ.2.1 21 vq) vs = true := by
                    first | exact bdC_1 (Or.inl c_117) | exact bdC_1 (Or.inr c_124) | exact bdC_2 (by omega) (by omega) (by cases hq9 : vs.testBit (μ.2.1 21 vq - 48); rfl; exact absurd (bit1.mpr hq9) c_151)
                  refine lv_aload_n hx hb dX7_readsBoard_156 rfl (lv_at hl 1 rfl) ?_
                  refine lv_iload_n hx hb dX7_readsBoard_157 rfl (lv_at hl 2 rfl) ?_
                  refine lv_iload_n hx hb dX7_readsBoard_158 rfl (lv_at hl 4 rfl) ?_
                  refine lv_iload hx hb dX7_readsBoard_159 (lv_at hl 5 rfl) ?_
                  refine lv_iload hx hb dX7_readsBoard_161 (lv_at hl 0 rfl) ?_
                  refine lv_bipush (v := nI 35) hx hb dX7_readsBoard_163 (by decide) ?_
                  refine n_icmp_ne (tgt := 172) hx hb dX7_readsBoard_165 (by decide) (by omega) (by decide) (fun c_165 => ?_) (fun c_165 => ?_)
                  ·
                    exact absurd c_117 c_165
                  ·
                    refine lv_iconst (v := nI 0) hx hb dX7_readsBoard_168 (by decide) ?_
                    refine lv_goto (tgt := 191) hx hb dX7_readsBoard_169 (by decide) ?_
                    refine ctVv (rest := []) S hK (c_X7_puts l G om ν p vx vy 0 (by first | assumption | omega | decide)) cw_X7_96 rfl ⟨Nat.le_of_ble_eq_true rfl, Nat.le_of_ble_eq_true rfl⟩ ⟨Nat.le_of_ble_eq_true rfl, Nat.le_of_ble_eq_true rfl⟩ (bk.recv hK hM rfl rfl) hl.1 rfl (Nat.le_of_ble_eq_true rfl) dX7_readsBoard_191 hM hS (fun _ h => h) (fun H locs hPost hz hk hS => ?_)
                    have hM := hPost
                    refine lv_iload_n hx hb dX7_readsBoard_194 rfl (lv_at hl 3 rfl) ?_
                    refine lv_iload hx hb dX7_readsBoard_195 (lv_at hl 0 rfl) ?_
                    refine lv_bipush (v := nI 48) hx hb dX7_readsBoard_197 (by decide) ?_
                    refine n_icmp_lt (tgt := 219) hx hb dX7_readsBoard_199 (by decide) (by omega) (by decide) (fun c_199 => ?_) (fun c_199 => ?_)
                    ·
                      refine lv_iconst (v := nI 0) hx hb dX7_readsBoard_219 (by decide) ?_
                      refine n_ior hx hb dX7_readsBoard_220 ?_
                      refine lv_istore_n (lv' := [(2, .int (nI (vs ||| 0))), (5, .int (nI (μ.2.1 21 vq))), (0, .ref om), (1, .int (nI p)), (3, .int (nI vx)), (4, .int (nI vy))]) hx hb dX7_readsBoard_221 rfl hl (by decide) rfl (fun ls hl => ?_)
                      refine lv_iinc (v := nI (vx + 1)) (lv' := [(3, .int (nI (vx + 1))), (2, .int (nI (vs ||| 0))), (5, .int (nI (μ.2.1 21 vq))), (0, .ref om), (1, .int (nI p)), (4, .int (nI vy))]) hx hb dX7_readsBoard_222 hl (k := 4) rfl (inc1 _) (by decide) rfl (fun ls hl => ?_)
                      refine lv_aload_n hx hb dX7_readsBoard_225 rfl (lv_at hl 3 rfl) ?_
                      refine lv_dup hx hb dX7_readsBoard_226 rfl ?_
                      refine kg (C := RX7) (T := TX7) (N := 32) (ci := 5) (k := 23) (v := .int (nI (ν.1 23))) S hK rfl inX7 (by decide) q_753 dX7_readsBoard_227 hM rfl rfl ?_
                      refine lv_iconst (v := nI 1) hx hb dX7_readsBoard_230 (by decide) ?_
                      refine n_iadd hx hb dX7_readsBoard_231 ?_
                      refine kp (C := RX7) (T := TX7) (N := 32) (ci := 5) (k := 23) (ty := .int) tyX7 tyX7_ok nmX7 S hK rfl inX7 (by decide) q_753 rfl dX7_readsBoard_232 rfl rfl rfl hM rfl (Nat.le_of_ble_eq_true rfl) (L1 := mL G om (uS (uA ν 4 (20 * p + 5 * vy + vx) 0) 23 ((ν.1 23) + 1))) rfl hS (by first | exact ⟨by omega, by omega⟩ | omega) (fun H locs hM hS hz hk => ?_)
                      refine lv_goto (tgt := 20) hx hb dX7_readsBoard_235 (by decide) ?_
                      replace hl := lv_eq 1 hl rfl (v2 := .int (nI (seN (μ.2.1 21 vq) vs))) (congrArg (fun z => Value.int (nI z)) (show (vs ||| 0) = (seN (μ.2.1 21 vq) vs) from by unfold seN; first | rw [if_pos (by omega)] | rw [if_neg (by omega), Nat.or_zero]))
                      exact ih20 (vq + 1) (seN (μ.2.1 21 vq) vs) (vx + 1) vy vw (uS (uA ν 4 (20 * p + 5 * vy + vx) 0) 23 ((ν.1 23) + 1)) (pth_S (pth_4 hP (by omega)) (by decide)) (by show ν.1 23 + 1 = _; rw [h23]) hw hf0 (fun k hk => by
                        show (uA ν 4 _ _).2.1 4 (20 * p + k) = _
                        rw [aA_e, rdc_c (by omega) (fun z => by omega) hq, hc k hk]
                        by_cases e : k = 5 * vy + vx
                        · rw [if_pos (by omega), if_pos e]
                          unfold cdT
                          first | rw [if_pos (by assumption)] | rw [if_neg (by assumption), if_pos (by assumption)] | rw [if_neg (by assumption), if_neg (by assumption)]
                        · rw [if_neg (by omega), if_neg e]) (by omega) (by first | assumption | omega) (by first | assumption | omega) (by first | assumption | omega) (by first | assumption | omega) (seN_lt hs32) (by first | assumption | omega) (by rw [hres]; exact rd_c (by omega) c_46 (by rintro (z | z | z); omega; omega; exact hnb z)) (by omega) _ _ hM hS ls (lv_sub hl [3, 4, 1, 0, 5] rfl)
                    ·
                      omega
                ·
                  refine lv_iload hx hb dX7_readsBoard_120 (lv_at hl 0 rfl) ?_
                  refine lv_bipush (v := nI 46) hx hb dX7_readsBoard_122 (by decide) ?_
                  refine n_icmp_eq (tgt := 156) hx hb dX7_readsBoard_124 (by decide) (by omega) (by decide) (fun c_124 => ?_) (fun c_124 => ?_)
                  ·
                    have hnb : ¬ bdC (μ.2.1 21 vq) vs = true := by
                      first | exact bdC_1 (Or.inl c_117) | exact bdC_1 (Or.inr c_124) | exact bdC_2 (by omega) (by omega) (by cases hq9 : vs.testBit (μ.2.1 21 vq - 48); rfl; exact absurd (bit1.mpr hq9) c_151)
                    refine lv_aload_n hx hb dX7_readsBoard_156 rfl (lv_at hl 1 rfl) ?_
                    refine lv_iload_n hx hb dX7_readsBoard_157 rfl (lv_at hl 2 rfl) ?_
                    refine lv_iload_n hx hb dX7_readsBoard_158 rfl (lv_at hl 4 rfl) ?_
                    refine lv_iload hx hb dX7_readsBoard_159 (lv_at hl 5 rfl) ?_
                    refine lv_iload hx hb dX7_readsBoard_161 (lv_at hl 0 rfl) ?_
                    refine lv_bipush (v := nI 35) hx hb dX7_readsBoard_163 (by decide) ?_
                    refine n_icmp_ne (tgt := 172) hx hb dX7_readsBoard_165 (by decide) (by omega) (by decide) (fun c_165 => ?_) (fun c_165 => ?_)
                    ·
                      refine lv_iload hx hb dX7_readsBoard_172 (lv_at hl 0 rfl) ?_
                      refine lv_bipush (v := nI 46) hx hb dX7_readsBoard_174 (by decide) ?_
                      refine n_icmp_ne (tgt := 183) hx hb dX7_readsBoard_176 (by decide) (by omega) (by decide) (fun c_176 => ?_) (fun c_176 => ?_)
                      ·
                        exact absurd c_124 c_176
                      ·
                        refine lv_iconst (v := nI 1) hx hb dX7_readsBoard_179 (by decide) ?_
                        refine lv_goto (tgt := 191) hx hb dX7_readsBoard_180 (by decide) ?_
                        refine ctVv (rest := []) S hK (c_X7_puts l G om ν p vx vy 1 (by first | assumption | omega | decide)) cw_X7_96 rfl ⟨Nat.le_of_ble_eq_true rfl, Nat.le_of_ble_eq_true rfl⟩ ⟨Nat.le_of_ble_eq_true rfl, Nat.le_of_ble_eq_true rfl⟩ (bk.recv hK hM rfl rfl) hl.1 rfl (Nat.le_of_ble_eq_true rfl) dX7_readsBoard_191 hM hS (fun _ h => h) (fun H locs hPost hz hk hS => ?_)
                        have hM := hPost
                        refine lv_iload_n hx hb dX7_readsBoard_194 rfl (lv_at hl 3 rfl) ?_
                        refine lv_iload hx hb dX7_readsBoard_195 (lv_at hl 0 rfl) ?_
                        refine lv_bipush (v := nI 48) hx hb dX7_readsBoard_197 (by decide) ?_
                        refine n_icmp_lt (tgt := 219) hx hb dX7_readsBoard_199 (by decide) (by omega) (by decide) (fun c_199 => ?_) (fun c_199 => ?_)
                        ·
                          refine lv_iconst (v := nI 0) hx hb dX7_readsBoard_219 (by decide) ?_
                          refine n_ior hx hb dX7_readsBoard_220 ?_
                          refine lv_istore_n (lv' := [(2, .int (nI (vs ||| 0))), (5, .int (nI (μ.2.1 21 vq))), (0, .ref om), (1, .int (nI p)), (3, .int (nI vx)), (4, .int (nI vy))]) hx hb dX7_readsBoard_221 rfl hl (by decide) rfl (fun ls hl => ?_)
                          refine lv_iinc (v := nI (vx + 1)) (lv' := [(3, .int (nI (vx + 1))), (2, .int (nI (vs ||| 0))), (5, .int (nI (μ.2.1 21 vq))), (0, .ref om), (1, .int (nI p)), (4, .int (nI vy))]) hx hb dX7_readsBoard_222 hl (k := 4) rfl (inc1 _) (by decide) rfl (fun ls hl => ?_)
                          refine lv_aload_n hx hb dX7_readsBoard_225 rfl (lv_at hl 3 rfl) ?_
                          refine lv_dup hx hb dX7_readsBoard_226 rfl ?_
                          refine kg (C := RX7) (T := TX7) (N := 32) (ci := 5) (k := 23) (v := .int (nI (ν.1 23))) S hK rfl inX7 (by decide) q_753 dX7_readsBoard_227 hM rfl rfl ?_
                          refine lv_iconst (v := nI 1) hx hb dX7_readsBoard_230 (by decide) ?_
                          refine n_iadd hx hb dX7_readsBoard_231 ?_
                          refine kp (C := RX7) (T := TX7) (N := 32) (ci := 5) (k := 23) (ty := .int) tyX7 tyX7_ok nmX7 S hK rfl inX7 (by decide) q_753 rfl dX7_readsBoard_232 rfl rfl rfl hM rfl (Nat.le_of_ble_eq_true rfl) (L1 := mL G om (uS (uA ν 4 (20 * p + 5 * vy + vx) 1) 23 ((ν.1 23) + 1))) rfl hS (by first | exact ⟨by omega, by omega⟩ | omega) (fun H locs hM hS hz hk => ?_)
                          refine lv_goto (tgt := 20) hx hb dX7_readsBoard_235 (by decide) ?_
                          replace hl := lv_eq 1 hl rfl (v2 := .int (nI (seN (μ.2.1 21 vq) vs))) (congrArg (fun z => Value.int (nI z)) (show (vs ||| 0) = (seN (μ.2.1 21 vq) vs) from by unfold seN; first | rw [if_pos (by omega)] | rw [if_neg (by omega), Nat.or_zero]))
                          exact ih20 (vq + 1) (seN (μ.2.1 21 vq) vs) (vx + 1) vy vw (uS (uA ν 4 (20 * p + 5 * vy + vx) 1) 23 ((ν.1 23) + 1)) (pth_S (pth_4 hP (by omega)) (by decide)) (by show ν.1 23 + 1 = _; rw [h23]) hw hf0 (fun k hk => by
                            show (uA ν 4 _ _).2.1 4 (20 * p + k) = _
                            rw [aA_e, rdc_c (by omega) (fun z => by omega) hq, hc k hk]
                            by_cases e : k = 5 * vy + vx
                            · rw [if_pos (by omega), if_pos e]
                              unfold cdT
                              first | rw [if_pos (by assumption)] | rw [if_neg (by assumption), if_pos (by assumption)] | rw [if_neg (by assumption), if_neg (by assumption)]
                            · rw [if_neg (by omega), if_neg e]) (by omega) (by first | assumption | omega) (by first | assumption | omega) (by first | assumption | omega) (by first | assumption | omega) (seN_lt hs32) (by first | assumption | omega) (by rw [hres]; exact rd_c (by omega) c_46 (by rintro (z | z | z); omega; omega; exact hnb z)) (by omega) _ _ hM hS ls (lv_sub hl [3, 4, 1, 0, 5] rfl)
                        ·
                          omega
                    ·
                      exact absurd c_165 c_117
                  ·
                    refine lv_iload hx hb dX7_readsBoard_127 (lv_at hl 0 rfl) ?_
                    refine lv_bipush (v := nI 48) hx hb dX7_readsBoard_129 (by decide) ?_
                    refine n_icmp_lt (tgt := 154) hx hb dX7_readsBoard_131 (by decide) (by omega) (by decide) (fun c_131 => ?_) (fun c_131 => ?_)
                    ·
                      refine lv_iconst (v := nI 0) hx hb dX7_readsBoard_154 (by decide) ?_
                      have hr : rdF μ = (vq, none) := by show rdE (rdL (μ.2.1 21) (μ.1 22) 0 0 0 0 0) = _; rw [hres, rd_cf (by omega) c_46 (Or.inr (Or.inr (bdC_3 c_117 c_124 (by first | omega | exact Or.inr (Or.inr (bit1.mp c_151))))))]; rfl
                      refine w_top (v' := .int (b2i ((rdF μ).2.isSome))) (bz_f (show ((rdF μ).2.isSome) = false from (by rw [hr]; rfl))) ?_
                      exact hE _ _ _ _ _ _ (kr_z dX7_readsBoard_155) hS (by decide) (by decide) ⟨ν, hM, ⟨hP, by rw [hr]; exact h23, fun a b c e => by rw [hr] at e; cases e⟩⟩
                    ·
                      refine lv_iload hx hb dX7_readsBoard_134 (lv_at hl 0 rfl) ?_
                      refine lv_bipush (v := nI 52) hx hb dX7_readsBoard_136 (by decide) ?_
                      refine n_icmp_gt (tgt := 154) hx hb dX7_readsBoard_138 (by decide) (by omega) (by decide) (fun c_138 => ?_) (fun c_138 => ?_)
                      ·
                        refine lv_iconst (v := nI 0) hx hb dX7_readsBoard_154 (by decide) ?_
                        have hr : rdF μ = (vq, none) := by show rdE (rdL (μ.2.1 21) (μ.1 22) 0 0 0 0 0) = _; rw [hres, rd_cf (by omega) c_46 (Or.inr (Or.inr (bdC_3 c_117 c_124 (by first | omega | exact Or.inr (Or.inr (bit1.mp c_151))))))]; rfl
                        refine w_top (v' := .int (b2i ((rdF μ).2.isSome))) (bz_f (show ((rdF μ).2.isSome) = false from (by rw [hr]; rfl))) ?_
                        exact hE _ _ _ _ _ _ (kr_z dX7_readsBoard_155) hS (by decide) (by decide) ⟨ν, hM, ⟨hP, by rw [hr]; exact h23, fun a b c e => by rw [hr] at e; cases e⟩⟩
                      ·
                        refine lv_iload_n hx hb dX7_readsBoard_141 rfl (lv_at hl 3 rfl) ?_
                        refine lv_iload hx hb dX7_readsBoard_142 (lv_at hl 0 rfl) ?_
                        refine lv_bipush (v := nI 48) hx hb dX7_readsBoard_144 (by decide) ?_
                        refine n_isub hx hb dX7_readsBoard_146 (by omega) ?_
                        refine n_ishr hx hb dX7_readsBoard_147 (by omega) (by omega) ?_
                        refine lv_iconst (v := nI 1) hx hb dX7_readsBoard_148 (by decide) ?_
                        refine n_iand hx hb dX7_readsBoard_149 ?_
                        refine lv_iconst (v := nI 1) hx hb dX7_readsBoard_150 (by decide) ?_
                        refine n_icmp_ne (tgt := 156) hx hb dX7_readsBoard_151 (by decide) (Nat.lt_of_le_of_lt Nat.and_le_right (by decide)) (by decide) (fun c_151 => ?_) (fun c_151 => ?_)
                        ·
                          have hnb : ¬ bdC (μ.2.1 21 vq) vs = true := by
                            first | exact bdC_1 (Or.inl c_117) | exact bdC_1 (Or.inr c_124) | exact bdC_2 (by omega) (by omega) (by cases hq9 : vs.testBit (μ.2.1 21 vq - 48); rfl; exact absurd (bit1.mpr hq9) c_151)
                          refine lv_aload_n hx hb dX7_readsBoard_156 rfl (lv_at hl 1 rfl) ?_
                          refine lv_iload_n hx hb dX7_readsBoard_157 rfl (lv_at hl 2 rfl) ?_
                          refine lv_iload_n hx hb dX7_readsBoard_158 rfl (lv_at hl 4 rfl) ?_
                          refine lv_iload hx hb dX7_readsBoard_159 (lv_at hl 5 rfl) ?_
                          refine lv_iload hx hb dX7_readsBoard_161 (lv_at hl 0 rfl) ?_
                          refine lv_bipush (v := nI 35) hx hb dX7_readsBoard_163 (by decide) ?_
                          refine n_icmp_ne (tgt := 172) hx hb dX7_readsBoard_165 (by decide) (by omega) (by decide) (fun c_165 => ?_) (fun c_165 => ?_)
                          ·
                            refine lv_iload hx hb dX7_readsBoard_172 (lv_at hl 0 rfl) ?_
                            refine lv_bipush (v := nI 46) hx hb dX7_readsBoard_174 (by decide) ?_
                            refine n_icmp_ne (tgt := 183) hx hb dX7_readsBoard_176 (by decide) (by omega) (by decide) (fun c_176 => ?_) (fun c_176 => ?_)
                            ·
                              refine lv_bipush (v := nI 10) hx hb dX7_readsBoard_183 (by decide) ?_
                              refine lv_iload hx hb dX7_readsBoard_185 (lv_at hl 0 rfl) ?_
                              refine n_iadd hx hb dX7_readsBoard_187 ?_
                              refine lv_bipush (v := nI 48) hx hb dX7_readsBoard_188 (by decide) ?_
                              refine n_isub hx hb dX7_readsBoard_190 (by omega) ?_
                              refine ctVv (rest := []) S hK (c_X7_puts l G om ν p vx vy ((10 + (μ.2.1 21 vq)) - 48) (by first | assumption | omega | decide)) cw_X7_96 rfl ⟨Nat.le_of_ble_eq_true rfl, Nat.le_of_ble_eq_true rfl⟩ ⟨Nat.le_of_ble_eq_true rfl, Nat.le_of_ble_eq_true rfl⟩ (bk.recv hK hM rfl rfl) hl.1 rfl (Nat.le_of_ble_eq_true rfl) dX7_readsBoard_191 hM hS (fun _ h => h) (fun H locs hPost hz hk hS => ?_)
                              have hM := hPost
                              refine lv_iload_n hx hb dX7_readsBoard_194 rfl (lv_at hl 3 rfl) ?_
                              refine lv_iload hx hb dX7_readsBoard_195 (lv_at hl 0 rfl) ?_
                              refine lv_bipush (v := nI 48) hx hb dX7_readsBoard_197 (by decide) ?_
                              refine n_icmp_lt (tgt := 219) hx hb dX7_readsBoard_199 (by decide) (by omega) (by decide) (fun c_199 => ?_) (fun c_199 => ?_)
                              ·
                                omega
                              ·
                                refine lv_iload hx hb dX7_readsBoard_202 (lv_at hl 0 rfl) ?_
                                refine lv_bipush (v := nI 52) hx hb dX7_readsBoard_204 (by decide) ?_
                                refine n_icmp_gt (tgt := 219) hx hb dX7_readsBoard_206 (by decide) (by omega) (by decide) (fun c_206 => ?_) (fun c_206 => ?_)
                                ·
                                  omega
                                ·
                                  refine lv_iconst (v := nI 1) hx hb dX7_readsBoard_209 (by decide) ?_
                                  refine lv_iload hx hb dX7_readsBoard_210 (lv_at hl 0 rfl) ?_
                                  refine lv_bipush (v := nI 48) hx hb dX7_readsBoard_212 (by decide) ?_
                                  refine n_isub hx hb dX7_readsBoard_214 (by omega) ?_
                                  refine n_ishl hx hb dX7_readsBoard_215 (by omega) ?_
                                  refine lv_goto (tgt := 220) hx hb dX7_readsBoard_216 (by decide) ?_
                                  refine n_ior hx hb dX7_readsBoard_220 ?_
                                  refine lv_istore_n (lv' := [(2, .int (nI (vs ||| (1 <<< ((μ.2.1 21 vq) - 48))))), (5, .int (nI (μ.2.1 21 vq))), (0, .ref om), (1, .int (nI p)), (3, .int (nI vx)), (4, .int (nI vy))]) hx hb dX7_readsBoard_221 rfl hl (by decide) rfl (fun ls hl => ?_)
                                  refine lv_iinc (v := nI (vx + 1)) (lv' := [(3, .int (nI (vx + 1))), (2, .int (nI (vs ||| (1 <<< ((μ.2.1 21 vq) - 48))))), (5, .int (nI (μ.2.1 21 vq))), (0, .ref om), (1, .int (nI p)), (4, .int (nI vy))]) hx hb dX7_readsBoard_222 hl (k := 4) rfl (inc1 _) (by decide) rfl (fun ls hl => ?_)
                                  refine lv_aload_n hx hb dX7_readsBoard_225 rfl (lv_at hl 3 rfl) ?_
                                  refine lv_dup hx hb dX7_readsBoard_226 rfl ?_
                                  refine kg (C := RX7) (T := TX7) (N := 32) (ci := 5) (k := 23) (v := .int (nI (ν.1 23))) S hK rfl inX7 (by decide) q_753 dX7_readsBoard_227 hM rfl rfl ?_
                                  refine lv_iconst (v := nI 1) hx hb dX7_readsBoard_230 (by decide) ?_
                                  refine n_iadd hx hb dX7_readsBoard_231 ?_
                                  refine kp (C := RX7) (T := TX7) (N := 32) (ci := 5) (k := 23) (ty := .int) tyX7 tyX7_ok nmX7 S hK rfl inX7 (by decide) q_753 rfl dX7_readsBoard_232 rfl rfl rfl hM rfl (Nat.le_of_ble_eq_true rfl) (L1 := mL G om (uS (uA ν 4 (20 * p + 5 * vy + vx) ((10 + (μ.2.1 21 vq)) - 48)) 23 ((ν.1 23) + 1))) rfl hS (by first | exact ⟨by omega, by omega⟩ | omega) (fun H locs hM hS hz hk => ?_)
                                  refine lv_goto (tgt := 20) hx hb dX7_readsBoard_235 (by decide) ?_
                                  replace hl := lv_eq 1 hl rfl (v2 := .int (nI (seN (μ.2.1 21 vq) vs))) (congrArg (fun z => Value.int (nI z)) (show (vs ||| (1 <<< ((μ.2.1 21 vq) - 48))) = (seN (μ.2.1 21 vq) vs) from by unfold seN; first | rw [if_pos (by omega)] | rw [if_neg (by omega), Nat.or_zero]))
                                  exact ih20 (vq + 1) (seN (μ.2.1 21 vq) vs) (vx + 1) vy vw (uS (uA ν 4 (20 * p + 5 * vy + vx) ((10 + (μ.2.1 21 vq)) - 48)) 23 ((ν.1 23) + 1)) (pth_S (pth_4 hP (by omega)) (by decide)) (by show ν.1 23 + 1 = _; rw [h23]) hw hf0 (fun k hk => by
                                    show (uA ν 4 _ _).2.1 4 (20 * p + k) = _
                                    rw [aA_e, rdc_c (by omega) (fun z => by omega) hq, hc k hk]
                                    by_cases e : k = 5 * vy + vx
                                    · rw [if_pos (by omega), if_pos e]
                                      unfold cdT
                                      first | rw [if_pos (by assumption)] | rw [if_neg (by assumption), if_pos (by assumption)] | rw [if_neg (by assumption), if_neg (by assumption)]
                                    · rw [if_neg (by omega), if_neg e]) (by omega) (by first | assumption | omega) (by first | assumption | omega) (by first | assumption | omega) (by first | assumption | omega) (seN_lt hs32) (by first | assumption | omega) (by rw [hres]; exact rd_c (by omega) c_46 (by rintro (z | z | z); omega; omega; exact hnb z)) (by omega) _ _ hM hS ls (lv_sub hl [3, 4, 1, 0, 5] rfl)
                            ·
                              exact absurd c_176 c_124
                          ·
                            exact absurd c_165 c_117
                        ·
                          refine lv_iconst (v := nI 0) hx hb dX7_readsBoard_154 (by decide) ?_
                          have hr : rdF μ = (vq, none) := by show rdE (rdL (μ.2.1 21) (μ.1 22) 0 0 0 0 0) = _; rw [hres, rd_cf (by omega) c_46 (Or.inr (Or.inr (bdC_3 c_117 c_124 (by first | omega | exact Or.inr (Or.inr (bit1.mp c_151))))))]; rfl
                          refine w_top (v' := .int (b2i ((rdF μ).2.isSome))) (bz_f (show ((rdF μ).2.isSome) = false from (by rw [hr]; rfl))) ?_
                          exact hE _ _ _ _ _ _ (kr_z dX7_readsBoard_155) hS (by decide) (by decide) ⟨ν, hM, ⟨hP, by rw [hr]; exact h23, fun a b c e => by rw [hr] at e; cases e⟩⟩
              ·
                refine lv_iconst (v := nI 0) hx hb dX7_readsBoard_111 (by decide) ?_
                have hr : rdF μ = (vq, none) := by show rdE (rdL (μ.2.1 21) (μ.1 22) 0 0 0 0 0) = _; rw [hres, rd_cf (by omega) c_46 (by omega)]; rfl
                refine w_top (v' := .int (b2i ((rdF μ).2.isSome))) (bz_f (show ((rdF μ).2.isSome) = false from (by rw [hr]; rfl))) ?_
                exact hE _ _ _ _ _ _ (kr_z dX7_readsBoard_112) hS (by decide) (by decide) ⟨ν, hM, ⟨hP, by rw [hr]; exact h23, fun a b c e => by rw [hr] at e; cases e⟩⟩
        ·
          refine lv_iload_n hx hb dX7_readsBoard_49 rfl (lv_at hl 4 rfl) ?_
          refine n_if_eq (tgt := 74) hx hb dX7_readsBoard_50 (by decide) (by omega) (fun c_50 => ?_) (fun c_50 => ?_)
          ·
            refine lv_iconst (v := nI 0) hx hb dX7_readsBoard_74 (by decide) ?_
            have hr : rdF μ = (vq, none) := by show rdE (rdL (μ.2.1 21) (μ.1 22) 0 0 0 0 0) = _; rw [hres, rd_sf (by omega) c_46 (by omega)]; rfl
            refine w_top (v' := .int (b2i ((rdF μ).2.isSome))) (bz_f (show ((rdF μ).2.isSome) = false from (by rw [hr]; rfl))) ?_
            exact hE _ _ _ _ _ _ (kr_z dX7_readsBoard_75) hS (by decide) (by decide) ⟨ν, hM, ⟨hP, by rw [hr]; exact h23, fun a b c e => by rw [hr] at e; cases e⟩⟩
          ·
            refine lv_iload hx hb dX7_readsBoard_53 (lv_at hl 5 rfl) ?_
            refine n_if_le (tgt := 68) hx hb dX7_readsBoard_55 (by decide) (by omega) (fun c_55 => ?_) (fun c_55 => ?_)
            ·
              refine lv_iload hx hb dX7_readsBoard_68 (lv_at hl 5 rfl) ?_
              refine lv_iconst (v := nI 3) hx hb dX7_readsBoard_70 (by decide) ?_
              refine n_icmp_ne (tgt := 76) hx hb dX7_readsBoard_71 (by decide) (by omega) (by decide) (fun c_71 => ?_) (fun c_71 => ?_)
              ·
                refine lv_aload_n hx hb dX7_readsBoard_76 rfl (lv_at hl 1 rfl) ?_
                refine kg (C := RX7) (T := TX7) (N := 32) (ci := 5) (k := 1) (v := .ref (om + 2)) S hK rfl inX7 (by decide) q_731 dX7_readsBoard_77 hM rfl rfl ?_
                refine lv_iload_n hx hb dX7_readsBoard_80 rfl (lv_at hl 2 rfl) ?_
                refine lv_iload_n hx hb dX7_readsBoard_81 rfl (lv_at hl 4 rfl) ?_
                refine kis S hK dX7_readsBoard_82 2 hM rfl (by decide) rfl (by omega) rfl (L1 := mL G om (uA ν 1 p vx)) rfl hS (by first | exact ⟨by omega, by omega⟩ | omega) (fun H locs hM hS hz hk => ?_)
                refine lv_iconst (v := nI 0) hx hb dX7_readsBoard_83 (by decide) ?_
                refine lv_istore_n (lv' := [(3, .int (nI 0)), (5, .int (nI (μ.2.1 21 vq))), (0, .ref om), (1, .int (nI p)), (2, .int (nI vs)), (4, .int (nI vy))]) hx hb dX7_readsBoard_84 rfl hl (by decide) rfl (fun ls hl => ?_)
                refine lv_iinc (v := nI (vy + 1)) (lv' := [(4, .int (nI (vy + 1))), (3, .int (nI 0)), (5, .int (nI (μ.2.1 21 vq))), (0, .ref om), (1, .int (nI p)), (2, .int (nI vs))]) hx hb dX7_readsBoard_85 hl (k := 5) rfl (inc1 _) (by decide) rfl (fun ls hl => ?_)
                refine lv_goto (tgt := 225) hx hb dX7_readsBoard_88 (by decide) ?_
                refine lv_aload_n hx hb dX7_readsBoard_225 rfl (lv_at hl 3 rfl) ?_
                refine lv_dup hx hb dX7_readsBoard_226 rfl ?_
                refine kg (C := RX7) (T := TX7) (N := 32) (ci := 5) (k := 23) (v := .int (nI (ν.1 23))) S hK rfl inX7 (by decide) q_753 dX7_readsBoard_227 hM rfl rfl ?_
                refine lv_iconst (v := nI 1) hx hb dX7_readsBoard_230 (by decide) ?_
                refine n_iadd hx hb dX7_readsBoard_231 ?_
                refine kp (C := RX7) (T := TX7) (N := 32) (ci := 5) (k := 23) (ty := .int) tyX7 tyX7_ok nmX7 S hK rfl inX7 (by decide) q_753 rfl dX7_readsBoard_232 rfl rfl rfl hM rfl (Nat.le_of_ble_eq_true rfl) (L1 := mL G om (uS (uA ν 1 p vx) 23 ((ν.1 23) + 1))) rfl hS (by first | exact ⟨by omega, by omega⟩ | omega) (fun H locs hM hS hz hk => ?_)
                refine lv_goto (tgt := 20) hx hb dX7_readsBoard_235 (by decide) ?_
                exact ih20 (vq + 1) vs 0 (vy + 1) vx (uS (uA ν 1 p vx) 23 ((ν.1 23) + 1)) (pth_S (pth_A hP (by decide)) (by decide)) (by show ν.1 23 + 1 = _; rw [h23]) (by exact aA_s ν 1 p vx) (by show (uA ν 1 p vx).2.1 3 p = 0; rw [aA_n (by decide)]; exact hf0) (fun k hk => by
                  show (uA ν 1 p vx).2.1 4 (20 * p + k) = _
                  rw [aA_n (by decide), hc k hk]
                  exact rdc_l (fun z => by omega)) (rd_q1 hq (fun z => by omega)) (by first | assumption | omega) (by first | assumption | omega) (by first | assumption | omega) (by first | assumption | omega) (by first | assumption | omega) (by first | assumption | omega) (by rw [hres]; exact rd_s (by omega) c_46 (by omega)) (by omega) _ _ hM hS ls (lv_sub hl [3, 4, 5, 1, 0] rfl)
              ·
                refine lv_iconst (v := nI 0) hx hb dX7_readsBoard_74 (by decide) ?_
                have hr : rdF μ = (vq, none) := by show rdE (rdL (μ.2.1 21) (μ.1 22) 0 0 0 0 0) = _; rw [hres, rd_sf (by omega) c_46 (by omega)]; rfl
                refine w_top (v' := .int (b2i ((rdF μ).2.isSome))) (bz_f (show ((rdF μ).2.isSome) = false from (by rw [hr]; rfl))) ?_
                exact hE _ _ _ _ _ _ (kr_z dX7_readsBoard_75) hS (by decide) (by decide) ⟨ν, hM, ⟨hP, by rw [hr]; exact h23, fun a b c e => by rw [hr] at e; cases e⟩⟩
            ·
              refine lv_iload_n hx hb dX7_readsBoard_58 rfl (lv_at hl 4 rfl) ?_
              refine lv_aload_n hx hb dX7_readsBoard_59 rfl (lv_at hl 1 rfl) ?_
              refine kg (C := RX7) (T := TX7) (N := 32) (ci := 5) (k := 1) (v := .ref (om + 2)) S hK rfl inX7 (by decide) q_731 dX7_readsBoard_60 hM rfl rfl ?_
              refine lv_iload_n hx hb dX7_readsBoard_63 rfl (lv_at hl 2 rfl) ?_
              refine kil (f := ν.2.1 1) S hK dX7_readsBoard_64 2 hM rfl (by decide) rfl (by omega) ?_
              refine n_icmp_lt (tgt := 74) hx hb dX7_readsBoard_65 (by decide) (by omega) (by omega) (fun c_65 => ?_) (fun c_65 => ?_)
              ·
                refine lv_iconst (v := nI 0) hx hb dX7_readsBoard_74 (by decide) ?_
                have hr : rdF μ = (vq, none) := by show rdE (rdL (μ.2.1 21) (μ.1 22) 0 0 0 0 0) = _; rw [hres, rd_sf (by omega) c_46 (by omega)]; rfl
                refine w_top (v' := .int (b2i ((rdF μ).2.isSome))) (bz_f (show ((rdF μ).2.isSome) = false from (by rw [hr]; rfl))) ?_
                exact hE _ _ _ _ _ _ (kr_z dX7_readsBoard_75) hS (by decide) (by decide) ⟨ν, hM, ⟨hP, by rw [hr]; exact h23, fun a b c e => by rw [hr] at e; cases e⟩⟩
              ·
                refine lv_iload hx hb dX7_readsBoard_68 (lv_at hl 5 rfl) ?_
                refine lv_iconst (v := nI 3) hx hb dX7_readsBoard_70 (by decide) ?_
                refine n_icmp_ne (tgt := 76) hx hb dX7_readsBoard_71 (by decide) (by omega) (by decide) (fun c_71 => ?_) (fun c_71 => ?_)
                ·
                  refine lv_aload_n hx hb dX7_readsBoard_76 rfl (lv_at hl 1 rfl) ?_
                  refine kg (C := RX7) (T := TX7) (N := 32) (ci := 5) (k := 1) (v := .ref (om + 2)) S hK rfl inX7 (by decide) q_731 dX7_readsBoard_77 hM rfl rfl ?_
                  refine lv_iload_n hx hb dX7_readsBoard_80 rfl (lv_at hl 2 rfl) ?_
                  refine lv_iload_n hx hb dX7_readsBoard_81 rfl (lv_at hl 4 rfl) ?_
                  refine kis S hK dX7_readsBoard_82 2 hM rfl (by decide) rfl (by omega) rfl (L1 := mL G om (uA ν 1 p vx)) rfl hS (by first | exact ⟨by omega, by omega⟩ | omega) (fun H locs hM hS hz hk => ?_)
                  refine lv_iconst (v := nI 0) hx hb dX7_readsBoard_83 (by decide) ?_
                  refine lv_istore_n (lv' := [(3, .int (nI 0)), (5, .int (nI (μ.2.1 21 vq))), (0, .ref om), (1, .int (nI p)), (2, .int (nI vs)), (4, .int (nI vy))]) hx hb dX7_readsBoard_84 rfl hl (by decide) rfl (fun ls hl => ?_)
                  refine lv_iinc (v := nI (vy + 1)) (lv' := [(4, .int (nI (vy + 1))), (3, .int (nI 0)), (5, .int (nI (μ.2.1 21 vq))), (0, .ref om), (1, .int (nI p)), (2, .int (nI vs))]) hx hb dX7_readsBoard_85 hl (k := 5) rfl (inc1 _) (by decide) rfl (fun ls hl => ?_)
                  refine lv_goto (tgt := 225) hx hb dX7_readsBoard_88 (by decide) ?_
                  refine lv_aload_n hx hb dX7_readsBoard_225 rfl (lv_at hl 3 rfl) ?_
                  refine lv_dup hx hb dX7_readsBoard_226 rfl ?_
                  refine kg (C := RX7) (T := TX7) (N := 32) (ci := 5) (k := 23) (v := .int (nI (ν.1 23))) S hK rfl inX7 (by decide) q_753 dX7_readsBoard_227 hM rfl rfl ?_
                  refine lv_iconst (v := nI 1) hx hb dX7_readsBoard_230 (by decide) ?_
                  refine n_iadd hx hb dX7_readsBoard_231 ?_
                  refine kp (C := RX7) (T := TX7) (N := 32) (ci := 5) (k := 23) (ty := .int) tyX7 tyX7_ok nmX7 S hK rfl inX7 (by decide) q_753 rfl dX7_readsBoard_232 rfl rfl rfl hM rfl (Nat.le_of_ble_eq_true rfl) (L1 := mL G om (uS (uA ν 1 p vx) 23 ((ν.1 23) + 1))) rfl hS (by first | exact ⟨by omega, by omega⟩ | omega) (fun H locs hM hS hz hk => ?_)
                  refine lv_goto (tgt := 20) hx hb dX7_readsBoard_235 (by decide) ?_
                  exact ih20 (vq + 1) vs 0 (vy + 1) vx (uS (uA ν 1 p vx) 23 ((ν.1 23) + 1)) (pth_S (pth_A hP (by decide)) (by decide)) (by show ν.1 23 + 1 = _; rw [h23]) (by exact aA_s ν 1 p vx) (by show (uA ν 1 p vx).2.1 3 p = 0; rw [aA_n (by decide)]; exact hf0) (fun k hk => by
                    show (uA ν 1 p vx).2.1 4 (20 * p + k) = _
                    rw [aA_n (by decide), hc k hk]
                    exact rdc_l (fun z => by omega)) (rd_q1 hq (fun z => by omega)) (by first | assumption | omega) (by first | assumption | omega) (by first | assumption | omega) (by first | assumption | omega) (by first | assumption | omega) (by first | assumption | omega) (by rw [hres]; exact rd_s (by omega) c_46 (by omega)) (by omega) _ _ hM hS ls (lv_sub hl [3, 4, 5, 1, 0] rfl)
                ·
                  refine lv_iconst (v := nI 0) hx hb dX7_readsBoard_74 (by decide) ?_
                  have hr : rdF μ = (vq, none) := by show rdE (rdL (μ.2.1 21) (μ.1 22) 0 0 0 0 0) = _; rw [hres, rd_sf (by omega) c_46 (by omega)]; rfl
                  refine w_top (v' := .int (b2i ((rdF μ).2.isSome))) (bz_f (show ((rdF μ).2.isSome) = false from (by rw [hr]; rfl))) ?_
                  exact hE _ _ _ _ _ _ (kr_z dX7_readsBoard_75) hS (by decide) (by decide) ⟨ν, hM, ⟨hP, by rw [hr]; exact h23, fun a b c e => by rw [hr] at e; cases e⟩⟩
  exact L20 ((μ.1 22 - 0) + 1) 0 0 0 0 0 (uS (clZ (uA (uA (uA μ 1 p 0) 2 p 0) 3 p 0) p 20) 23 0) (pth_S (bg_pth _ _ _ _ _) (by decide)) rfl (bg_1 _ _ _ _ _) (bg_3 _ _ _ _ _) (fun k hk => by rw [rdc_0]; exact bg_4 _ _ _ _ _ hk) rfl (by first | assumption | omega) (by first | assumption | omega) (by first | assumption | omega) (by first | assumption | omega) (by first | assumption | omega) (by first | assumption | omega) rfl (Nat.lt_succ_self _) _ _ hM hS ls (lv_sub hl [3, 4, 2, 1, 0] rfl)
