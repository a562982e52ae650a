
/-! walks: the class's NETS -/
/-- the boards that a NET's pieces are -/
def NB (G : Gt) (nn : Nat) (ν : Sx) (F : Nat → Nat) (Wy : Nat → Nat → Nat) (H : Heap) : Prop := ∀ k, k < ν.1 1 → ∃ (a : Nat) (β : Sx), ν.2.2 0 k = some a ∧ (a + 4 ≤ nn ∨ nn + 4 ≤ a) ∧ bk G a (bdL G a β) H ∧ β.1 4 = F k ∧ F k ≤ 5 ∧ ∀ s, s < 1 <<< F k → β.2.1 6 s = Wy k s ∧ Wy k s ≤ 1024
theorem NB_S {G : Gt} {nn : Nat} {ν : Sx} {F : Nat → Nat} {Wy : Nat → Nat → Nat} {H0 H : Heap} {A : Nat → Prop} {locs : List Loc} (h : NB G nn ν F Wy H0) (hS : va_S A H0 H locs) (hA : ∀ q, A q → nn ≤ q ∧ q < nn + 4) : NB G nn ν F Wy H := by
  intro k hk
  obtain ⟨a, β, h1, h2, h3, h4⟩ := h k hk
  refine ⟨a, β, h1, h2, h3.kept (fun q g1 g2 => ?_), h4⟩
  have g3 : q < a + 4 := g2
  have hl := bk.lt (k := 3) h3 (show 3 < 4 by decide)
  exact hS.2.1 q (by omega) (fun z => by have := hA q z; omega)
def hsF (P : Nat) (F : Nat → Nat) (v : Int32) : Bool := decide (0 ≤ v.toInt) && (decide (cx v / 10 < P) && decide (cx v % 10 < F (cx v / 10)))
theorem hsF_neg {P : Nat} {F : Nat → Nat} {v : Int32} (hv : v < 0) : hsF P F v = false := by
  have := Int32.lt_iff_toInt_lt.mp hv
  have e : (0 : Int32).toInt = 0 := rfl
  unfold hsF
  rw [decide_eq_false (by omega)]
  rfl
theorem hsF_n {P j : Nat} {F : Nat → Nat} (hj : j < 2 ^ 31) : hsF P F (nI j) = (decide (j / 10 < P) && decide (j % 10 < F (j / 10))) := by
  unfold hsF
  rw [cx_n hj, nI_toInt hj, decide_eq_true (by omega)]
  rfl
abbrev zK (ν : Sx) : Nat → Nat → Bool := fun k f => decide (ν.2.1 3 (5 * k + f) = 0)
def slK (ν : Sx) (F : Nat → Nat) (k f : Nat) : Nat := if ν.2.1 3 (5 * k + f) = 0 then 12 + (fcN F (zK ν) k + fc1 (zK ν) k f) else ν.2.1 3 (5 * k + f) - 1
def acS (st : Nat → Nat → Nat) : Nat → Nat
  | 0 => 0
  | s + 1 => st s (acS st s)
def slO (g : Nat → Nat) : Nat → Nat
  | 0 => 0
  | f + 1 => slO g f ||| 1 <<< g f
def bO (g : Nat → Nat) (st : Nat) : Nat → Nat
  | 0 => 0
  | f + 1 => if st >>> f &&& 1 = 0 then bO g st f else bO g st f ||| 1 <<< g f
def bZ (g : Nat → Nat) (st : Nat) : Nat → Nat
  | 0 => 0
  | f + 1 => if st >>> f &&& 1 = 0 then bZ g st f ||| 1 <<< g f else bZ g st f
def okS (F : Nat → Nat) (Wy : Nat → Nat → Nat) (sl : Nat → Nat → Nat) (k s kn va : Nat) : Bool := decide (¬ Wy k s = 0) && (decide (bO (sl k) s (F k) &&& bZ (sl k) s (F k) = 0) && decide ((bO (sl k) s (F k) ^^^ va) &&& slO (sl k) (F k) &&& kn = 0))
def sfH (F : Nat → Nat) (Wy : Nat → Nat → Nat) (sl : Nat → Nat → Nat) : Nat → Nat → Nat → Nat → Nat
  | 0, _, _, _ => 1
  | n + 1, k, kn, va => acS (fun s a => if okS F Wy sl k s kn va then (a + Wy k s * sfH F Wy sl n (k + 1) (kn ||| slO (sl k) (F k)) (va ||| bO (sl k) s (F k))) % 1000000007 else a) (1 <<< F k)
def sfA (F : Nat → Nat) (Wy : Nat → Nat → Nat) (sl : Nat → Nat → Nat) : Nat → Nat → Nat → Nat → Bool
  | 0, _, _, _ => true
  | n + 1, k, kn, va => (fnd (fun s => okS F Wy sl k s kn va && sfA F Wy sl n (k + 1) (kn ||| slO (sl k) (F k)) (va ||| bO (sl k) s (F k))) (1 <<< F k) 0).isSome
def bN (z : Bool) : Nat := if z then 1 else 0
theorem bN_t {z : Bool} (h : z = true) : bN z = 1 := by rw [h]; rfl
theorem bN_f {z : Bool} (h : z = false) : bN z = 0 := by rw [h]; rfl
theorem bN_le (z : Bool) : bN z ≤ 1 := by cases z <;> decide
theorem acS_lt {st : Nat → Nat → Nat} (h : ∀ s a, a < 1000000007 → st s a < 1000000007) : ∀ n, acS st n < 1000000007
  | 0 => (by decide : (0 : Nat) < 1000000007)
  | n + 1 => h n _ (acS_lt h n)
theorem sfH_lt (F : Nat → Nat) (Wy : Nat → Nat → Nat) (sl : Nat → Nat → Nat) : ∀ n k kn va, sfH F Wy sl n k kn va < 1000000007
  | 0, _, _, _ => (by decide : (1 : Nat) < 1000000007)
  | n + 1, k, kn, va => acS_lt (fun s a ha => by
    split
    · exact Nat.mod_lt _ (by decide)
    · exact ha) _
theorem slO_lt {g : Nat → Nat} {m : Nat} : ∀ f, (∀ i, i < f → g i < m) → slO g f < 2 ^ m
  | 0, _ => Nat.two_pow_pos m
  | f + 1, h => Nat.or_lt_two_pow (slO_lt f (fun i hi => h i (by omega))) (by rw [Nat.one_shiftLeft]; exact Nat.pow_lt_pow_right (by decide) (h f (by omega)))
theorem bO_lt {g : Nat → Nat} {m st : Nat} : ∀ f, (∀ i, i < f → g i < m) → bO g st f < 2 ^ m
  | 0, _ => Nat.two_pow_pos m
  | f + 1, h => by
    have ih := bO_lt (g := g) (m := m) (st := st) f (fun i hi => h i (by omega))
    unfold bO
    split
    · exact ih
    · exact Nat.or_lt_two_pow ih (by rw [Nat.one_shiftLeft]; exact Nat.pow_lt_pow_right (by decide) (h f (by omega)))
theorem bO_0 {g : Nat → Nat} {st f : Nat} (h : st >>> f &&& 1 = 0) : bO g st (f + 1) = bO g st f := if_pos h
theorem bO_1 {g : Nat → Nat} {st f : Nat} (h : ¬ st >>> f &&& 1 = 0) : bO g st (f + 1) = bO g st f ||| 1 <<< g f := if_neg h
theorem bZ_0 {g : Nat → Nat} {st f : Nat} (h : st >>> f &&& 1 = 0) : bZ g st (f + 1) = bZ g st f ||| 1 <<< g f := if_pos h
theorem bZ_1 {g : Nat → Nat} {st f : Nat} (h : ¬ st >>> f &&& 1 = 0) : bZ g st (f + 1) = bZ g st f := if_neg h
theorem bZ_lt {g : Nat → Nat} {m st : Nat} : ∀ f, (∀ i, i < f → g i < m) → bZ g st f < 2 ^ m
  | 0, _ => Nat.two_pow_pos m
  | f + 1, h => by
    have ih := bZ_lt (g := g) (m := m) (st := st) f (fun i hi => h i (by omega))
    unfold bZ
    split
    · exact Nat.or_lt_two_pow ih (by rw [Nat.one_shiftLeft]; exact Nat.pow_lt_pow_right (by decide) (h f (by omega)))
    · exact ih
theorem mul_1024 {a b : Nat} (ha : a ≤ 1024) (hb : b < 1000000007) : a * b ≤ 1024 * 1000000007 := Nat.mul_le_mul ha (Nat.le_of_lt hb)
def nt0 : Sx := (fun _ => 0, fun _ _ => 0, fun _ _ => none)

set_option maxHeartbeats 1000000 in
set_option maxRecDepth 100000 in
theorem c_X4_init (l : Launch) (G : Gt) (nn : Nat)  : Ct l G yX4_init cX4_init 1 (none) 1 3 88 [.ref nn] (fun H => bk G nn ([.inr (3, [.null, .int (nI 0), .int (nI 0), .null, .null])]) H ∧ H.size = nn + 1) none (fun H => bk G nn (ntL G nn nt0) H ∧ H.size = nn + 4) (fun q => nn ≤ q) := by
  refine ct_entry [(0, .ref nn)] (by decide) (Nat.le_of_ble_eq_true rfl) rfl ?_
  intro zp ze zs zm za zb zt zc Q S hK hPre hin hE ls hl
  have hx := S.1
  have hb := S.2.1
  obtain ⟨hN, hz⟩ := hPre
  have hS : va_S (fun q => nn ≤ q) zs.heap zs.heap [] := va_S.rf
  refine lv_aload_n hx hb dX4_init_0 rfl (lv_at hl 0 rfl) ?_
  refine koi S q_505 q_95 q_96 dX4_init_1 hl.1 ⟨by decide, by decide⟩ (by decide) ?_
  refine lv_aload_n hx hb dX4_init_4 rfl (lv_at hl 0 rfl) ?_
  refine lv_bipush (v := nI 8) hx hb dX4_init_5 (by decide) ?_
  refine knq (C := "PuzzleParts$Board") S hK q_506 hK.2.1.2.2.2.1 2 rfl dX4_init_7 8 rfl (by decide) (by decide) (by decide) hN hz hS (fun H hN hS hz hk => ?_)
  replace hN : bk G nn ([.inr (3, [.null, .int (nI 0), .int (nI 0), .null, .null]), qA G 2 8 (fun _ => none)]) H := hN
  replace hz : H.size = nn + 2 := hz
  refine kpF (C := RX4) (T := TX4) (N := 5) (ci := 3) (k := 0) (ty := .array (.object "PuzzleParts$Board")) tyX4 tyX4_ok nmX4 S hK hin rfl inX4 (by decide) q_507 rfl rfl dX4_init_10 rfl rfl rfl hN rfl (Nat.le_of_ble_eq_true rfl) (L1 := [.inr (3, [.ref (nn + 1), .int (nI 0), .int (nI 0), .null, .null]), qA G 2 8 (fun _ => none)]) rfl hS (by first | exact ⟨by omega, by omega⟩ | omega) (fun H locs hN hS hz2 hk => ?_)
  replace hz := hz2.trans hz
  refine lv_aload_n hx hb dX4_init_13 rfl (lv_at hl 0 rfl) ?_
  refine lv_bipush (v := nI 40) hx hb dX4_init_14 (by decide) ?_
  refine kna S hK q_122 dX4_init_16 40 rfl (by decide) (by decide) (by decide) hN hz hS (fun H hN hS hz hk => ?_)
  replace hN : bk G nn ([.inr (3, [.ref (nn + 1), .int (nI 0), .int (nI 0), .null, .null]), qA G 2 8 (fun _ => none), iA G 40 (fun _ => 0)]) H := hN
  replace hz : H.size = nn + 3 := hz
  refine kpF (C := RX4) (T := TX4) (N := 5) (ci := 3) (k := 3) (ty := .array .int) tyX4 tyX4_ok nmX4 S hK hin rfl inX4 (by decide) q_512 rfl rfl dX4_init_18 rfl rfl rfl hN rfl (Nat.le_of_ble_eq_true rfl) (L1 := [.inr (3, [.ref (nn + 1), .int (nI 0), .int (nI 0), .ref (nn + 2), .null]), qA G 2 8 (fun _ => none), iA G 40 (fun _ => 0)]) rfl hS (by first | exact ⟨by omega, by omega⟩ | omega) (fun H locs hN hS hz2 hk => ?_)
  replace hz := hz2.trans hz
  refine lv_aload_n hx hb dX4_init_21 rfl (lv_at hl 0 rfl) ?_
  refine lv_bipush (v := nI 40) hx hb dX4_init_22 (by decide) ?_
  refine kna S hK q_122 dX4_init_24 40 rfl (by decide) (by decide) (by decide) hN hz hS (fun H hN hS hz hk => ?_)
  replace hN : bk G nn ([.inr (3, [.ref (nn + 1), .int (nI 0), .int (nI 0), .ref (nn + 2), .null]), qA G 2 8 (fun _ => none), iA G 40 (fun _ => 0), iA G 40 (fun _ => 0)]) H := hN
  replace hz : H.size = nn + 4 := hz
  refine kpF (C := RX4) (T := TX4) (N := 5) (ci := 3) (k := 4) (ty := .array .int) tyX4 tyX4_ok nmX4 S hK hin rfl inX4 (by decide) q_513 rfl rfl dX4_init_26 rfl rfl rfl hN rfl (Nat.le_of_ble_eq_true rfl) (L1 := [.inr (3, [.ref (nn + 1), .int (nI 0), .int (nI 0), .ref (nn + 2), .ref (nn + 3)]), qA G 2 8 (fun _ => none), iA G 40 (fun _ => 0), iA G 40 (fun _ => 0)]) rfl hS (by first | exact ⟨by omega, by omega⟩ | omega) (fun H locs hN hS hz2 hk => ?_)
  replace hz := hz2.trans hz
  exact hE _ _ _ _ _ _ (kr_v dX4_init_29) hS (by decide) (by decide) ⟨hN, hz⟩

set_option maxHeartbeats 1000000 in
set_option maxRecDepth 100000 in
theorem c_X2_init (l : Launch) (G : Gt) (nn : Nat)  : Ct l G yX2_init cX2_init 1 (none) 1 3 30 [.ref nn] (fun H => bk G nn ([.inr (1, [.null, .null, .null, .int (nI 0)])]) H ∧ H.size = nn + 1) none (fun H => bk G nn (flL G nn nt0) H ∧ H.size = nn + 4) (fun q => nn ≤ q) := by
  refine ct_entry [(0, .ref nn)] (by decide) (Nat.le_of_ble_eq_true rfl) rfl ?_
  intro zp ze zs zm za zb zt zc Q S hK hPre hin hE ls hl
  have hx := S.1
  have hb := S.2.1
  obtain ⟨hN, hz⟩ := hPre
  have hS : va_S (fun q => nn ≤ q) zs.heap zs.heap [] := va_S.rf
  refine lv_aload_n hx hb dX2_init_0 rfl (lv_at hl 0 rfl) ?_
  refine koi S q_106 q_95 q_96 dX2_init_1 hl.1 ⟨by decide, by decide⟩ (by decide) ?_
  refine lv_aload_n hx hb dX2_init_4 rfl (lv_at hl 0 rfl) ?_
  refine lv_bipush (v := nI 10) hx hb dX2_init_5 (by decide) ?_
  refine knq (C := "PuzzleParts$Board") S hK q_107 hK.2.1.2.2.2.1 2 rfl dX2_init_7 10 rfl (by decide) (by decide) (by decide) hN hz hS (fun H hN hS hz hk => ?_)
  replace hN : bk G nn ([.inr (1, [.null, .null, .null, .int (nI 0)]), qA G 2 10 (fun _ => none)]) H := hN
  replace hz : H.size = nn + 2 := hz
  refine kpF (C := RX2) (T := TX2) (N := 4) (ci := 1) (k := 0) (ty := .array (.object "PuzzleParts$Board")) tyX2 tyX2_ok nmX2 S hK hin rfl inX2 (by decide) q_108 rfl rfl dX2_init_10 rfl rfl rfl hN rfl (Nat.le_of_ble_eq_true rfl) (L1 := [.inr (1, [.ref (nn + 1), .null, .null, .int (nI 0)]), qA G 2 10 (fun _ => none)]) rfl hS (by first | exact ⟨by omega, by omega⟩ | omega) (fun H locs hN hS hz2 hk => ?_)
  replace hz := hz2.trans hz
  refine lv_aload_n hx hb dX2_init_13 rfl (lv_at hl 0 rfl) ?_
  refine lv_bipush (v := nI 10) hx hb dX2_init_14 (by decide) ?_
  refine kna S hK q_122 dX2_init_16 10 rfl (by decide) (by decide) (by decide) hN hz hS (fun H hN hS hz hk => ?_)
  replace hN : bk G nn ([.inr (1, [.ref (nn + 1), .null, .null, .int (nI 0)]), qA G 2 10 (fun _ => none), iA G 10 (fun _ => 0)]) H := hN
  replace hz : H.size = nn + 3 := hz
  refine kpF (C := RX2) (T := TX2) (N := 4) (ci := 1) (k := 1) (ty := .array .int) tyX2 tyX2_ok nmX2 S hK hin rfl inX2 (by decide) q_109 rfl rfl dX2_init_18 rfl rfl rfl hN rfl (Nat.le_of_ble_eq_true rfl) (L1 := [.inr (1, [.ref (nn + 1), .ref (nn + 2), .null, .int (nI 0)]), qA G 2 10 (fun _ => none), iA G 10 (fun _ => 0)]) rfl hS (by first | exact ⟨by omega, by omega⟩ | omega) (fun H locs hN hS hz2 hk => ?_)
  replace hz := hz2.trans hz
  refine lv_aload_n hx hb dX2_init_21 rfl (lv_at hl 0 rfl) ?_
  refine lv_bipush (v := nI 10) hx hb dX2_init_22 (by decide) ?_
  refine kna S hK q_122 dX2_init_24 10 rfl (by decide) (by decide) (by decide) hN hz hS (fun H hN hS hz hk => ?_)
  replace hN : bk G nn ([.inr (1, [.ref (nn + 1), .ref (nn + 2), .null, .int (nI 0)]), qA G 2 10 (fun _ => none), iA G 10 (fun _ => 0), iA G 10 (fun _ => 0)]) H := hN
  replace hz : H.size = nn + 4 := hz
  refine kpF (C := RX2) (T := TX2) (N := 4) (ci := 1) (k := 2) (ty := .array .int) tyX2 tyX2_ok nmX2 S hK hin rfl inX2 (by decide) q_110 rfl rfl dX2_init_26 rfl rfl rfl hN rfl (Nat.le_of_ble_eq_true rfl) (L1 := [.inr (1, [.ref (nn + 1), .ref (nn + 2), .ref (nn + 3), .int (nI 0)]), qA G 2 10 (fun _ => none), iA G 10 (fun _ => 0), iA G 10 (fun _ => 0)]) rfl hS (by first | exact ⟨by omega, by omega⟩ | omega) (fun H locs hN hS hz2 hk => ?_)
  replace hz := hz2.trans hz
  exact hE _ _ _ _ _ _ (kr_v dX2_init_29) hS (by decide) (by decide) ⟨hN, hz⟩

def ft0 (a n : Nat) : Sx := fq (fun k => if k = 0 then a else if k = 1 then n else 0, fun _ _ => 0, fun _ _ => none) 0 0

set_option maxHeartbeats 1000000 in
set_option maxRecDepth 100000 in
theorem c_X3_init (l : Launch) (G : Gt) (b : Nat) (a : Nat) (n : Nat)  : Ct l G yX3_init cX3_init 3 (none) 1 0 0 [.ref b, .ref a, .int (nI n)] (fun H => bk G b ([.inr (2, [.null, .int (nI 0), .int (nI 0), .int (nI 0)])]) H) none (fun H => bk G b (ftL G b (ft0 a n)) H) (fun q => b ≤ q) := by
  refine ct_entry [(0, .ref b), (1, .ref a), (2, .int (nI n))] (by decide) (Nat.le_of_ble_eq_true rfl) rfl ?_
  intro zp ze zs zm za zb zt zc Q S hK hPre hin hE ls hl
  have hx := S.1
  have hb := S.2.1
  have hN := hPre
  have hS : va_S (fun q => b ≤ q) zs.heap zs.heap [] := va_S.rf
  refine lv_aload_n hx hb dX3_init_0 rfl (lv_at hl 0 rfl) ?_
  refine koi S q_345 q_95 q_96 dX3_init_1 hl.1 ⟨by decide, by decide⟩ (by decide) ?_
  refine lv_aload_n hx hb dX3_init_4 rfl (lv_at hl 0 rfl) ?_
  refine lv_iconst (v := (-1)) hx hb dX3_init_5 (by decide) ?_
  refine kp (C := RX3) (T := TX3) (N := 4) (ci := 2) (k := 3) (ty := .int) tyX3 tyX3_ok nmX3 S hK rfl inX3 (by decide) q_349 rfl dX3_init_6 rfl rfl rfl hN rfl (Nat.le_of_ble_eq_true rfl) (L1 := [.inr (2, [.null, .int (nI 0), .int (nI 0), .int (-1)])]) rfl hS (by first | exact ⟨by omega, by omega⟩ | omega) (fun H locs hN hS hz2 hk => ?_)
  refine lv_aload_n hx hb dX3_init_9 rfl (lv_at hl 0 rfl) ?_
  refine lv_aload_n hx hb dX3_init_10 rfl (lv_at hl 1 rfl) ?_
  refine kpF (C := RX3) (T := TX3) (N := 4) (ci := 2) (k := 0) (ty := .array .int) tyX3 tyX3_ok nmX3 S hK hin rfl inX3 (by decide) q_346 rfl rfl dX3_init_11 rfl rfl rfl hN rfl (Nat.le_of_ble_eq_true rfl) (L1 := [.inr (2, [.ref a, .int (nI 0), .int (nI 0), .int (-1)])]) rfl hS (by first | exact ⟨by omega, by omega⟩ | omega) (fun H locs hN hS hz2 hk => ?_)
  refine lv_aload_n hx hb dX3_init_14 rfl (lv_at hl 0 rfl) ?_
  refine lv_iload_n hx hb dX3_init_15 rfl (lv_at hl 2 rfl) ?_
  refine kpF (C := RX3) (T := TX3) (N := 4) (ci := 2) (k := 1) (ty := .int) tyX3 tyX3_ok nmX3 S hK hin rfl inX3 (by decide) q_347 rfl rfl dX3_init_16 rfl rfl rfl hN rfl (Nat.le_of_ble_eq_true rfl) (L1 := [.inr (2, [.ref a, .int (nI n), .int (nI 0), .int (-1)])]) rfl hS (by first | exact ⟨by omega, by omega⟩ | omega) (fun H locs hN hS hz2 hk => ?_)
  exact hE _ _ _ _ _ _ (kr_v dX3_init_19) hS (by decide) (by decide) hN

set_option maxHeartbeats 1000000 in
set_option maxRecDepth 100000 in
theorem c_X4_placeOf (l : Launch) (G : Gt) (t : Nat) (ht : t < 2 ^ 31) : Cr l G yX4_placeOf cX4_placeOf 1 ((some .int)) 0 [.int (nI t)] (fun H => True) (some (.int (nI (5 * (t / 10) + t % 10)))) := by
  refine cr_entry [(0, .int (nI t))] (by decide) (Nat.le_of_ble_eq_true rfl) rfl ?_
  intro zp ze zs zm za zb zt zc Q S hK hPre hE ls hl
  have hx := S.1
  have hb := S.2.1
  refine lv_iconst (v := nI 5) hx hb dX4_placeOf_0 (by decide) ?_
  refine lv_iload_n hx hb dX4_placeOf_1 rfl (lv_at hl 0 rfl) ?_
  refine lv_bipush (v := nI 10) hx hb dX4_placeOf_2 (by decide) ?_
  refine n_idiv hx hb dX4_placeOf_4 (by omega) (by decide) (by decide) ?_
  refine n_imul hx hb dX4_placeOf_5 ?_
  refine lv_iload_n hx hb dX4_placeOf_6 rfl (lv_at hl 0 rfl) ?_
  refine lv_bipush (v := nI 10) hx hb dX4_placeOf_7 (by decide) ?_
  refine n_irem hx hb dX4_placeOf_9 (by omega) (by decide) (by decide) ?_
  refine n_iadd hx hb dX4_placeOf_10 ?_
  refine w_top (v' := .int (nI (5 * (t / 10) + t % 10))) (congrArg (fun z => Value.int (nI z)) (show ((5 * (t / 10)) + (t % 10)) = (5 * (t / 10) + t % 10) from rfl)) ?_
  exact hE _ _ (kr_i dX4_placeOf_11)

set_option maxHeartbeats 1000000 in
set_option maxRecDepth 100000 in
theorem c_X4_facesOf_y (l : Launch) (G : Gt) (nn : Nat) (ν : Sx) (F : Nat → Nat) (Wy : Nat → Nat → Nat) (k : Nat) (hP8 : ν.1 1 ≤ 8) (hk8 : k < ν.1 1) : Cr l G yX4_facesOf cX4_facesOf 3 ((some .int)) 0 [.ref nn, .int (nI k)] (fun H => bk G nn (ntL G nn ν) H ∧ NB G nn ν F Wy H) (some (.int (nI (F k)))) := by
  refine cr_entry [(0, .ref nn), (1, .int (nI k))] (by decide) (Nat.le_of_ble_eq_true rfl) rfl ?_
  intro zp ze zs zm za zb zt zc Q S hK hPre hE ls hl
  have hx := S.1
  have hb := S.2.1
  obtain ⟨hN, hNB⟩ := hPre
  obtain ⟨a, β, ha1, ha2, hB, hb4, hb5, hb6⟩ := hNB k hk8
  refine lv_iload_n hx hb dX4_facesOf_0 rfl (lv_at hl 1 rfl) ?_
  refine n_if_lt (tgt := 12) hx hb dX4_facesOf_1 (by decide) (by omega) (fun c_1 => ?_)
  refine lv_iload_n hx hb dX4_facesOf_4 rfl (lv_at hl 1 rfl) ?_
  refine lv_aload_n hx hb dX4_facesOf_5 rfl (lv_at hl 0 rfl) ?_
  refine kg (C := RX4) (T := TX4) (N := 5) (ci := 3) (k := 1) (v := .int (nI (ν.1 1))) S hK rfl inX4 (by decide) q_508 dX4_facesOf_6 hN rfl rfl ?_
  refine n_icmp_lt (tgt := 14) hx hb dX4_facesOf_9 (by decide) (by omega) (by omega) (fun c_9 => ?_) (fun c_9 => ?_)
  ·
    refine lv_aload_n hx hb dX4_facesOf_14 rfl (lv_at hl 0 rfl) ?_
    refine kg (C := RX4) (T := TX4) (N := 5) (ci := 3) (k := 0) (v := .ref (nn + 1)) S hK rfl inX4 (by decide) q_507 dX4_facesOf_15 hN rfl rfl ?_
    refine lv_iload_n hx hb dX4_facesOf_18 rfl (lv_at hl 1 rfl) ?_
    refine kql (f := ν.2.2 0) S hK dX4_facesOf_19 1 2 hN rfl rfl (by decide) rfl (by omega) ?_
    rw [show ν.2.2 0 k = some a from ha1]
    dsimp only [va_rf]
    refine lv_astore_n (lv' := [(2, .ref a), (0, .ref nn), (1, .int (nI k))]) hx hb dX4_facesOf_20 rfl hl (by decide) rfl (fun ls hl => ?_)
    refine lv_aload_n hx hb dX4_facesOf_21 rfl (lv_at hl 0 rfl) ?_
    refine lv_ifnonnull (tgt := 29) hx hb dX4_facesOf_22 (by decide) ?_
    refine lv_aload_n hx hb dX4_facesOf_29 rfl (lv_at hl 0 rfl) ?_
    refine kg (C := RX0) (T := TX0) (N := 9) (ci := 0) (k := 4) (v := .int (nI (β.1 4))) S hK rfl inX0 (by decide) q_204 dX4_facesOf_30 hB rfl rfl ?_
    refine w_top (v' := .int (nI (F k))) (congrArg (fun z => Value.int (nI z)) (show (β.1 4) = (F k) from hb4)) ?_
    exact hE _ _ (kr_i dX4_facesOf_33)
  ·
    omega

set_option maxHeartbeats 1000000 in
set_option maxRecDepth 100000 in
theorem c_X4_facesOf_n (l : Launch) (G : Gt) (nn : Nat) (ν : Sx) (k : Nat) (hP8 : ν.1 1 ≤ 8) (hk8 : ¬ k < ν.1 1) (hk31 : k < 2 ^ 31) : Cr l G yX4_facesOf cX4_facesOf 3 ((some .int)) 0 [.ref nn, .int (nI k)] (fun H => bk G nn (ntL G nn ν) H) (some (.int (nI 0))) := by
  refine cr_entry [(0, .ref nn), (1, .int (nI k))] (by decide) (Nat.le_of_ble_eq_true rfl) rfl ?_
  intro zp ze zs zm za zb zt zc Q S hK hPre hE ls hl
  have hx := S.1
  have hb := S.2.1
  have hN := hPre
  refine lv_iload_n hx hb dX4_facesOf_0 rfl (lv_at hl 1 rfl) ?_
  refine n_if_lt (tgt := 12) hx hb dX4_facesOf_1 (by decide) (by omega) (fun c_1 => ?_)
  refine lv_iload_n hx hb dX4_facesOf_4 rfl (lv_at hl 1 rfl) ?_
  refine lv_aload_n hx hb dX4_facesOf_5 rfl (lv_at hl 0 rfl) ?_
  refine kg (C := RX4) (T := TX4) (N := 5) (ci := 3) (k := 1) (v := .int (nI (ν.1 1))) S hK rfl inX4 (by decide) q_508 dX4_facesOf_6 hN rfl rfl ?_
  refine n_icmp_lt (tgt := 14) hx hb dX4_facesOf_9 (by decide) (by omega) (by omega) (fun c_9 => ?_) (fun c_9 => ?_)
  ·
    omega
  ·
    refine lv_iconst (v := nI 0) hx hb dX4_facesOf_12 (by decide) ?_
    exact hE _ _ (kr_i dX4_facesOf_13)

set_option maxHeartbeats 1000000 in
set_option maxRecDepth 100000 in
theorem c_X4_hasFace (l : Launch) (G : Gt) (nn : Nat) (ν : Sx) (F : Nat → Nat) (Wy : Nat → Nat → Nat) (v : Int32) (hP8 : ν.1 1 ≤ 8) : Cr l G yX4_hasFace cX4_hasFace 2 ((some .boolean)) 1 [.ref nn, .int v] (fun H => bk G nn (ntL G nn ν) H ∧ NB G nn ν F Wy H) (some (.int (b2i (hsF (ν.1 1) F v)))) := by
  refine cr_entry [(0, .ref nn), (1, .int v)] (by decide) (Nat.le_of_ble_eq_true rfl) rfl ?_
  intro zp ze zs zm za zb zt zc Q S hK hPre hE ls hl
  have hx := S.1
  have hb := S.2.1
  obtain ⟨hN, hNB⟩ := hPre
  refine lv_iload_n hx hb dX4_hasFace_0 rfl (lv_at hl 1 rfl) ?_
  refine lv_if_lt (tgt := 23) hx hb dX4_hasFace_1 (by decide) (fun c_1 => ?_) (fun c_1 => ?_)
  ·
    have hr : hsF (ν.1 1) F v = false := hsF_neg c_1
    refine lv_iconst (v := nI 0) hx hb dX4_hasFace_23 (by decide) ?_
    refine w_top (v' := .int (b2i (hsF (ν.1 1) F v))) (bz_f (show (hsF (ν.1 1) F v) = false from hr)) ?_
    exact hE _ _ (kr_z dX4_hasFace_24)
  ·
    obtain ⟨j, hj, rfl⟩ := z0 c_1
    refine lv_iload_n hx hb dX4_hasFace_4 rfl (lv_at hl 1 rfl) ?_
    refine lv_bipush (v := nI 10) hx hb dX4_hasFace_5 (by decide) ?_
    refine n_irem hx hb dX4_hasFace_7 (by omega) (by decide) (by decide) ?_
    refine lv_aload_n hx hb dX4_hasFace_8 rfl (lv_at hl 0 rfl) ?_
    refine lv_iload_n hx hb dX4_hasFace_9 rfl (lv_at hl 1 rfl) ?_
    refine lv_bipush (v := nI 10) hx hb dX4_hasFace_10 (by decide) ?_
    refine n_idiv hx hb dX4_hasFace_12 (by omega) (by decide) (by decide) ?_
    by_cases hj8 : j / 10 < ν.1 1
    ·
      obtain ⟨a, β, ha1, ha2, hB, hb4, hb5, hb6⟩ := hNB _ hj8
      refine crV (rest := [.int (nI (j % 10))]) S hK (c_X4_facesOf_y l G nn ν F Wy (j / 10) (by first | assumption | omega | decide) hj8) cw_X4_35 rfl ⟨Nat.le_of_ble_eq_true rfl, Nat.le_of_ble_eq_true rfl⟩ ⟨Nat.le_of_ble_eq_true rfl, Nat.le_of_ble_eq_true rfl⟩ (bk.recv hK hN rfl rfl) hl.1 rfl (Nat.le_of_ble_eq_true rfl) dX4_hasFace_13 ⟨hN, hNB⟩ ?_
      refine n_icmp_ge (tgt := 23) hx hb dX4_hasFace_16 (by decide) (Nat.lt_trans (Nat.mod_lt _ (by decide)) (by decide)) (by omega) (fun c_16 => ?_) (fun c_16 => ?_)
      ·
        have hr : hsF (ν.1 1) F (nI j) = false := by rw [hsF_n hj]; first | rw [decide_eq_false (p := j % 10 < F (j / 10)) (by omega), Bool.and_false] | (rw [decide_eq_false hj8]; rfl)
        refine lv_iconst (v := nI 0) hx hb dX4_hasFace_23 (by decide) ?_
        refine w_top (v' := .int (b2i (hsF (ν.1 1) F (nI j)))) (bz_f (show (hsF (ν.1 1) F (nI j)) = false from hr)) ?_
        exact hE _ _ (kr_z dX4_hasFace_24)
      ·
        have hr : hsF (ν.1 1) F (nI j) = true := by first | (rw [hsF_n hj, decide_eq_true hj8, decide_eq_true (p := j % 10 < F (j / 10)) (by omega)]; rfl) | omega
        refine lv_iconst (v := nI 1) hx hb dX4_hasFace_19 (by decide) ?_
        refine lv_goto (tgt := 24) hx hb dX4_hasFace_20 (by decide) ?_
        refine w_top (v' := .int (b2i (hsF (ν.1 1) F (nI j)))) (bz_t (show (hsF (ν.1 1) F (nI j)) = true from hr)) ?_
        exact hE _ _ (kr_z dX4_hasFace_24)
    ·
      refine crV (rest := [.int (nI (j % 10))]) S hK (c_X4_facesOf_n l G nn ν (j / 10) (by first | assumption | omega | decide) hj8 (by omega)) cw_X4_35 rfl ⟨Nat.le_of_ble_eq_true rfl, Nat.le_of_ble_eq_true rfl⟩ ⟨Nat.le_of_ble_eq_true rfl, Nat.le_of_ble_eq_true rfl⟩ (bk.recv hK hN rfl rfl) hl.1 rfl (Nat.le_of_ble_eq_true rfl) dX4_hasFace_13 hN ?_
      refine n_icmp_ge (tgt := 23) hx hb dX4_hasFace_16 (by decide) (Nat.lt_trans (Nat.mod_lt _ (by decide)) (by decide)) (by decide) (fun c_16 => ?_) (fun c_16 => ?_)
      ·
        have hr : hsF (ν.1 1) F (nI j) = false := by rw [hsF_n hj]; first | rw [decide_eq_false (p := j % 10 < F (j / 10)) (by omega), Bool.and_false] | (rw [decide_eq_false hj8]; rfl)
        refine lv_iconst (v := nI 0) hx hb dX4_hasFace_23 (by decide) ?_
        refine w_top (v' := .int (b2i (hsF (ν.1 1) F (nI j)))) (bz_f (show (hsF (ν.1 1) F (nI j)) = false from hr)) ?_
        exact hE _ _ (kr_z dX4_hasFace_24)
      ·
        have hr : hsF (ν.1 1) F (nI j) = true := by first | (rw [hsF_n hj, decide_eq_true hj8, decide_eq_true (p := j % 10 < F (j / 10)) (by omega)]; rfl) | omega
        refine lv_iconst (v := nI 1) hx hb dX4_hasFace_19 (by decide) ?_
        refine lv_goto (tgt := 24) hx hb dX4_hasFace_20 (by decide) ?_
        refine w_top (v' := .int (b2i (hsF (ν.1 1) F (nI j)))) (bz_t (show (hsF (ν.1 1) F (nI j)) = true from hr)) ?_
        exact hE _ _ (kr_z dX4_hasFace_24)

set_option maxHeartbeats 1000000 in
set_option maxRecDepth 100000 in
theorem c_X4_isLinked (l : Launch) (G : Gt) (nn : Nat) (ν : Sx) (F : Nat → Nat) (Wy : Nat → Nat → Nat) (t : Nat) (hP8 : ν.1 1 ≤ 8) (hhf : hsF (ν.1 1) F (nI t) = true) (ht : t < 80) (hl12 : ∀ j, j < 40 → ν.2.1 3 j ≤ 12) (htp : 5 * (t / 10) + t % 10 < 40) : Cr l G yX4_isLinked cX4_isLinked 2 ((some .boolean)) 2 [.ref nn, .int (nI t)] (fun H => bk G nn (ntL G nn ν) H ∧ NB G nn ν F Wy H) (some (.int (b2i (decide (¬ ν.2.1 3 (5 * (t / 10) + t % 10) = 0))))) := by
  refine cr_entry [(0, .ref nn), (1, .int (nI t))] (by decide) (Nat.le_of_ble_eq_true rfl) rfl ?_
  intro zp ze zs zm za zb zt zc Q S hK hPre hE ls hl
  have hx := S.1
  have hb := S.2.1
  obtain ⟨hN, hNB⟩ := hPre
  have hl9 := hl12 _ htp
  refine lv_aload_n hx hb dX4_isLinked_0 rfl (lv_at hl 0 rfl) ?_
  refine lv_iload_n hx hb dX4_isLinked_1 rfl (lv_at hl 1 rfl) ?_
  refine crV (rest := []) S hK (c_X4_hasFace l G nn ν F Wy (nI t) (by first | assumption | omega | decide)) cw_X4_38 rfl ⟨Nat.le_of_ble_eq_true rfl, Nat.le_of_ble_eq_true rfl⟩ ⟨Nat.le_of_ble_eq_true rfl, Nat.le_of_ble_eq_true rfl⟩ (bk.recv hK hN rfl rfl) hl.1 rfl (Nat.le_of_ble_eq_true rfl) dX4_isLinked_2 ⟨hN, hNB⟩ ?_
  refine z_if_eq (tgt := 24) hx hb dX4_isLinked_5 (by decide) (fun c_5 => ?_) (fun c_5 => ?_)
  ·
    exact absurd (hhf.symm.trans c_5) (by decide)
  ·
    refine lv_aload_n hx hb dX4_isLinked_8 rfl (lv_at hl 0 rfl) ?_
    refine kg (C := RX4) (T := TX4) (N := 5) (ci := 3) (k := 3) (v := .ref (nn + 2)) S hK rfl inX4 (by decide) q_512 dX4_isLinked_9 hN rfl rfl ?_
    refine lv_iload_n hx hb dX4_isLinked_12 rfl (lv_at hl 1 rfl) ?_
    refine crS (rest := [.ref (nn + 2)]) S hK (c_X4_placeOf l G t (by omega)) cw_X4_31 rfl ⟨Nat.le_of_ble_eq_true rfl, Nat.le_of_ble_eq_true rfl⟩ ⟨Nat.le_of_ble_eq_true rfl, Nat.le_of_ble_eq_true rfl⟩ hl.1 rfl (Nat.le_of_ble_eq_true rfl) dX4_isLinked_13 trivial ?_
    refine kil (f := ν.2.1 3) S hK dX4_isLinked_16 2 hN rfl (by decide) rfl (by omega) ?_
    refine n_if_eq (tgt := 24) hx hb dX4_isLinked_17 (by decide) (by omega) (fun c_17 => ?_) (fun c_17 => ?_)
    ·
      have hr : decide (¬ ν.2.1 3 (5 * (t / 10) + t % 10) = 0) = false := decide_eq_false (fun q => q c_17)
      refine lv_iconst (v := nI 0) hx hb dX4_isLinked_24 (by decide) ?_
      refine w_top (v' := .int (b2i (decide (¬ ν.2.1 3 (5 * (t / 10) + t % 10) = 0)))) (bz_f (show (decide (¬ ν.2.1 3 (5 * (t / 10) + t % 10) = 0)) = false from hr)) ?_
      exact hE _ _ (kr_z dX4_isLinked_25)
    ·
      have hr : decide (¬ ν.2.1 3 (5 * (t / 10) + t % 10) = 0) = true := decide_eq_true c_17
      refine lv_iconst (v := nI 1) hx hb dX4_isLinked_20 (by decide) ?_
      refine lv_goto (tgt := 25) hx hb dX4_isLinked_21 (by decide) ?_
      refine w_top (v' := .int (b2i (decide (¬ ν.2.1 3 (5 * (t / 10) + t % 10) = 0)))) (bz_t (show (decide (¬ ν.2.1 3 (5 * (t / 10) + t % 10) = 0)) = true from hr)) ?_
      exact hE _ _ (kr_z dX4_isLinked_25)

set_option maxHeartbeats 1000000 in
set_option maxRecDepth 100000 in
theorem c_X4_addLink (l : Launch) (G : Gt) (nn : Nat) (ν : Sx) (a : Nat) (c : Nat) (ha : 5 * (a / 10) + a % 10 < 40) (hc : 5 * (c / 10) + c % 10 < 40) (ha2 : a < 2 ^ 31) (hc2 : c < 2 ^ 31) : Ct l G yX4_addLink cX4_addLink 3 ((some .int)) 1 0 0 [.ref nn, .int (nI a), .int (nI c)] (fun H => bk G nn (ntL G nn ν) H) (some (.int (nI (ν.1 2 + 1)))) (fun H => bk G nn (ntL G nn (uA (uA (uS ν 2 (ν.1 2 + 1)) 3 (5 * (a / 10) + a % 10) (ν.1 2 + 1)) 3 (5 * (c / 10) + c % 10) (ν.1 2 + 1))) H) (fun q => nn ≤ q ∧ q < nn + 4) := by
  refine ct_entry [(0, .ref nn), (1, .int (nI a)), (2, .int (nI c))] (by decide) (Nat.le_of_ble_eq_true rfl) rfl ?_
  intro zp ze zs zm za zb zt zc Q S hK hPre hin hE ls hl
  have hx := S.1
  have hb := S.2.1
  have hN := hPre
  have hS : va_S (fun q => nn ≤ q ∧ q < nn + 4) zs.heap zs.heap [] := va_S.rf
  refine lv_aload_n hx hb dX4_addLink_0 rfl (lv_at hl 0 rfl) ?_
  refine lv_dup hx hb dX4_addLink_1 rfl ?_
  refine kg (C := RX4) (T := TX4) (N := 5) (ci := 3) (k := 2) (v := .int (nI (ν.1 2))) S hK rfl inX4 (by decide) q_510 dX4_addLink_2 hN rfl rfl ?_
  refine lv_iconst (v := nI 1) hx hb dX4_addLink_5 (by decide) ?_
  refine n_iadd hx hb dX4_addLink_6 ?_
  refine kp (C := RX4) (T := TX4) (N := 5) (ci := 3) (k := 2) (ty := .int) tyX4 tyX4_ok nmX4 S hK rfl inX4 (by decide) q_510 rfl dX4_addLink_7 rfl rfl rfl hN rfl (Nat.le_of_ble_eq_true rfl) (L1 := ntL G nn (uS ν 2 ((ν.1 2) + 1))) rfl hS (by first | exact ⟨by omega, by omega⟩ | omega) (fun H locs hN hS hz2 hk => ?_)
  refine lv_aload_n hx hb dX4_addLink_10 rfl (lv_at hl 0 rfl) ?_
  refine kg (C := RX4) (T := TX4) (N := 5) (ci := 3) (k := 3) (v := .ref (nn + 2)) S hK rfl inX4 (by decide) q_512 dX4_addLink_11 hN rfl rfl ?_
  refine lv_iload_n hx hb dX4_addLink_14 rfl (lv_at hl 1 rfl) ?_
  refine crS (rest := [.ref (nn + 2)]) S hK (c_X4_placeOf l G a ha2) cw_X4_31 rfl ⟨Nat.le_of_ble_eq_true rfl, Nat.le_of_ble_eq_true rfl⟩ ⟨Nat.le_of_ble_eq_true rfl, Nat.le_of_ble_eq_true rfl⟩ hl.1 rfl (Nat.le_of_ble_eq_true rfl) dX4_addLink_15 trivial ?_
  refine lv_aload_n hx hb dX4_addLink_18 rfl (lv_at hl 0 rfl) ?_
  refine kg (C := RX4) (T := TX4) (N := 5) (ci := 3) (k := 2) (v := .int (nI ((ν.1 2) + 1))) S hK rfl inX4 (by decide) q_510 dX4_addLink_19 hN rfl rfl ?_
  refine kis S hK dX4_addLink_22 2 hN rfl (by decide) rfl (by omega) rfl (L1 := ntL G nn (uA (uS ν 2 ((ν.1 2) + 1)) 3 (5 * (a / 10) + a % 10) ((ν.1 2) + 1))) rfl hS (by first | exact ⟨by omega, by omega⟩ | omega) (fun H locs hN hS hz2 hk => ?_)
  refine lv_aload_n hx hb dX4_addLink_23 rfl (lv_at hl 0 rfl) ?_
  refine kg (C := RX4) (T := TX4) (N := 5) (ci := 3) (k := 3) (v := .ref (nn + 2)) S hK rfl inX4 (by decide) q_512 dX4_addLink_24 hN rfl rfl ?_
  refine lv_iload_n hx hb dX4_addLink_27 rfl (lv_at hl 2 rfl) ?_
  refine crS (rest := [.ref (nn + 2)]) S hK (c_X4_placeOf l G c hc2) cw_X4_31 rfl ⟨Nat.le_of_ble_eq_true rfl, Nat.le_of_ble_eq_true rfl⟩ ⟨Nat.le_of_ble_eq_true rfl, Nat.le_of_ble_eq_true rfl⟩ hl.1 rfl (Nat.le_of_ble_eq_true rfl) dX4_addLink_28 trivial ?_
  refine lv_aload_n hx hb dX4_addLink_31 rfl (lv_at hl 0 rfl) ?_
  refine kg (C := RX4) (T := TX4) (N := 5) (ci := 3) (k := 2) (v := .int (nI ((ν.1 2) + 1))) S hK rfl inX4 (by decide) q_510 dX4_addLink_32 hN rfl rfl ?_
  refine kis S hK dX4_addLink_35 2 hN rfl (by decide) rfl (by omega) rfl (L1 := ntL G nn (uA (uA (uS ν 2 ((ν.1 2) + 1)) 3 (5 * (a / 10) + a % 10) ((ν.1 2) + 1)) 3 (5 * (c / 10) + c % 10) ((ν.1 2) + 1))) rfl hS (by first | exact ⟨by omega, by omega⟩ | omega) (fun H locs hN hS hz2 hk => ?_)
  refine lv_aload_n hx hb dX4_addLink_36 rfl (lv_at hl 0 rfl) ?_
  refine kg (C := RX4) (T := TX4) (N := 5) (ci := 3) (k := 2) (v := .int (nI ((ν.1 2) + 1))) S hK rfl inX4 (by decide) q_510 dX4_addLink_37 hN rfl rfl ?_
  refine w_top (v' := .int (nI (ν.1 2 + 1))) (congrArg (fun z => Value.int (nI z)) (show ((ν.1 2) + 1) = (ν.1 2 + 1) from rfl)) ?_
  replace hN := bk_eq hN (show ntL G nn (uA (uA (uS ν 2 ((ν.1 2) + 1)) 3 (5 * (a / 10) + a % 10) ((ν.1 2) + 1)) 3 (5 * (c / 10) + c % 10) ((ν.1 2) + 1)) = ntL G nn (uA (uA (uS ν 2 (ν.1 2 + 1)) 3 (5 * (a / 10) + a % 10) (ν.1 2 + 1)) 3 (5 * (c / 10) + c % 10) (ν.1 2 + 1)) from rfl)
  exact hE _ _ _ _ _ _ (kr_i dX4_addLink_40) hS (by decide) (by decide) hN

set_option maxHeartbeats 1000000 in
set_option maxRecDepth 100000 in
theorem c_X4_addPiece (l : Launch) (G : Gt) (nn : Nat) (ν : Sx) (a : Nat) (β : Sx) (hP : ν.1 1 < 8) (hap : a + 4 ≤ nn ∨ nn + 4 ≤ a) : Ct l G yX4_addPiece cX4_addPiece 2 ((some .int)) 0 0 0 [.ref nn, .ref a] (fun H => bk G nn (ntL G nn ν) H ∧ bk G a (bdL G a β) H) (some (.int (nI (ν.1 1)))) (fun H => bk G nn (ntL G nn (uS (uQ ν 0 (ν.1 1) a) 1 (ν.1 1 + 1))) H ∧ bk G a (bdL G a β) H) (fun q => nn ≤ q ∧ q < nn + 4) := by
  refine ct_entry [(0, .ref nn), (1, .ref a)] (by decide) (Nat.le_of_ble_eq_true rfl) rfl ?_
  intro zp ze zs zm za zb zt zc Q S hK hPre hin hE ls hl
  have hx := S.1
  have hb := S.2.1
  obtain ⟨hN, hB⟩ := hPre
  have hS : va_S (fun q => nn ≤ q ∧ q < nn + 4) zs.heap zs.heap [] := va_S.rf
  refine lv_aload_n hx hb dX4_addPiece_0 rfl (lv_at hl 0 rfl) ?_
  refine kg (C := RX4) (T := TX4) (N := 5) (ci := 3) (k := 0) (v := .ref (nn + 1)) S hK rfl inX4 (by decide) q_507 dX4_addPiece_1 hN rfl rfl ?_
  refine lv_aload_n hx hb dX4_addPiece_4 rfl (lv_at hl 0 rfl) ?_
  refine kg (C := RX4) (T := TX4) (N := 5) (ci := 3) (k := 1) (v := .int (nI (ν.1 1))) S hK rfl inX4 (by decide) q_508 dX4_addPiece_5 hN rfl rfl ?_
  refine lv_aload_n hx hb dX4_addPiece_8 rfl (lv_at hl 1 rfl) ?_
  refine kqs (C := "PuzzleParts$Board") (T := TX0) (N := 9) S hK dX4_addPiece_9 1 2 0 hN rfl rfl rfl hB rfl (by decide) rfl (by omega) (L1 := ntL G nn (uQ ν 0 (ν.1 1) a)) rfl hS (by first | exact ⟨by omega, by omega⟩ | omega) (fun H locs hN hS hz2 hk => ?_)
  replace hB := hB.kept (fun q h1 h2 => hk q (by have h3 : q < a + 4 := h2; omega))
  refine lv_aload_n hx hb dX4_addPiece_10 rfl (lv_at hl 0 rfl) ?_
  refine lv_dup hx hb dX4_addPiece_11 rfl ?_
  refine kg (C := RX4) (T := TX4) (N := 5) (ci := 3) (k := 1) (v := .int (nI (ν.1 1))) S hK rfl inX4 (by decide) q_508 dX4_addPiece_12 hN rfl rfl ?_
  refine lv_iconst (v := nI 1) hx hb dX4_addPiece_15 (by decide) ?_
  refine n_iadd hx hb dX4_addPiece_16 ?_
  refine kp (C := RX4) (T := TX4) (N := 5) (ci := 3) (k := 1) (ty := .int) tyX4 tyX4_ok nmX4 S hK rfl inX4 (by decide) q_508 rfl dX4_addPiece_17 rfl rfl rfl hN rfl (Nat.le_of_ble_eq_true rfl) (L1 := ntL G nn (uS (uQ ν 0 (ν.1 1) a) 1 ((ν.1 1) + 1))) rfl hS (by first | exact ⟨by omega, by omega⟩ | omega) (fun H locs hN hS hz2 hk => ?_)
  replace hB := hB.kept (fun q h1 h2 => hk q (by have h3 : q < a + 4 := h2; omega))
  refine lv_aload_n hx hb dX4_addPiece_20 rfl (lv_at hl 0 rfl) ?_
  refine kg (C := RX4) (T := TX4) (N := 5) (ci := 3) (k := 1) (v := .int (nI ((ν.1 1) + 1))) S hK rfl inX4 (by decide) q_508 dX4_addPiece_21 hN rfl rfl ?_
  refine lv_iconst (v := nI 1) hx hb dX4_addPiece_24 (by decide) ?_
  refine n_isub hx hb dX4_addPiece_25 (by omega) ?_
  refine w_top (v' := .int (nI (ν.1 1))) (congrArg (fun z => Value.int (nI z)) (show (((ν.1 1) + 1) - 1) = (ν.1 1) from by omega)) ?_
  replace hN := bk_eq hN (show ntL G nn (uS (uQ ν 0 (ν.1 1) a) 1 ((ν.1 1) + 1)) = ntL G nn (uS (uQ ν 0 (ν.1 1) a) 1 (ν.1 1 + 1)) from rfl)
  exact hE _ _ _ _ _ _ (kr_i dX4_addPiece_26) hS (by decide) (by decide) ⟨hN, hB⟩

set_option maxHeartbeats 1000000 in
set_option maxRecDepth 100000 in
theorem c_X4_freeCount (l : Launch) (G : Gt) (nn : Nat) (ν : Sx) (F : Nat → Nat) (Wy : Nat → Nat → Nat) (hP8 : ν.1 1 ≤ 8) (hl12 : ∀ j, j < 40 → ν.2.1 3 j ≤ 12) : Cr l G yX4_freeCount cX4_freeCount 4 ((some .int)) 1 [.ref nn] (fun H => bk G nn (ntL G nn ν) H ∧ NB G nn ν F Wy H) (some (.int (nI (fcN F (zK ν) (ν.1 1))))) := by
  refine cr_entry [(0, .ref nn)] (by decide) (Nat.le_of_ble_eq_true rfl) rfl ?_
  intro zp ze zs zm za zb zt zc Q S hK hPre hE ls hl
  have hx := S.1
  have hb := S.2.1
  obtain ⟨hN, hNB⟩ := hPre
  refine lv_iconst (v := nI 0) hx hb dX4_freeCount_0 (by decide) ?_
  refine lv_istore_n (lv' := [(1, .int (nI 0)), (0, .ref nn)]) hx hb dX4_freeCount_1 rfl hl (by decide) rfl (fun ls hl => ?_)
  refine lv_iconst (v := nI 0) hx hb dX4_freeCount_2 (by decide) ?_
  refine lv_istore_n (lv' := [(2, .int (nI 0)), (1, .int (nI 0)), (0, .ref nn)]) hx hb dX4_freeCount_3 rfl hl (by decide) rfl (fun ls hl => ?_)
  have L4 : ∀ (fu : Nat), ∀ (vk : Nat), (vk ≤ ν.1 1) → ν.1 1 - vk < fu → ∀ ls : Array Slot, lv_has ls 4 [(0, .ref nn), (1, .int (nI (fcN F (zK ν) vk))), (2, .int (nI vk))] → W zp l ze (rL 1 0 0) zs zm za zb zt zc zs.heap [] 0 0 Q (F0 zm 4 ls []) := by
    intro fu
    induction fu with
    | zero =>
      intro vk hvk hmu ls hl
      exact absurd hmu (Nat.not_lt_zero _)
    | succ fu ih4 =>
      intro vk hvk hmu ls hl
      refine lv_iload_n hx hb dX4_freeCount_4 rfl (lv_at hl 2 rfl) ?_
      refine lv_aload_n hx hb dX4_freeCount_5 rfl (lv_at hl 0 rfl) ?_
      refine kg (C := RX4) (T := TX4) (N := 5) (ci := 3) (k := 1) (v := .int (nI (ν.1 1))) S hK rfl inX4 (by decide) q_508 dX4_freeCount_6 hN rfl rfl ?_
      refine n_icmp_ge (tgt := 56) hx hb dX4_freeCount_9 (by decide) (by omega) (by omega) (fun c_9 => ?_) (fun c_9 => ?_)
      ·
        refine lv_iload_n hx hb dX4_freeCount_56 rfl (lv_at hl 1 rfl) ?_
        refine w_top (v' := .int (nI (fcN F (zK ν) (ν.1 1)))) (congrArg (fun z => Value.int (nI z)) (show (fcN F (zK ν) vk) = (fcN F (zK ν) (ν.1 1)) from by rw [show vk = ν.1 1 from by omega])) ?_
        exact hE _ _ (kr_i dX4_freeCount_57)
      ·
        obtain ⟨a, β, ha1, ha2, hB, hb4, hb5, hb6⟩ := hNB vk (by omega)
        refine lv_iconst (v := nI 0) hx hb dX4_freeCount_12 (by decide) ?_
        refine lv_istore_n (lv' := [(3, .int (nI 0)), (0, .ref nn), (1, .int (nI (fcN F (zK ν) vk))), (2, .int (nI vk))]) hx hb dX4_freeCount_13 rfl hl (by decide) rfl (fun ls hl => ?_)
        have L14 : ∀ (fu : Nat), ∀ (vf : Nat), (vf ≤ F vk) → F vk - vf < fu → ∀ ls : Array Slot, lv_has ls 4 [(0, .ref nn), (1, .int (nI (fcN F (zK ν) vk + fc1 (zK ν) vk vf))), (2, .int (nI vk)), (3, .int (nI vf))] → W zp l ze (rL 1 0 0) zs zm za zb zt zc zs.heap [] 0 0 Q (F0 zm 14 ls []) := by
          intro fu
          induction fu with
          | zero =>
            intro vf hvf hmu ls hl
            exact absurd hmu (Nat.not_lt_zero _)
          | succ fu ih14 =>
            intro vf hvf hmu ls hl
            refine lv_iload_n hx hb dX4_freeCount_14 rfl (lv_at hl 3 rfl) ?_
            refine lv_aload_n hx hb dX4_freeCount_15 rfl (lv_at hl 0 rfl) ?_
            refine lv_iload_n hx hb dX4_freeCount_16 rfl (lv_at hl 2 rfl) ?_
            refine crV (rest := [.int (nI vf)]) S hK (c_X4_facesOf_y l G nn ν F Wy vk (by first | assumption | omega | decide) (by omega)) cw_X4_35 rfl ⟨Nat.le_of_ble_eq_true rfl, Nat.le_of_ble_eq_true rfl⟩ ⟨Nat.le_of_ble_eq_true rfl, Nat.le_of_ble_eq_true rfl⟩ (bk.recv hK hN rfl rfl) hl.1 rfl (Nat.le_of_ble_eq_true rfl) dX4_freeCount_17 ⟨hN, hNB⟩ ?_
            refine n_icmp_ge (tgt := 50) hx hb dX4_freeCount_20 (by decide) (by omega) (by omega) (fun c_20 => ?_) (fun c_20 => ?_)
            ·
              refine lv_iinc (v := (nI (vk + 1))) (lv' := [(2, .int (nI (vk + 1))), (0, .ref nn), (1, .int (nI (fcN F (zK ν) vk + fc1 (zK ν) vk vf))), (3, .int (nI vf))]) hx hb dX4_freeCount_50 hl (k := 2) rfl (inc1 _) (by decide) rfl (fun ls hl => ?_)
              refine lv_goto (tgt := 4) hx hb dX4_freeCount_53 (by decide) ?_
              replace hl := lv_eq 2 hl rfl (v2 := .int (nI (fcN F (zK ν) (vk + 1)))) (congrArg (fun z => Value.int (nI z)) (show (fcN F (zK ν) vk + fc1 (zK ν) vk vf) = (fcN F (zK ν) (vk + 1)) from by rw [show vf = F vk from by omega]; rfl))
              exact ih4 (vk + 1) (by omega) (by omega) ls (lv_sub hl [1, 2, 0] rfl)
            ·
              have hl9 := hl12 (5 * vk + vf) (by omega)
              refine lv_iload_n hx hb dX4_freeCount_23 rfl (lv_at hl 1 rfl) ?_
              refine lv_aload_n hx hb dX4_freeCount_24 rfl (lv_at hl 0 rfl) ?_
              refine kg (C := RX4) (T := TX4) (N := 5) (ci := 3) (k := 3) (v := .ref (nn + 2)) S hK rfl inX4 (by decide) q_512 dX4_freeCount_25 hN rfl rfl ?_
              refine lv_iconst (v := nI 5) hx hb dX4_freeCount_28 (by decide) ?_
              refine lv_iload_n hx hb dX4_freeCount_29 rfl (lv_at hl 2 rfl) ?_
              refine n_imul hx hb dX4_freeCount_30 ?_
              refine lv_iload_n hx hb dX4_freeCount_31 rfl (lv_at hl 3 rfl) ?_
              refine n_iadd hx hb dX4_freeCount_32 ?_
              refine kil (f := ν.2.1 3) S hK dX4_freeCount_33 2 hN rfl (by decide) rfl (by omega) ?_
              refine n_if_ne (tgt := 41) hx hb dX4_freeCount_34 (by decide) (by omega) (fun c_34 => ?_) (fun c_34 => ?_)
              ·
                have e1 := fc1_no (Z := zK ν) (k := vk) (f := vf) (decide_eq_false c_34)
                refine lv_iconst (v := nI 0) hx hb dX4_freeCount_41 (by decide) ?_
                refine n_iadd hx hb dX4_freeCount_42 ?_
                refine lv_istore_n (lv' := [(1, .int (nI ((fcN F (zK ν) vk + fc1 (zK ν) vk vf) + 0))), (0, .ref nn), (2, .int (nI vk)), (3, .int (nI vf))]) hx hb dX4_freeCount_43 rfl hl (by decide) rfl (fun ls hl => ?_)
                refine lv_iinc (v := (nI (vf + 1))) (lv' := [(3, .int (nI (vf + 1))), (1, .int (nI ((fcN F (zK ν) vk + fc1 (zK ν) vk vf) + 0))), (0, .ref nn), (2, .int (nI vk))]) hx hb dX4_freeCount_44 hl (k := 3) rfl (inc1 _) (by decide) rfl (fun ls hl => ?_)
                refine lv_goto (tgt := 14) hx hb dX4_freeCount_47 (by decide) ?_
                replace hl := lv_eq 1 hl rfl (v2 := .int (nI (fcN F (zK ν) vk + fc1 (zK ν) vk (vf + 1)))) (congrArg (fun z => Value.int (nI z)) (show ((fcN F (zK ν) vk + fc1 (zK ν) vk vf) + 0) = (fcN F (zK ν) vk + fc1 (zK ν) vk (vf + 1)) from by omega))
                exact ih14 (vf + 1) (by omega) (by omega) ls (lv_sub hl [2, 1, 3, 0] rfl)
              ·
                have e1 := fc1_yes (Z := zK ν) (k := vk) (f := vf) (decide_eq_true c_34)
                refine lv_iconst (v := nI 1) hx hb dX4_freeCount_37 (by decide) ?_
                refine lv_goto (tgt := 42) hx hb dX4_freeCount_38 (by decide) ?_
                refine n_iadd hx hb dX4_freeCount_42 ?_
                refine lv_istore_n (lv' := [(1, .int (nI ((fcN F (zK ν) vk + fc1 (zK ν) vk vf) + 1))), (0, .ref nn), (2, .int (nI vk)), (3, .int (nI vf))]) hx hb dX4_freeCount_43 rfl hl (by decide) rfl (fun ls hl => ?_)
                refine lv_iinc (v := (nI (vf + 1))) (lv' := [(3, .int (nI (vf + 1))), (1, .int (nI ((fcN F (zK ν) vk + fc1 (zK ν) vk vf) + 1))), (0, .ref nn), (2, .int (nI vk))]) hx hb dX4_freeCount_44 hl (k := 3) rfl (inc1 _) (by decide) rfl (fun ls hl => ?_)
                refine lv_goto (tgt := 14) hx hb dX4_freeCount_47 (by decide) ?_
                replace hl := lv_eq 1 hl rfl (v2 := .int (nI (fcN F (zK ν) vk + fc1 (zK ν) vk (vf + 1)))) (congrArg (fun z => Value.int (nI z)) (show ((fcN F (zK ν) vk + fc1 (zK ν) vk vf) + 1) = (fcN F (zK ν) vk + fc1 (zK ν) vk (vf + 1)) from by omega))
                exact ih14 (vf + 1) (by omega) (by omega) ls (lv_sub hl [2, 1, 3, 0] rfl)
        replace hl := lv_eq 2 hl rfl (v2 := .int (nI (fcN F (zK ν) vk + fc1 (zK ν) vk 0))) (congrArg (fun z => Value.int (nI z)) (show (fcN F (zK ν) vk) = (fcN F (zK ν) vk + fc1 (zK ν) vk 0) from by first | rfl | omega))
        exact L14 ((F vk - 0) + 1) 0 (Nat.zero_le _) (Nat.lt_succ_self _) ls (lv_sub hl [1, 2, 3, 0] rfl)
  replace hl := lv_eq 1 hl rfl (v2 := .int (nI (fcN F (zK ν) 0))) (congrArg (fun z => Value.int (nI z)) (show 0 = (fcN F (zK ν) 0) from by first | rfl | omega))
  exact L4 ((ν.1 1 - 0) + 1) 0 (Nat.zero_le _) (Nat.lt_succ_self _) ls (lv_sub hl [2, 1, 0] rfl)

set_option maxHeartbeats 1000000 in
set_option maxRecDepth 100000 in
theorem c_X4_freeFace (l : Launch) (G : Gt) (nn : Nat) (ν : Sx) (F : Nat → Nat) (Wy : Nat → Nat → Nat) (i : Int32) (hP8 : ν.1 1 ≤ 8) (hi0 : ¬ i < 0) (hl12 : ∀ j, j < 40 → ν.2.1 3 j ≤ 12) : Cr l G yX4_freeFace cX4_freeFace 5 ((some .int)) 1 [.ref nn, .int i] (fun H => bk G nn (ntL G nn ν) H ∧ NB G nn ν F Wy H) (some (.int (frW (ν.1 1) F (zK ν) i (-9) 100 0 0 0))) := by
  refine cr_entry [(0, .ref nn), (1, .int i)] (by decide) (Nat.le_of_ble_eq_true rfl) rfl ?_
  intro zp ze zs zm za zb zt zc Q S hK hPre hE ls hl
  have hx := S.1
  have hb := S.2.1
  obtain ⟨hN, hNB⟩ := hPre
  refine lv_iconst (v := nI 0) hx hb dX4_freeFace_0 (by decide) ?_
  refine lv_istore_n (lv' := [(2, .int (nI 0)), (0, .ref nn), (1, .int i)]) hx hb dX4_freeFace_1 rfl hl (by decide) rfl (fun ls hl => ?_)
  refine lv_iconst (v := nI 0) hx hb dX4_freeFace_2 (by decide) ?_
  refine lv_istore_n (lv' := [(3, .int (nI 0)), (2, .int (nI 0)), (0, .ref nn), (1, .int i)]) hx hb dX4_freeFace_3 rfl hl (by decide) rfl (fun ls hl => ?_)
  have L4 : ∀ (fu : Nat), ∀ (vu : Nat) (vk : Nat) (vm : Nat), (vk ≤ ν.1 1) → (6 * (ν.1 1 - vk) + 1 ≤ vu) → (vm ≤ 5 * vk) → (frW (ν.1 1) F (zK ν) i (-9) vu vk 0 vm = frW (ν.1 1) F (zK ν) i (-9) 100 0 0 0) → ν.1 1 - vk < fu → ∀ ls : Array Slot, lv_has ls 5 [(0, .ref nn), (1, .int i), (2, .int (nI vm)), (3, .int (nI vk))] → W zp l ze (rL 1 0 0) zs zm za zb zt zc zs.heap [] 0 0 Q (F0 zm 4 ls []) := by
    intro fu
    induction fu with
    | zero =>
      intro vu vk vm hvk hvu hvm hfin hmu ls hl
      exact absurd hmu (Nat.not_lt_zero _)
    | succ fu ih4 =>
      intro vu vk vm hvk hvu hvm hfin hmu ls hl
      refine lv_iload_n hx hb dX4_freeFace_4 rfl (lv_at hl 3 rfl) ?_
      refine lv_aload_n hx hb dX4_freeFace_5 rfl (lv_at hl 0 rfl) ?_
      refine kg (C := RX4) (T := TX4) (N := 5) (ci := 3) (k := 1) (v := .int (nI (ν.1 1))) S hK rfl inX4 (by decide) q_508 dX4_freeFace_6 hN rfl rfl ?_
      refine n_icmp_ge (tgt := 67) hx hb dX4_freeFace_9 (by decide) (by omega) (by omega) (fun c_9 => ?_) (fun c_9 => ?_)
      ·
        obtain ⟨vv, rfl⟩ : ∃ z, vu = z + 1 := ⟨vu - 1, by omega⟩
        rw [frW_e (by omega), if_neg hi0] at hfin
        refine lv_bipush (v := (-9)) hx hb dX4_freeFace_67 (by decide) ?_
        refine w_top (v' := .int (frW (ν.1 1) F (zK ν) i (-9) 100 0 0 0)) (congrArg (fun z => Value.int z) (show (-9) = (frW (ν.1 1) F (zK ν) i (-9) 100 0 0 0) from hfin)) ?_
        exact hE _ _ (kr_i dX4_freeFace_69)
      ·
        have ck : vk < ν.1 1 := by omega
        obtain ⟨a, β, ha1, ha2, hB, hb4, hb5, hb6⟩ := hNB vk ck
        refine lv_iconst (v := nI 0) hx hb dX4_freeFace_12 (by decide) ?_
        refine lv_istore (lv' := [(4, .int (nI 0)), (0, .ref nn), (1, .int i), (2, .int (nI vm)), (3, .int (nI vk))]) hx hb dX4_freeFace_13 hl (by decide) rfl (fun ls hl => ?_)
        have L15 : ∀ (fu : Nat), ∀ (vw : Nat) (vf : Nat) (vm : Nat), (vf ≤ F vk) → (6 * (ν.1 1 - vk) + 1 ≤ vw + vf) → (vm ≤ 5 * vk + vf) → (frW (ν.1 1) F (zK ν) i (-9) vw vk vf vm = frW (ν.1 1) F (zK ν) i (-9) 100 0 0 0) → F vk - vf < fu → ∀ ls : Array Slot, lv_has ls 5 [(0, .ref nn), (1, .int i), (2, .int (nI vm)), (3, .int (nI vk)), (4, .int (nI vf))] → W zp l ze (rL 1 0 0) zs zm za zb zt zc zs.heap [] 0 0 Q (F0 zm 15 ls []) := by
          intro fu
          induction fu with
          | zero =>
            intro vw vf vm hvf hvw hvm2 hfin2 hmu ls hl
            exact absurd hmu (Nat.not_lt_zero _)
          | succ fu ih15 =>
            intro vw vf vm hvf hvw hvm2 hfin2 hmu ls hl
            obtain ⟨vv, rfl⟩ : ∃ z, vw = z + 1 := ⟨vw - 1, by omega⟩
            refine lv_iload hx hb dX4_freeFace_15 (lv_at hl 4 rfl) ?_
            refine lv_aload_n hx hb dX4_freeFace_17 rfl (lv_at hl 0 rfl) ?_
            refine lv_iload_n hx hb dX4_freeFace_18 rfl (lv_at hl 3 rfl) ?_
            refine crV (rest := [.int (nI vf)]) S hK (c_X4_facesOf_y l G nn ν F Wy vk (by first | assumption | omega | decide) (by omega)) cw_X4_35 rfl ⟨Nat.le_of_ble_eq_true rfl, Nat.le_of_ble_eq_true rfl⟩ ⟨Nat.le_of_ble_eq_true rfl, Nat.le_of_ble_eq_true rfl⟩ (bk.recv hK hN rfl rfl) hl.1 rfl (Nat.le_of_ble_eq_true rfl) dX4_freeFace_19 ⟨hN, hNB⟩ ?_
            refine n_icmp_ge (tgt := 61) hx hb dX4_freeFace_22 (by decide) (by omega) (by omega) (fun c_22 => ?_) (fun c_22 => ?_)
            ·
              refine lv_iinc (v := (nI (vk + 1))) (lv' := [(3, .int (nI (vk + 1))), (0, .ref nn), (1, .int i), (2, .int (nI vm)), (4, .int (nI vf))]) hx hb dX4_freeFace_61 hl (k := 3) rfl (inc1 _) (by decide) rfl (fun ls hl => ?_)
              refine lv_goto (tgt := 4) hx hb dX4_freeFace_64 (by decide) ?_
              exact ih4 vv (vk + 1) vm (by omega) (by omega) (by omega) ((frW_k ck (by omega)).symm.trans hfin2) (by omega) ls (lv_sub hl [1, 2, 3, 0] rfl)
            ·
              have hl9 := hl12 (5 * vk + vf) (by omega)
              refine lv_aload_n hx hb dX4_freeFace_25 rfl (lv_at hl 0 rfl) ?_
              refine kg (C := RX4) (T := TX4) (N := 5) (ci := 3) (k := 3) (v := .ref (nn + 2)) S hK rfl inX4 (by decide) q_512 dX4_freeFace_26 hN rfl rfl ?_
              refine lv_iconst (v := nI 5) hx hb dX4_freeFace_29 (by decide) ?_
              refine lv_iload_n hx hb dX4_freeFace_30 rfl (lv_at hl 3 rfl) ?_
              refine n_imul hx hb dX4_freeFace_31 ?_
              refine lv_iload hx hb dX4_freeFace_32 (lv_at hl 4 rfl) ?_
              refine n_iadd hx hb dX4_freeFace_34 ?_
              refine kil (f := ν.2.1 3) S hK dX4_freeFace_35 2 hN rfl (by decide) rfl (by omega) ?_
              refine n_if_ne (tgt := 55) hx hb dX4_freeFace_36 (by decide) (by omega) (fun c_36 => ?_) (fun c_36 => ?_)
              ·
                have hz1 : zK ν vk vf = false := decide_eq_false c_36
                refine lv_iinc (v := (nI (vf + 1))) (lv' := [(4, .int (nI (vf + 1))), (0, .ref nn), (1, .int i), (2, .int (nI vm)), (3, .int (nI vk))]) hx hb dX4_freeFace_55 hl (k := 4) rfl (inc1 _) (by decide) rfl (fun ls hl => ?_)
                refine lv_goto (tgt := 15) hx hb dX4_freeFace_58 (by decide) ?_
                exact ih15 vv (vf + 1) vm (by omega) (by omega) (by omega) ((frW_n ck (by omega) hz1).symm.trans hfin2) (by omega) ls (lv_sub hl [1, 2, 3, 4, 0] rfl)
              ·
                have hz1 : zK ν vk vf = true := decide_eq_true c_36
                refine lv_iload_n hx hb dX4_freeFace_39 rfl (lv_at hl 2 rfl) ?_
                refine lv_iload_n hx hb dX4_freeFace_40 rfl (lv_at hl 1 rfl) ?_
                refine lv_icmp_ne (tgt := 52) hx hb dX4_freeFace_41 (by decide) (fun c_41 => ?_) (fun c_41 => ?_)
                ·
                  refine lv_iinc (v := (nI (vm + 1))) (lv' := [(2, .int (nI (vm + 1))), (0, .ref nn), (1, .int i), (3, .int (nI vk)), (4, .int (nI vf))]) hx hb dX4_freeFace_52 hl (k := 2) rfl (inc1 _) (by decide) rfl (fun ls hl => ?_)
                  refine lv_iinc (v := (nI (vf + 1))) (lv' := [(4, .int (nI (vf + 1))), (2, .int (nI (vm + 1))), (0, .ref nn), (1, .int i), (3, .int (nI vk))]) hx hb dX4_freeFace_55 hl (k := 4) rfl (inc1 _) (by decide) rfl (fun ls hl => ?_)
                  refine lv_goto (tgt := 15) hx hb dX4_freeFace_58 (by decide) ?_
                  exact ih15 vv (vf + 1) (vm + 1) (by omega) (by omega) (by omega) ((frW_y ck (by omega) hz1 c_41).symm.trans hfin2) (by omega) ls (lv_sub hl [2, 3, 1, 4, 0] rfl)
                ·
                  refine lv_bipush (v := nI 10) hx hb dX4_freeFace_44 (by decide) ?_
                  refine lv_iload_n hx hb dX4_freeFace_46 rfl (lv_at hl 3 rfl) ?_
                  refine n_imul hx hb dX4_freeFace_47 ?_
                  refine lv_iload hx hb dX4_freeFace_48 (lv_at hl 4 rfl) ?_
                  refine n_iadd hx hb dX4_freeFace_50 ?_
                  refine w_top (v' := .int (frW (ν.1 1) F (zK ν) i (-9) 100 0 0 0)) (show (.int (nI ((10 * vk) + vf)) : Value) = .int (frW (ν.1 1) F (zK ν) i (-9) 100 0 0 0) from (congrArg (fun z => Value.int z) ((frW_r ck (by omega) hz1 c_41).symm.trans hfin2))) ?_
                  exact hE _ _ (kr_i dX4_freeFace_51)
        exact L15 ((F vk - 0) + 1) vu 0 vm (Nat.zero_le _) (by omega) (by omega) hfin (Nat.lt_succ_self _) ls (lv_sub hl [1, 2, 3, 4, 0] rfl)
  exact L4 ((ν.1 1 - 0) + 1) 100 0 0 (Nat.zero_le _) (by omega) (by omega) rfl (Nat.lt_succ_self _) ls (lv_sub hl [2, 3, 1, 0] rfl)

set_option maxHeartbeats 1000000 in
set_option maxRecDepth 100000 in
theorem c_X4_giveSlots (l : Launch) (G : Gt) (nn : Nat) (ν : Sx) (F : Nat → Nat) (Wy : Nat → Nat → Nat) (hP8 : ν.1 1 ≤ 8) (hl12 : ∀ j, j < 40 → ν.2.1 3 j ≤ 12) (hfc : fcN F (zK ν) (ν.1 1) ≤ 10) : Ct l G yX4_giveSlots cX4_giveSlots 5 (none) 1 0 0 [.ref nn] (fun H => bk G nn (ntL G nn ν) H ∧ NB G nn ν F Wy H) none (fun H => ∃ g : Nat → Nat, bk G nn (ntL G nn (uR ν 4 g)) H ∧ ∀ k, k < ν.1 1 → ∀ f, f < F k → g (5 * k + f) = slK ν F k f) (fun q => nn ≤ q ∧ q < nn + 4) := by
  refine ct_entry [(0, .ref nn)] (by decide) (Nat.le_of_ble_eq_true rfl) rfl ?_
  intro zp ze zs zm za zb zt zc Q S hK hPre hin hE ls hl
  have hx := S.1
  have hb := S.2.1
  obtain ⟨hN, hNB⟩ := hPre
  have hS : va_S (fun q => nn ≤ q ∧ q < nn + 4) zs.heap zs.heap [] := va_S.rf
  replace hN : bk G nn (ntL G nn (uR ν 4 (ν.2.1 4))) zs.heap := bk_eq hN rfl
  refine lv_bipush (v := nI 12) hx hb dX4_giveSlots_0 (by decide) ?_
  refine lv_istore_n (lv' := [(1, .int (nI 12)), (0, .ref nn)]) hx hb dX4_giveSlots_2 rfl hl (by decide) rfl (fun ls hl => ?_)
  refine lv_iconst (v := nI 0) hx hb dX4_giveSlots_3 (by decide) ?_
  refine lv_istore_n (lv' := [(2, .int (nI 0)), (1, .int (nI 12)), (0, .ref nn)]) hx hb dX4_giveSlots_4 rfl hl (by decide) rfl (fun ls hl => ?_)
  have L5 : ∀ (fu : Nat), ∀ (vk : Nat) (g : Nat → Nat), (vk ≤ ν.1 1) → (∀ k, k < vk → ∀ f, f < F k → g (5 * k + f) = slK ν F k f) → ν.1 1 - vk < fu → ∀ (H : Heap) (locs : List Loc), bk G nn (ntL G nn (uR ν 4 g)) H → va_S (fun q => nn ≤ q ∧ q < nn + 4) zs.heap H locs → ∀ ls : Array Slot, lv_has ls 5 [(0, .ref nn), (1, .int (nI (12 + fcN F (zK ν) vk))), (2, .int (nI vk))] → W zp l ze (rL 1 0 0) zs zm za zb zt zc H locs 0 0 Q (F0 zm 5 ls []) := by
    intro fu
    induction fu with
    | zero =>
      intro vk g hvk hg hmu H locs hN hS ls hl
      exact absurd hmu (Nat.not_lt_zero _)
    | succ fu ih5 =>
      intro vk g hvk hg hmu H locs hN hS ls hl
      refine lv_iload_n hx hb dX4_giveSlots_5 rfl (lv_at hl 2 rfl) ?_
      refine lv_aload_n hx hb dX4_giveSlots_6 rfl (lv_at hl 0 rfl) ?_
      refine kg (C := RX4) (T := TX4) (N := 5) (ci := 3) (k := 1) (v := .int (nI (ν.1 1))) S hK rfl inX4 (by decide) q_508 dX4_giveSlots_7 hN rfl rfl ?_
      refine n_icmp_ge (tgt := 91) hx hb dX4_giveSlots_10 (by decide) (by omega) (by omega) (fun c_10 => ?_) (fun c_10 => ?_)
      ·
        exact hE _ _ _ _ _ _ (kr_v dX4_giveSlots_91) hS (by decide) (by decide) ⟨g, hN, (fun k hk => hg k (by omega))⟩
      ·
        obtain ⟨a, β, ha1, ha2, hB, hb4, hb5, hb6⟩ := hNB vk (by omega)
        refine lv_iconst (v := nI 0) hx hb dX4_giveSlots_13 (by decide) ?_
        refine lv_istore_n (lv' := [(3, .int (nI 0)), (0, .ref nn), (1, .int (nI (12 + fcN F (zK ν) vk))), (2, .int (nI vk))]) hx hb dX4_giveSlots_14 rfl hl (by decide) rfl (fun ls hl => ?_)
        have L15 : ∀ (fu : Nat), ∀ (vf : Nat) (g : Nat → Nat), (vf ≤ F vk) → (∀ k, k < vk → ∀ f, f < F k → g (5 * k + f) = slK ν F k f) → (∀ f, f < vf → g (5 * vk + f) = slK ν F vk f) → F vk - vf < fu → ∀ (H : Heap) (locs : List Loc), bk G nn (ntL G nn (uR ν 4 g)) H → va_S (fun q => nn ≤ q ∧ q < nn + 4) zs.heap H locs → ∀ ls : Array Slot, lv_has ls 5 [(0, .ref nn), (1, .int (nI (12 + (fcN F (zK ν) vk + fc1 (zK ν) vk vf)))), (2, .int (nI vk)), (3, .int (nI vf))] → W zp l ze (rL 1 0 0) zs zm za zb zt zc H locs 0 0 Q (F0 zm 15 ls []) := by
          intro fu
          induction fu with
          | zero =>
            intro vf g hvf hgo hgf hmu H locs hN hS ls hl
            exact absurd hmu (Nat.not_lt_zero _)
          | succ fu ih15 =>
            intro vf g hvf hgo hgf hmu H locs hN hS ls hl
            refine lv_iload_n hx hb dX4_giveSlots_15 rfl (lv_at hl 3 rfl) ?_
            refine lv_aload_n hx hb dX4_giveSlots_16 rfl (lv_at hl 0 rfl) ?_
            refine lv_iload_n hx hb dX4_giveSlots_17 rfl (lv_at hl 2 rfl) ?_
            refine crV (rest := [.int (nI vf)]) S hK (c_X4_facesOf_y l G nn (uR ν 4 g) F Wy vk hP8 (by show vk < ν.1 1; omega)) cw_X4_35 rfl ⟨Nat.le_of_ble_eq_true rfl, Nat.le_of_ble_eq_true rfl⟩ ⟨Nat.le_of_ble_eq_true rfl, Nat.le_of_ble_eq_true rfl⟩ (bk.recv hK hN rfl rfl) hl.1 rfl (Nat.le_of_ble_eq_true rfl) dX4_giveSlots_18 ⟨hN, (NB_S hNB hS (fun q h => h))⟩ ?_
            refine n_icmp_ge (tgt := 85) hx hb dX4_giveSlots_21 (by decide) (by omega) (by omega) (fun c_21 => ?_) (fun c_21 => ?_)
            ·
              refine lv_iinc (v := (nI (vk + 1))) (lv' := [(2, .int (nI (vk + 1))), (0, .ref nn), (1, .int (nI (12 + (fcN F (zK ν) vk + fc1 (zK ν) vk vf)))), (3, .int (nI vf))]) hx hb dX4_giveSlots_85 hl (k := 2) rfl (inc1 _) (by decide) rfl (fun ls hl => ?_)
              refine lv_goto (tgt := 5) hx hb dX4_giveSlots_88 (by decide) ?_
              replace hl := lv_eq 2 hl rfl (v2 := .int (nI (12 + fcN F (zK ν) (vk + 1)))) (congrArg (fun z => Value.int (nI z)) (show (12 + (fcN F (zK ν) vk + fc1 (zK ν) vk vf)) = (12 + fcN F (zK ν) (vk + 1)) from by rw [show vf = F vk from by omega]; rfl))
              exact ih5 (vk + 1) g (by omega) (fun k hk f hf => by
                by_cases e : k = vk
                · rw [e] at hf ⊢; exact hgf f (by omega)
                · exact hgo k (by omega) f hf) (by omega) _ _ hN hS ls (lv_sub hl [1, 2, 0] rfl)
            ·
              have hl9 := hl12 (5 * vk + vf) (by omega)
              have hfl := fc_lt (F := F) (Z := zK ν) (P := ν.1 1) (k := vk) (f := vf) (by omega) (by omega)
              refine lv_iconst (v := nI 5) hx hb dX4_giveSlots_24 (by decide) ?_
              refine lv_iload_n hx hb dX4_giveSlots_25 rfl (lv_at hl 2 rfl) ?_
              refine n_imul hx hb dX4_giveSlots_26 ?_
              refine lv_iload_n hx hb dX4_giveSlots_27 rfl (lv_at hl 3 rfl) ?_
              refine n_iadd hx hb dX4_giveSlots_28 ?_
              refine lv_istore (lv' := [(4, .int (nI ((5 * vk) + vf))), (0, .ref nn), (1, .int (nI (12 + (fcN F (zK ν) vk + fc1 (zK ν) vk vf)))), (2, .int (nI vk)), (3, .int (nI vf))]) hx hb dX4_giveSlots_29 hl (by decide) rfl (fun ls hl => ?_)
              refine lv_aload_n hx hb dX4_giveSlots_31 rfl (lv_at hl 1 rfl) ?_
              refine kg (C := RX4) (T := TX4) (N := 5) (ci := 3) (k := 4) (v := .ref (nn + 3)) S hK rfl inX4 (by decide) q_513 dX4_giveSlots_32 hN rfl rfl ?_
              refine lv_iload hx hb dX4_giveSlots_35 (lv_at hl 0 rfl) ?_
              refine lv_aload_n hx hb dX4_giveSlots_37 rfl (lv_at hl 1 rfl) ?_
              refine kg (C := RX4) (T := TX4) (N := 5) (ci := 3) (k := 3) (v := .ref (nn + 2)) S hK rfl inX4 (by decide) q_512 dX4_giveSlots_38 hN rfl rfl ?_
              refine lv_iload hx hb dX4_giveSlots_41 (lv_at hl 0 rfl) ?_
              refine kil (f := ν.2.1 3) S hK dX4_giveSlots_43 2 hN rfl (by decide) rfl (by omega) ?_
              refine n_if_ne (tgt := 51) hx hb dX4_giveSlots_44 (by decide) (by omega) (fun c_44 => ?_) (fun c_44 => ?_)
              ·
                have hsv : ν.2.1 3 (5 * vk + vf) - 1 = slK ν F vk vf := (if_neg c_44).symm
                have e1 := fc1_no (Z := zK ν) (k := vk) (f := vf) (decide_eq_false c_44)
                refine lv_aload_n hx hb dX4_giveSlots_51 rfl (lv_at hl 1 rfl) ?_
                refine kg (C := RX4) (T := TX4) (N := 5) (ci := 3) (k := 3) (v := .ref (nn + 2)) S hK rfl inX4 (by decide) q_512 dX4_giveSlots_52 hN rfl rfl ?_
                refine lv_iload hx hb dX4_giveSlots_55 (lv_at hl 0 rfl) ?_
                refine kil (f := ν.2.1 3) S hK dX4_giveSlots_57 2 hN rfl (by decide) rfl (by omega) ?_
                refine lv_iconst (v := nI 1) hx hb dX4_giveSlots_58 (by decide) ?_
                refine n_isub hx hb dX4_giveSlots_59 (by omega) ?_
                refine kis S hK dX4_giveSlots_60 3 hN rfl (by decide) rfl (by omega) rfl (L1 := ntL G nn (uR ν 4 (uN g ((5 * vk) + vf) ((ν.2.1 3 ((5 * vk) + vf)) - 1)))) rfl hS (by first | exact ⟨by omega, by omega⟩ | omega) (fun H locs hN hS hz2 hk => ?_)
                refine lv_iload_n hx hb dX4_giveSlots_61 rfl (lv_at hl 2 rfl) ?_
                refine lv_aload_n hx hb dX4_giveSlots_62 rfl (lv_at hl 1 rfl) ?_
                refine kg (C := RX4) (T := TX4) (N := 5) (ci := 3) (k := 3) (v := .ref (nn + 2)) S hK rfl inX4 (by decide) q_512 dX4_giveSlots_63 hN rfl rfl ?_
                refine lv_iload hx hb dX4_giveSlots_66 (lv_at hl 0 rfl) ?_
                refine kil (f := ν.2.1 3) S hK dX4_giveSlots_68 2 hN rfl (by decide) rfl (by omega) ?_
                refine n_if_ne (tgt := 76) hx hb dX4_giveSlots_69 (by decide) (by omega) (fun c_69 => ?_) (fun c_69 => ?_)
                ·
                  refine lv_iconst (v := nI 0) hx hb dX4_giveSlots_76 (by decide) ?_
                  refine n_iadd hx hb dX4_giveSlots_77 ?_
                  refine lv_istore_n (lv' := [(1, .int (nI ((12 + (fcN F (zK ν) vk + fc1 (zK ν) vk vf)) + 0))), (4, .int (nI ((5 * vk) + vf))), (0, .ref nn), (2, .int (nI vk)), (3, .int (nI vf))]) hx hb dX4_giveSlots_78 rfl hl (by decide) rfl (fun ls hl => ?_)
                  refine lv_iinc (v := (nI (vf + 1))) (lv' := [(3, .int (nI (vf + 1))), (1, .int (nI ((12 + (fcN F (zK ν) vk + fc1 (zK ν) vk vf)) + 0))), (4, .int (nI ((5 * vk) + vf))), (0, .ref nn), (2, .int (nI vk))]) hx hb dX4_giveSlots_79 hl (k := 4) rfl (inc1 _) (by decide) rfl (fun ls hl => ?_)
                  refine lv_goto (tgt := 15) hx hb dX4_giveSlots_82 (by decide) ?_
                  replace hl := lv_eq 1 hl rfl (v2 := .int (nI (12 + (fcN F (zK ν) vk + fc1 (zK ν) vk (vf + 1))))) (congrArg (fun z => Value.int (nI z)) (show ((12 + (fcN F (zK ν) vk + fc1 (zK ν) vk vf)) + 0) = (12 + (fcN F (zK ν) vk + fc1 (zK ν) vk (vf + 1))) from by omega))
                  exact ih15 (vf + 1) (uN g ((5 * vk) + vf) ((ν.2.1 3 ((5 * vk) + vf)) - 1)) (by omega) (fun k hk f hf => by
                    obtain ⟨a9, β9, x1, x2, x3, x4, x5, x6⟩ := hNB k (by omega)
                    rw [uN_n (by omega)]; exact hgo k hk f hf) (fun f hf => by
                    by_cases e : f = vf
                    · rw [e, uN_s]; exact hsv
                    · rw [uN_n (by omega)]; exact hgf f (by omega)) (by omega) _ _ hN hS ls (lv_sub hl [3, 1, 4, 0] rfl)
                ·
                  omega
              ·
                have hsv : 12 + (fcN F (zK ν) vk + fc1 (zK ν) vk vf) = slK ν F vk vf := (if_pos c_44).symm
                have e1 := fc1_yes (Z := zK ν) (k := vk) (f := vf) (decide_eq_true c_44)
                refine lv_iload_n hx hb dX4_giveSlots_47 rfl (lv_at hl 2 rfl) ?_
                refine lv_goto (tgt := 60) hx hb dX4_giveSlots_48 (by decide) ?_
                refine kis S hK dX4_giveSlots_60 3 hN rfl (by decide) rfl (by omega) rfl (L1 := ntL G nn (uR ν 4 (uN g ((5 * vk) + vf) (12 + (fcN F (zK ν) vk + fc1 (zK ν) vk vf))))) rfl hS (by first | exact ⟨by omega, by omega⟩ | omega) (fun H locs hN hS hz2 hk => ?_)
                refine lv_iload_n hx hb dX4_giveSlots_61 rfl (lv_at hl 2 rfl) ?_
                refine lv_aload_n hx hb dX4_giveSlots_62 rfl (lv_at hl 1 rfl) ?_
                refine kg (C := RX4) (T := TX4) (N := 5) (ci := 3) (k := 3) (v := .ref (nn + 2)) S hK rfl inX4 (by decide) q_512 dX4_giveSlots_63 hN rfl rfl ?_
                refine lv_iload hx hb dX4_giveSlots_66 (lv_at hl 0 rfl) ?_
                refine kil (f := ν.2.1 3) S hK dX4_giveSlots_68 2 hN rfl (by decide) rfl (by omega) ?_
                refine n_if_ne (tgt := 76) hx hb dX4_giveSlots_69 (by decide) (by omega) (fun c_69 => ?_) (fun c_69 => ?_)
                ·
                  omega
                ·
                  refine lv_iconst (v := nI 1) hx hb dX4_giveSlots_72 (by decide) ?_
                  refine lv_goto (tgt := 77) hx hb dX4_giveSlots_73 (by decide) ?_
                  refine n_iadd hx hb dX4_giveSlots_77 ?_
                  refine lv_istore_n (lv' := [(1, .int (nI ((12 + (fcN F (zK ν) vk + fc1 (zK ν) vk vf)) + 1))), (4, .int (nI ((5 * vk) + vf))), (0, .ref nn), (2, .int (nI vk)), (3, .int (nI vf))]) hx hb dX4_giveSlots_78 rfl hl (by decide) rfl (fun ls hl => ?_)
                  refine lv_iinc (v := (nI (vf + 1))) (lv' := [(3, .int (nI (vf + 1))), (1, .int (nI ((12 + (fcN F (zK ν) vk + fc1 (zK ν) vk vf)) + 1))), (4, .int (nI ((5 * vk) + vf))), (0, .ref nn), (2, .int (nI vk))]) hx hb dX4_giveSlots_79 hl (k := 4) rfl (inc1 _) (by decide) rfl (fun ls hl => ?_)
                  refine lv_goto (tgt := 15) hx hb dX4_giveSlots_82 (by decide) ?_
                  replace hl := lv_eq 1 hl rfl (v2 := .int (nI (12 + (fcN F (zK ν) vk + fc1 (zK ν) vk (vf + 1))))) (congrArg (fun z => Value.int (nI z)) (show ((12 + (fcN F (zK ν) vk + fc1 (zK ν) vk vf)) + 1) = (12 + (fcN F (zK ν) vk + fc1 (zK ν) vk (vf + 1))) from by omega))
                  exact ih15 (vf + 1) (uN g ((5 * vk) + vf) (12 + (fcN F (zK ν) vk + fc1 (zK ν) vk vf))) (by omega) (fun k hk f hf => by
                    obtain ⟨a9, β9, x1, x2, x3, x4, x5, x6⟩ := hNB k (by omega)
                    rw [uN_n (by omega)]; exact hgo k hk f hf) (fun f hf => by
                    by_cases e : f = vf
                    · rw [e, uN_s]; exact hsv
                    · rw [uN_n (by omega)]; exact hgf f (by omega)) (by omega) _ _ hN hS ls (lv_sub hl [3, 1, 4, 0] rfl)
        replace hl := lv_eq 2 hl rfl (v2 := .int (nI (12 + (fcN F (zK ν) vk + fc1 (zK ν) vk 0)))) (congrArg (fun z => Value.int (nI z)) (show (12 + fcN F (zK ν) vk) = (12 + (fcN F (zK ν) vk + fc1 (zK ν) vk 0)) from by first | rfl | omega))
        exact L15 ((F vk - 0) + 1) 0 g (Nat.zero_le _) hg (fun f hf => absurd hf (Nat.not_lt_zero f)) (Nat.lt_succ_self _) _ _ hN hS ls (lv_sub hl [1, 2, 3, 0] rfl)
  replace hl := lv_eq 1 hl rfl (v2 := .int (nI (12 + fcN F (zK ν) 0))) (congrArg (fun z => Value.int (nI z)) (show 12 = (12 + fcN F (zK ν) 0) from rfl))
  exact L5 ((ν.1 1 - 0) + 1) 0 (ν.2.1 4) (Nat.zero_le _) (fun k hk => absurd hk (Nat.not_lt_zero k)) (Nat.lt_succ_self _) _ _ hN hS ls (lv_sub hl [2, 1, 0] rfl)

set_option maxHeartbeats 1000000 in
set_option maxRecDepth 100000 in
theorem c_X4_slotsOf (l : Launch) (G : Gt) (nn : Nat) (ν : Sx) (F : Nat → Nat) (Wy : Nat → Nat → Nat) (sl : Nat → Nat → Nat) (k : Nat) (hP8 : ν.1 1 ≤ 8) (hsl : ∀ k, k < ν.1 1 → ∀ f, f < F k → ν.2.1 4 (5 * k + f) = sl k f ∧ sl k f < 22) (hk8 : k < ν.1 1) : Cr l G yX4_slotsOf cX4_slotsOf 4 ((some .int)) 1 [.ref nn, .int (nI k)] (fun H => bk G nn (ntL G nn ν) H ∧ NB G nn ν F Wy H) (some (.int (nI (slO (sl k) (F k))))) := by
  refine cr_entry [(0, .ref nn), (1, .int (nI k))] (by decide) (Nat.le_of_ble_eq_true rfl) rfl ?_
  intro zp ze zs zm za zb zt zc Q S hK hPre hE ls hl
  have hx := S.1
  have hb := S.2.1
  obtain ⟨hN, hNB⟩ := hPre
  obtain ⟨a, β, ha1, ha2, hB, hb4, hb5, hb6⟩ := hNB k hk8
  refine lv_iconst (v := nI 0) hx hb dX4_slotsOf_0 (by decide) ?_
  refine lv_istore_n (lv' := [(2, .int (nI 0)), (0, .ref nn), (1, .int (nI k))]) hx hb dX4_slotsOf_1 rfl hl (by decide) rfl (fun ls hl => ?_)
  refine lv_iconst (v := nI 0) hx hb dX4_slotsOf_2 (by decide) ?_
  refine lv_istore_n (lv' := [(3, .int (nI 0)), (2, .int (nI 0)), (0, .ref nn), (1, .int (nI k))]) hx hb dX4_slotsOf_3 rfl hl (by decide) rfl (fun ls hl => ?_)
  have L4 : ∀ (fu : Nat), ∀ (vf : Nat), (vf ≤ F k) → F k - vf < fu → ∀ ls : Array Slot, lv_has ls 4 [(0, .ref nn), (1, .int (nI k)), (2, .int (nI (slO (sl k) vf))), (3, .int (nI vf))] → W zp l ze (rL 1 0 0) zs zm za zb zt zc zs.heap [] 0 0 Q (F0 zm 4 ls []) := by
    intro fu
    induction fu with
    | zero =>
      intro vf hvf hmu ls hl
      exact absurd hmu (Nat.not_lt_zero _)
    | succ fu ih4 =>
      intro vf hvf hmu ls hl
      refine lv_iload_n hx hb dX4_slotsOf_4 rfl (lv_at hl 3 rfl) ?_
      refine lv_aload_n hx hb dX4_slotsOf_5 rfl (lv_at hl 0 rfl) ?_
      refine lv_iload_n hx hb dX4_slotsOf_6 rfl (lv_at hl 1 rfl) ?_
      refine crV (rest := [.int (nI vf)]) S hK (c_X4_facesOf_y l G nn ν F Wy k (by first | assumption | omega | decide) (by omega)) cw_X4_35 rfl ⟨Nat.le_of_ble_eq_true rfl, Nat.le_of_ble_eq_true rfl⟩ ⟨Nat.le_of_ble_eq_true rfl, Nat.le_of_ble_eq_true rfl⟩ (bk.recv hK hN rfl rfl) hl.1 rfl (Nat.le_of_ble_eq_true rfl) dX4_slotsOf_7 ⟨hN, hNB⟩ ?_
      refine n_icmp_ge (tgt := 34) hx hb dX4_slotsOf_10 (by decide) (by omega) (by omega) (fun c_10 => ?_) (fun c_10 => ?_)
      ·
        refine lv_iload_n hx hb dX4_slotsOf_34 rfl (lv_at hl 2 rfl) ?_
        refine w_top (v' := .int (nI (slO (sl k) (F k)))) (congrArg (fun z => Value.int (nI z)) (show (slO (sl k) vf) = (slO (sl k) (F k)) from by rw [show vf = F k from by omega])) ?_
        exact hE _ _ (kr_i dX4_slotsOf_35)
      ·
        obtain ⟨hs1, hs2⟩ := hsl k hk8 vf (by omega)
        refine lv_iload_n hx hb dX4_slotsOf_13 rfl (lv_at hl 2 rfl) ?_
        refine lv_iconst (v := nI 1) hx hb dX4_slotsOf_14 (by decide) ?_
        refine lv_aload_n hx hb dX4_slotsOf_15 rfl (lv_at hl 0 rfl) ?_
        refine kg (C := RX4) (T := TX4) (N := 5) (ci := 3) (k := 4) (v := .ref (nn + 3)) S hK rfl inX4 (by decide) q_513 dX4_slotsOf_16 hN rfl rfl ?_
        refine lv_iconst (v := nI 5) hx hb dX4_slotsOf_19 (by decide) ?_
        refine lv_iload_n hx hb dX4_slotsOf_20 rfl (lv_at hl 1 rfl) ?_
        refine n_imul hx hb dX4_slotsOf_21 ?_
        refine lv_iload_n hx hb dX4_slotsOf_22 rfl (lv_at hl 3 rfl) ?_
        refine n_iadd hx hb dX4_slotsOf_23 ?_
        refine kil (f := ν.2.1 4) S hK dX4_slotsOf_24 3 hN rfl (by decide) rfl (by omega) ?_
        refine w_top (v' := .int (nI (sl k vf))) (congrArg (fun z => Value.int (nI z)) hs1) ?_
        refine n_ishl hx hb dX4_slotsOf_25 (by omega) ?_
        refine n_ior hx hb dX4_slotsOf_26 ?_
        refine lv_istore_n (lv' := [(2, .int (nI ((slO (sl k) vf) ||| (1 <<< (sl k vf))))), (0, .ref nn), (1, .int (nI k)), (3, .int (nI vf))]) hx hb dX4_slotsOf_27 rfl hl (by decide) rfl (fun ls hl => ?_)
        refine lv_iinc (v := (nI (vf + 1))) (lv' := [(3, .int (nI (vf + 1))), (2, .int (nI ((slO (sl k) vf) ||| (1 <<< (sl k vf))))), (0, .ref nn), (1, .int (nI k))]) hx hb dX4_slotsOf_28 hl (k := 3) rfl (inc1 _) (by decide) rfl (fun ls hl => ?_)
        refine lv_goto (tgt := 4) hx hb dX4_slotsOf_31 (by decide) ?_
        replace hl := lv_eq 1 hl rfl (v2 := .int (nI (slO (sl k) (vf + 1)))) (congrArg (fun z => Value.int (nI z)) (show ((slO (sl k) vf) ||| (1 <<< (sl k vf))) = (slO (sl k) (vf + 1)) from rfl))
        exact ih4 (vf + 1) (by omega) (by omega) ls (lv_sub hl [2, 3, 1, 0] rfl)
  replace hl := lv_eq 1 hl rfl (v2 := .int (nI (slO (sl k) 0))) (congrArg (fun z => Value.int (nI z)) (show 0 = (slO (sl k) 0) from by first | rfl | omega))
  exact L4 ((F k - 0) + 1) 0 (Nat.zero_le _) (Nat.lt_succ_self _) ls (lv_sub hl [2, 3, 1, 0] rfl)

set_option maxHeartbeats 1000000 in
set_option maxRecDepth 100000 in
theorem c_X4_bitsIn_y (l : Launch) (G : Gt) (nn : Nat) (ν : Sx) (F : Nat → Nat) (Wy : Nat → Nat → Nat) (sl : Nat → Nat → Nat) (k : Nat) (st : Nat) (hP8 : ν.1 1 ≤ 8) (hsl : ∀ k, k < ν.1 1 → ∀ f, f < F k → ν.2.1 4 (5 * k + f) = sl k f ∧ sl k f < 22) (hk8 : k < ν.1 1) (hst : st < 2 ^ 31) (hcl : bO (sl k) st (F k) &&& bZ (sl k) st (F k) = 0) : Cr l G yX4_bitsIn cX4_bitsIn 7 ((some .int)) 1 [.ref nn, .int (nI k), .int (nI st)] (fun H => bk G nn (ntL G nn ν) H ∧ NB G nn ν F Wy H) (some (.int (nI (bO (sl k) st (F k))))) := by
  refine cr_entry [(0, .ref nn), (1, .int (nI k)), (2, .int (nI st))] (by decide) (Nat.le_of_ble_eq_true rfl) rfl ?_
  intro zp ze zs zm za zb zt zc Q S hK hPre hE ls hl
  have hx := S.1
  have hb := S.2.1
  obtain ⟨hN, hNB⟩ := hPre
  obtain ⟨a, β, ha1, ha2, hB, hb4, hb5, hb6⟩ := hNB k hk8
  have hO31 := bO_lt (g := sl k) (m := 22) (st := st) (F k) (fun i hi => (hsl k hk8 i hi).2)
  refine lv_iconst (v := nI 0) hx hb dX4_bitsIn_0 (by decide) ?_
  refine lv_istore_n (lv' := [(3, .int (nI 0)), (0, .ref nn), (1, .int (nI k)), (2, .int (nI st))]) hx hb dX4_bitsIn_1 rfl hl (by decide) rfl (fun ls hl => ?_)
  refine lv_iconst (v := nI 0) hx hb dX4_bitsIn_2 (by decide) ?_
  refine lv_istore (lv' := [(4, .int (nI 0)), (3, .int (nI 0)), (0, .ref nn), (1, .int (nI k)), (2, .int (nI st))]) hx hb dX4_bitsIn_3 hl (by decide) rfl (fun ls hl => ?_)
  refine lv_iconst (v := nI 0) hx hb dX4_bitsIn_5 (by decide) ?_
  refine lv_istore (lv' := [(5, .int (nI 0)), (4, .int (nI 0)), (3, .int (nI 0)), (0, .ref nn), (1, .int (nI k)), (2, .int (nI st))]) hx hb dX4_bitsIn_6 hl (by decide) rfl (fun ls hl => ?_)
  have L8 : ∀ (fu : Nat), ∀ (vf : Nat), (vf ≤ F k) → F k - vf < fu → ∀ ls : Array Slot, lv_has ls 7 [(0, .ref nn), (1, .int (nI k)), (2, .int (nI st)), (3, .int (nI (bO (sl k) st vf))), (4, .int (nI (bZ (sl k) st vf))), (5, .int (nI vf))] → W zp l ze (rL 1 0 0) zs zm za zb zt zc zs.heap [] 0 0 Q (F0 zm 8 ls []) := by
    intro fu
    induction fu with
    | zero =>
      intro vf hvf hmu ls hl
      exact absurd hmu (Nat.not_lt_zero _)
    | succ fu ih8 =>
      intro vf hvf hmu ls hl
      refine lv_iload hx hb dX4_bitsIn_8 (lv_at hl 5 rfl) ?_
      refine lv_aload_n hx hb dX4_bitsIn_10 rfl (lv_at hl 0 rfl) ?_
      refine lv_iload_n hx hb dX4_bitsIn_11 rfl (lv_at hl 1 rfl) ?_
      refine crV (rest := [.int (nI vf)]) S hK (c_X4_facesOf_y l G nn ν F Wy k (by first | assumption | omega | decide) (by omega)) cw_X4_35 rfl ⟨Nat.le_of_ble_eq_true rfl, Nat.le_of_ble_eq_true rfl⟩ ⟨Nat.le_of_ble_eq_true rfl, Nat.le_of_ble_eq_true rfl⟩ (bk.recv hK hN rfl rfl) hl.1 rfl (Nat.le_of_ble_eq_true rfl) dX4_bitsIn_12 ⟨hN, hNB⟩ ?_
      refine n_icmp_ge (tgt := 63) hx hb dX4_bitsIn_15 (by decide) (by first | omega | exact Nat.lt_of_le_of_lt Nat.and_le_right (by decide) | exact Nat.lt_of_le_of_lt Nat.and_le_left (by omega)) (by first | omega | exact Nat.lt_of_le_of_lt Nat.and_le_right (by decide) | exact Nat.lt_of_le_of_lt Nat.and_le_left (by omega)) (fun c_15 => ?_) (fun c_15 => ?_)
      ·
        have hvf3 : vf = F k := by omega
        have hq0 := hcl
        refine lv_iload_n hx hb dX4_bitsIn_63 rfl (lv_at hl 3 rfl) ?_
        refine lv_iload hx hb dX4_bitsIn_64 (lv_at hl 4 rfl) ?_
        refine n_iand hx hb dX4_bitsIn_66 ?_
        rw [← hvf3] at hcl hO31
        refine n_if_ne (tgt := 74) hx hb dX4_bitsIn_67 (by decide) (by first | omega | exact Nat.lt_of_le_of_lt Nat.and_le_right (by decide) | exact Nat.lt_of_le_of_lt Nat.and_le_left (by omega)) (fun c_67 => ?_) (fun c_67 => ?_)
        ·
          exact absurd hcl c_67
        ·
          refine lv_iload_n hx hb dX4_bitsIn_70 rfl (lv_at hl 3 rfl) ?_
          refine lv_goto (tgt := 75) hx hb dX4_bitsIn_71 (by decide) ?_
          refine w_top (v' := .int (nI (bO (sl k) st (F k)))) (congrArg (fun z => Value.int (nI z)) (show (bO (sl k) st vf) = (bO (sl k) st (F k)) from by rw [hvf3])) ?_
          exact hE _ _ (kr_i dX4_bitsIn_75)
      ·
        obtain ⟨hs1, hs2⟩ := hsl k hk8 vf (by omega)
        refine lv_iconst (v := nI 1) hx hb dX4_bitsIn_18 (by decide) ?_
        refine lv_aload_n hx hb dX4_bitsIn_19 rfl (lv_at hl 0 rfl) ?_
        refine kg (C := RX4) (T := TX4) (N := 5) (ci := 3) (k := 4) (v := .ref (nn + 3)) S hK rfl inX4 (by decide) q_513 dX4_bitsIn_20 hN rfl rfl ?_
        refine lv_iconst (v := nI 5) hx hb dX4_bitsIn_23 (by decide) ?_
        refine lv_iload_n hx hb dX4_bitsIn_24 rfl (lv_at hl 1 rfl) ?_
        refine n_imul hx hb dX4_bitsIn_25 ?_
        refine lv_iload hx hb dX4_bitsIn_26 (lv_at hl 5 rfl) ?_
        refine n_iadd hx hb dX4_bitsIn_28 ?_
        refine kil (f := ν.2.1 4) S hK dX4_bitsIn_29 3 hN rfl (by decide) rfl (by first | omega | exact Nat.lt_of_le_of_lt Nat.and_le_right (by decide) | exact Nat.lt_of_le_of_lt Nat.and_le_left (by omega)) ?_
        refine w_top (v' := .int (nI (sl k vf))) (congrArg (fun z => Value.int (nI z)) hs1) ?_
        refine n_ishl hx hb dX4_bitsIn_30 (by first | omega | exact Nat.lt_of_le_of_lt Nat.and_le_right (by decide) | exact Nat.lt_of_le_of_lt Nat.and_le_left (by omega)) ?_
        refine lv_istore (lv' := [(6, .int (nI (1 <<< (sl k vf)))), (0, .ref nn), (1, .int (nI k)), (2, .int (nI st)), (3, .int (nI (bO (sl k) st vf))), (4, .int (nI (bZ (sl k) st vf))), (5, .int (nI vf))]) hx hb dX4_bitsIn_31 hl (by decide) rfl (fun ls hl => ?_)
        refine lv_iload_n hx hb dX4_bitsIn_33 rfl (lv_at hl 3 rfl) ?_
        refine lv_iload hx hb dX4_bitsIn_34 (lv_at hl 6 rfl) ?_
        refine n_ishr hx hb dX4_bitsIn_36 (by first | omega | exact Nat.lt_of_le_of_lt Nat.and_le_right (by decide) | exact Nat.lt_of_le_of_lt Nat.and_le_left (by omega)) (by first | omega | exact Nat.lt_of_le_of_lt Nat.and_le_right (by decide) | exact Nat.lt_of_le_of_lt Nat.and_le_left (by omega)) ?_
        refine lv_iconst (v := nI 1) hx hb dX4_bitsIn_37 (by decide) ?_
        refine n_iand hx hb dX4_bitsIn_38 ?_
        refine n_if_eq (tgt := 50) hx hb dX4_bitsIn_39 (by decide) (Nat.lt_of_le_of_lt Nat.and_le_right (by decide)) (fun c_39 => ?_) (fun c_39 => ?_)
        ·
          refine lv_iload hx hb dX4_bitsIn_50 (lv_at hl 5 rfl) ?_
          refine lv_iload hx hb dX4_bitsIn_52 (lv_at hl 0 rfl) ?_
          refine n_ior hx hb dX4_bitsIn_54 ?_
          refine lv_istore (lv' := [(4, .int (nI ((bZ (sl k) st vf) ||| (1 <<< (sl k vf))))), (6, .int (nI (1 <<< (sl k vf)))), (0, .ref nn), (1, .int (nI k)), (2, .int (nI st)), (3, .int (nI (bO (sl k) st vf))), (5, .int (nI vf))]) hx hb dX4_bitsIn_55 hl (by decide) rfl (fun ls hl => ?_)
          refine lv_iinc (v := (nI (vf + 1))) (lv' := [(5, .int (nI (vf + 1))), (4, .int (nI ((bZ (sl k) st vf) ||| (1 <<< (sl k vf))))), (6, .int (nI (1 <<< (sl k vf)))), (0, .ref nn), (1, .int (nI k)), (2, .int (nI st)), (3, .int (nI (bO (sl k) st vf)))]) hx hb dX4_bitsIn_57 hl (k := 6) rfl (inc1 _) (by decide) rfl (fun ls hl => ?_)
          refine lv_goto (tgt := 8) hx hb dX4_bitsIn_60 (by decide) ?_
          replace hl := lv_eq 6 hl rfl (v2 := .int (nI (bO (sl k) st (vf + 1)))) (congrArg (fun z => Value.int (nI z)) (show (bO (sl k) st vf) = (bO (sl k) st (vf + 1)) from (bO_0 c_39).symm))
          replace hl := lv_eq 1 hl rfl (v2 := .int (nI (bZ (sl k) st (vf + 1)))) (congrArg (fun z => Value.int (nI z)) (show ((bZ (sl k) st vf) ||| (1 <<< (sl k vf))) = (bZ (sl k) st (vf + 1)) from (bZ_0 c_39).symm))
          exact ih8 (vf + 1) (by omega) (by omega) ls (lv_sub hl [3, 4, 5, 6, 1, 0] rfl)
        ·
          refine lv_iload_n hx hb dX4_bitsIn_42 rfl (lv_at hl 4 rfl) ?_
          refine lv_iload hx hb dX4_bitsIn_43 (lv_at hl 0 rfl) ?_
          refine n_ior hx hb dX4_bitsIn_45 ?_
          refine lv_istore_n (lv' := [(3, .int (nI ((bO (sl k) st vf) ||| (1 <<< (sl k vf))))), (6, .int (nI (1 <<< (sl k vf)))), (0, .ref nn), (1, .int (nI k)), (2, .int (nI st)), (4, .int (nI (bZ (sl k) st vf))), (5, .int (nI vf))]) hx hb dX4_bitsIn_46 rfl hl (by decide) rfl (fun ls hl => ?_)
          refine lv_goto (tgt := 57) hx hb dX4_bitsIn_47 (by decide) ?_
          refine lv_iinc (v := (nI (vf + 1))) (lv' := [(5, .int (nI (vf + 1))), (3, .int (nI ((bO (sl k) st vf) ||| (1 <<< (sl k vf))))), (6, .int (nI (1 <<< (sl k vf)))), (0, .ref nn), (1, .int (nI k)), (2, .int (nI st)), (4, .int (nI (bZ (sl k) st vf)))]) hx hb dX4_bitsIn_57 hl (k := 6) rfl (inc1 _) (by decide) rfl (fun ls hl => ?_)
          refine lv_goto (tgt := 8) hx hb dX4_bitsIn_60 (by decide) ?_
          replace hl := lv_eq 1 hl rfl (v2 := .int (nI (bO (sl k) st (vf + 1)))) (congrArg (fun z => Value.int (nI z)) (show ((bO (sl k) st vf) ||| (1 <<< (sl k vf))) = (bO (sl k) st (vf + 1)) from (bO_1 c_39).symm))
          replace hl := lv_eq 6 hl rfl (v2 := .int (nI (bZ (sl k) st (vf + 1)))) (congrArg (fun z => Value.int (nI z)) (show (bZ (sl k) st vf) = (bZ (sl k) st (vf + 1)) from (bZ_1 c_39).symm))
          exact ih8 (vf + 1) (by omega) (by omega) ls (lv_sub hl [3, 4, 5, 1, 6, 0] rfl)
  replace hl := lv_eq 2 hl rfl (v2 := .int (nI (bO (sl k) st 0))) (congrArg (fun z => Value.int (nI z)) (show 0 = (bO (sl k) st 0) from by first | rfl | omega))
  replace hl := lv_eq 1 hl rfl (v2 := .int (nI (bZ (sl k) st 0))) (congrArg (fun z => Value.int (nI z)) (show 0 = (bZ (sl k) st 0) from by first | rfl | omega))
  exact L8 ((F k - 0) + 1) 0 (Nat.zero_le _) (Nat.lt_succ_self _) ls (lv_sub hl [3, 4, 5, 2, 1, 0] rfl)

set_option maxHeartbeats 1000000 in
set_option maxRecDepth 100000 in
theorem c_X4_bitsIn_n (l : Launch) (G : Gt) (nn : Nat) (ν : Sx) (F : Nat → Nat) (Wy : Nat → Nat → Nat) (sl : Nat → Nat → Nat) (k : Nat) (st : Nat) (hP8 : ν.1 1 ≤ 8) (hsl : ∀ k, k < ν.1 1 → ∀ f, f < F k → ν.2.1 4 (5 * k + f) = sl k f ∧ sl k f < 22) (hk8 : k < ν.1 1) (hst : st < 2 ^ 31) (hcl : ¬ bO (sl k) st (F k) &&& bZ (sl k) st (F k) = 0) : Cr l G yX4_bitsIn cX4_bitsIn 7 ((some .int)) 1 [.ref nn, .int (nI k), .int (nI st)] (fun H => bk G nn (ntL G nn ν) H ∧ NB G nn ν F Wy H) (some (.int (-1))) := by
  refine cr_entry [(0, .ref nn), (1, .int (nI k)), (2, .int (nI st))] (by decide) (Nat.le_of_ble_eq_true rfl) rfl ?_
  intro zp ze zs zm za zb zt zc Q S hK hPre hE ls hl
  have hx := S.1
  have hb := S.2.1
  obtain ⟨hN, hNB⟩ := hPre
  obtain ⟨a, β, ha1, ha2, hB, hb4, hb5, hb6⟩ := hNB k hk8
  have hO31 := bO_lt (g := sl k) (m := 22) (st := st) (F k) (fun i hi => (hsl k hk8 i hi).2)
  refine lv_iconst (v := nI 0) hx hb dX4_bitsIn_0 (by decide) ?_
  refine lv_istore_n (lv' := [(3, .int (nI 0)), (0, .ref nn), (1, .int (nI k)), (2, .int (nI st))]) hx hb dX4_bitsIn_1 rfl hl (by decide) rfl (fun ls hl => ?_)
  refine lv_iconst (v := nI 0) hx hb dX4_bitsIn_2 (by decide) ?_
  refine lv_istore (lv' := [(4, .int (nI 0)), (3, .int (nI 0)), (0, .ref nn), (1, .int (nI k)), (2, .int (nI st))]) hx hb dX4_bitsIn_3 hl (by decide) rfl (fun ls hl => ?_)
  refine lv_iconst (v := nI 0) hx hb dX4_bitsIn_5 (by decide) ?_
  refine lv_istore (lv' := [(5, .int (nI 0)), (4, .int (nI 0)), (3, .int (nI 0)), (0, .ref nn), (1, .int (nI k)), (2, .int (nI st))]) hx hb dX4_bitsIn_6 hl (by decide) rfl (fun ls hl => ?_)
  have L8 : ∀ (fu : Nat), ∀ (vf : Nat), (vf ≤ F k) → F k - vf < fu → ∀ ls : Array Slot, lv_has ls 7 [(0, .ref nn), (1, .int (nI k)), (2, .int (nI st)), (3, .int (nI (bO (sl k) st vf))), (4, .int (nI (bZ (sl k) st vf))), (5, .int (nI vf))] → W zp l ze (rL 1 0 0) zs zm za zb zt zc zs.heap [] 0 0 Q (F0 zm 8 ls []) := by
    intro fu
    induction fu with
    | zero =>
      intro vf hvf hmu ls hl
      exact absurd hmu (Nat.not_lt_zero _)
    | succ fu ih8 =>
      intro vf hvf hmu ls hl
      refine lv_iload hx hb dX4_bitsIn_8 (lv_at hl 5 rfl) ?_
      refine lv_aload_n hx hb dX4_bitsIn_10 rfl (lv_at hl 0 rfl) ?_
      refine lv_iload_n hx hb dX4_bitsIn_11 rfl (lv_at hl 1 rfl) ?_
      refine crV (rest := [.int (nI vf)]) S hK (c_X4_facesOf_y l G nn ν F Wy k (by first | assumption | omega | decide) (by omega)) cw_X4_35 rfl ⟨Nat.le_of_ble_eq_true rfl, Nat.le_of_ble_eq_true rfl⟩ ⟨Nat.le_of_ble_eq_true rfl, Nat.le_of_ble_eq_true rfl⟩ (bk.recv hK hN rfl rfl) hl.1 rfl (Nat.le_of_ble_eq_true rfl) dX4_bitsIn_12 ⟨hN, hNB⟩ ?_
      refine n_icmp_ge (tgt := 63) hx hb dX4_bitsIn_15 (by decide) (by first | omega | exact Nat.lt_of_le_of_lt Nat.and_le_right (by decide) | exact Nat.lt_of_le_of_lt Nat.and_le_left (by omega)) (by first | omega | exact Nat.lt_of_le_of_lt Nat.and_le_right (by decide) | exact Nat.lt_of_le_of_lt Nat.and_le_left (by omega)) (fun c_15 => ?_) (fun c_15 => ?_)
      ·
        have hvf3 : vf = F k := by omega
        have hq0 := hcl
        refine lv_iload_n hx hb dX4_bitsIn_63 rfl (lv_at hl 3 rfl) ?_
        refine lv_iload hx hb dX4_bitsIn_64 (lv_at hl 4 rfl) ?_
        refine n_iand hx hb dX4_bitsIn_66 ?_
        rw [← hvf3] at hcl hO31
        refine n_if_ne (tgt := 74) hx hb dX4_bitsIn_67 (by decide) (by first | omega | exact Nat.lt_of_le_of_lt Nat.and_le_right (by decide) | exact Nat.lt_of_le_of_lt Nat.and_le_left (by omega)) (fun c_67 => ?_) (fun c_67 => ?_)
        ·
          refine lv_iconst (v := (-1)) hx hb dX4_bitsIn_74 (by decide) ?_
          exact hE _ _ (kr_i dX4_bitsIn_75)
        ·
          exact absurd c_67 hcl
      ·
        obtain ⟨hs1, hs2⟩ := hsl k hk8 vf (by omega)
        refine lv_iconst (v := nI 1) hx hb dX4_bitsIn_18 (by decide) ?_
        refine lv_aload_n hx hb dX4_bitsIn_19 rfl (lv_at hl 0 rfl) ?_
        refine kg (C := RX4) (T := TX4) (N := 5) (ci := 3) (k := 4) (v := .ref (nn + 3)) S hK rfl inX4 (by decide) q_513 dX4_bitsIn_20 hN rfl rfl ?_
        refine lv_iconst (v := nI 5) hx hb dX4_bitsIn_23 (by decide) ?_
        refine lv_iload_n hx hb dX4_bitsIn_24 rfl (lv_at hl 1 rfl) ?_
        refine n_imul hx hb dX4_bitsIn_25 ?_
        refine lv_iload hx hb dX4_bitsIn_26 (lv_at hl 5 rfl) ?_
        refine n_iadd hx hb dX4_bitsIn_28 ?_
        refine kil (f := ν.2.1 4) S hK dX4_bitsIn_29 3 hN rfl (by decide) rfl (by first | omega | exact Nat.lt_of_le_of_lt Nat.and_le_right (by decide) | exact Nat.lt_of_le_of_lt Nat.and_le_left (by omega)) ?_
        refine w_top (v' := .int (nI (sl k vf))) (congrArg (fun z => Value.int (nI z)) hs1) ?_
        refine n_ishl hx hb dX4_bitsIn_30 (by first | omega | exact Nat.lt_of_le_of_lt Nat.and_le_right (by decide) | exact Nat.lt_of_le_of_lt Nat.and_le_left (by omega)) ?_
        refine lv_istore (lv' := [(6, .int (nI (1 <<< (sl k vf)))), (0, .ref nn), (1, .int (nI k)), (2, .int (nI st)), (3, .int (nI (bO (sl k) st vf))), (4, .int (nI (bZ (sl k) st vf))), (5, .int (nI vf))]) hx hb dX4_bitsIn_31 hl (by decide) rfl (fun ls hl => ?_)
        refine lv_iload_n hx hb dX4_bitsIn_33 rfl (lv_at hl 3 rfl) ?_
        refine lv_iload hx hb dX4_bitsIn_34 (lv_at hl 6 rfl) ?_
        refine n_ishr hx hb dX4_bitsIn_36 (by first | omega | exact Nat.lt_of_le_of_lt Nat.and_le_right (by decide) | exact Nat.lt_of_le_of_lt Nat.and_le_left (by omega)) (by first | omega | exact Nat.lt_of_le_of_lt Nat.and_le_right (by decide) | exact Nat.lt_of_le_of_lt Nat.and_le_left (by omega)) ?_
        refine lv_iconst (v := nI 1) hx hb dX4_bitsIn_37 (by decide) ?_
        refine n_iand hx hb dX4_bitsIn_38 ?_
        refine n_if_eq (tgt := 50) hx hb dX4_bitsIn_39 (by decide) (Nat.lt_of_le_of_lt Nat.and_le_right (by decide)) (fun c_39 => ?_) (fun c_39 => ?_)
        ·
          refine lv_iload hx hb dX4_bitsIn_50 (lv_at hl 5 rfl) ?_
          refine lv_iload hx hb dX4_bitsIn_52 (lv_at hl 0 rfl) ?_
          refine n_ior hx hb dX4_bitsIn_54 ?_
          refine lv_istore (lv' := [(4, .int (nI ((bZ (sl k) st vf) ||| (1 <<< (sl k vf))))), (6, .int (nI (1 <<< (sl k vf)))), (0, .ref nn), (1, .int (nI k)), (2, .int (nI st)), (3, .int (nI (bO (sl k) st vf))), (5, .int (nI vf))]) hx hb dX4_bitsIn_55 hl (by decide) rfl (fun ls hl => ?_)
          refine lv_iinc (v := (nI (vf + 1))) (lv' := [(5, .int (nI (vf + 1))), (4, .int (nI ((bZ (sl k) st vf) ||| (1 <<< (sl k vf))))), (6, .int (nI (1 <<< (sl k vf)))), (0, .ref nn), (1, .int (nI k)), (2, .int (nI st)), (3, .int (nI (bO (sl k) st vf)))]) hx hb dX4_bitsIn_57 hl (k := 6) rfl (inc1 _) (by decide) rfl (fun ls hl => ?_)
          refine lv_goto (tgt := 8) hx hb dX4_bitsIn_60 (by decide) ?_
          replace hl := lv_eq 6 hl rfl (v2 := .int (nI (bO (sl k) st (vf + 1)))) (congrArg (fun z => Value.int (nI z)) (show (bO (sl k) st vf) = (bO (sl k) st (vf + 1)) from (bO_0 c_39).symm))
          replace hl := lv_eq 1 hl rfl (v2 := .int (nI (bZ (sl k) st (vf + 1)))) (congrArg (fun z => Value.int (nI z)) (show ((bZ (sl k) st vf) ||| (1 <<< (sl k vf))) = (bZ (sl k) st (vf + 1)) from (bZ_0 c_39).symm))
          exact ih8 (vf + 1) (by omega) (by omega) ls (lv_sub hl [3, 4, 5, 6, 1, 0] rfl)
        ·
          refine lv_iload_n hx hb dX4_bitsIn_42 rfl (lv_at hl 4 rfl) ?_
          refine lv_iload hx hb dX4_bitsIn_43 (lv_at hl 0 rfl) ?_
          refine n_ior hx hb dX4_bitsIn_45 ?_
          refine lv_istore_n (lv' := [(3, .int (nI ((bO (sl k) st vf) ||| (1 <<< (sl k vf))))), (6, .int (nI (1 <<< (sl k vf)))), (0, .ref nn), (1, .int (nI k)), (2, .int (nI st)), (4, .int (nI (bZ (sl k) st vf))), (5, .int (nI vf))]) hx hb dX4_bitsIn_46 rfl hl (by decide) rfl (fun ls hl => ?_)
          refine lv_goto (tgt := 57) hx hb dX4_bitsIn_47 (by decide) ?_
          refine lv_iinc (v := (nI (vf + 1))) (lv' := [(5, .int (nI (vf + 1))), (3, .int (nI ((bO (sl k) st vf) ||| (1 <<< (sl k vf))))), (6, .int (nI (1 <<< (sl k vf)))), (0, .ref nn), (1, .int (nI k)), (2, .int (nI st)), (4, .int (nI (bZ (sl k) st vf)))]) hx hb dX4_bitsIn_57 hl (k := 6) rfl (inc1 _) (by decide) rfl (fun ls hl => ?_)
          refine lv_goto (tgt := 8) hx hb dX4_bitsIn_60 (by decide) ?_
          replace hl := lv_eq 1 hl rfl (v2 := .int (nI (bO (sl k) st (vf + 1)))) (congrArg (fun z => Value.int (nI z)) (show ((bO (sl k) st vf) ||| (1 <<< (sl k vf))) = (bO (sl k) st (vf + 1)) from (bO_1 c_39).symm))
          replace hl := lv_eq 6 hl rfl (v2 := .int (nI (bZ (sl k) st (vf + 1)))) (congrArg (fun z => Value.int (nI z)) (show (bZ (sl k) st vf) = (bZ (sl k) st (vf + 1)) from (bZ_1 c_39).symm))
          exact ih8 (vf + 1) (by omega) (by omega) ls (lv_sub hl [3, 4, 5, 1, 6, 0] rfl)
  replace hl := lv_eq 2 hl rfl (v2 := .int (nI (bO (sl k) st 0))) (congrArg (fun z => Value.int (nI z)) (show 0 = (bO (sl k) st 0) from by first | rfl | omega))
  replace hl := lv_eq 1 hl rfl (v2 := .int (nI (bZ (sl k) st 0))) (congrArg (fun z => Value.int (nI z)) (show 0 = (bZ (sl k) st 0) from by first | rfl | omega))
  exact L8 ((F k - 0) + 1) 0 (Nat.zero_le _) (Nat.lt_succ_self _) ls (lv_sub hl [3, 4, 5, 2, 1, 0] rfl)
