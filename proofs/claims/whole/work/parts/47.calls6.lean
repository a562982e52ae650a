
/-! walks: the class FINDS: subsets in the order of numbers -/
theorem and2 {a c p q : Nat} (hp : p < 2) (hq : q < 2) : (2 * a + p) &&& (2 * c + q) = 2 * (a &&& c) + (p &&& q) := by
  have h1 : ((2 * a + p) &&& (2 * c + q)) / 2 = a &&& c := by
    rw [Nat.and_div_two, show (2 * a + p) / 2 = a from by omega, show (2 * c + q) / 2 = c from by omega]
  have h2 : ((2 * a + p) &&& (2 * c + q)) % 2 = p &&& q := by
    have := Nat.and_mod_two_pow (a := 2 * a + p) (b := 2 * c + q) (n := 1)
    rw [show (2 : Nat) ^ 1 = 2 from rfl, show (2 * a + p) % 2 = p from by omega, show (2 * c + q) % 2 = q from by omega] at this
    exact this
  omega
def pd : Nat → Nat → Nat → Nat
  | 0, _, _ => 0
  | n + 1, S, i => if S % 2 = 1 then 2 * pd n (S / 2) (i / 2) + i % 2 else 2 * pd n (S / 2) i
theorem pcn_h (S : Nat) : ∀ k, pcn allP S (k + 1) = pcn allP (S / 2) k + (if S % 2 = 1 then 1 else 0)
  | 0 => by
    show 0 + (if (true && S.testBit 0) = true then 1 else 0) = 0 + _
    rw [Nat.testBit_zero, Bool.true_and]
    by_cases h : S % 2 = 1
    · rw [decide_eq_true h, if_pos rfl, if_pos h]
    · rw [decide_eq_false h, if_neg (by decide), if_neg h]
  | k + 1 => by
    rw [pcn_s allP S (k + 1), pcn_s allP (S / 2) k, pcn_h S k, Nat.testBit_succ]
    show _ + (if (true && _) = true then 1 else 0) = _ + (if (true && _) = true then 1 else 0) + _
    omega
theorem pd_tb : ∀ n S i k, (pd n S i).testBit k = (decide (k < n) && (S.testBit k && i.testBit (pcn allP S k)))
  | 0, S, i, k => by
    show (0 : Nat).testBit k = _
    rw [Nat.zero_testBit]
    rfl
  | n + 1, S, i, 0 => by
    show (if S % 2 = 1 then 2 * pd n (S / 2) (i / 2) + i % 2 else 2 * pd n (S / 2) i).testBit 0 = (true && (S.testBit 0 && i.testBit 0))
    rw [Nat.testBit_zero, Nat.testBit_zero, Nat.testBit_zero, Bool.true_and]
    by_cases h : S % 2 = 1
    · rw [if_pos h, decide_eq_true h, Bool.true_and]
      exact dec_e (by omega)
    · rw [if_neg h, decide_eq_false h, Bool.false_and]
      exact decide_eq_false (by omega)
  | n + 1, S, i, k + 1 => by
    show (if S % 2 = 1 then 2 * pd n (S / 2) (i / 2) + i % 2 else 2 * pd n (S / 2) i).testBit (k + 1) = _
    rw [Nat.testBit_succ, Nat.testBit_succ, pcn_h, show decide (k + 1 < n + 1) = decide (k < n) from dec_e (by omega)]
    by_cases h : S % 2 = 1
    · rw [if_pos h, if_pos h, show (2 * pd n (S / 2) (i / 2) + i % 2) / 2 = pd n (S / 2) (i / 2) from by omega, pd_tb n, Nat.testBit_div_two, Nat.testBit_div_two]
    · rw [if_neg h, if_neg h, show 2 * pd n (S / 2) i / 2 = pd n (S / 2) i from by omega, pd_tb n]
      rfl
theorem pd_id : ∀ n m S i, S < 2 ^ n → n ≤ m → (2 ^ m + pd n S i - S - 1) &&& S = pd n S i
  | 0, m, S, i, hS, _ => by
    obtain rfl : S = 0 := by
      rw [Nat.pow_zero] at hS
      omega
    exact Nat.and_zero _
  | n + 1, m, S, i, hS, hm => by
    obtain ⟨m, rfl⟩ : ∃ k, m = k + 1 := ⟨m - 1, by omega⟩
    rw [Nat.pow_succ] at hS
    have h2 : S / 2 < 2 ^ n := by omega
    have hle : 2 ^ n ≤ 2 ^ m := Nat.pow_le_pow_right (by decide) (by omega)
    by_cases h : S % 2 = 1
    · have ih := pd_id n m (S / 2) (i / 2) h2 (by omega)
      have e : pd (n + 1) S i = 2 * pd n (S / 2) (i / 2) + i % 2 := if_pos h
      rw [e]
      have e1 : 2 ^ (m + 1) + (2 * pd n (S / 2) (i / 2) + i % 2) - S - 1 = 2 * (2 ^ m + pd n (S / 2) (i / 2) - S / 2 - 1) + i % 2 := by
        rw [Nat.pow_succ]
        omega
      have e2 : S = 2 * (S / 2) + 1 := by omega
      rw [e1]
      conv => lhs; rhs; rw [e2]
      rw [and2 (by omega) (by decide), ih]
      have hb : i % 2 < 2 := Nat.mod_lt _ (by decide)
      rcases (show i % 2 = 0 ∨ i % 2 = 1 by omega) with z | z <;> rw [z] <;> rfl
    · have ih := pd_id n m (S / 2) i h2 (by omega)
      have e : pd (n + 1) S i = 2 * pd n (S / 2) i := if_neg h
      rw [e]
      have e1 : 2 ^ (m + 1) + 2 * pd n (S / 2) i - S - 1 = 2 * (2 ^ m + pd n (S / 2) i - S / 2 - 1) + 1 := by
        rw [Nat.pow_succ]
        omega
      have e2 : S = 2 * (S / 2) + 0 := by omega
      rw [e1]
      conv => lhs; rhs; rw [e2]
      rw [and2 (by decide) (by decide), ih]
      rfl
theorem pd_nx : ∀ n m S i, S < 2 ^ n → n ≤ m → (2 ^ m + pd n S i - S) &&& S = pd n S (i + 1)
  | 0, m, S, i, hS, _ => by
    obtain rfl : S = 0 := by
      rw [Nat.pow_zero] at hS
      omega
    exact Nat.and_zero _
  | n + 1, m, S, i, hS, hm => by
    obtain ⟨m, rfl⟩ : ∃ k, m = k + 1 := ⟨m - 1, by omega⟩
    rw [Nat.pow_succ] at hS
    have h2 : S / 2 < 2 ^ n := by omega
    have hle : 2 ^ n ≤ 2 ^ m := Nat.pow_le_pow_right (by decide) (by omega)
    by_cases h : S % 2 = 1
    · have e : pd (n + 1) S i = 2 * pd n (S / 2) (i / 2) + i % 2 := if_pos h
      have e' : pd (n + 1) S (i + 1) = 2 * pd n (S / 2) ((i + 1) / 2) + (i + 1) % 2 := if_pos h
      have e2 : S = 2 * (S / 2) + 1 := by omega
      rw [e, e']
      by_cases z : i % 2 = 0
      · have ih := pd_id n m (S / 2) (i / 2) h2 (by omega)
        have e1 : 2 ^ (m + 1) + (2 * pd n (S / 2) (i / 2) + i % 2) - S = 2 * (2 ^ m + pd n (S / 2) (i / 2) - S / 2 - 1) + 1 := by
          rw [Nat.pow_succ]
          omega
        rw [e1]
        conv => lhs; rhs; rw [e2]
        rw [and2 (by decide) (by decide), ih, show (i + 1) / 2 = i / 2 from by omega, show (i + 1) % 2 = 1 from by omega]
        rfl
      · have ih := pd_nx n m (S / 2) (i / 2) h2 (by omega)
        have e1 : 2 ^ (m + 1) + (2 * pd n (S / 2) (i / 2) + i % 2) - S = 2 * (2 ^ m + pd n (S / 2) (i / 2) - S / 2) + 0 := by
          rw [Nat.pow_succ]
          omega
        rw [e1]
        conv => lhs; rhs; rw [e2]
        rw [and2 (by decide) (by decide), ih, show (i + 1) / 2 = i / 2 + 1 from by omega, show (i + 1) % 2 = 0 from by omega]
        rfl
    · have e : pd (n + 1) S i = 2 * pd n (S / 2) i := if_neg h
      have e' : pd (n + 1) S (i + 1) = 2 * pd n (S / 2) (i + 1) := if_neg h
      have e2 : S = 2 * (S / 2) + 0 := by omega
      have ih := pd_nx n m (S / 2) i h2 (by omega)
      have e1 : 2 ^ (m + 1) + 2 * pd n (S / 2) i - S = 2 * (2 ^ m + pd n (S / 2) i - S / 2) + 0 := by
        rw [Nat.pow_succ]
        omega
      rw [e, e', e1]
      conv => lhs; rhs; rw [e2]
      rw [and2 (by decide) (by decide), ih]
      rfl
theorem pd_0 : ∀ n S, pd n S 0 = 0
  | 0, _ => rfl
  | n + 1, S => by
    show (if S % 2 = 1 then 2 * pd n (S / 2) (0 / 2) + 0 % 2 else 2 * pd n (S / 2) 0) = 0
    rw [show 0 / 2 = 0 from rfl, pd_0 n]
    split <;> rfl
theorem pd_lt {S i : Nat} : pd 20 S i < 2 ^ 20 := by
  apply Nat.lt_pow_two_of_testBit
  intro k hk
  rw [pd_tb, decide_eq_false (by omega)]
  rfl
theorem nI_subw {b S : Nat} (hS : S ≤ 2 ^ 32) : nI b - nI S = nI (2 ^ 32 + b - S) := by
  apply Int32.toBitVec_inj.mp
  apply BitVec.eq_of_toNat_eq
  rw [Int32.toBitVec_sub, BitVec.toNat_sub, nb_I, nb_I, nb_I, BitVec.toNat_ofNat, BitVec.toNat_ofNat, BitVec.toNat_ofNat]
  omega
theorem pd_I {S i : Nat} (hS : S < 2 ^ 20) : (nI (pd 20 S i) - nI S) &&& nI S = nI (pd 20 S (i + 1)) := by
  rw [nI_subw (by omega), nI_and, pd_nx 20 32 S i hS (by decide)]
section LY
variable {μ : Sx} {w h : Nat}
theorem ly_1 (hr : MIr μ) (hw : w ≤ 5) (hh : h ≤ 4) {x y : Nat} (hx : x < 5) : decide (lyC μ w h 0 (5 * y + x) = 1) = (decide (x < w ∧ y < h) && lyZ μ y x) := by
  unfold lyC
  rw [show (5 * y + x) % 5 = x from by omega, show (5 * y + x) / 5 = y from by omega]
  by_cases z : x < w ∧ y < h
  · rw [if_pos z, decide_eq_true z, Bool.true_and]
    rcases hf : fcA μ (10 * x + y) with _ | g
    · rw [lyV_n hf, Nat.zero_shiftRight, show lyZ μ y x = true from by show (fcA μ (10 * x + y)).isNone = true; rw [hf]; rfl]
      rfl
    · rw [lyV_s hf, show lyZ μ y x = false from by show (fcA μ (10 * x + y)).isNone = false; rw [hf]; rfl]
      exact decide_eq_false (by omega)
  · rw [if_neg z, decide_eq_false z]
    rfl
theorem ly_row (hr : MIr μ) (hw : w ≤ 5) (hh : h ≤ 4) {y : Nat} (hy : y < h) : ∀ x, x ≤ 5 → pcn allP (opB (lyC μ w h 0)) (5 * y + x) = pcn allP (opB (lyC μ w h 0)) (5 * y) + fc1 (lyZ μ) y (if x < w then x else w)
  | 0, _ => by
    by_cases z : 0 < w
    · rw [if_pos z]; rfl
    · rw [if_neg z, show w = 0 from by omega]; rfl
  | x + 1, hx => by
    have ih := ly_row hr hw hh hy x (by omega)
    show pcn allP _ (5 * y + x + 1) = _
    rw [pcn_s, ih, bo_tb, decide_eq_true (show 5 * y + x < 20 by omega), Bool.true_and, ly_1 hr hw hh (by omega)]
    show _ + (if (true && _) = true then 1 else 0) = _
    rw [Bool.true_and]
    by_cases z : x < w
    · rw [if_pos z, decide_eq_true (show x < w ∧ y < h from ⟨z, hy⟩), Bool.true_and]
      have e : fc1 (lyZ μ) y (x + 1) = fc1 (lyZ μ) y x + (if lyZ μ y x then 1 else 0) := rfl
      by_cases y1 : x + 1 < w
      · rw [if_pos y1, e, Nat.add_assoc]
      · rw [if_neg y1, show w = x + 1 from by omega, e, Nat.add_assoc]
    · rw [if_neg z, if_neg (show ¬ x + 1 < w by omega), decide_eq_false (show ¬ (x < w ∧ y < h) by omega), Bool.false_and, if_neg (by decide)]
      rfl
theorem ly_col (hr : MIr μ) (hw : w ≤ 5) (hh : h ≤ 4) : ∀ y, y ≤ h → pcn allP (opB (lyC μ w h 0)) (5 * y) = fcN (fun _ => w) (lyZ μ) y
  | 0, _ => rfl
  | y + 1, hy => by
    have a := ly_row hr hw hh (show y < h by omega) 5 (Nat.le_refl 5)
    rw [if_neg (by omega), ly_col hr hw hh y (by omega)] at a
    show pcn allP _ (5 * y + 5) = _
    rw [a]
    rfl
theorem ly_rk (hr : MIr μ) (hw : w ≤ 5) (hh : h ≤ 4) {x y : Nat} (hx : x < w) (hy : y < h) : pcn allP (opB (lyC μ w h 0)) (5 * y + x) = fcN (fun _ => w) (lyZ μ) y + fc1 (lyZ μ) y x := by
  rw [ly_row hr hw hh hy x (by omega), if_pos hx, ly_col hr hw hh y (by omega)]
theorem wi_ly (hr : MIr μ) (hw : w ≤ 5) (hh : h ≤ 4) (i : Nat) : ∀ k, k < 20 → wiC (pd 20 (opB (lyC μ w h 0)) i) (lyC μ w h 0) k = lyC μ w h i k := by
  intro k hk
  unfold wiC
  rw [pd_tb, bo_tb, decide_eq_true hk, Bool.true_and, Bool.true_and]
  have e5 : 5 * (k / 5) + k % 5 = k := by omega
  have h1 := ly_1 (x := k % 5) (y := k / 5) hr hw hh (by omega)
  rw [e5] at h1
  by_cases z : k % 5 < w ∧ k / 5 < h
  · rw [h1, decide_eq_true z, Bool.true_and]
    have hrk := ly_rk hr hw hh z.1 z.2
    rw [e5] at hrk
    rw [hrk]
    have c0 : lyC μ w h 0 k = lyV μ w 0 (k / 5) (k % 5) := if_pos z
    have ci : lyC μ w h i k = lyV μ w i (k / 5) (k % 5) := if_pos z
    rw [c0, ci]
    rcases hf : fcA μ (10 * (k % 5) + k / 5) with _ | g
    · rw [lyV_n hf, lyV_n hf, Nat.zero_shiftRight, show lyZ μ (k / 5) (k % 5) = true from by show (fcA μ (10 * (k % 5) + k / 5)).isNone = true; rw [hf]; rfl, Bool.true_and]
      by_cases y : i >>> (fcN (fun _ => w) (lyZ μ) (k / 5) + fc1 (lyZ μ) (k / 5) (k % 5)) &&& 1 = 1
      · rw [if_pos (bit1.mp y), if_pos y]
      · rw [if_neg (mt bit1.mpr y), if_neg y]
        rfl
    · rw [lyV_s hf, lyV_s hf, show lyZ μ (k / 5) (k % 5) = false from by show (fcA μ (10 * (k % 5) + k / 5)).isNone = false; rw [hf]; rfl, Bool.false_and]
      rfl
  · rw [lyC_0 _ _ _ _ _ z, lyC_0 _ _ _ _ _ z]
    split <;> rfl
theorem op_ly (hr : MIr μ) (hw : w ≤ 5) (hh : h ≤ 4) (i : Nat) : andn (opB (lyC μ w h 0)) (pd 20 (opB (lyC μ w h 0)) i) = opB (lyC μ w h i) := by
  apply Nat.eq_of_testBit_eq
  intro k
  rw [andn_tb, bo_tb, bo_tb]
  by_cases hk : k < 20
  · rw [decide_eq_true hk, Bool.true_and, Bool.true_and, ← wi_ly hr hw hh i k hk]
    unfold wiC
    cases hp : (pd 20 (opB (lyC μ w h 0)) i).testBit k
    · rw [if_neg (by decide), Bool.not_false, Bool.and_true]
    · rw [if_pos rfl, Bool.not_true, Bool.and_false]
      rfl
  · rw [decide_eq_false hk]
    rfl
theorem pd_o (k i : Nat) (hk : k < 20) (hp : (pd 20 (opB (lyC μ w h 0)) i).testBit k = true) : lyC μ w h 0 k = 1 := by
  rw [pd_tb, bo_tb] at hp
  simp only [Bool.and_eq_true, decide_eq_true_eq] at hp
  exact hp.2.1.2
theorem ly_f (hr : MIr μ) (hw : w ≤ 5) (hh : h ≤ 4) {i k : Nat} (hk : k < 20) (q : 10 ≤ lyC μ w h 0 k ∨ 10 ≤ lyC μ w h i k) : lyC μ w h i k = lyC μ w h 0 k := by
  rw [← wi_ly hr hw hh i k hk] at q ⊢
  unfold wiC at q ⊢
  by_cases y : (pd 20 (opB (lyC μ w h 0)) i).testBit k = true
  · have := pd_o k i hk y
    rw [if_pos y] at q
    omega
  · exact if_neg y
theorem opn_c {c d : Nat → Nat} : ∀ n, (∀ k, k < n → (c k = 0 ↔ d k = 0)) → opn c n = opn d n
  | 0, _ => rfl
  | n + 1, e => by
    show opn c n + (if c n = 0 then 0 else 1) = opn d n + (if d n = 0 then 0 else 1)
    rw [opn_c n (fun k hk => e k (by omega))]
    by_cases z : c n = 0
    · rw [if_pos z, if_pos ((e n (by omega)).mp z)]
    · rw [if_neg z, if_neg (fun y => z ((e n (by omega)).mpr y))]
theorem opn_wh : ∀ w, w < 6 → ∀ h, h < 5 → opn (fun k => if k % 5 < w ∧ k / 5 < h then 1 else 0) 20 = w * h := by decide +kernel
theorem ly_pc (hr : MIr μ) (q : rowP μ w h) (hw : w ≤ 5) (hh : h ≤ 4) : pc20 (opB (lyC μ w h 0)) = w * h - μ.1 20 := by
  have a := pc_op (BS_ly (bl := 0) hr q hw hh)
  have e : opn (lyC μ w h 0) 20 = w * h := by
    rw [← opn_wh w (by omega) h (by omega)]
    refine opn_c 20 (fun k hk => ?_)
    unfold lyC
    by_cases z : k % 5 < w ∧ k / 5 < h
    · rw [if_pos z, if_pos z]
      rcases hf : fcA μ (10 * (k % 5) + k / 5) with _ | g
      · rw [lyV_n hf, Nat.zero_shiftRight]
        exact ⟨fun y => absurd y (by decide), fun y => absurd y (by decide)⟩
      · rw [lyV_s hf]
        omega
    · rw [if_neg z, if_neg z]
  omega
end LY

set_option maxHeartbeats 1000000 in
set_option maxRecDepth 100000 in
theorem c_X6_firstThatLets_n (l : Launch) (G : Gt) (a : Nat) (β : Sx) (μ : Sx) (w : Nat) (h : Nat) (vf : Nat) (hr0 : MIr μ) (hq : rowP μ w h) (hw5 : w ≤ 5) (hh4 : h ≤ 4) (hwh : w * h ≤ 9) (hBG : BG w h (μ.1 20) (lyC μ w h 0) β) (hfd0 : fiD μ w h vf = none) : Cr l G yX6_firstThatLets cX6_firstThatLets 7 ((some (.object "PuzzleParts$Board"))) 15 [.ref a, .long (lN (bo (trB μ vf) (1 <<< μ.1 20)))] (fun H => bk G a (bdL G a β) H) (some (.null)) := by
  refine cr_entry [(0, .ref a), (1, .long (lN (bo (trB μ vf) (1 <<< μ.1 20))))] (by decide) (Nat.le_of_ble_eq_true rfl) rfl ?_
  intro zp ze zs zm za zb zt zc Q S hK hPre hE ls hl
  have hx := S.1
  have hb := S.2.1
  have hB := hPre
  obtain ⟨hg0, hg1, hg2, hg3, hg4, hgF⟩ := id hBG
  have hBS := BS_ly (bl := 0) hr0 hq hw5 hh4
  have hpc := ly_pc hr0 hq hw5 hh4
  have hS20 : opB (lyC μ w h 0) < 2 ^ 20 := bo_lt _ _
  have h3 := hr0.1
  have hNN : 1 <<< (w * h - μ.1 20) ≤ 2 ^ 9 := shl_le (by omega)
  refine lv_aload_n hx hb dX6_firstThatLets_0 rfl (lv_at hl 0 rfl) ?_
  refine kg (C := RX0) (T := TX0) (N := 9) (ci := 0) (k := 3) (v := .int (nI (β.1 3))) S hK rfl inX0 (by decide) q_200 dX6_firstThatLets_1 hB rfl rfl ?_
  refine w_top (v' := .int (nI (opB (lyC μ w h 0)))) (congrArg (fun z => Value.int (nI z)) hg3) ?_
  refine lv_istore_n (lv' := [(3, .int (nI (opB (lyC μ w h 0)))), (0, .ref a), (1, .long (lN (bo (trB μ vf) (1 <<< μ.1 20))))]) hx hb dX6_firstThatLets_4 rfl hl (by decide) rfl (fun ls hl => ?_)
  refine lv_iconst (v := nI 0) hx hb dX6_firstThatLets_5 (by decide) ?_
  refine lv_istore (lv' := [(4, .int (nI 0)), (3, .int (nI (opB (lyC μ w h 0)))), (0, .ref a), (1, .long (lN (bo (trB μ vf) (1 <<< μ.1 20))))]) hx hb dX6_firstThatLets_6 hl (by decide) rfl (fun ls hl => ?_)
  refine lv_iconst (v := nI 1) hx hb dX6_firstThatLets_8 (by decide) ?_
  refine lv_iload_n hx hb dX6_firstThatLets_9 rfl (lv_at hl 1 rfl) ?_
  refine crS (rest := [.int (nI 1)]) S hK (c_J6_bitCount_0f7a4 l G (opB (lyC μ w h 0)) hS20) cw_X6_83 rfl ⟨Nat.le_of_ble_eq_true rfl, Nat.le_of_ble_eq_true rfl⟩ ⟨Nat.le_of_ble_eq_true rfl, Nat.le_of_ble_eq_true rfl⟩ hl.1 rfl (Nat.le_of_ble_eq_true rfl) dX6_firstThatLets_10 trivial ?_
  refine n_ishl hx hb dX6_firstThatLets_13 (by omega) ?_
  refine lv_istore (lv' := [(5, .int (nI (1 <<< (pc20 (opB (lyC μ w h 0)))))), (4, .int (nI 0)), (3, .int (nI (opB (lyC μ w h 0)))), (0, .ref a), (1, .long (lN (bo (trB μ vf) (1 <<< μ.1 20))))]) hx hb dX6_firstThatLets_14 hl (by decide) rfl (fun ls hl => ?_)
  refine lv_iconst (v := nI 0) hx hb dX6_firstThatLets_16 (by decide) ?_
  refine lv_istore (lv' := [(6, .int (nI 0)), (5, .int (nI (1 <<< (pc20 (opB (lyC μ w h 0)))))), (4, .int (nI 0)), (3, .int (nI (opB (lyC μ w h 0)))), (0, .ref a), (1, .long (lN (bo (trB μ vf) (1 <<< μ.1 20))))]) hx hb dX6_firstThatLets_17 hl (by decide) rfl (fun ls hl => ?_)
  have L19 : ∀ (fu : Nat), ∀ (vi : Nat), (vi ≤ 1 <<< (w * h - μ.1 20)) → (fiD μ w h vf = fnd (fiB μ w h vf) (1 <<< (w * h - μ.1 20) - vi) vi) → 1 <<< (w * h - μ.1 20) - vi < fu → ∀ ls : Array Slot, lv_has ls 7 [(0, .ref a), (1, .long (lN (bo (trB μ vf) (1 <<< μ.1 20)))), (3, .int (nI (opB (lyC μ w h 0)))), (4, .int (nI (pd 20 (opB (lyC μ w h 0)) vi))), (5, .int (nI (1 <<< (w * h - μ.1 20)))), (6, .int (nI vi))] → W zp l ze (rL 15 0 0) zs zm za zb zt zc zs.heap [] 0 0 Q (F0 zm 19 ls []) := by
    intro fu
    induction fu with
    | zero =>
      intro vi hvi hfd hmu ls hl
      exact absurd hmu (Nat.not_lt_zero _)
    | succ fu ih19 =>
      intro vi hvi hfd hmu ls hl
      refine lv_iload hx hb dX6_firstThatLets_19 (lv_at hl 5 rfl) ?_
      refine lv_iload hx hb dX6_firstThatLets_21 (lv_at hl 4 rfl) ?_
      refine n_icmp_ge (tgt := 62) hx hb dX6_firstThatLets_23 (by decide) (by first | omega | exact bo63 (Nat.le_trans (shl_le (n := 5) (by omega)) (by decide))) (by first | omega | exact bo63 (Nat.le_trans (shl_le (n := 5) (by omega)) (by decide))) (fun c_23 => ?_) (fun c_23 => ?_)
      ·
        refine lv_null hx hb dX6_firstThatLets_62 ?_
        exact hE _ _ (kr_n dX6_firstThatLets_63)
      ·
        refine lv_aload_n hx hb dX6_firstThatLets_26 rfl (lv_at hl 0 rfl) ?_
        refine lv_iload_n hx hb dX6_firstThatLets_27 rfl (lv_at hl 2 rfl) ?_
        refine lv_iload hx hb dX6_firstThatLets_28 (lv_at hl 3 rfl) ?_
        refine lv_iconst (v := (-1)) hx hb dX6_firstThatLets_30 (by decide) ?_
        refine lv_ixor hx hb dX6_firstThatLets_31 ?_
        refine n_iandn hx hb dX6_firstThatLets_32 ?_
        refine w_top (v' := .int (nI (opB (lyC μ w h vi)))) (congrArg (fun z => Value.int (nI z)) (op_ly hr0 hw5 hh4 vi)) ?_
        refine crV (rest := []) S hK (c_X0_letWith l G a β (lyC μ w h vi) (opB (lyC μ w h vi)) (by omega) (by rw [hg4]; exact FG_congr (fun k hk8 z => ly_f hr0 hw5 hh4 hk8 z) hgF) rfl) cw_X6_266 rfl ⟨Nat.le_of_ble_eq_true rfl, Nat.le_of_ble_eq_true rfl⟩ ⟨Nat.le_of_ble_eq_true rfl, Nat.le_of_ble_eq_true rfl⟩ (bk.recv hK hB rfl rfl) hl.1 rfl (Nat.le_of_ble_eq_true rfl) dX6_firstThatLets_33 hB ?_
        refine w_top (v' := .long (lN (ltM (lyC μ w h vi) (μ.1 20)))) (congrArg (fun z => Value.long (lN z)) (by rw [hg4])) ?_
        refine lv_lload_n hx hb dX6_firstThatLets_36 rfl (lv_at hl 1 rfl) ?_
        refine W.lcmp hx hb dX6_firstThatLets_37 ?_
        refine nl_if_ne (tgt := 48) hx hb dX6_firstThatLets_38 (by decide) (by first | omega | exact bo63 (Nat.le_trans (shl_le (n := 5) (by omega)) (by decide))) (by first | omega | exact bo63 (Nat.le_trans (shl_le (n := 5) (by omega)) (by decide))) (fun c_38 => ?_) (fun c_38 => ?_)
        ·
          refine lv_iload hx hb dX6_firstThatLets_48 (lv_at hl 3 rfl) ?_
          refine lv_iload_n hx hb dX6_firstThatLets_50 rfl (lv_at hl 2 rfl) ?_
          refine lv_isub hx hb dX6_firstThatLets_51 ?_
          refine lv_iload_n hx hb dX6_firstThatLets_52 rfl (lv_at hl 2 rfl) ?_
          refine lv_iand hx hb dX6_firstThatLets_53 ?_
          refine w_top (v' := .int (nI (pd 20 (opB (lyC μ w h 0)) (vi + 1)))) (congrArg (fun z => Value.int z) (pd_I hS20)) ?_
          refine lv_istore (lv' := [(4, .int (nI (pd 20 (opB (lyC μ w h 0)) (vi + 1)))), (0, .ref a), (1, .long (lN (bo (trB μ vf) (1 <<< μ.1 20)))), (3, .int (nI (opB (lyC μ w h 0)))), (5, .int (nI (1 <<< (w * h - μ.1 20)))), (6, .int (nI vi))]) hx hb dX6_firstThatLets_54 hl (by decide) rfl (fun ls hl => ?_)
          refine lv_iinc (v := (nI (vi + 1))) (lv' := [(6, .int (nI (vi + 1))), (4, .int (nI (pd 20 (opB (lyC μ w h 0)) (vi + 1)))), (0, .ref a), (1, .long (lN (bo (trB μ vf) (1 <<< μ.1 20)))), (3, .int (nI (opB (lyC μ w h 0)))), (5, .int (nI (1 <<< (w * h - μ.1 20))))]) hx hb dX6_firstThatLets_56 hl (k := 5) rfl (inc1 _) (by decide) rfl (fun ls hl => ?_)
          refine lv_goto (tgt := 19) hx hb dX6_firstThatLets_59 (by decide) ?_
          exact ih19 (vi + 1) (by omega) (hfd.trans (by rw [show 1 <<< (w * h - μ.1 20) - vi = (1 <<< (w * h - μ.1 20) - (vi + 1)) + 1 from by omega]; exact fnd_f (P := fiB μ w h vf) (decide_eq_false c_38))) (by omega) ls (lv_sub hl [2, 3, 4, 1, 5, 0] rfl)
        ·
          have hfs : fiD μ w h vf = some vi := hfd.trans (by rw [show 1 <<< (w * h - μ.1 20) - vi = (1 <<< (w * h - μ.1 20) - (vi + 1)) + 1 from by omega]; exact fnd_t (P := fiB μ w h vf) (decide_eq_true c_38))
          exact absurd (hfs.symm.trans hfd0) (by intro z; cases z)
  replace hl := lv_eq 2 hl rfl (v2 := .int (nI (pd 20 (opB (lyC μ w h 0)) 0))) (congrArg (fun z => Value.int (nI z)) (show 0 = (pd 20 (opB (lyC μ w h 0)) 0) from (pd_0 20 _).symm))
  replace hl := lv_eq 1 hl rfl (v2 := .int (nI (1 <<< (w * h - μ.1 20)))) (congrArg (fun z => Value.int (nI z)) (show (1 <<< (pc20 (opB (lyC μ w h 0)))) = (1 <<< (w * h - μ.1 20)) from by rw [hpc]))
  exact L19 ((1 <<< (w * h - μ.1 20) - 0) + 1) 0 (Nat.zero_le _) rfl (Nat.lt_succ_self _) ls (lv_sub hl [4, 5, 3, 2, 1, 0] rfl)

set_option maxHeartbeats 1000000 in
set_option maxRecDepth 100000 in
theorem c_X6_firstThatLets_s (l : Launch) (G : Gt) (nb : Nat) (a : Nat) (β : Sx) (μ : Sx) (w : Nat) (h : Nat) (vf : Nat) (b : Nat) (hr0 : MIr μ) (hq : rowP μ w h) (hw5 : w ≤ 5) (hh4 : h ≤ 4) (hwh : w * h ≤ 9) (hBG : BG w h (μ.1 20) (lyC μ w h 0) β) (hfd0 : fiD μ w h vf = some b) : Ct l G yX6_firstThatLets cX6_firstThatLets 7 ((some (.object "PuzzleParts$Board"))) 15 4 66 [.ref a, .long (lN (bo (trB μ vf) (1 <<< μ.1 20)))] (fun H => bk G a (bdL G a β) H ∧ H.size = nb) (some (.ref nb)) (fun H => bk G a (bdL G a β) H ∧ ∃ τ : Sx, bk G nb (bdL G nb τ) H ∧ PD w h (lyC μ w h b) τ) (fun q => nb ≤ q) := by
  refine ct_entry [(0, .ref a), (1, .long (lN (bo (trB μ vf) (1 <<< μ.1 20))))] (by decide) (Nat.le_of_ble_eq_true rfl) rfl ?_
  intro zp ze zs zm za zb zt zc Q S hK hPre hin hE ls hl
  have hx := S.1
  have hb := S.2.1
  obtain ⟨hB, hz⟩ := hPre
  have hS : va_S (fun q => nb ≤ q) zs.heap zs.heap [] := va_S.rf
  obtain ⟨hg0, hg1, hg2, hg3, hg4, hgF⟩ := id hBG
  have hBS := BS_ly (bl := 0) hr0 hq hw5 hh4
  have hpc := ly_pc hr0 hq hw5 hh4
  have hS20 : opB (lyC μ w h 0) < 2 ^ 20 := bo_lt _ _
  have h3 := hr0.1
  have hNN : 1 <<< (w * h - μ.1 20) ≤ 2 ^ 9 := shl_le (by omega)
  refine lv_aload_n hx hb dX6_firstThatLets_0 rfl (lv_at hl 0 rfl) ?_
  refine kg (C := RX0) (T := TX0) (N := 9) (ci := 0) (k := 3) (v := .int (nI (β.1 3))) S hK rfl inX0 (by decide) q_200 dX6_firstThatLets_1 hB rfl rfl ?_
  refine w_top (v' := .int (nI (opB (lyC μ w h 0)))) (congrArg (fun z => Value.int (nI z)) hg3) ?_
  refine lv_istore_n (lv' := [(3, .int (nI (opB (lyC μ w h 0)))), (0, .ref a), (1, .long (lN (bo (trB μ vf) (1 <<< μ.1 20))))]) hx hb dX6_firstThatLets_4 rfl hl (by decide) rfl (fun ls hl => ?_)
  refine lv_iconst (v := nI 0) hx hb dX6_firstThatLets_5 (by decide) ?_
  refine lv_istore (lv' := [(4, .int (nI 0)), (3, .int (nI (opB (lyC μ w h 0)))), (0, .ref a), (1, .long (lN (bo (trB μ vf) (1 <<< μ.1 20))))]) hx hb dX6_firstThatLets_6 hl (by decide) rfl (fun ls hl => ?_)
  refine lv_iconst (v := nI 1) hx hb dX6_firstThatLets_8 (by decide) ?_
  refine lv_iload_n hx hb dX6_firstThatLets_9 rfl (lv_at hl 1 rfl) ?_
  refine crS (rest := [.int (nI 1)]) S hK (c_J6_bitCount_0f7a4 l G (opB (lyC μ w h 0)) hS20) cw_X6_83 rfl ⟨Nat.le_of_ble_eq_true rfl, Nat.le_of_ble_eq_true rfl⟩ ⟨Nat.le_of_ble_eq_true rfl, Nat.le_of_ble_eq_true rfl⟩ hl.1 rfl (Nat.le_of_ble_eq_true rfl) dX6_firstThatLets_10 trivial ?_
  refine n_ishl hx hb dX6_firstThatLets_13 (by omega) ?_
  refine lv_istore (lv' := [(5, .int (nI (1 <<< (pc20 (opB (lyC μ w h 0)))))), (4, .int (nI 0)), (3, .int (nI (opB (lyC μ w h 0)))), (0, .ref a), (1, .long (lN (bo (trB μ vf) (1 <<< μ.1 20))))]) hx hb dX6_firstThatLets_14 hl (by decide) rfl (fun ls hl => ?_)
  refine lv_iconst (v := nI 0) hx hb dX6_firstThatLets_16 (by decide) ?_
  refine lv_istore (lv' := [(6, .int (nI 0)), (5, .int (nI (1 <<< (pc20 (opB (lyC μ w h 0)))))), (4, .int (nI 0)), (3, .int (nI (opB (lyC μ w h 0)))), (0, .ref a), (1, .long (lN (bo (trB μ vf) (1 <<< μ.1 20))))]) hx hb dX6_firstThatLets_17 hl (by decide) rfl (fun ls hl => ?_)
  have L19 : ∀ (fu : Nat), ∀ (vi : Nat), (vi ≤ 1 <<< (w * h - μ.1 20)) → (fiD μ w h vf = fnd (fiB μ w h vf) (1 <<< (w * h - μ.1 20) - vi) vi) → 1 <<< (w * h - μ.1 20) - vi < fu → ∀ (H : Heap) (locs : List Loc), bk G a (bdL G a β) H → va_S (fun q => nb ≤ q) zs.heap H locs → H.size = nb → ∀ ls : Array Slot, lv_has ls 7 [(0, .ref a), (1, .long (lN (bo (trB μ vf) (1 <<< μ.1 20)))), (3, .int (nI (opB (lyC μ w h 0)))), (4, .int (nI (pd 20 (opB (lyC μ w h 0)) vi))), (5, .int (nI (1 <<< (w * h - μ.1 20)))), (6, .int (nI vi))] → W zp l ze (rL 15 4 66) zs zm za zb zt zc H locs 0 0 Q (F0 zm 19 ls []) := by
    intro fu
    induction fu with
    | zero =>
      intro vi hvi hfd hmu H locs hB hS hz ls hl
      exact absurd hmu (Nat.not_lt_zero _)
    | succ fu ih19 =>
      intro vi hvi hfd hmu H locs hB hS hz ls hl
      refine lv_iload hx hb dX6_firstThatLets_19 (lv_at hl 5 rfl) ?_
      refine lv_iload hx hb dX6_firstThatLets_21 (lv_at hl 4 rfl) ?_
      refine n_icmp_ge (tgt := 62) hx hb dX6_firstThatLets_23 (by decide) (by first | omega | exact bo63 (Nat.le_trans (shl_le (n := 5) (by omega)) (by decide))) (by first | omega | exact bo63 (Nat.le_trans (shl_le (n := 5) (by omega)) (by decide))) (fun c_23 => ?_) (fun c_23 => ?_)
      ·
        exact absurd (hfd0.symm.trans (hfd.trans (by rw [show 1 <<< (w * h - μ.1 20) - vi = 0 from by omega] <;> rfl))) (by intro z; cases z)
      ·
        refine lv_aload_n hx hb dX6_firstThatLets_26 rfl (lv_at hl 0 rfl) ?_
        refine lv_iload_n hx hb dX6_firstThatLets_27 rfl (lv_at hl 2 rfl) ?_
        refine lv_iload hx hb dX6_firstThatLets_28 (lv_at hl 3 rfl) ?_
        refine lv_iconst (v := (-1)) hx hb dX6_firstThatLets_30 (by decide) ?_
        refine lv_ixor hx hb dX6_firstThatLets_31 ?_
        refine n_iandn hx hb dX6_firstThatLets_32 ?_
        refine w_top (v' := .int (nI (opB (lyC μ w h vi)))) (congrArg (fun z => Value.int (nI z)) (op_ly hr0 hw5 hh4 vi)) ?_
        refine crV (rest := []) S hK (c_X0_letWith l G a β (lyC μ w h vi) (opB (lyC μ w h vi)) (by omega) (by rw [hg4]; exact FG_congr (fun k hk8 z => ly_f hr0 hw5 hh4 hk8 z) hgF) rfl) cw_X6_266 rfl ⟨Nat.le_of_ble_eq_true rfl, Nat.le_of_ble_eq_true rfl⟩ ⟨Nat.le_of_ble_eq_true rfl, Nat.le_of_ble_eq_true rfl⟩ (bk.recv hK hB rfl rfl) hl.1 rfl (Nat.le_of_ble_eq_true rfl) dX6_firstThatLets_33 hB ?_
        refine w_top (v' := .long (lN (ltM (lyC μ w h vi) (μ.1 20)))) (congrArg (fun z => Value.long (lN z)) (by rw [hg4])) ?_
        refine lv_lload_n hx hb dX6_firstThatLets_36 rfl (lv_at hl 1 rfl) ?_
        refine W.lcmp hx hb dX6_firstThatLets_37 ?_
        refine nl_if_ne (tgt := 48) hx hb dX6_firstThatLets_38 (by decide) (by first | omega | exact bo63 (Nat.le_trans (shl_le (n := 5) (by omega)) (by decide))) (by first | omega | exact bo63 (Nat.le_trans (shl_le (n := 5) (by omega)) (by decide))) (fun c_38 => ?_) (fun c_38 => ?_)
        ·
          refine lv_iload hx hb dX6_firstThatLets_48 (lv_at hl 3 rfl) ?_
          refine lv_iload_n hx hb dX6_firstThatLets_50 rfl (lv_at hl 2 rfl) ?_
          refine lv_isub hx hb dX6_firstThatLets_51 ?_
          refine lv_iload_n hx hb dX6_firstThatLets_52 rfl (lv_at hl 2 rfl) ?_
          refine lv_iand hx hb dX6_firstThatLets_53 ?_
          refine w_top (v' := .int (nI (pd 20 (opB (lyC μ w h 0)) (vi + 1)))) (congrArg (fun z => Value.int z) (pd_I hS20)) ?_
          refine lv_istore (lv' := [(4, .int (nI (pd 20 (opB (lyC μ w h 0)) (vi + 1)))), (0, .ref a), (1, .long (lN (bo (trB μ vf) (1 <<< μ.1 20)))), (3, .int (nI (opB (lyC μ w h 0)))), (5, .int (nI (1 <<< (w * h - μ.1 20)))), (6, .int (nI vi))]) hx hb dX6_firstThatLets_54 hl (by decide) rfl (fun ls hl => ?_)
          refine lv_iinc (v := (nI (vi + 1))) (lv' := [(6, .int (nI (vi + 1))), (4, .int (nI (pd 20 (opB (lyC μ w h 0)) (vi + 1)))), (0, .ref a), (1, .long (lN (bo (trB μ vf) (1 <<< μ.1 20)))), (3, .int (nI (opB (lyC μ w h 0)))), (5, .int (nI (1 <<< (w * h - μ.1 20))))]) hx hb dX6_firstThatLets_56 hl (k := 5) rfl (inc1 _) (by decide) rfl (fun ls hl => ?_)
          refine lv_goto (tgt := 19) hx hb dX6_firstThatLets_59 (by decide) ?_
          exact ih19 (vi + 1) (by omega) (hfd.trans (by rw [show 1 <<< (w * h - μ.1 20) - vi = (1 <<< (w * h - μ.1 20) - (vi + 1)) + 1 from by omega]; exact fnd_f (P := fiB μ w h vf) (decide_eq_false c_38))) (by omega) _ _ hB hS hz ls (lv_sub hl [2, 3, 4, 1, 5, 0] rfl)
        ·
          have hfs : fiD μ w h vf = some vi := hfd.trans (by rw [show 1 <<< (w * h - μ.1 20) - vi = (1 <<< (w * h - μ.1 20) - (vi + 1)) + 1 from by omega]; exact fnd_t (P := fiB μ w h vf) (decide_eq_true c_38))
          have hvb : vi = b := Option.some.inj (hfs.symm.trans hfd0)
          subst hvb
          refine lv_aload_n hx hb dX6_firstThatLets_41 rfl (lv_at hl 0 rfl) ?_
          refine lv_iload hx hb dX6_firstThatLets_42 (lv_at hl 3 rfl) ?_
          refine ctV (rest := []) S hK (c_X0_without l G nb a β w h (μ.1 20) (lyC μ w h 0) (pd 20 (opB (lyC μ w h 0)) vi) hBS hBG (fun k hk8 z => pd_o k vi hk8 z) pd_lt) cw_X6_153 rfl ⟨Nat.le_of_ble_eq_true rfl, Nat.le_of_ble_eq_true rfl⟩ ⟨Nat.le_of_ble_eq_true rfl, Nat.le_of_ble_eq_true rfl⟩ (bk.recv hK hB rfl rfl) hl.1 rfl (Nat.le_of_ble_eq_true rfl) dX6_firstThatLets_44 ⟨hB, hz⟩ hS (fun _ h => by first | exact h | omega) (fun H locs hPost hz2 hk hS => ?_)
          obtain ⟨hB, hN⟩ := hPost
          obtain ⟨τ, hT, hPD⟩ := hN
          exact hE _ _ _ _ _ _ (kr_a dX6_firstThatLets_47) hS (by decide) (by decide) ⟨hB, τ, hT, PD_congr hPD (wi_ly hr0 hw5 hh4 vi)⟩
  replace hl := lv_eq 2 hl rfl (v2 := .int (nI (pd 20 (opB (lyC μ w h 0)) 0))) (congrArg (fun z => Value.int (nI z)) (show 0 = (pd 20 (opB (lyC μ w h 0)) 0) from (pd_0 20 _).symm))
  replace hl := lv_eq 1 hl rfl (v2 := .int (nI (1 <<< (w * h - μ.1 20)))) (congrArg (fun z => Value.int (nI z)) (show (1 <<< (pc20 (opB (lyC μ w h 0)))) = (1 <<< (w * h - μ.1 20)) from by rw [hpc]))
  exact L19 ((1 <<< (w * h - μ.1 20) - 0) + 1) 0 (Nat.zero_le _) rfl (Nat.lt_succ_self _) _ _ hB hS hz ls (lv_sub hl [4, 5, 3, 2, 1, 0] rfl)
