/-! bits of naturals; the first TILING search as a function -/
theorem tb0 {s k : Nat} : (s >>> k &&& 1 = 0) ↔ s.testBit k = false := by
  rw [Nat.testBit, Nat.and_comm]
  simp
theorem tb1 {s k : Nat} : (¬ (s >>> k &&& 1 = 0)) ↔ s.testBit k = true := by
  rw [tb0]
  simp
theorem tb_lt {s n k : Nat} (hs : s < 2 ^ n) (hk : n ≤ k) : s.testBit k = false := Nat.testBit_lt_two_pow (Nat.lt_of_lt_of_le hs (Nat.pow_le_pow_right (by decide) hk))
theorem tb_in {s n k : Nat} (hs : s < 2 ^ n) (h : s.testBit k = true) : k < n := by
  rcases Nat.lt_or_ge k n with q | q
  · exact q
  · rw [tb_lt hs q] at h
    cases h
theorem andn_tb (s t k : Nat) : (andn s t).testBit k = (s.testBit k && !t.testBit k) := by
  unfold andn
  rw [Nat.testBit_xor, Nat.testBit_and]
  cases s.testBit k <;> cases t.testBit k <;> rfl
theorem andn_le (s t : Nat) : andn s t ≤ s := by
  apply Nat.le_of_testBit
  intro i h
  rw [andn_tb] at h
  simp at h
  exact h.1
theorem andn_lt {s t n : Nat} (h : s < n) : andn s t < n := Nat.lt_of_le_of_lt (andn_le s t) h
def ctz : Nat → Nat → Nat
  | 0, _ => 0
  | n + 1, s => if s % 2 = 1 then 0 else ctz n (s / 2) + 1
def ct (s : Nat) : Nat := ctz 20 s
theorem ctz_spec : ∀ (n s : Nat), 0 < s → s < 2 ^ n → ctz n s < n ∧ s.testBit (ctz n s) = true ∧ ∀ j, j < ctz n s → s.testBit j = false
  | 0, s, h0, h => by simp at h; omega
  | n + 1, s, h0, h => by
    unfold ctz
    by_cases hs : s % 2 = 1
    · rw [if_pos hs]
      refine ⟨by omega, ?_, fun j hj => by omega⟩
      rw [Nat.testBit_zero]
      simp [hs]
    · rw [if_neg hs]
      obtain ⟨h1, h2, h3⟩ := ctz_spec n (s / 2) (by omega) (by rw [Nat.pow_succ] at h; omega)
      refine ⟨by omega, ?_, fun j hj => ?_⟩
      · rw [Nat.testBit_succ]
        exact h2
      · cases j with
        | zero =>
          rw [Nat.testBit_zero]
          simp
          omega
        | succ j =>
          rw [Nat.testBit_succ]
          exact h3 j (by omega)
theorem ct_spec {s : Nat} (h0 : ¬ s = 0) (h : s < 2 ^ 20) : ct s < 20 ∧ s.testBit (ct s) = true ∧ ∀ j, j < ct s → s.testBit j = false := ctz_spec 20 s (by omega) h
theorem ct_eq {s k : Nat} (h : s < 2 ^ 20) (hk : s.testBit k = true) (hl : ∀ j, j < k → s.testBit j = false) : ct s = k := by
  have h0 : ¬ s = 0 := by
    intro e
    rw [e] at hk
    simp at hk
  obtain ⟨h1, h2, h3⟩ := ct_spec h0 h
  rcases Nat.lt_trichotomy (ct s) k with q | q | q
  · rw [hl _ q] at h2
    cases h2
  · exact q
  · rw [h3 _ q] at hk
    cases hk
theorem ct_split {s : Nat} (h0 : ¬ s = 0) (h : s < 2 ^ 20) : ∃ a, s = 2 ^ ct s * (2 * a + 1) := by
  obtain ⟨h1, h2, h3⟩ := ct_spec h0 h
  have hm : s % 2 ^ ct s = 0 := by
    apply Nat.eq_of_testBit_eq
    intro i
    rw [Nat.testBit_mod_two_pow, Nat.zero_testBit]
    by_cases hi : i < ct s
    · rw [h3 i hi]
      simp
    · simp [hi]
  have hd : s = 2 ^ ct s * (s / 2 ^ ct s) := by
    have := Nat.div_add_mod s (2 ^ ct s)
    omega
  have ho : (s / 2 ^ ct s) % 2 = 1 := by
    have e : (s / 2 ^ ct s).testBit 0 = true := by
      rw [Nat.testBit_div_two_pow]
      simpa using h2
    rw [Nat.testBit_zero] at e
    simpa using e
  refine ⟨s / 2 ^ ct s / 2, ?_⟩
  have : 2 * (s / 2 ^ ct s / 2) + 1 = s / 2 ^ ct s := by omega
  rw [this]
  exact hd
theorem low_N {s : Nat} (h0 : ¬ s = 0) (h : s < 2 ^ 20) : s &&& (2 ^ 32 - s) = 1 <<< ct s := by
  obtain ⟨a, ha⟩ := ct_split h0 h
  have hk := (ct_spec h0 h).1
  generalize ct s = k at ha hk ⊢
  have hs1 : s = (s - 1) + 1 := by omega
  have hp := Nat.two_pow_pos k
  have hs2 : s - 1 = 2 ^ k * (2 * a) + (2 ^ k - 1) := by
    rw [ha, Nat.mul_add]
    omega
  apply Nat.eq_of_testBit_eq
  intro i
  rw [Nat.testBit_and, Nat.one_shiftLeft, Nat.testBit_two_pow]
  have e1 : (2 ^ 32 - s).testBit i = (decide (i < 32) && !(s - 1).testBit i) := by
    conv => lhs; rw [hs1]
    exact Nat.testBit_two_pow_sub_succ (by omega) i
  rw [e1, hs2, Nat.testBit_two_pow_mul_add _ (by omega), Nat.testBit_two_pow_sub_one]
  conv => lhs; lhs; rw [ha, show 2 ^ k * (2 * a + 1) = 2 ^ k * (2 * a + 1) + 0 from rfl, Nat.testBit_two_pow_mul_add _ hp]
  rcases Nat.lt_trichotomy i k with q | q | q
  · simp [q, show ¬ k = i by omega]
  · subst q
    simp
    omega
  · obtain ⟨d, hd⟩ : ∃ d, i - k = d + 1 := ⟨i - k - 1, by omega⟩
    rw [if_neg (by omega), if_neg (by omega), hd, Nat.testBit_succ, Nat.testBit_succ]
    have e2 : (2 * a + 1) / 2 = a := by omega
    have e3 : (2 * a) / 2 = a := by omega
    rw [e2, e3]
    simp [show ¬ k = i by omega]
    cases a.testBit d <;> simp
theorem low_I {s : Nat} (h0 : ¬ s = 0) (h : s < 2 ^ 20) : nI s &&& (-(nI s)) = nI (1 <<< ct s) := by
  rw [← low_N h0 h, ← nI_and]
  congr 1
  apply Int32.toBitVec_inj.mp
  rw [Int32.toBitVec_neg, nb_I, nb_I]
  apply BitVec.eq_of_toNat_eq
  rw [BitVec.toNat_neg, BitVec.toNat_ofNat, BitVec.toNat_ofNat]
  omega
def rgt (s k : Nat) : Bool := decide (k % 5 < 4) && s.testBit (k + 1)
def dwn (s k : Nat) : Bool := s.testBit (k + 5)
/-- how many TILINGS a set of CELLS has, by the search (n dominoes at most) -/
def tl : Nat → Nat → Nat
  | 0, s => if s = 0 then 1 else 0
  | n + 1, s => if s = 0 then 1 else (if rgt s (ct s) then tl n (andn s (3 <<< ct s)) else 0) + (if dwn s (ct s) then tl n (andn s (33 <<< ct s)) else 0)
def gR (r c : Nat) : Bool := decide (c &&& 541200 = 0) && !decide (r &&& c <<< 1 = 0)
theorem and_bit0 {s k : Nat} : (s &&& (1 <<< k) = 0) ↔ s.testBit k = false := by
  constructor
  · intro h
    have e : (s &&& (1 <<< k)).testBit k = false := by rw [h]; simp
    rw [Nat.testBit_and, Nat.one_shiftLeft, Nat.testBit_two_pow_self] at e
    simpa using e
  · intro h
    apply Nat.eq_of_testBit_eq
    intro i
    rw [Nat.testBit_and, Nat.one_shiftLeft, Nat.testBit_two_pow, Nat.zero_testBit]
    by_cases hi : k = i
    · subst hi
      simp [h]
    · simp [hi]
theorem gR_rgt {r k : Nat} (hk : k < 20) : gR r (1 <<< k) = rgt r k := by
  unfold gR rgt
  have h1 : ∀ k, k < 20 → ((1 <<< k &&& 541200 = 0) ↔ k % 5 < 4) := by decide +kernel
  have h2 : (r &&& 1 <<< k <<< 1 = 0) ↔ r.testBit (k + 1) = false := by
    rw [← Nat.shiftLeft_add]
    exact and_bit0
  congr 1
  · exact decide_eq_decide.mpr (h1 k hk)
  · cases hb : r.testBit (k + 1)
    · simp [h2.mpr hb]
    · have : ¬ (r &&& 1 <<< k <<< 1 = 0) := fun q => by rw [h2.mp q] at hb; cases hb
      simp [this]
theorem shl_3 (k : Nat) : (1 <<< k) ||| (1 <<< k <<< 1) = 3 <<< k := by
  rw [← Nat.shiftLeft_add, Nat.add_comm k 1, Nat.shiftLeft_add, ← Nat.shiftLeft_or_distrib]
  rfl
theorem shl_33 (k : Nat) : (1 <<< k) ||| (1 <<< k <<< 5) = 33 <<< k := by
  rw [← Nat.shiftLeft_add, Nat.add_comm k 5, Nat.shiftLeft_add, ← Nat.shiftLeft_or_distrib]
  rfl
theorem dwn_0 {r k : Nat} : (r &&& 1 <<< k <<< 5 = 0) ↔ dwn r k = false := by
  rw [← Nat.shiftLeft_add]
  exact and_bit0
theorem tl_le : ∀ n s, tl n s ≤ 2 ^ n
  | 0, s => by unfold tl; split <;> omega
  | n + 1, s => by
    unfold tl
    have h1 := tl_le n (andn s (3 <<< ct s))
    have h2 := tl_le n (andn s (33 <<< ct s))
    rw [Nat.pow_succ]
    split
    · have := Nat.two_pow_pos n
      omega
    · split <;> split <;> omega
