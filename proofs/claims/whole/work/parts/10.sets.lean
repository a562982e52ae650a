/-! bits gathered by a predicate; counting; what the search of TILINGS keeps -/
def bo (P : Nat → Bool) : Nat → Nat
  | 0 => 0
  | n + 1 => if P n then bo P n ||| 1 <<< n else bo P n
theorem bo_tb (P : Nat → Bool) : ∀ (n k : Nat), (bo P n).testBit k = (decide (k < n) && P k)
  | 0, k => by simp [bo]
  | n + 1, k => by
    unfold bo
    by_cases hP : P n = true
    · rw [if_pos hP, Nat.testBit_or, bo_tb P n k, Nat.one_shiftLeft, Nat.testBit_two_pow]
      rcases Nat.lt_trichotomy k n with q | q | q
      · simp [q, show k < n + 1 by omega, show ¬ n = k by omega]
      · subst q
        simp [hP]
      · simp [show ¬ k < n by omega, show ¬ k < n + 1 by omega, show ¬ n = k by omega]
    · rw [if_neg hP, bo_tb P n k]
      rcases Nat.lt_trichotomy k n with q | q | q
      · simp [q, show k < n + 1 by omega]
      · subst q
        simp [hP]
      · simp [show ¬ k < n by omega, show ¬ k < n + 1 by omega]
theorem bo_lt (P : Nat → Bool) (n : Nat) : bo P n < 2 ^ n := by
  apply Nat.lt_pow_two_of_testBit
  intro i hi
  rw [bo_tb]
  simp [show ¬ i < n by omega]
theorem bo_congr {P Q : Nat → Bool} {n : Nat} (h : ∀ k, k < n → P k = Q k) : bo P n = bo Q n := by
  apply Nat.eq_of_testBit_eq
  intro i
  rw [bo_tb, bo_tb]
  by_cases hi : i < n
  · simp [hi, h i hi]
  · simp [hi]
theorem bo_t {P : Nat → Bool} {n : Nat} (h : P n = true) : bo P (n + 1) = bo P n ||| 1 <<< n := by
  show (if _ then _ else _) = _
  rw [if_pos h]
theorem bo_f {P : Nat → Bool} {n : Nat} (h : P n = false) : bo P (n + 1) = bo P n := by
  show (if _ then _ else _) = _
  rw [if_neg (by rw [h]; decide)]
theorem eq_of_tb {a b n : Nat} (ha : a < 2 ^ n) (hb : b < 2 ^ n) (h : ∀ k, k < n → a.testBit k = b.testBit k) : a = b := by
  apply Nat.eq_of_testBit_eq
  intro i
  by_cases hi : i < n
  · exact h i hi
  · rw [tb_lt ha (by omega), tb_lt hb (by omega)]
/-- how many of the first n bits are set, of those that a colour picks -/
def pcn (P : Nat → Bool) (s : Nat) : Nat → Nat
  | 0 => 0
  | n + 1 => pcn P s n + (if P n && s.testBit n then 1 else 0)
theorem pcn_clr (P : Nat → Bool) (s k : Nat) (hk : s.testBit k = true) : ∀ n, pcn P s n = pcn P (andn s (1 <<< k)) n + (if decide (k < n) && P k then 1 else 0)
  | 0 => by simp [pcn]
  | n + 1 => by
    unfold pcn
    rw [pcn_clr P s k hk n, andn_tb, Nat.one_shiftLeft, Nat.testBit_two_pow]
    rcases Nat.lt_trichotomy k n with q | q | q
    · simp [q, show k < n + 1 by omega, show ¬ k = n by omega]
      omega
    · subst q
      cases hP : P k <;> simp [hk]
    · simp [show ¬ k < n by omega, show ¬ k < n + 1 by omega, show ¬ k = n by omega]
theorem pcn_clr2 (P : Nat → Bool) {s a d n : Nat} (ha : s.testBit a = true) (hd : s.testBit (a + d) = true) (h0 : 0 < d) (hn : a + d < n) : pcn P s n = pcn P (andn s ((1 <<< a) ||| (1 <<< (a + d)))) n + (if P a then 1 else 0) + (if P (a + d) then 1 else 0) := by
  have e : andn s ((1 <<< a) ||| (1 <<< (a + d))) = andn (andn s (1 <<< a)) (1 <<< (a + d)) := by
    apply Nat.eq_of_testBit_eq
    intro i
    rw [andn_tb, andn_tb, andn_tb, Nat.testBit_or]
    cases s.testBit i <;> cases (1 <<< a).testBit i <;> cases (1 <<< (a + d)).testBit i <;> rfl
  rw [e, pcn_clr P s a ha n, pcn_clr P (andn s (1 <<< a)) (a + d) (by rw [andn_tb, hd, Nat.one_shiftLeft, Nat.testBit_two_pow]; simp; omega) n]
  simp [show a < n by omega, show a + d < n by omega]
  omega
theorem s3 (k : Nat) : 3 <<< k = (1 <<< k) ||| (1 <<< (k + 1)) := by rw [← shl_3, Nat.shiftLeft_add]
theorem s33 (k : Nat) : 33 <<< k = (1 <<< k) ||| (1 <<< (k + 5)) := by rw [← shl_33, Nat.shiftLeft_add]
def allP : Nat → Bool := fun _ => true
def evP : Nat → Bool := fun k => decide (k % 2 = 0)
def odP : Nat → Bool := fun k => decide (k % 2 = 1)
abbrev pc20 (s : Nat) : Nat := pcn allP s 20
theorem pcn_0 (P : Nat → Bool) : ∀ n, pcn P 0 n = 0
  | 0 => rfl
  | n + 1 => by unfold pcn; rw [pcn_0 P n]; simp
theorem pcn_pos (P : Nat → Bool) (s k : Nat) (hs : s.testBit k = true) (hP : P k = true) : ∀ n, k < n → 0 < pcn P s n
  | 0, h => by omega
  | n + 1, h => by
    unfold pcn
    rcases Nat.lt_or_ge k n with q | q
    · have := pcn_pos P s k hs hP n q
      omega
    · have e : k = n := by omega
      subst e
      simp [hs, hP]
theorem pc_z {s : Nat} (h : s < 2 ^ 20) (hp : pc20 s ≤ 0) : s = 0 := by
  by_cases h0 : s = 0
  · exact h0
  · obtain ⟨h1, h2, -⟩ := ct_spec h0 h
    have hq := pcn_pos allP s _ h2 rfl 20 h1
    have hp2 : pcn allP s 20 ≤ 0 := hp
    omega
theorem pc_rgt {s : Nat} (h0 : ¬ s = 0) (h : s < 2 ^ 20) (hr : rgt s (ct s) = true) (P : Nat → Bool) : pcn P s 20 = pcn P (andn s (3 <<< ct s)) 20 + (if P (ct s) then 1 else 0) + (if P (ct s + 1) then 1 else 0) := by
  obtain ⟨h1, h2, -⟩ := ct_spec h0 h
  have hb : s.testBit (ct s + 1) = true := by
    unfold rgt at hr
    exact ((Bool.and_eq_true _ _).mp hr).2
  rw [s3]
  exact pcn_clr2 P h2 hb (by decide) (tb_in h hb)
theorem pc_dwn {s : Nat} (h0 : ¬ s = 0) (h : s < 2 ^ 20) (hr : dwn s (ct s) = true) (P : Nat → Bool) : pcn P s 20 = pcn P (andn s (33 <<< ct s)) 20 + (if P (ct s) then 1 else 0) + (if P (ct s + 5) then 1 else 0) := by
  obtain ⟨h1, h2, -⟩ := ct_spec h0 h
  rw [s33]
  exact pcn_clr2 P h2 hr (by decide) (tb_in h hr)
/-- a set that has a TILING has as many light CELLS as dark ones -/
theorem tl_bal : ∀ n s, s < 2 ^ 20 → 0 < tl n s → pcn evP s 20 = pcn odP s 20
  | 0, s, h, ht => by
    unfold tl at ht
    split at ht
    · next e => rw [e, pcn_0, pcn_0]
    · omega
  | n + 1, s, h, ht => by
    unfold tl at ht
    split at ht
    · next e => rw [e, pcn_0, pcn_0]
    · next e =>
      by_cases hr : rgt s (ct s) = true
      · by_cases h1 : 0 < tl n (andn s (3 <<< ct s))
        · have ih := tl_bal n _ (andn_lt h) h1
          rw [pc_rgt e h hr evP, pc_rgt e h hr odP, ih]
          unfold evP odP
          rcases Nat.mod_two_eq_zero_or_one (ct s) with q | q
          · have q2 : (ct s + 1) % 2 = 1 := by omega
            simp [q, q2]
          · have q2 : (ct s + 1) % 2 = 0 := by omega
            simp [q, q2]
        · by_cases hd : dwn s (ct s) = true
          · have h2 : 0 < tl n (andn s (33 <<< ct s)) := by
              rw [if_pos hr, if_pos hd] at ht
              omega
            have ih := tl_bal n _ (andn_lt h) h2
            rw [pc_dwn e h hd evP, pc_dwn e h hd odP, ih]
            unfold evP odP
            rcases Nat.mod_two_eq_zero_or_one (ct s) with q | q
            · have q2 : (ct s + 5) % 2 = 1 := by omega
              simp [q, q2]
            · have q2 : (ct s + 5) % 2 = 0 := by omega
              simp [q, q2]
          · rw [if_pos hr, if_neg hd] at ht
            omega
      · by_cases hd : dwn s (ct s) = true
        · have h2 : 0 < tl n (andn s (33 <<< ct s)) := by
            rw [if_neg hr, if_pos hd] at ht
            omega
          have ih := tl_bal n _ (andn_lt h) h2
          rw [pc_dwn e h hd evP, pc_dwn e h hd odP, ih]
          unfold evP odP
          rcases Nat.mod_two_eq_zero_or_one (ct s) with q | q
          · have q2 : (ct s + 5) % 2 = 1 := by omega
            simp [q, q2]
          · have q2 : (ct s + 5) % 2 = 0 := by omega
            simp [q, q2]
        · rw [if_neg hr, if_neg hd] at ht
          omega
/-- fuel beyond what the set has of dominoes changes nothing -/
theorem tl_fuel : ∀ n m s, s < 2 ^ 20 → pc20 s ≤ 2 * n → n ≤ m → tl m s = tl n s
  | 0, m, s, h, hp, hm => by
    have e := pc_z h (by omega)
    subst e
    cases m <;> rfl
  | n + 1, 0, s, h, hp, hm => by omega
  | n + 1, m + 1, s, h, hp, hm => by
    unfold tl
    by_cases e : s = 0
    · rw [if_pos e, if_pos e]
    · rw [if_neg e, if_neg e]
      have e1 : rgt s (ct s) = true → tl m (andn s (3 <<< ct s)) = tl n (andn s (3 <<< ct s)) := by
        intro hr
        have hq := pc_rgt e h hr allP
        rw [if_pos (show allP _ = true from rfl), if_pos (show allP _ = true from rfl)] at hq
        have hp2 : pcn allP s 20 ≤ 2 * (n + 1) := hp
        exact tl_fuel n m _ (andn_lt h) (by show pcn allP _ 20 ≤ _; omega) (by omega)
      have e2 : dwn s (ct s) = true → tl m (andn s (33 <<< ct s)) = tl n (andn s (33 <<< ct s)) := by
        intro hr
        have hq := pc_dwn e h hr allP
        rw [if_pos (show allP _ = true from rfl), if_pos (show allP _ = true from rfl)] at hq
        have hp2 : pcn allP s 20 ≤ 2 * (n + 1) := hp
        exact tl_fuel n m _ (andn_lt h) (by show pcn allP _ 20 ≤ _; omega) (by omega)
      congr 1
      · split
        · next hr => exact e1 hr
        · rfl
      · split
        · next hr => exact e2 hr
        · rfl
theorem pcn_le (P : Nat → Bool) (s : Nat) : ∀ n, pcn P s n ≤ n
  | 0 => Nat.le_refl 0
  | n + 1 => by
    unfold pcn
    have := pcn_le P s n
    split <;> omega
def tlb (n s : Nat) : Bool := decide (0 < tl n s)
theorem tlb_0 (n : Nat) : tlb n 0 = true := by cases n <;> rfl
theorem tlb_s {n s : Nat} (h0 : ¬ s = 0) : tlb (n + 1) s = ((rgt s (ct s) && tlb n (andn s (3 <<< ct s))) || (dwn s (ct s) && tlb n (andn s (33 <<< ct s)))) := by
  unfold tlb
  conv => lhs; unfold tl
  rw [if_neg h0]
  cases hr : rgt s (ct s) <;> cases hd : dwn s (ct s) <;> simp
  · by_cases a : 0 < tl n (andn s (3 <<< ct s)) <;> by_cases b : 0 < tl n (andn s (33 <<< ct s)) <;> simp [a, b] <;> omega
