
/-! no LEAK: a FACE meets one other at most; the LINKS of THE FLOOR's NET -/
theorem frW_so {P : Nat} {F : Nat → Nat} {Z : Nat → Nat → Bool} {j : Nat} (hj : j < 2 ^ 31) (hP : P ≤ 10) (hF : ∀ k, k < P → F k ≤ 5) (hc : j < fcN F Z P) : ∀ u k f, k ≤ P → (k < P → f ≤ F k) → (k = P → f = 0) → 6 * (P - k) + 1 ≤ u + f → fcN F Z k + fc1 Z k f ≤ j → ∃ a, a < 100 ∧ frW P F Z (nI j) (-9) u k f (fcN F Z k + fc1 Z k f) = nI a
  | 0, k, f, hk, hf, hf0, hu, hm => by
    exfalso
    by_cases e : k = P
    · have := hf0 e
      omega
    · have := hf (by omega)
      have := hF k (by omega)
      omega
  | u + 1, k, f, hk, hf, hf0, hu, hm => by
    by_cases e : k < P
    · by_cases ef : f < F k
      · have h5 := hF k e
        cases hz : Z k f
        · rw [frW_n e ef hz]
          have e1 := fc1_no (Z := Z) (k := k) (f := f) hz
          have ih := frW_so hj hP hF hc u k (f + 1) hk (fun _ => ef) (fun q => by omega) (by omega) (by omega)
          rw [← e1] at ih
          exact ih
        · have e1 := fc1_yes (Z := Z) (k := k) (f := f) hz
          by_cases ej : fcN F Z k + fc1 Z k f = j
          · rw [frW_r e ef hz (by rw [ej])]
            exact ⟨10 * k + f, by omega, rfl⟩
          · rw [frW_y e ef hz (fun q => ej ((nI_eq (by omega) hj).mp q))]
            have ih := frW_so hj hP hF hc u k (f + 1) hk (fun _ => ef) (fun q => by omega) (by omega) (by omega)
            rw [← e1] at ih
            exact ih
      · have h5 := hf e
        have efe : f = F k := by omega
        rw [frW_k e ef]
        have h55 := hF k e
        have ih := frW_so hj hP hF hc u (k + 1) 0 (by omega) (fun _ => Nat.zero_le _) (fun _ => rfl) (by omega) (by
          show fcN F Z k + fc1 Z k (F k) + 0 ≤ j
          rw [← efe]
          exact hm)
        rw [efe]
        exact ih
    · exfalso
      have ek : k = P := by omega
      have := hf0 ek
      subst ek
      subst this
      have e0 : fc1 Z k 0 = 0 := rfl
      omega
theorem fc_two {P : Nat} {F : Nat → Nat} {Z : Nat → Nat → Bool} {k f a g : Nat} (hk : k < P) (hf : f < F k) (hz : Z k f = true) (ha : a < P) (hg : g < F a) (hz2 : Z a g = true) (hne : k < a ∨ (k = a ∧ f < g)) : 2 ≤ fcN F Z P := by
  have h2 := fc_lt1 ha hg hz2
  rcases hne with h | ⟨e, h⟩
  · have h1 := fc_lt1 (P := a) h hf hz
    omega
  · subst e
    have h1 := fc1_mono (Z := Z) (k := k) (m := g) (g - (f + 1)) (f + 1) (by omega)
    have h3 := fc1_yes (Z := Z) (k := k) (f := f) hz
    omega
theorem besB_s (a b : Nat) : besB a b = besB b a := by
  unfold besB
  apply decide_eq_decide.mpr
  constructor <;> intro h <;> omega
section LEAKS
variable {μ : Sx}
theorem mtZ_s {k f a g : Nat} (h : mtZ μ k f a g = true) : mtZ μ a g k f = true := by
  unfold mtZ at h ⊢
  rw [Bool.and_eq_true, Bool.not_eq_true', decide_eq_false_iff_not] at h ⊢
  exact ⟨fun q => h.1 q.symm, by rw [besB_s]; exact h.2⟩
theorem leak_1 (hl : MIl μ) (h : leak_M μ < 0) {k f : Nat} (hk : k < μ.1 19) (hf : f < fcL μ k) : metM μ k f 1 < 0 := by
  have h10 := hl.1
  cases hq : fnd (lkB μ) (μ.1 19) 0 with
  | some j =>
    have := fnd_lt _ _ hq
    rw [show leak_M μ = oI (fnd (lkB μ) (μ.1 19) 0) from rfl, hq] at h
    exact absurd h (n9_lt (by omega))
  | none =>
    have h1 := fnd_none _ _ hq k (Nat.zero_le _) (by omega)
    rw [Bool.or_eq_false_iff] at h1
    have h2 := fnd_none _ _ (Option.not_isSome_iff_eq_none.mp (by rw [h1.1]; decide)) f (Nat.zero_le _) (by omega)
    rw [Bool.not_eq_false', decide_eq_true_eq] at h2
    exact h2
theorem met_u (hb : MIb μ) (hl : MIl μ) (h : leak_M μ < 0) {k f a g c d : Nat} (hk : k < μ.1 19) (hf : f < fcL μ k) (ha : a < μ.1 19) (hg : g < fcL μ a) (hc : c < μ.1 19) (hd : d < fcL μ c) (h1 : mtZ μ k f a g = true) (h2 : mtZ μ k f c d = true) : a = c ∧ g = d := by
  have hm := leak_1 hl h hk hf
  have key : ¬ 2 ≤ fcN (fcL μ) (mtZ μ k f) (μ.1 19) := fun q => by
    obtain ⟨x, hx, e⟩ := frW_so (P := μ.1 19) (F := fcL μ) (Z := mtZ μ k f) (j := 1) (by decide) hl.1 (fun k hk => fcL_5 hb hl hk) (by omega) 100 0 0 (Nat.zero_le _) (fun _ => Nat.zero_le _) (fun _ => rfl) (by have := hl.1; omega) (Nat.zero_le _)
    have e2 : metM μ k f 1 = nI x := e
    rw [e2] at hm
    exact n9_lt (by omega) hm
  rcases Nat.lt_trichotomy a c with z | z | z
  · exact absurd (fc_two ha hg h1 hc hd h2 (Or.inl z)) key
  · refine ⟨z, ?_⟩
    rcases Nat.lt_trichotomy g d with y | y | y
    · exact absurd (fc_two ha hg h1 hc hd h2 (Or.inr ⟨z, y⟩)) key
    · exact y
    · exact absurd (fc_two hc hd h2 ha hg h1 (Or.inr ⟨z.symm, y⟩)) key
  · exact absurd (fc_two hc hd h2 ha hg h1 (Or.inl z)) key
/-- the LINKS so far -/
def LKS (μ : Sx) (n : Nat) (σ : Sx) (k f : Nat) : Prop := ∀ i, i < σ.2.1 8 n → ∃ x y a g, (x < k ∨ (x = k ∧ y < f)) ∧ x < a ∧ a < μ.1 19 ∧ y < fcL μ x ∧ g < fcL μ a ∧ mtZ μ x y a g = true ∧ σ.2.1 10 (12 * n + i) = 10 * x + y ∧ σ.2.1 11 (12 * n + i) = 10 * a + g
theorem LKS_w {n : Nat} {σ : Sx} {k f c d : Nat} (h : LKS μ n σ k f) (hle : k < c ∨ (k = c ∧ f ≤ d)) : LKS μ n σ c d := fun i hi => by
  obtain ⟨x, y, a, g, h1, h2⟩ := h i hi
  exact ⟨x, y, a, g, by omega, h2⟩
theorem LKS_a {n : Nat} {σ : Sx} {k f a g : Nat} (h : LKS μ n σ k f) (hka : k < a) (ha : a < μ.1 19) (hf : f < fcL μ k) (hg : g < fcL μ a) (hz : mtZ μ k f a g = true) : LKS μ n (addM σ n (10 * k + f) (10 * a + g)) k (f + 1) := by
  intro i hi
  replace hi : i < uN (σ.2.1 8) n (σ.2.1 8 n + 1) n := hi
  rw [uN_s] at hi
  show ∃ x y c d, _ ∧ _ ∧ _ ∧ _ ∧ _ ∧ _ ∧ uN (σ.2.1 10) (12 * n + σ.2.1 8 n) (10 * k + f) (12 * n + i) = _ ∧ uN (σ.2.1 11) (12 * n + σ.2.1 8 n) (10 * a + g) (12 * n + i) = _
  by_cases e : i = σ.2.1 8 n
  · rw [e, uN_s, uN_s]
    exact ⟨k, f, a, g, Or.inr ⟨rfl, by omega⟩, hka, ha, hf, hg, hz, rfl, rfl⟩
  · rw [uN_n (by omega), uN_n (by omega)]
    obtain ⟨x, y, c, d, h1, h2⟩ := h i (by omega)
    exact ⟨x, y, c, d, by omega, h2⟩
theorem LKS_n (hb : MIb μ) (hl : MIl μ) (hlk : leak_M μ < 0) {n : Nat} {σ : Sx} {k f a g : Nat} (h : LKS μ n σ k f) (hka : k < a) (ha : a < μ.1 19) (hf : f < fcL μ k) (hg : g < fcL μ a) (hz : mtZ μ k f a g = true) : lkM σ n (10 * k + f) = none ∧ lkM σ n (10 * a + g) = none := by
  have hk : k < μ.1 19 := by omega
  have f5 := fcL_5 hb hl hk
  have g5 := fcL_5 hb hl ha
  have key : ∀ i, i < σ.2.1 8 n → (lkP (fun j => σ.2.1 10 (12 * n + j)) (fun j => σ.2.1 11 (12 * n + j)) (10 * k + f) i = false) ∧ lkP (fun j => σ.2.1 10 (12 * n + j)) (fun j => σ.2.1 11 (12 * n + j)) (10 * a + g) i = false := by
    intro i hi
    obtain ⟨x, y, c, d, h1, h2, h3, h4, h5, h6, h7, h8⟩ := h i hi
    have y5 := fcL_5 hb hl (show x < μ.1 19 by omega)
    have d5 := fcL_5 hb hl h3
    constructor
    · show (decide (σ.2.1 10 (12 * n + i) = 10 * k + f) || decide (σ.2.1 11 (12 * n + i) = 10 * k + f)) = false
      rw [h7, h8, decide_eq_false (by omega), Bool.false_or]
      apply decide_eq_false
      intro q
      have e1 : c = k := by omega
      have e2 : d = f := by omega
      rw [e1, e2] at h6
      have := (met_u hb hl hlk hk hf ha hg (by omega) h4 hz (mtZ_s h6)).1
      omega
    · show (decide (σ.2.1 10 (12 * n + i) = 10 * a + g) || decide (σ.2.1 11 (12 * n + i) = 10 * a + g)) = false
      rw [h7, h8, decide_eq_false (by omega), Bool.false_or]
      apply decide_eq_false
      intro q
      have e1 : c = a := by omega
      have e2 : d = g := by omega
      rw [e1, e2] at h6
      have := met_u hb hl hlk ha hg hk hf (by omega) h4 (mtZ_s hz) (mtZ_s h6)
      omega
  exact ⟨Option.not_isSome_iff_eq_none.mp (by rw [fnd_all (fun i hi => (key i hi).1)]; decide), Option.not_isSome_iff_eq_none.mp (by rw [fnd_all (fun i hi => (key i hi).2)]; decide)⟩
theorem flP_7 (μ : Sx) : ∀ k, (flP μ (μ.1 18) (fl0 μ) k).2.1 7 = uN (μ.2.1 7) (μ.1 18) (μ.1 19)
  | 0 => rfl
  | k + 1 => flP_7 μ k
theorem flP_9 (μ : Sx) : ∀ k j, (flP μ (μ.1 18) (fl0 μ) k).2.1 9 (8 * μ.1 18 + j) = if j < k then μ.2.1 12 j else μ.2.1 9 (8 * μ.1 18 + j)
  | 0, j => rfl
  | k + 1, j => by
    show uN ((flP μ (μ.1 18) (fl0 μ) k).2.1 9) (8 * μ.1 18 + k) (μ.2.1 12 k) (8 * μ.1 18 + j) = _
    by_cases e : j = k
    · rw [e, uN_s, if_pos (by omega)]
    · rw [uN_n (by omega), flP_9 μ k j]
      by_cases h : j < k
      · rw [if_pos h, if_pos (by omega)]
      · rw [if_neg h, if_neg (by omega)]
theorem LKS_0 : LKS μ (μ.1 18) (flP μ (μ.1 18) (fl0 μ) (μ.1 19)) 0 0 := fun i hi => by
  rw [flP_8] at hi
  exact absurd hi (Nat.not_lt_zero i)
theorem NR_f0 {pa : Nat → Nat} {ν : Sx} (h1 : ν.1 1 = μ.1 19) (h2 : ν.1 2 = 0) (h3 : ∀ k, k < μ.1 19 → ν.2.2 0 k = some (pa (μ.2.1 12 k))) (h4 : ∀ j, j < 40 → ν.2.1 3 j = 0) : NR (flP μ (μ.1 18) (fl0 μ) (μ.1 19)) pa (μ.1 18) ν := by
  refine ⟨?_, ?_, fun k hk => ?_, fun k hk f hf => ?_⟩
  · rw [flP_7, uN_s, h1]
  · rw [flP_8, h2]
  · rw [flP_7, uN_s] at hk
    rw [flP_9, if_pos hk]
    exact h3 k hk
  · rw [h4 _ (by omega)]
    show 0 = lkC (fnd _ ((flP μ (μ.1 18) (fl0 μ) (μ.1 19)).2.1 8 (μ.1 18)) 0)
    rw [flP_8]
    rfl
end LEAKS
