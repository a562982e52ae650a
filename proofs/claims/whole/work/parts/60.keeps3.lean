
/-! the NET of THE FLOOR: what it keeps -/
def PR (μ σ : Sx) : Prop := σ.1 = (fl0 μ).1 ∧ (∀ j, ¬ (7 ≤ j ∧ j ≤ 11) → σ.2.1 j = μ.2.1 j) ∧ σ.2.1 7 = uN (μ.2.1 7) (μ.1 18) (μ.1 19) ∧ (∀ n, n < μ.1 18 → σ.2.1 8 n = μ.2.1 8 n) ∧ (∀ j, j < 8 * μ.1 18 → σ.2.1 9 j = μ.2.1 9 j) ∧ (∀ k, k < μ.1 19 → σ.2.1 9 (8 * μ.1 18 + k) = μ.2.1 12 k) ∧ ∀ j, j < 12 * μ.1 18 → σ.2.1 10 j = μ.2.1 10 j ∧ σ.2.1 11 j = μ.2.1 11 j
section FLE
variable {μ : Sx}
theorem flP_o (μ : Sx) : ∀ k, (flP μ (μ.1 18) (fl0 μ) k).1 = (fl0 μ).1 ∧ (∀ j, ¬ j = 9 → (flP μ (μ.1 18) (fl0 μ) k).2.1 j = (fl0 μ).2.1 j) ∧ ∀ j, j < 8 * μ.1 18 → (flP μ (μ.1 18) (fl0 μ) k).2.1 9 j = μ.2.1 9 j
  | 0 => ⟨rfl, fun _ _ => rfl, fun _ _ => rfl⟩
  | k + 1 => by
    obtain ⟨h1, h2, h3⟩ := flP_o μ k
    refine ⟨h1, fun j hj => ?_, fun j hj => ?_⟩
    · show (if j = 9 then _ else (flP μ (μ.1 18) (fl0 μ) k).2.1 j) = _
      rw [if_neg hj]
      exact h2 j hj
    · show uN ((flP μ (μ.1 18) (fl0 μ) k).2.1 9) (8 * μ.1 18 + k) (μ.2.1 12 k) j = _
      rw [uN_n (by omega)]
      exact h3 j hj
theorem PR_0 (μ : Sx) : PR μ (flP μ (μ.1 18) (fl0 μ) (μ.1 19)) := by
  obtain ⟨h1, h2, h3⟩ := flP_o μ (μ.1 19)
  refine ⟨h1, fun j hj => ?_, flP_7 μ _, fun n hn => ?_, h3, fun k hk => ?_, fun j hj => ?_⟩
  · rw [h2 j (by omega)]
    show (if j = 8 then _ else if j = 7 then _ else μ.2.1 j) = _
    rw [if_neg (by omega), if_neg (by omega)]
  · rw [h2 8 (by decide)]
    show uN (μ.2.1 8) (μ.1 18) 0 n = _
    rw [uN_n (by omega)]
  · rw [flP_9, if_pos hk]
  · rw [h2 10 (by decide), h2 11 (by decide)]
    exact ⟨rfl, rfl⟩
theorem PR_a {σ : Sx} {a c : Nat} (h : PR μ σ) : PR μ (addM σ (μ.1 18) a c) := by
  obtain ⟨h1, h2, h3, h4, h5, h6, h7⟩ := h
  refine ⟨h1, fun j hj => ?_, h3, fun n hn => ?_, h5, h6, fun j hj => ?_⟩
  · show (if j = 8 then _ else if j = 11 then _ else if j = 10 then _ else σ.2.1 j) = _
    rw [if_neg (by omega), if_neg (by omega), if_neg (by omega)]
    exact h2 j hj
  · show uN (σ.2.1 8) (μ.1 18) _ n = _
    rw [uN_n (by omega)]
    exact h4 n hn
  · show uN (σ.2.1 10) (12 * μ.1 18 + σ.2.1 8 (μ.1 18)) a j = _ ∧ uN (σ.2.1 11) (12 * μ.1 18 + σ.2.1 8 (μ.1 18)) c j = _
    rw [uN_n (by omega), uN_n (by omega)]
    exact h7 j hj
theorem IV_f0 (hI : IV μ) (h8 : μ.1 19 ≤ 8) (h6 : ¬ μ.1 18 = 6) : IV (flP μ (μ.1 18) (fl0 μ) (μ.1 19)) := by
  have hP := PR_0 μ
  have h80 := flP_8 μ (μ.1 19)
  generalize flP μ (μ.1 18) (fl0 μ) (μ.1 19) = σ at *
  obtain ⟨p1, p2, p3, p4, p5, p6, p7⟩ := hP
  obtain ⟨h1, ⟨n1, n2⟩, hl, h4, h5, hl6, h7⟩ := hI
  have e18 : σ.1 18 = μ.1 18 + 1 := by rw [p1] <;> rfl
  have e16 : σ.1 16 = μ.1 16 := by rw [p1] <;> rfl
  have e17 : σ.1 17 = μ.1 17 := by rw [p1] <;> rfl
  have e19 : σ.1 19 = μ.1 19 := by rw [p1] <;> rfl
  have e20 : σ.1 20 = μ.1 20 := by rw [p1] <;> rfl
  have e22 : σ.1 22 = μ.1 22 := by rw [p1] <;> rfl
  refine ⟨?_, ⟨by rw [e18]; omega, fun n hn => ?_⟩, fun n hn l hl2 => ?_, ?_, ?_, ?_, ?_⟩
  · unfold MIb clM
    rw [e16, p2 1 (by omega), p2 2 (by omega), p2 3 (by omega), p2 4 (by omega)]
    exact h1
  · rw [e18] at hn
    rw [e16, p3]
    by_cases e : n = μ.1 18
    · subst e
      rw [uN_s, h80]
      exact ⟨h8, Nat.zero_le _, fun k hk => by rw [p6 k hk]; exact (hl6.2 k hk).1, fun k hk => absurd hk (Nat.not_lt_zero k)⟩
    · obtain ⟨q1, q2, q3, q4⟩ := n2 n (by omega)
      rw [uN_n e, p4 n (by omega)]
      refine ⟨q1, q2, fun k hk => ?_, fun k hk => ?_⟩
      · rw [p5 _ (by omega)]
        exact q3 k hk
      · rw [(p7 _ (by omega)).1, (p7 _ (by omega)).2]
        exact q4 k hk
  · rw [e18] at hn
    by_cases e : n = μ.1 18
    · subst e
      rw [h80] at hl2
      exact absurd hl2 (Nat.not_lt_zero l)
    · rw [p4 n (by omega)] at hl2
      obtain ⟨k, hk, g, hg, q⟩ := hl n (by omega) l hl2
      obtain ⟨q1, q2, q3, q4⟩ := n2 n (by omega)
      refine ⟨k, by rw [p3, uN_n e]; exact hk, g, ?_, ?_⟩
      · show g < σ.2.1 3 (σ.2.1 9 (8 * n + k))
        rw [p2 3 (by omega), p5 _ (by omega)]
        exact hg
      · rw [← q]
        show fnd _ (σ.2.1 8 n) 0 = fnd _ (μ.2.1 8 n) 0
        rw [p4 n (by omega)]
        exact fnd_congr _ _ (fun j _ hj => by
          show (decide (σ.2.1 10 (12 * n + j) = _) || decide (σ.2.1 11 (12 * n + j) = _)) = (decide (μ.2.1 10 (12 * n + j) = _) || decide (μ.2.1 11 (12 * n + j) = _))
          rw [(p7 _ (by omega)).1, (p7 _ (by omega)).2])
  · unfold MIf
    rw [e17, p2 5 (by omega), p2 6 (by omega)]
    exact h4
  · unfold MIt
    rw [e22, p2 21 (by omega)]
    exact h5
  · unfold MIl
    rw [e19, e16, p2 1 (by omega), p2 2 (by omega), p2 12 (by omega), p2 13 (by omega), p2 14 (by omega)]
    exact hl6
  · unfold MIr
    rw [e20, p2 15 (by omega)]
    exact h7
/-- the NET so far -/
def STf (μ σ : Sx) (k f : Nat) : Prop := PR μ σ ∧ LKS μ (μ.1 18) σ k f ∧ IV σ ∧ σ.2.1 8 (μ.1 18) = fcN (fcL μ) (mtC μ) k + fc1 (mtC μ) k f
theorem STf_s (hI : IV μ) (h8 : μ.1 19 ≤ 8) (h12 : fcN (fcL μ) (mtC μ) (μ.1 19) ≤ 12) (hlk : leak_M μ < 0) {σ : Sx} {k : Nat} (hk : k < μ.1 19) (h : STf μ σ k 0) : ∀ f, f ≤ fcL μ k → STf μ (fl1 μ (μ.1 18) k σ f) k f
  | 0, _ => h
  | f + 1, hf => by
    have hb := hI.1
    have hl := hI.2.2.2.2.2.1
    obtain ⟨s1, s2, s3, s4⟩ := STf_s hI h8 h12 hlk hk h f (by omega)
    have f5 := fcL_5 hb hl hk
    rcases met_v hb hl (k := k) (f := f) (i := 0) (by decide) with hq | ⟨a, g, ha, hg, hg4, hne, hz, hq⟩
    · have hmt := mtC_9 (by omega) hq
      have e := fc1_no (Z := mtC μ) (k := k) (f := f) hmt
      rw [fl1_n hmt]
      exact ⟨s1, LKS_w s2 (Or.inr ⟨rfl, Nat.le_succ _⟩), s3, by omega⟩
    · have hmo := mtC_o hb hl hk (show f ≤ 4 by omega) ha hg4 hne hq
      by_cases hc : k ≤ (10 * a + g) / 10
      · have hmt : mtC μ k f = true := hmo.trans (decide_eq_true hc)
        have e := fc1_yes (Z := mtC μ) (k := k) (f := f) hmt
        have hlt := fc_lt1 (F := fcL μ) hk (show f < fcL μ k by omega) hmt
        rw [fl1_y hmt hq (by omega)]
        have hka : k < a := by omega
        have hn2 := LKS_n hb hl hlk s2 hka ha (by omega) hg hz
        have e18 : (fl1 μ (μ.1 18) k σ f).1 18 = μ.1 18 + 1 := by rw [s1.1] <;> rfl
        refine ⟨PR_a s1, LKS_a s2 hka ha (by omega) hg hz, IV_lk s3 (by omega) (by omega) (by omega) (by omega) ?_ ?_ hn2.1, ?_⟩
        · rw [s1.2.2.1, uN_s]
          omega
        · rw [show (10 * k + f) / 10 = k by omega, show (10 * k + f) % 10 = f by omega]
          show f < (fl1 μ (μ.1 18) k σ f).2.1 3 ((fl1 μ (μ.1 18) k σ f).2.1 9 (8 * μ.1 18 + k))
          rw [s1.2.1 3 (by omega), s1.2.2.2.2.2.1 k hk]
          exact Nat.lt_of_succ_le hf
        · show uN ((fl1 μ (μ.1 18) k σ f).2.1 8) (μ.1 18) ((fl1 μ (μ.1 18) k σ f).2.1 8 (μ.1 18) + 1) (μ.1 18) = _
          rw [uN_s]
          omega
      · have hmt : mtC μ k f = false := hmo.trans (decide_eq_false hc)
        have e := fc1_no (Z := mtC μ) (k := k) (f := f) hmt
        rw [fl1_n hmt]
        exact ⟨s1, LKS_w s2 (Or.inr ⟨rfl, Nat.le_succ _⟩), s3, by omega⟩
theorem STf_N (hI : IV μ) (h8 : μ.1 19 ≤ 8) (h6 : ¬ μ.1 18 = 6) (h12 : fcN (fcL μ) (mtC μ) (μ.1 19) ≤ 12) (hlk : leak_M μ < 0) : ∀ k, k ≤ μ.1 19 → STf μ (flN μ (μ.1 18) (flP μ (μ.1 18) (fl0 μ) (μ.1 19)) k) k 0
  | 0, _ => ⟨PR_0 μ, LKS_0, IV_f0 hI h8 h6, flP_8 μ _⟩
  | k + 1, hk => by
    obtain ⟨s1, s2, s3, s4⟩ := STf_s hI h8 h12 hlk (show k < μ.1 19 by omega) (STf_N hI h8 h6 h12 hlk k (by omega)) (fcL μ k) (Nat.le_refl _)
    exact ⟨s1, LKS_w s2 (Or.inl (Nat.lt_succ_self _)), s3, s4⟩
theorem I_floorNet (hI : IV μ) : IV (floorNet_M μ).2 := by
  unfold floorNet_M
  split
  · exact IV_rf hI _
  · split
    · exact IV_rf hI _
    · rename_i h1 h2
      exact (STf_N hI (by omega) (by omega) (by omega) (Decidable.not_not.mp (fun q => h1 (Or.inr (Or.inr q)))) _ (Nat.le_refl _)).2.2.1
theorem PR_E (μ : Sx) : PR μ (flE μ) := by
  have key : ∀ k f, PR μ (flN μ (μ.1 18) (flP μ (μ.1 18) (fl0 μ) (μ.1 19)) k) → PR μ (fl1 μ (μ.1 18) k (flN μ (μ.1 18) (flP μ (μ.1 18) (fl0 μ) (μ.1 19)) k) f) := by
    intro k f h
    induction f with
    | zero => exact h
    | succ f ih =>
      show PR μ (if mtC μ k f then _ else _)
      split
      · exact PR_a ih
      · exact ih
  have : ∀ k, PR μ (flN μ (μ.1 18) (flP μ (μ.1 18) (fl0 μ) (μ.1 19)) k) := by
    intro k
    induction k with
    | zero => exact PR_0 μ
    | succ k ih => exact key k _ ih
  exact this _
theorem NE_fl (μ : Sx) : NE (flE μ) μ (μ.1 18) := by
  obtain ⟨p1, p2, p3, p4, p5, p6, p7⟩ := PR_E μ
  have e18 : (flE μ).1 18 = μ.1 18 + 1 := by rw [p1] <;> rfl
  have e16 : (flE μ).1 16 = μ.1 16 := by rw [p1] <;> rfl
  refine ⟨e16, ⟨p2 1 (by omega), p2 2 (by omega), p2 3 (by omega), p2 4 (by omega)⟩, fun n hn e => ?_⟩
  rw [e18] at hn
  refine ⟨by omega, by rw [p3, uN_n e], p4 n (by omega), fun k hk => p5 _ (by omega), fun k hk => p7 _ (by omega)⟩
theorem RX_fl {σ φ ρ : Sx} {pa na : Nat → Nat} {nb : Nat} (h : RX μ σ φ ρ pa na) : RX (flE μ) (uS (uQ σ 6 (σ.1 7) nb) 7 (σ.1 7 + 1)) φ ρ pa (upP na (μ.1 18) nb) := by
  obtain ⟨p1, p2, p3, p4, p5, p6, p7⟩ := PR_E μ
  have e1 : ∀ k, (flE μ).1 k = (net1 μ).1 k := fun k => by rw [p1] <;> rfl
  obtain ⟨⟨q1, q2⟩, ⟨q3, q4⟩, q5, ⟨q6, q7⟩, ⟨q8, q9⟩, ⟨q10, q11, q12, q13⟩, q14⟩ := RX_nw (nb := nb) h
  refine ⟨⟨?_, ?_⟩, ⟨?_, ?_⟩, FX_c q5 (p2 5 (by omega)) (p2 6 (by omega)) (e1 17) rfl rfl, ⟨?_, ?_⟩, ⟨?_, ?_⟩, ⟨?_, ?_, ?_, ?_⟩, ?_⟩
  · rw [e1]; exact q1
  · rw [p2 21 (by omega)]; exact q2
  · rw [e1]; exact q3
  · rw [e1]; exact q4
  · rw [e1]; exact q6
  · rw [e1]; exact q7
  · rw [e1]; exact q8
  · rw [p2 15 (by omega)]; exact q9
  · rw [e1]; exact q10
  · rw [p2 13 (by omega)]; exact q11
  · rw [p2 14 (by omega)]; exact q12
  · rw [e1, p2 12 (by omega)]; exact q13
  · rw [p2 0 (by omega)]; exact q14
theorem lk9_i (hl : MIl μ) : leak_M μ = -9 ↔ leak_M μ < 0 := by
  constructor
  · intro h
    rw [h]
    decide
  · intro h
    have h10 := hl.1
    cases hq : fnd (lkB μ) (μ.1 19) 0 with
    | none =>
      show oI (fnd (lkB μ) (μ.1 19) 0) = -9
      rw [hq]
      rfl
    | some j =>
      have := fnd_lt _ _ hq
      rw [show leak_M μ = oI (fnd (lkB μ) (μ.1 19) 0) from rfl, hq] at h
      exact absurd h (n9_lt (by omega))
theorem ov9_i (hl : MIl μ) : overlap_M μ = -9 ↔ overlap_M μ < 0 := by
  constructor
  · intro h
    rw [h]
    decide
  · intro h
    have h10 := hl.1
    unfold overlap_M at h ⊢
    cases hq : fnd (fun a => (ovA μ a).isSome) (μ.1 19) 0 with
    | none => rfl
    | some j =>
      rw [hq] at h
      have hj := fnd_lt _ _ hq
      dsimp only at h ⊢
      cases hq2 : ovA μ j with
      | none => rfl
      | some i =>
        have := fnd_lt _ _ hq2
        rw [hq2] at h
        exact absurd h (n9_lt (by omega))
end FLE
