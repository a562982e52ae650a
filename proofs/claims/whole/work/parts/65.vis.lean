
/-! what is seen keeps what holds -/
theorem IV_vis {σ μ : Sx} (h : vis σ μ) (hI : IV μ) : IV σ := by
  obtain ⟨v1, v2, v3, v4⟩ := h
  obtain ⟨⟨b1, b2⟩, ⟨n1, n2⟩, hl, hf, ht, ⟨l1, l2⟩, hr⟩ := hI
  have e16 := v1 16 (by decide)
  have a : ∀ k, k < 23 → 4 < k → σ.2.1 k = μ.2.1 k := fun k hk h4 => v2 k hk (Or.inr h4)
  refine ⟨⟨by rw [e16]; exact b1, fun p hp => ?_⟩, ?_, fun n hn l hl2 => ?_, ?_, ?_, ⟨by rw [v1 19 (by decide)]; exact l1, fun k hk => ?_⟩, ?_⟩
  · rw [e16] at hp
    obtain ⟨q1, q2, q3⟩ := v3 p hp
    rw [q1, q2, q3]
    exact BS_c (b2 p hp) (fun k hk => (v4 _ (by omega)).symm)
  · unfold MIn
    rw [v1 18 (by decide), e16, a 7 (by decide) (by decide), a 8 (by decide) (by decide), a 9 (by decide) (by decide), a 10 (by decide) (by decide), a 11 (by decide) (by decide)]
    exact ⟨n1, n2⟩
  · rw [v1 18 (by decide)] at hn
    rw [a 8 (by decide) (by decide)] at hl2
    obtain ⟨k, hk, g, hg, q⟩ := hl n hn l hl2
    refine ⟨k, by rw [a 7 (by decide) (by decide)]; exact hk, g, ?_, ?_⟩
    · show g < σ.2.1 3 (σ.2.1 9 (8 * n + k))
      rw [a 9 (by decide) (by decide), (v3 _ ((n2 n hn).2.2.1 k hk)).2.2]
      exact hg
    · show fnd (lkP (fun i => σ.2.1 10 (12 * n + i)) (fun i => σ.2.1 11 (12 * n + i)) _) (σ.2.1 8 n) 0 = _
      rw [a 8 (by decide) (by decide), a 10 (by decide) (by decide), a 11 (by decide) (by decide)]
      exact q
  · unfold MIf
    rw [v1 17 (by decide), a 5 (by decide) (by decide), a 6 (by decide) (by decide)]
    exact hf
  · unfold MIt
    rw [v1 22 (by decide), a 21 (by decide) (by decide)]
    exact ht
  · rw [v1 19 (by decide)] at hk
    obtain ⟨q1, q2, q3⟩ := l2 k hk
    rw [e16, a 12 (by decide) (by decide), a 13 (by decide) (by decide), a 14 (by decide) (by decide), (v3 _ q1).1, (v3 _ q1).2.1]
    exact ⟨q1, q2, q3⟩
  · unfold MIr
    rw [v1 20 (by decide), a 15 (by decide) (by decide)]
    exact hr
