
/-! what is seen keeps the class's world -/
theorem CWx_vis {G : Gt} {o om : Nat} {σ μ : Sx} {pa na : Nat → Nat} {H : Heap} (h : vis σ μ) (q : CWx G o om μ pa na H) : CWx G o om σ pa na H := by
  obtain ⟨v1, v2, v3, v4⟩ := h
  obtain ⟨q0, x, φ, ρ, qX, qF, qR, ⟨⟨t1, t2⟩, ⟨b1, b2⟩, f1, ⟨n1, n2⟩, ⟨r1, r2⟩, ⟨l1, l2, l3, l4⟩, rf⟩, qB, qN, a1, a2⟩ := q
  have a : ∀ k, k < 23 → 4 < k → σ.2.1 k = μ.2.1 k := fun k hk h4 => v2 k hk (Or.inr h4)
  refine ⟨q0, x, φ, ρ, qX, qF, qR, ⟨⟨?_, ?_⟩, ⟨?_, ?_⟩, ?_, ⟨?_, ?_⟩, ⟨?_, ?_⟩, ⟨?_, ?_, ?_, ?_⟩, ?_⟩, ?_, ?_, ?_, ?_⟩
  · rw [v1 22 (by decide)]; exact t1
  · rw [a 21 (by decide) (by decide)]; exact t2
  · rw [v1 16 (by decide)]; exact b1
  · rw [v1 16 (by decide)]; exact b2
  · exact FX_c f1 (a 5 (by decide) (by decide)) (a 6 (by decide) (by decide)) (v1 17 (by decide)) rfl rfl
  · rw [v1 18 (by decide)]; exact n1
  · rw [v1 18 (by decide)]; exact n2
  · rw [v1 20 (by decide)]; exact r1
  · rw [a 15 (by decide) (by decide)]; exact r2
  · rw [v1 19 (by decide)]; exact l1
  · rw [a 13 (by decide) (by decide)]; exact l2
  · rw [a 14 (by decide) (by decide)]; exact l3
  · rw [v1 19 (by decide), a 12 (by decide) (by decide)]; exact l4
  · rw [v2 0 (by decide) (Or.inl rfl)]; exact rf
  · intro p hp
    rw [v1 16 (by decide)] at hp
    obtain ⟨g1, β, g2, g3, g4⟩ := qB p hp
    obtain ⟨w1, w2, w3⟩ := v3 p hp
    have e : ∀ k, k < 20 → clM μ p k = clM σ p k := fun k hk => (v4 _ (by omega)).symm
    refine ⟨g1, β, g2, ?_, ?_⟩
    · rw [w1, w2, w3]; exact BG_c g3 e
    · rw [w3]; exact BC_c g4 e
  · intro n hn
    rw [v1 18 (by decide)] at hn
    obtain ⟨g1, ν, g2, c1, c2, c3, c4⟩ := qN n hn
    refine ⟨g1, ν, g2, ?_, ?_, ?_, ?_⟩
    · rw [a 7 (by decide) (by decide)]; exact c1
    · rw [a 8 (by decide) (by decide)]; exact c2
    · rw [a 7 (by decide) (by decide), a 9 (by decide) (by decide)]; exact c3
    · intro k hk f hf
      refine (c4 k hk f hf).trans (congrArg lkC ?_)
      show fnd (lkP (fun i => μ.2.1 10 (12 * n + i)) (fun i => μ.2.1 11 (12 * n + i)) _) (μ.2.1 8 n) 0 = fnd (lkP (fun i => σ.2.1 10 (12 * n + i)) (fun i => σ.2.1 11 (12 * n + i)) _) (σ.2.1 8 n) 0
      rw [a 8 (by decide) (by decide), a 10 (by decide) (by decide), a 11 (by decide) (by decide)]
  · rw [v1 18 (by decide)]; exact a1
  · rw [v1 18 (by decide), v1 16 (by decide)]; exact a2
theorem CW_vis {G : Gt} {o om : Nat} {σ μ : Sx} {H : Heap} (h : vis σ μ) (q : CW G o om μ H) : CW G o om σ H := by
  obtain ⟨pa, na, g⟩ := q
  exact ⟨pa, na, CWx_vis h g⟩
