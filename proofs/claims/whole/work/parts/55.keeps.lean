
/-! what each call keeps -/
def IV (μ : Sx) : Prop := MIb μ ∧ MIn μ ∧ MNl μ ∧ MIf μ ∧ MIt μ ∧ MIl μ ∧ MIr μ
section KEEPS
variable {μ : Sx}
theorem IV_rf (h : IV μ) (k : Nat) : IV (rfM μ k) := ⟨h.1, h.2.1, h.2.2.1, h.2.2.2.1, h.2.2.2.2.1, h.2.2.2.2.2.1, h.2.2.2.2.2.2⟩
theorem IV_22 (h : IV μ) : IV (uS μ 22 0) := ⟨h.1, h.2.1, h.2.2.1, h.2.2.2.1, ⟨Nat.zero_le _, fun i hi => absurd hi (Nat.not_lt_zero i)⟩, h.2.2.2.2.2.1, h.2.2.2.2.2.2⟩
theorem IV_20 (h : IV μ) : IV (uS μ 20 0) := ⟨h.1, h.2.1, h.2.2.1, h.2.2.2.1, h.2.2.2.2.1, h.2.2.2.2.2.1, ⟨Nat.zero_le _, fun i hi => absurd hi (Nat.not_lt_zero i)⟩⟩
theorem IV_19 (h : IV μ) : IV (uS μ 19 0) := ⟨h.1, h.2.1, h.2.2.1, h.2.2.2.1, h.2.2.2.2.1, ⟨Nat.zero_le _, fun i hi => absurd hi (Nat.not_lt_zero i)⟩, h.2.2.2.2.2.2⟩
theorem IV_nw {w h f : Nat} {c : Nat → Nat} (hI : IV μ) (h24 : ¬ μ.1 16 = 24) (hB : BS w h f c) : IV (nwP μ w h f c) := by
  obtain ⟨⟨b1, b2⟩, ⟨n1, n2⟩, hl, hf, ht, ⟨l1, l2⟩, hr⟩ := hI
  obtain ⟨⟨m1, m2⟩, m3, ⟨m4, m5, m6, m7⟩, -⟩ := NP_nw μ w h f c
  refine ⟨⟨by rw [m1]; omega, fun p hp => ?_⟩, ⟨n1, fun n hn => ?_⟩, fun n hn l hl2 => ?_, hf, ht, ⟨l1, fun k hk => ?_⟩, hr⟩
  · rw [m1] at hp
    by_cases e : p = μ.1 16
    · subst e
      rw [m4, m5, m6]
      exact BS_c hB m7
    · obtain ⟨q1, q2, q3, q4⟩ := m3 p (by omega)
      rw [q1, q2, q3]
      exact BS_c (b2 p (by omega)) q4
  · obtain ⟨q1, q2, q3, q4⟩ := n2 n hn
    exact ⟨q1, q2, fun k hk => by have := q3 k hk; show μ.2.1 9 (8 * n + k) < μ.1 16 + 1; omega, q4⟩
  · obtain ⟨k, hk, g, hg, e⟩ := hl n hn l hl2
    refine ⟨k, hk, g, ?_, e⟩
    have hp := (n2 n hn).2.2.1 k hk
    have q := (m3 _ hp).2.2.1
    show g < (nwP μ w h f c).2.1 3 (μ.2.1 9 (8 * n + k))
    rw [q]
    exact hg
  · obtain ⟨q1, q2, q3⟩ := l2 k hk
    obtain ⟨r1, r2, r3, r4⟩ := m3 _ q1
    refine ⟨by show μ.2.1 12 k < μ.1 16 + 1; omega, ?_, ?_⟩
    · show μ.2.1 13 k + (nwP μ w h f c).2.1 1 (μ.2.1 12 k) ≤ 12
      rw [r1]
      exact q2
    · show μ.2.1 14 k + (nwP μ w h f c).2.1 2 (μ.2.1 12 k) ≤ 12
      rw [r2]
      exact q3
theorem IV_fd (hI : IV μ) (b : Int64) : ∀ k, μ.1 22 + k ≤ 40 → IV (fdS μ b k)
  | 0, _ => hI
  | k + 1, h => by
    obtain ⟨h1, h2, h3, h4, ⟨t1, t2⟩, h6, h7⟩ := IV_fd hI b k (by omega)
    have e := fd22 μ b k
    refine ⟨h1, h2, h3, h4, ⟨?_, fun i hi => ?_⟩, h6, h7⟩
    · show (fdS μ b k).1 22 + 1 ≤ 40
      omega
    · replace hi : i < (fdS μ b k).1 22 + 1 := hi
      show uN ((fdS μ b k).2.1 21) ((fdS μ b k).1 22) (byt b k) i < 256
      by_cases ei : i = (fdS μ b k).1 22
      · rw [ei, uN_s]
        exact byt_lt b k
      · rw [uN_n ei]
        exact t2 i (by omega)
theorem I_feed (hI : IV μ) (n : Int32) (b : Int64) : IV (feed_M μ n b).2 := by
  unfold feed_M
  split
  · split
    · exact IV_rf hI _
    · split
      · exact IV_fd hI b _ (by assumption)
      · exact IV_rf hI _
  · exact IV_rf hI _
theorem IV_fc (hI : IV μ) (h20 : ¬ μ.1 17 = 20) : IV (uS (uA (fcS (uS μ 22 0) (μ.1 22)) 6 (μ.1 17) (μ.1 22)) 17 (μ.1 17 + 1)) := by
  obtain ⟨h1, h2, h3, ⟨f1, f2⟩, ⟨t1, t2⟩, h6, h7⟩ := hI
  have e1 : (fcS (uS μ 22 0) (μ.1 22)).1 = (uS μ 22 0).1 := funext fun j => fcS_1 _ j _
  have e2 : ∀ j, ¬ j = 5 → (fcS (uS μ 22 0) (μ.1 22)).2.1 j = μ.2.1 j := fun j hj => fcS_2 _ hj _
  have e5 := fcS_5 (uS μ 22 0)
  have g1 : ∀ j, ¬ j = 17 → (uS (uA (fcS (uS μ 22 0) (μ.1 22)) 6 (μ.1 17) (μ.1 22)) 17 (μ.1 17 + 1)).1 j = (uS μ 22 0).1 j := fun j hj => by
    show (if j = 17 then _ else (fcS (uS μ 22 0) (μ.1 22)).1 j) = _
    rw [if_neg hj, e1]
  have g2 : ∀ j, ¬ j = 5 → ¬ j = 6 → (uS (uA (fcS (uS μ 22 0) (μ.1 22)) 6 (μ.1 17) (μ.1 22)) 17 (μ.1 17 + 1)).2.1 j = μ.2.1 j := fun j hj hk => by
    show (if j = 6 then _ else (fcS (uS μ 22 0) (μ.1 22)).2.1 j) = _
    rw [if_neg hk, e2 j hj]
  generalize hσ : uS (uA (fcS (uS μ 22 0) (μ.1 22)) 6 (μ.1 17) (μ.1 22)) 17 (μ.1 17 + 1) = σ at *
  refine ⟨?_, ?_, ?_, ⟨?_, fun g hg => ?_⟩, ⟨?_, fun i hi => ?_⟩, ?_, ?_⟩
  · unfold MIb clM
    rw [g1 16 (by decide), g2 1 (by decide) (by decide), g2 2 (by decide) (by decide), g2 3 (by decide) (by decide), g2 4 (by decide) (by decide)]
    exact h1
  · unfold MIn
    rw [g1 18 (by decide), g1 16 (by decide), g2 7 (by decide) (by decide), g2 8 (by decide) (by decide), g2 9 (by decide) (by decide), g2 10 (by decide) (by decide), g2 11 (by decide) (by decide)]
    exact h2
  · unfold MNl fM lkM
    rw [g1 18 (by decide), g2 3 (by decide) (by decide), g2 7 (by decide) (by decide), g2 8 (by decide) (by decide), g2 9 (by decide) (by decide), g2 10 (by decide) (by decide), g2 11 (by decide) (by decide)]
    exact h3
  · rw [← hσ]
    show μ.1 17 + 1 ≤ 20
    omega
  · have hg2 : g < μ.1 17 + 1 := by rw [← hσ] at hg; exact hg
    have q6 : σ.2.1 6 g = uN (μ.2.1 6) (μ.1 17) (μ.1 22) g := by
      rw [← hσ]
      show uN ((fcS (uS μ 22 0) (μ.1 22)).2.1 6) (μ.1 17) (μ.1 22) g = _
      rw [e2 6 (by decide)]
    have q5 : ∀ i, σ.2.1 5 i = if 40 * μ.1 17 ≤ i ∧ i < 40 * μ.1 17 + μ.1 22 then μ.2.1 21 (i - 40 * μ.1 17) else μ.2.1 5 i := fun i => by
      rw [← hσ]
      exact e5 i _
    by_cases e : g = μ.1 17
    · rw [q6, e, uN_s]
      refine ⟨t1, fun i hi => ?_⟩
      rw [q5, if_pos (by omega), Nat.add_sub_cancel_left]
      exact t2 i hi
    · obtain ⟨r1, r2⟩ := f2 g (by omega)
      rw [q6, uN_n e]
      refine ⟨r1, fun i hi => ?_⟩
      rw [q5, if_neg (by omega)]
      exact r2 i hi
  · rw [g1 22 (by decide)]
    exact Nat.zero_le _
  · rw [g1 22 (by decide)] at hi
    exact absurd hi (Nat.not_lt_zero i)
  · unfold MIl
    rw [g1 19 (by decide), g1 16 (by decide), g2 1 (by decide) (by decide), g2 2 (by decide) (by decide), g2 12 (by decide) (by decide), g2 13 (by decide) (by decide), g2 14 (by decide) (by decide)]
    exact h6
  · unfold MIr
    rw [g1 20 (by decide), g2 15 (by decide) (by decide)]
    exact h7
theorem I_formula (hI : IV μ) : IV (formula_M μ).2 := by
  unfold formula_M
  split
  · exact IV_rf hI _
  · split
    · exact IV_fc hI (by assumption)
    · exact IV_22 hI
theorem I_part (hI : IV μ) : IV (part_M μ).2 := by
  unfold part_M
  split
  · exact IV_rf hI _
  · rename_i h24
    rcases hq : rdF μ with ⟨q, _ | ⟨w, h, f⟩⟩
    · exact IV_22 hI
    · obtain ⟨-, -, hB⟩ := rd_tx hq
      exact IV_nw (IV_22 hI) h24 hB
theorem inI_c {x : Int32} {n : Nat} (h : inI x n = true) : cx x < n := (inI_t h).2
theorem I_turn (hI : IV μ) (p : Int32) : IV (turn_M μ p).2 := by
  unfold turn_M
  split
  · rename_i hp
    split
    · exact IV_rf hI _
    · split
      · exact IV_rf hI _
      · have hb := hI.1.2 _ (inI_c hp)
        exact IV_nw hI (by assumption) (BS_tn hb (by have := hb.1.1.2; omega))
  · exact IV_rf hI _
theorem I_mirror (hI : IV μ) (p : Int32) : IV (mirror_M μ p).2 := by
  unfold mirror_M
  split
  · rename_i hp
    split
    · exact IV_rf hI _
    · exact IV_nw hI (by assumption) (BS_mi (hI.1.2 _ (inI_c hp)))
  · exact IV_rf hI _
theorem BS_id {w h f : Nat} {c : Nat → Nat} (q : BS w h f c) : BS w h f (idC w h c) := BS_c q fun k hk => by
  unfold idC
  split
  · rfl
  · rename_i z
    exact q.2.1 k hk z
theorem I_less (hI : IV μ) (p xy : Int32) : IV (less_M μ p xy).2 := by
  unfold less_M
  split
  · rename_i hp
    split
    · split
      · rename_i h1
        split
        · exact IV_rf hI _
        · have hb := hI.1.2 _ (inI_c hp)
          refine IV_nw hI (by assumption) (BS_c (BS_wi (bl := 1 <<< (5 * (cx xy % 10) + cx xy / 10)) (BS_id hb) (fun k hk z => ?_)) (fun k hk => ?_))
          · rw [Nat.one_shiftLeft, Nat.testBit_two_pow, decide_eq_true_eq] at z
            rw [← z]
            unfold idC
            split
            · exact h1
            · rename_i q
              rw [hb.2.1 _ (by omega) q] at h1
              exact absurd h1 (by decide)
          · unfold wiC
            rw [Nat.one_shiftLeft, Nat.testBit_two_pow]
            by_cases e : k = 5 * (cx xy % 10) + cx xy / 10
            · rw [e, uN_s, if_pos (by simp)]
            · rw [uN_n e, if_neg (by simp; omega)]
      · exact IV_rf hI _
    · exact IV_rf hI _
  · exact IV_rf hI _
theorem I_rename (hI : IV μ) (p d : Int32) : IV (rename_M μ p d).2 := by
  unfold rename_M
  split
  · rename_i hp
    split
    · rename_i hpr
      split
      · exact IV_rf hI _
      · obtain ⟨j, hj, e, hs⟩ := prB_x hpr
        refine IV_nw hI (by assumption) (BS_rn (BS_id (hI.1.2 _ (inI_c hp))) (pr_PM ?_))
        rw [e, cx_n hj]
        exact hs
    · exact IV_rf hI _
  · exact IV_rf hI _
theorem I_find (hI : IV μ) (w h f : Int32) : IV (find_M μ w h f).2 := by
  unfold find_M
  split
  · split
    · exact IV_rf hI _
    · split
      · rename_i hc
        split
        · rename_i hrow
          unfold fiR
          split
          · exact IV_20 hI
          · exact IV_nw (IV_20 hI) hc.2.2.2 (BS_ly hI.2.2.2.2.2.2 hrow hc.1 hc.2.1)
        · exact IV_rf hI _
      · exact IV_rf hI _
  · exact IV_rf hI _
end KEEPS
