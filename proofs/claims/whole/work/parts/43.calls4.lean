
/-! the class's FORMULAS beside the reference's -/
theorem lt_bit : ∀ j, j < 5 → ∀ s, s < 32 → (ltW j).testBit s = s.testBit j := by decide +kernel
theorem all_bit {s : Nat} (h : s < 32) : (4294967295 : Nat).testBit s = true := by
  rw [show (4294967295 : Nat) = 2 ^ 32 - 1 from rfl, Nat.testBit_two_pow_sub_one, decide_eq_true h]
theorem ltT_b {ν : Sx} {c : Nat} (h32 : ν.1 27 < 32) (hl : c = 48 ∨ c = 49 ∨ (97 ≤ c ∧ c ≤ 101)) : (ltT c).testBit (ν.1 27) = ltB ν c := by
  unfold ltT ltB
  rcases hl with h | h | ⟨h1, h2⟩
  · subst h
    rw [if_pos rfl, Nat.zero_testBit]
    rfl
  · subst h
    rw [if_neg (by decide), if_pos rfl, all_bit h32]
    rfl
  · rw [if_neg (by omega), if_neg (by omega), lt_bit (c - 97) (by omega) _ h32, decide_eq_false (show ¬ c = 49 by omega), decide_eq_true h1]
    rfl
theorem isLt_e {c : Nat} : isLt c = true ↔ (c = 48 ∨ c = 49 ∨ (97 ≤ c ∧ c ≤ 101)) := by
  unfold isLt
  simp only [Bool.or_eq_true, Bool.and_eq_true, decide_eq_true_eq]
  omega
theorem pT_pP {μ ν : Sx} (hs : ∀ p, sgM μ p = sgM ν p) (h32 : ν.1 27 < 32) : ∀ (k m T : Nat) (v : Bool) (p d d' w : Nat), m ≤ 4 → w < 2 → (m ≤ 2 → w = 1) → (¬ w = 0 → T.testBit (ν.1 27) = v) → (¬ w = 0 → d = d') → d' ≤ 5 → p ≤ ν.1 24 → (pT μ k m T p d w).2.1 = (pP ν k m v p d' w).2.1 ∧ (pT μ k m T p d w).2.2 = (pP ν k m v p d' w).2.2.2 ∧ (¬ (pP ν k m v p d' w).2.2.2 = 0 → (pT μ k m T p d w).1.testBit (ν.1 27) = (pP ν k m v p d' w).1)
  | 0, m, T, v, p, d, d', w, _, _, _, hT, _, _, _ => ⟨rfl, rfl, hT⟩
  | k + 1, m, T, v, p, d, d', w, hm, hw, hmw, hT, hd, hd5, hp => by
    have htk : ∀ p w c, tkB μ p w c = tkB ν p w c := fun p w c => by unfold tkB; rw [hs]
    match m, hm, hmw with
    | 0, _, hmw =>
      have hw1 := hmw (by decide)
      subst hw1
      rcases hr : pT μ k 1 0 p d 1 with ⟨T1, p1, w1⟩
      rcases hq : pP ν k 1 false p d' 1 with ⟨v1, p2, d1, w2⟩
      have ih := pT_pP hs h32 k 1 0 false p d d' 1 (by decide) (by decide) (fun _ => rfl) (fun _ => Nat.zero_testBit _) hd hd5 hp
      rw [hr, hq] at ih
      obtain ⟨e1, e2, e3⟩ := ih
      dsimp only at e1 e2 e3
      subst e1
      subst e2
      obtain ⟨g1, g2, g3, g4, g5⟩ := pP_k hq hp hd5 (by decide)
      have g6 := (pP_ok ν k 1 false p d' 1 hp hd5).2.2.2.2
      rw [hq] at g6
      rw [← tO_e (T := T) hr rfl, ← pO_e (v := v) hq rfl]
      exact pT_pP hs h32 k 3 T1 v1 p1 d d1 w1 (by decide) g5 (fun z => absurd z (by decide)) e3 (fun z => (hd (by decide)).trans (g6 z).1.symm) g4 g2
    | 1, _, hmw =>
      have hw1 := hmw (by decide)
      subst hw1
      rcases hr : pT μ k 2 0 p d 1 with ⟨T1, p1, w1⟩
      rcases hq : pP ν k 2 false p d' 1 with ⟨v1, p2, d1, w2⟩
      have ih := pT_pP hs h32 k 2 0 false p d d' 1 (by decide) (by decide) (fun _ => rfl) (fun _ => Nat.zero_testBit _) hd hd5 hp
      rw [hr, hq] at ih
      obtain ⟨e1, e2, e3⟩ := ih
      dsimp only at e1 e2 e3
      subst e1
      subst e2
      obtain ⟨g1, g2, g3, g4, g5⟩ := pP_k hq hp hd5 (by decide)
      have g6 := (pP_ok ν k 2 false p d' 1 hp hd5).2.2.2.2
      rw [hq] at g6
      rw [← tA_e (T := T) hr rfl, ← pA_e (v := v) hq rfl]
      exact pT_pP hs h32 k 4 T1 v1 p1 d d1 w1 (by decide) g5 (fun z => absurd z (by decide)) e3 (fun z => (hd (by decide)).trans (g6 z).1.symm) g4 g2
    | 2, _, hmw =>
      have hw1 := hmw (by decide)
      subst hw1
      have hdd := hd (by decide)
      subst hdd
      rcases hsg : sgM ν p with _ | c
      · rw [tU_e ((hs p).trans hsg), pU_e (by decide) hsg]
        exact ⟨rfl, rfl, fun z => absurd rfl z⟩
      · have hsm := (hs p).trans hsg
        have hlt := (sg_lt hsg).1
        by_cases hc : c = 33 ∨ c = 40
        · by_cases h5 : d = 5
          · rw [tU_5 hsm hc h5, pU_5 (by decide) hsg hc h5]
            exact ⟨rfl, rfl, fun z => absurd rfl z⟩
          · by_cases h3 : c = 33
            · subst h3
              rcases hr : pT μ k 2 0 (p + 1) (d + 1) 1 with ⟨T1, p1, w1⟩
              rcases hq : pP ν k 2 false (p + 1) (d + 1) 1 with ⟨v1, p2, d1, w2⟩
              have ih := pT_pP hs h32 k 2 0 false (p + 1) (d + 1) (d + 1) 1 (by decide) (by decide) (fun _ => rfl) (fun _ => Nat.zero_testBit _) (fun _ => rfl) (by omega) hlt
              rw [hr, hq] at ih
              obtain ⟨e1, e2, e3⟩ := ih
              rw [tU_n hsm h5 hr, pU_n (by decide) hsg h5 hq]
              refine ⟨e1, e2, fun z => ?_⟩
              show (andn 4294967295 T1).testBit (ν.1 27) = !v1
              rw [andn_tb, all_bit h32, e3 z]
              rfl
            · have h4 : c = 40 := by omega
              subst h4
              rcases hr : pT μ k 0 0 (p + 1) (d + 1) 1 with ⟨T1, p1, w1⟩
              rcases hq : pP ν k 0 false (p + 1) (d + 1) 1 with ⟨v1, p2, d1, w2⟩
              have ih := pT_pP hs h32 k 0 0 false (p + 1) (d + 1) (d + 1) 1 (by decide) (by decide) (fun _ => rfl) (fun _ => Nat.zero_testBit _) (fun _ => rfl) (by omega) hlt
              rw [hr, hq] at ih
              obtain ⟨e1, e2, e3⟩ := ih
              dsimp only at e1 e2 e3
              subst e1
              subst e2
              cases ht : tkB ν p1 w1 41
              · rw [tU_c hsm h5 hr ((htk _ _ _).trans ht), pU_c (by decide) hsg h5 hq ht]
                exact ⟨rfl, rfl, fun z => absurd rfl z⟩
              · rw [tU_b hsm h5 hr ((htk _ _ _).trans ht), pU_b (by decide) hsg h5 hq ht]
                exact ⟨rfl, rfl, e3⟩
        · by_cases hl : c = 48 ∨ c = 49 ∨ (97 ≤ c ∧ c ≤ 101)
          · rw [tU_l hsm hl, pU_l (by decide) hsg hl]
            exact ⟨rfl, rfl, fun _ => ltT_b h32 hl⟩
          · rw [tU_x hsm (by omega) (by omega) (by omega) (by omega) (by omega), pU_x (by decide) hsg (by omega) (by omega) (by omega) (by omega) (by omega)]
            exact ⟨rfl, rfl, fun z => absurd rfl z⟩
    | 3, _, _ =>
      cases ht : tkB ν p w 124
      · rw [t3_f ((htk _ _ _).trans ht), p3_f ht]
        exact ⟨rfl, rfl, hT⟩
      · obtain ⟨hlt, hw0⟩ := tkB_lt ht
        have hw1 : w = 1 := by omega
        subst hw1
        rcases hr : pT μ k 1 0 (p + 1) d 1 with ⟨T1, p1, w1⟩
        rcases hq : pP ν k 1 false (p + 1) d' 1 with ⟨v1, p2, d1, w2⟩
        have ih := pT_pP hs h32 k 1 0 false (p + 1) d d' 1 (by decide) (by decide) (fun _ => rfl) (fun _ => Nat.zero_testBit _) hd hd5 hlt
        rw [hr, hq] at ih
        obtain ⟨e1, e2, e3⟩ := ih
        dsimp only at e1 e2 e3
        subst e1
        subst e2
        obtain ⟨g1, g2, g3, g4, g5⟩ := pP_k hq hlt hd5 (by decide)
        have g6 := (pP_ok ν k 1 false (p + 1) d' 1 hlt hd5).2.2.2.2
        rw [hq] at g6
        rw [← t3_t (T := T) ((htk _ _ _).trans ht) hr rfl, ← p3_t (v := v) ht hq rfl]
        exact pT_pP hs h32 k 3 (T ||| T1) (v || v1) p1 d d1 w1 (by decide) g5 (fun z => absurd z (by decide)) (fun z => by rw [Nat.testBit_or, hT (by decide), e3 z]) (fun z => (hd (by decide)).trans (g6 z).1.symm) g4 g2
    | 4, _, _ =>
      cases ht : tkB ν p w 38
      · rw [t4_f ((htk _ _ _).trans ht), p4_f ht]
        exact ⟨rfl, rfl, hT⟩
      · obtain ⟨hlt, hw0⟩ := tkB_lt ht
        have hw1 : w = 1 := by omega
        subst hw1
        rcases hr : pT μ k 2 0 (p + 1) d 1 with ⟨T1, p1, w1⟩
        rcases hq : pP ν k 2 false (p + 1) d' 1 with ⟨v1, p2, d1, w2⟩
        have ih := pT_pP hs h32 k 2 0 false (p + 1) d d' 1 (by decide) (by decide) (fun _ => rfl) (fun _ => Nat.zero_testBit _) hd hd5 hlt
        rw [hr, hq] at ih
        obtain ⟨e1, e2, e3⟩ := ih
        dsimp only at e1 e2 e3
        subst e1
        subst e2
        obtain ⟨g1, g2, g3, g4, g5⟩ := pP_k hq hlt hd5 (by decide)
        have g6 := (pP_ok ν k 2 false (p + 1) d' 1 hlt hd5).2.2.2.2
        rw [hq] at g6
        rw [← t4_t (T := T) ((htk _ _ _).trans ht) hr rfl, ← p4_t (v := v) ht hq rfl]
        exact pT_pP hs h32 k 4 (T &&& T1) (v && v1) p1 d d1 w1 (by decide) g5 (fun z => absurd z (by decide)) (fun z => by rw [Nat.testBit_and, hT (by decide), e3 z]) (fun z => (hd (by decide)).trans (g6 z).1.symm) g4 g2
def ftb (a n : Nat) : Sx := (fun k => if k = 0 then a else if k = 1 then n else 0, fun _ _ => 0, fun _ _ => none)
/-- the FORMULA that comes to be -/
abbrev fmS (μ : Sx) : Sx := uS (uA (fcS (uS μ 22 0) (μ.1 22)) 6 (μ.1 17) (μ.1 22)) 17 (μ.1 17 + 1)
theorem fcS_5 (μ : Sx) (i : Nat) : ∀ k, (fcS μ k).2.1 5 i = if 40 * μ.1 17 ≤ i ∧ i < 40 * μ.1 17 + k then μ.2.1 21 (i - 40 * μ.1 17) else μ.2.1 5 i
  | 0 => by rw [if_neg (by omega)]; rfl
  | k + 1 => by
    show uN ((fcS μ k).2.1 5) (40 * (fcS μ k).1 17 + k) ((fcS μ k).2.1 21 k) i = _
    rw [fcS_1, fcS_2 (j := 21) _ (by decide)]
    by_cases e : i = 40 * μ.1 17 + k
    · rw [e, uN_s, if_pos (by omega), Nat.add_sub_cancel_left]
    · rw [uN_n e, fcS_5 μ i k]
      by_cases z : 40 * μ.1 17 ≤ i ∧ i < 40 * μ.1 17 + k
      · rw [if_pos z, if_pos (by omega)]
      · rw [if_neg z, if_neg (by omega)]
theorem trB_o {μ : Sx} {f s : Nat} (hi : MIf μ) (hf : f < μ.1 17) : trB (fmS μ) f s = trB μ f s := by
  have h6 : (fmS μ).2.1 6 f = μ.2.1 6 f := by
    show uN ((fcS (uS μ 22 0) (μ.1 22)).2.1 6) (μ.1 17) (μ.1 22) f = _
    rw [uN_n (by omega), fcS_2 _ (by decide)]
    rfl
  show (pP (gtS (fmS μ) 6 (40 * f) ((fmS μ).2.1 6 f) s) 200 0 false 0 0 1).1 = (pP (gtS μ 6 (40 * f) (μ.2.1 6 f) s) 200 0 false 0 0 1).1
  rw [h6]
  refine congrArg Prod.fst (pP_congr (μ := gtS (fmS μ) 6 (40 * f) (μ.2.1 6 f) s) (ν := gtS μ 6 (40 * f) (μ.2.1 6 f) s) (fun p => ?_) rfl 200 0 false 0 0 1)
  show (if μ.2.1 6 f ≤ p then none else some ((fcS (uS μ 22 0) (μ.1 22)).2.1 5 (40 * f + p))) = (if μ.2.1 6 f ≤ p then none else some (μ.2.1 5 (40 * f + p)))
  by_cases z : μ.2.1 6 f ≤ p
  · rw [if_pos z, if_pos z]
  · have := (hi.2 f hf).1
    rw [if_neg z, if_neg z, fcS_5, if_neg (by show ¬ (40 * μ.1 17 ≤ _ ∧ _ < 40 * μ.1 17 + _); omega)]
    rfl
theorem trB_n {μ : Sx} {s : Nat} : trB (fmS μ) (μ.1 17) s = (pP (mT (μ.2.1 21) (μ.1 22) s) 200 0 false 0 0 1).1 := by
  have h6 : (fmS μ).2.1 6 (μ.1 17) = μ.1 22 := by
    show uN ((fcS (uS μ 22 0) (μ.1 22)).2.1 6) (μ.1 17) (μ.1 22) (μ.1 17) = _
    rw [uN_s]
  show (pP (gtS (fmS μ) 6 (40 * μ.1 17) ((fmS μ).2.1 6 (μ.1 17)) s) 200 0 false 0 0 1).1 = _
  rw [h6]
  refine congrArg Prod.fst (pP_congr (μ := gtS (fmS μ) 6 (40 * μ.1 17) (μ.1 22) s) (ν := mT (μ.2.1 21) (μ.1 22) s) (fun p => ?_) rfl 200 0 false 0 0 1)
  rw [sgT]
  show (if μ.1 22 ≤ p then none else some ((fcS (uS μ 22 0) (μ.1 22)).2.1 5 (40 * μ.1 17 + p))) = _
  by_cases z : μ.1 22 ≤ p
  · rw [if_pos z, if_pos z]
  · rw [if_neg z, if_neg z, fcS_5, if_pos (by show 40 * μ.1 17 ≤ _ ∧ _ < 40 * μ.1 17 + _; omega)]
    show some (μ.2.1 21 (40 * μ.1 17 + p - 40 * μ.1 17)) = _
    rw [Nat.add_sub_cancel_left]
theorem tp_T {μ : Sx} {s vT p2 w2 : Nat} (hs : s < 32) (h : pT (mT (μ.2.1 21) (μ.1 22) 0) 200 0 0 0 0 1 = (vT, p2, w2)) : p2 = (pP (mT (μ.2.1 21) (μ.1 22) s) 200 0 false 0 0 1).2.1 ∧ w2 = (pP (mT (μ.2.1 21) (μ.1 22) s) 200 0 false 0 0 1).2.2.2 ∧ (¬ w2 = 0 → vT.testBit s = (pP (mT (μ.2.1 21) (μ.1 22) s) 200 0 false 0 0 1).1) := by
  have q := pT_pP (μ := mT (μ.2.1 21) (μ.1 22) 0) (ν := mT (μ.2.1 21) (μ.1 22) s) (fun p => by rw [sgT, sgT]) hs 200 0 0 false 0 0 0 1 (by decide) (by decide) (fun _ => rfl) (fun _ => Nat.zero_testBit _) (fun _ => rfl) (by decide) (Nat.zero_le _)
  rw [h] at q
  obtain ⟨q1, q2, q3⟩ := q
  exact ⟨q1, q2, fun z => q3 (fun y => z (q2.trans y))⟩
theorem tp_M {μ : Sx} {vT p2 w2 : Nat} (h : pT (mT (μ.2.1 21) (μ.1 22) 0) 200 0 0 0 0 1 = (vT, p2, w2)) : (tpP μ).2.1 = p2 ∧ (tpP μ).2.2.2 = w2 := by
  obtain ⟨q1, q2, -⟩ := tp_T (s := 0) (by decide) h
  have e : tpP μ = pP (mT (μ.2.1 21) (μ.1 22) 0) 200 0 false 0 0 1 := pP_congr (μ := gtS μ 17 0 (μ.1 22) 0) (ν := mT (μ.2.1 21) (μ.1 22) 0) (fun p => by
    rw [sgT]
    show (if μ.1 22 ≤ p then none else some (μ.2.1 21 (0 + p))) = _
    rw [Nat.zero_add]) rfl 200 0 false 0 0 1
  rw [e]
  exact ⟨q1.symm, q2.symm⟩
theorem fm_T {μ : Sx} {vT p2 w2 : Nat} (h : pT (mT (μ.2.1 21) (μ.1 22) 0) 200 0 0 0 0 1 = (vT, p2, w2)) (hw : ¬ w2 = 0) : vT = bo (trB (fmS μ) (μ.1 17)) 32 := by
  have hlt : vT < 2 ^ 32 := (pT_k h (Nat.zero_le _) (by decide) (by decide)).2.2.1
  apply eq_of_tb hlt (bo_lt _ _)
  intro s hs
  rw [bo_tb, decide_eq_true hs, trB_n]
  exact (tp_T hs h).2.2 hw
theorem RX_fm {μ σ φ ρ : Sx} {pa na : Nat → Nat} {vT : Nat} (h : RX μ σ φ ρ pa na) (hi : MIf μ) (hv : vT = bo (trB (fmS μ) (μ.1 17)) 32) : RX (fmS μ) (uS (uA (uS σ 1 0) 4 (σ.1 5) vT) 5 (σ.1 5 + 1)) φ ρ pa na := by
  obtain ⟨⟨h1, h1b⟩, ⟨h2, h2b⟩, ⟨h3, h3b⟩, ⟨h4, h4b⟩, ⟨h5, h5b⟩, ⟨h6, h6b, h6c, h6d⟩, h7⟩ := h
  have e1 : ∀ j, ¬ j = 22 → ¬ j = 17 → (fmS μ).1 j = μ.1 j := by
    intro j a b
    show (if j = 17 then _ else (fcS (uS μ 22 0) (μ.1 22)).1 j) = _
    rw [if_neg b, fcS_1]
    show (if j = 22 then _ else _) = _
    rw [if_neg a]
  have e2 : ∀ j, ¬ j = 5 → ¬ j = 6 → (fmS μ).2.1 j = μ.2.1 j := by
    intro j a b
    show (if j = 6 then _ else (fcS (uS μ 22 0) (μ.1 22)).2.1 j) = _
    rw [if_neg b, fcS_2 _ a]
    rfl
  refine ⟨⟨?_, ?_⟩, ⟨?_, ?_⟩, ⟨?_, fun f hf => ?_⟩, ⟨?_, ?_⟩, ⟨?_, ?_⟩, ⟨?_, ?_, ?_, ?_⟩, ?_⟩
  · show 0 = (fcS (uS μ 22 0) (μ.1 22)).1 22
    rw [fcS_1]
    rfl
  · rw [e2 21 (by decide) (by decide)]; exact h1b
  · rw [e1 16 (by decide) (by decide)]; exact h2
  · rw [e1 16 (by decide) (by decide)]; exact h2b
  · show σ.1 5 + 1 = μ.1 17 + 1
    rw [h3]
  · show uN (σ.2.1 4) (σ.1 5) vT f = _
    have hf2 : f < μ.1 17 + 1 := hf
    by_cases e : f = μ.1 17
    · rw [e, h3, uN_s]
      exact hv
    · rw [h3, uN_n e, h3b f (by omega)]
      exact (bo_congr fun s _ => trB_o hi (by omega)).symm
  · rw [e1 18 (by decide) (by decide)]; exact h4
  · rw [e1 18 (by decide) (by decide)]; exact h4b
  · rw [e1 20 (by decide) (by decide)]; exact h5
  · rw [e2 15 (by decide) (by decide)]; exact h5b
  · rw [e1 19 (by decide) (by decide)]; exact h6
  · rw [e2 13 (by decide) (by decide)]; exact h6b
  · rw [e2 14 (by decide) (by decide)]; exact h6c
  · rw [e1 19 (by decide) (by decide), e2 12 (by decide) (by decide)]; exact h6d
  · rw [e2 0 (by decide) (by decide)]; exact h7
theorem KP_fm (μ : Sx) : KP (fmS μ) μ := by
  have e1 : ∀ j, ¬ j = 22 → ¬ j = 17 → (fmS μ).1 j = μ.1 j := by
    intro j a b
    show (if j = 17 then _ else (fcS (uS μ 22 0) (μ.1 22)).1 j) = _
    rw [if_neg b, fcS_1]
    show (if j = 22 then _ else _) = _
    rw [if_neg a]
  have e2 : ∀ j, ¬ j = 5 → ¬ j = 6 → (fmS μ).2.1 j = μ.2.1 j := by
    intro j a b
    show (if j = 6 then _ else (fcS (uS μ 22 0) (μ.1 22)).2.1 j) = _
    rw [if_neg b, fcS_2 _ a]
    rfl
  exact ⟨⟨e1 16 (by decide) (by decide), e1 18 (by decide) (by decide)⟩, ⟨e2 1 (by decide) (by decide), e2 2 (by decide) (by decide), e2 3 (by decide) (by decide), e2 4 (by decide) (by decide)⟩, e2 7 (by decide) (by decide), e2 8 (by decide) (by decide), e2 9 (by decide) (by decide), e2 10 (by decide) (by decide), e2 11 (by decide) (by decide)⟩

set_option maxHeartbeats 1000000 in
set_option maxRecDepth 100000 in
theorem c_X6_formula (l : Launch) (G : Gt) (o : Nat) (om : Nat) (μ : Sx) (pa : Nat → Nat) (na : Nat → Nat) (nb : Nat) (hb0 : MIb μ) (hn0 : MIn μ) (hif : MIf μ) (hit : MIt μ) (hl0 : MIl μ) (hr0 : MIr μ) : Ct l G yX6_formula cX6_formula 4 ((some .int)) 27 1 4 [.ref o] (fun H => CWx G o om μ pa na H ∧ H.size = nb) (some (.int ((formula_M μ).1))) (fun H => CW G o om (formula_M μ).2 H) (fun q => (o ≤ q ∧ q < o + 11) ∨ nb ≤ q) := by
  refine ct_entry [(0, .ref o)] (by decide) (Nat.le_of_ble_eq_true rfl) rfl ?_
  intro zp ze zs zm za zb zt zc Q S hK hPre hin hE ls hl
  have hx := S.1
  have hb := S.2.1
  obtain ⟨hCW, hz⟩ := hPre
  have hS : va_S (fun q => (o ≤ q ∧ q < o + 11) ∨ nb ≤ q) zs.heap zs.heap [] := va_S.rf
  obtain ⟨⟨hoo, hosz, hLH⟩, σ, φ, ρ, hX, hF, hRF, hRX, hWB, hWN, hAP⟩ := id hCW
  obtain ⟨⟨hT1, hT2⟩, ⟨hP1, hP2⟩, ⟨hF1, hF2⟩, ⟨hN1, hN2⟩, ⟨hR1, hR2⟩, ⟨hL1, hL2, hL3, hL4⟩, hRR⟩ := id hRX
  obtain ⟨h16, -⟩ := id hb0
  obtain ⟨h18, -⟩ := id hn0
  obtain ⟨h17, -⟩ := id hif
  obtain ⟨h22, -⟩ := id hit
  obtain ⟨h19, -⟩ := id hl0
  obtain ⟨h20, -⟩ := id hr0
  have hz0 := hz
  have hT2b : (uS σ 1 0).2.1 0 = μ.2.1 21 := hT2
  refine lv_aload_n hx hb dX6_formula_0 rfl (lv_at hl 0 rfl) ?_
  refine kg (C := RX6) (T := TX6) (N := 12) (ci := 4) (k := 5) (v := .int (nI (σ.1 5))) S hK rfl inX6 (by decide) q_129 dX6_formula_1 hX rfl rfl ?_
  refine lv_bipush (v := nI 20) hx hb dX6_formula_4 (by decide) ?_
  refine n_icmp_lt (tgt := 16) hx hb dX6_formula_6 (by decide) (by omega) (by decide) (fun c_6 => ?_) (fun c_6 => ?_)
  ·
    refine kn (C := RX3) (T := TX3) (N := 4) (ci := 2) tyX3 tyX3_ok S hK rfl inX3 q_340 q_341 q_86 [.null, .int (nI 0), .int (nI 0), .int (nI 0)] (fun j hj => by first | (rcases (show j = 0 ∨ j = 1 ∨ j = 2 ∨ j = 3 by omega) with rfl | rfl | rfl | rfl <;> rfl)) dX6_formula_16 (by decide) (by decide) (h := nb) hz hS (fun H hT hS hz hk => ?_)
    replace hX := hX.kept (fun q h1 h2 => hk q (by have h3 : q < o + 6 := h2; omega))
    replace hF := hF.kept (fun q h1 h2 => hk q (by have h3 : q < o + 6 + 4 := h2; omega))
    replace hRF := hRF.kept (fun q h1 h2 => hk q (by have h3 : q < o + 10 + 1 := h2; omega))
    refine lv_dup hx hb dX6_formula_19 rfl ?_
    refine lv_aload_n hx hb dX6_formula_20 rfl (lv_at hl 0 rfl) ?_
    refine kg (C := RX6) (T := TX6) (N := 12) (ci := 4) (k := 0) (v := .ref (o + 1)) S hK rfl inX6 (by decide) q_124 dX6_formula_21 hX rfl rfl ?_
    refine lv_aload_n hx hb dX6_formula_24 rfl (lv_at hl 0 rfl) ?_
    refine kg (C := RX6) (T := TX6) (N := 12) (ci := 4) (k := 1) (v := .int (nI (σ.1 1))) S hK rfl inX6 (by decide) q_125 dX6_formula_25 hX rfl rfl ?_
    refine ctI (rest := [.ref nb]) S hK (c_X3_init l G nb (o + 1) (σ.1 1)) cw_X6_122 rfl ⟨Nat.le_of_ble_eq_true rfl, Nat.le_of_ble_eq_true rfl⟩ ⟨Nat.le_of_ble_eq_true rfl, Nat.le_of_ble_eq_true rfl⟩ hl.1 rfl (Nat.le_of_ble_eq_true rfl) dX6_formula_28 hT hS (fun q h => by omega) (fun H locs hPost hz2 hk hS => ?_)
    have hT := hPost
    replace hX := hX.over hk (fun q h1 h2 => by have h3 : q < o + 6 := h2; intro hA1; omega)
    replace hF := hF.over hk (fun q h1 h2 => by have h3 : q < o + 6 + 4 := h2; intro hA1; omega)
    replace hRF := hRF.over hk (fun q h1 h2 => by have h3 : q < o + 10 + 1 := h2; intro hA1; omega)
    replace hT : bk G nb (ftL G nb (fq (ftb (o + 1) (σ.1 1)) 0 0)) H := hT
    refine lv_astore_n (lv' := [(1, .ref nb), (0, .ref o)]) hx hb dX6_formula_31 rfl hl (by decide) rfl (fun ls hl => ?_)
    refine lv_aload_n hx hb dX6_formula_32 rfl (lv_at hl 1 rfl) ?_
    refine lv_iconst (v := nI 0) hx hb dX6_formula_33 (by decide) ?_
    refine kp (C := RX6) (T := TX6) (N := 12) (ci := 4) (k := 1) (ty := .int) tyX6 tyX6_ok nmX6 S hK rfl inX6 (by decide) q_125 rfl dX6_formula_34 rfl rfl rfl hX rfl (Nat.le_of_ble_eq_true rfl) (L1 := xL G o (uS σ 1 0)) rfl hS (by first | exact ⟨by omega, by omega⟩ | omega) (fun H locs hX hS hz2 hk => ?_)
    replace hF := hF.kept (fun q h1 h2 => hk q (by have h3 : q < o + 6 + 4 := h2; omega))
    replace hRF := hRF.kept (fun q h1 h2 => hk q (by have h3 : q < o + 10 + 1 := h2; omega))
    replace hT := hT.kept (fun q h1 h2 => hk q (by have h3 : q < nb + 1 := h2; omega))
    refine lv_aload_n hx hb dX6_formula_37 rfl (lv_at hl 0 rfl) ?_
    have hTP : bk G ((ftb (o + 1) (σ.1 1)).1 0) (tpL G ((ftb (o + 1) (σ.1 1)).1 0) (uS σ 1 0)) H := bk_tp hX
    rcases hpt : pT (mT (μ.2.1 21) (μ.1 22) 0) 200 0 0 0 0 1 with ⟨vT, p2, w2⟩
    obtain ⟨hm1, hm2⟩ := tp_M hpt
    obtain ⟨-, hp2, -, hw2⟩ := pT_k hpt (Nat.zero_le _) (by decide) (by decide)
    replace hp2 : p2 ≤ μ.1 22 := hp2
    refine ctV (rest := []) S hK (c_X3_truthOfAll l G nb (ftb (o + 1) (σ.1 1)) (uS σ 1 0) 0 o 0 vT p2 w2 (show σ.1 1 ≤ 40 by omega) (show ∀ i, i < σ.1 1 → σ.2.1 0 i < 256 from fun i hi => by rw [hT2]; exact hit.2 i (by omega)) (show o + 1 + 1 ≤ nb by omega) (by omega) (show pT (mT (σ.2.1 0) (σ.1 1) 0) 200 0 0 0 0 1 = _ from by rw [hT1, hT2]; exact hpt)) cw_X6_125 rfl ⟨Nat.le_of_ble_eq_true rfl, Nat.le_of_ble_eq_true rfl⟩ ⟨Nat.le_of_ble_eq_true rfl, Nat.le_of_ble_eq_true rfl⟩ (bk.recv hK hT rfl rfl) hl.1 rfl (Nat.le_of_ble_eq_true rfl) dX6_formula_38 ⟨hT, hTP, (gLH_S hLH hS (fun q h1 h2 => by omega))⟩ hS (fun q h => by omega) (fun H locs hPost hz hk hS => ?_)
    obtain ⟨hT, hTP⟩ := hPost
    replace hX := hX.over hk (fun q h1 h2 => by have h3 : q < o + 6 := h2; intro hA1; omega)
    replace hF := hF.over hk (fun q h1 h2 => by have h3 : q < o + 6 + 4 := h2; intro hA1; omega)
    replace hRF := hRF.over hk (fun q h1 h2 => by have h3 : q < o + 10 + 1 := h2; intro hA1; omega)
    replace hT : bk G nb (ftL G nb (fq (ftb (o + 1) (σ.1 1)) p2 (if w2 = 0 ∨ p2 < σ.1 1 then p2 + 1 else 0))) H := hT
    refine lv_lstore_n (lv' := [(2, .long (lN vT)), (1, .ref nb), (0, .ref o)]) hx hb dX6_formula_41 rfl hl (by decide) rfl (fun ls hl => ?_)
    refine lv_aload_n hx hb dX6_formula_42 rfl (lv_at hl 1 rfl) ?_
    refine kg (C := RX3) (T := TX3) (N := 4) (ci := 2) (k := 3) (v := .int (flt (if w2 = 0 ∨ p2 < σ.1 1 then p2 + 1 else 0))) S hK rfl inX3 (by decide) q_350 dX6_formula_43 hT rfl rfl ?_
    refine lv_iconst (v := (-1)) hx hb dX6_formula_46 (by decide) ?_
    refine lv_icmp_eq (tgt := 58) hx hb dX6_formula_47 (by decide) (fun c_47 => ?_) (fun c_47 => ?_)
    ·
      have hgd : ¬ (w2 = 0 ∨ p2 < σ.1 1) := by
        intro z
        rw [if_pos z] at c_47
        exact neg1_ne (n := p2) (by omega) c_47.symm
      have hv := fm_T hpt (fun z => hgd (Or.inl z))
      refine lv_aload_n hx hb dX6_formula_58 rfl (lv_at hl 2 rfl) ?_
      refine kg (C := RX6) (T := TX6) (N := 12) (ci := 4) (k := 4) (v := .ref (o + 3)) S hK rfl inX6 (by decide) q_128 dX6_formula_59 hX rfl rfl ?_
      refine lv_aload_n hx hb dX6_formula_62 rfl (lv_at hl 2 rfl) ?_
      refine kg (C := RX6) (T := TX6) (N := 12) (ci := 4) (k := 5) (v := .int (nI (σ.1 5))) S hK rfl inX6 (by decide) q_129 dX6_formula_63 hX rfl rfl ?_
      refine lv_lload_n hx hb dX6_formula_66 rfl (lv_at hl 0 rfl) ?_
      refine kls S hK dX6_formula_67 3 hX rfl (by decide) rfl (show σ.1 5 < 20 by omega) rfl (L1 := xL G o (uA (uS σ 1 0) 4 (σ.1 5) vT)) rfl hS (by first | exact ⟨by omega, by omega⟩ | omega) (fun H locs hX hS hz2 hk => ?_)
      replace hF := hF.kept (fun q h1 h2 => hk q (by have h3 : q < o + 6 + 4 := h2; omega))
      replace hRF := hRF.kept (fun q h1 h2 => hk q (by have h3 : q < o + 10 + 1 := h2; omega))
      replace hT := hT.kept (fun q h1 h2 => hk q (by have h3 : q < nb + 1 := h2; omega))
      refine lv_aload_n hx hb dX6_formula_68 rfl (lv_at hl 2 rfl) ?_
      refine lv_dup hx hb dX6_formula_69 rfl ?_
      refine kg (C := RX6) (T := TX6) (N := 12) (ci := 4) (k := 5) (v := .int (nI (σ.1 5))) S hK rfl inX6 (by decide) q_129 dX6_formula_70 hX rfl rfl ?_
      refine lv_iconst (v := nI 1) hx hb dX6_formula_73 (by decide) ?_
      refine n_iadd hx hb dX6_formula_74 ?_
      refine kp (C := RX6) (T := TX6) (N := 12) (ci := 4) (k := 5) (ty := .int) tyX6 tyX6_ok nmX6 S hK rfl inX6 (by decide) q_129 rfl dX6_formula_75 rfl rfl rfl hX rfl (Nat.le_of_ble_eq_true rfl) (L1 := xL G o (uS (uA (uS σ 1 0) 4 (σ.1 5) vT) 5 ((σ.1 5) + 1))) rfl hS (by first | exact ⟨by omega, by omega⟩ | omega) (fun H locs hX hS hz2 hk => ?_)
      replace hF := hF.kept (fun q h1 h2 => hk q (by have h3 : q < o + 6 + 4 := h2; omega))
      replace hRF := hRF.kept (fun q h1 h2 => hk q (by have h3 : q < o + 10 + 1 := h2; omega))
      replace hT := hT.kept (fun q h1 h2 => hk q (by have h3 : q < nb + 1 := h2; omega))
      refine lv_aload_n hx hb dX6_formula_78 rfl (lv_at hl 2 rfl) ?_
      refine kg (C := RX6) (T := TX6) (N := 12) (ci := 4) (k := 5) (v := .int (nI ((σ.1 5) + 1))) S hK rfl inX6 (by decide) q_129 dX6_formula_79 hX rfl rfl ?_
      refine lv_iconst (v := nI 1) hx hb dX6_formula_82 (by decide) ?_
      refine n_isub hx hb dX6_formula_83 (by omega) ?_
      refine w_top (v' := .int (nI (σ.1 5))) (congrArg (fun z => Value.int (nI z)) (show σ.1 5 + 1 - 1 = σ.1 5 by omega)) ?_
      have hr : formula_M μ = ((nI (σ.1 5)), fmS μ) := by unfold formula_M; rw [if_neg (by omega), hm1, hm2, if_pos ⟨fun z => hgd (Or.inl z), by omega⟩, hF1]
      refine w_top (v' := .int ((formula_M μ).1)) (congrArg (fun z => Value.int z) (congrArg Prod.fst hr).symm) ?_
      have hcw := CW_r (G := G) (o := o) (om := om) hr (CW_x hCW hS (fun q h => by omega) hX hF hRF (RX_fm hRX hif hv) (KP_fm μ))
      exact hE _ _ _ _ _ _ (kr_i dX6_formula_84) hS (by decide) (by decide) hcw
    ·
      have hgd : w2 = 0 ∨ p2 < σ.1 1 := by
        by_cases z : w2 = 0 ∨ p2 < σ.1 1
        · exact z
        · rw [if_neg z] at c_47
          exact absurd rfl c_47
      have hfe : flt (if w2 = 0 ∨ p2 < σ.1 1 then p2 + 1 else 0) = nI p2 := by rw [if_pos hgd]; rfl
      refine lv_bipush (v := (-20)) hx hb dX6_formula_50 (by decide) ?_
      refine lv_aload_n hx hb dX6_formula_52 rfl (lv_at hl 1 rfl) ?_
      refine kg (C := RX3) (T := TX3) (N := 4) (ci := 2) (k := 3) (v := .int (flt (if w2 = 0 ∨ p2 < σ.1 1 then p2 + 1 else 0))) S hK rfl inX3 (by decide) q_350 dX6_formula_53 hT rfl rfl ?_
      refine lv_isub hx hb dX6_formula_56 ?_
      have hr : formula_M μ = (((-20) - (flt (if w2 = 0 ∨ p2 < σ.1 1 then p2 + 1 else 0))), uS μ 22 0) := by unfold formula_M; rw [if_neg (by omega), hm1, hm2, if_neg (by rintro ⟨z1, z2⟩; rcases hgd with y | y <;> omega), hfe]
      refine w_top (v' := .int ((formula_M μ).1)) (congrArg (fun z => Value.int z) (congrArg Prod.fst hr).symm) ?_
      have hcw := CW_r (G := G) (o := o) (om := om) hr (CW_x hCW hS (fun q h => by omega) hX hF hRF (⟨⟨rfl, hT2⟩, ⟨hP1, hP2⟩, FX_c ⟨hF1, hF2⟩ rfl rfl rfl rfl rfl, ⟨hN1, hN2⟩, ⟨hR1, hR2⟩, ⟨hL1, hL2, hL3, hL4⟩, hRR⟩) (⟨⟨rfl, rfl⟩, ⟨rfl, rfl, rfl, rfl⟩, rfl, rfl, rfl, rfl, rfl⟩))
      exact hE _ _ _ _ _ _ (kr_i dX6_formula_57) hS (by decide) (by decide) hcw
  ·
    refine lv_aload_n hx hb dX6_formula_9 rfl (lv_at hl 0 rfl) ?_
    refine lv_bipush (v := (-6)) hx hb dX6_formula_10 (by decide) ?_
    refine ctV (rest := []) S hK (c_X6_refuse l G o σ ρ (-6) 6 rfl (by decide)) cw_X6_42 rfl ⟨Nat.le_of_ble_eq_true rfl, Nat.le_of_ble_eq_true rfl⟩ ⟨Nat.le_of_ble_eq_true rfl, Nat.le_of_ble_eq_true rfl⟩ (bk.recv hK hX rfl rfl) hl.1 rfl (Nat.le_of_ble_eq_true rfl) dX6_formula_12 ⟨hX, hRF⟩ hS (fun _ h => by first | exact h | omega) (fun H locs hPost hz2 hk hS => ?_)
    obtain ⟨hX, hRF⟩ := hPost
    replace hF := hF.over hk (fun q h1 h2 => by have h3 : q < o + 6 + 4 := h2; intro hA1; omega)
    have hr : formula_M μ = ((-6), rfM μ 6) := by unfold formula_M; rw [if_pos (by omega)]
    refine w_top (v' := .int ((formula_M μ).1)) (congrArg (fun z => Value.int z) (congrArg Prod.fst hr).symm) ?_
    have hcw := CW_r (G := G) (o := o) (om := om) hr (CW_x hCW hS (fun q h => by omega) hX hF hRF (RX_rf hRX) (KP_rf μ _))
    exact hE _ _ _ _ _ _ (kr_i dX6_formula_15) hS (by decide) (by decide) hcw
