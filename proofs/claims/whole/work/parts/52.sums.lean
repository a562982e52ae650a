
/-! the sums over a NET's STATES: the class's way is the reference's -/
theorem one_tb {x b : Nat} : (1 <<< x).testBit b = true ↔ x = b := by
  rw [Nat.one_shiftLeft, Nat.testBit_two_pow, decide_eq_true_eq]
theorem slO_tb {g : Nat → Nat} {b : Nat} : ∀ f, (slO g f).testBit b = true ↔ ∃ i, i < f ∧ g i = b
  | 0 => by
    refine ⟨fun h => ?_, fun ⟨i, hi, _⟩ => absurd hi (Nat.not_lt_zero i)⟩
    rw [show slO g 0 = 0 from rfl, Nat.zero_testBit] at h
    exact absurd h (by decide)
  | f + 1 => by
    rw [show slO g (f + 1) = slO g f ||| 1 <<< g f from rfl, Nat.testBit_or, Bool.or_eq_true, slO_tb f, one_tb]
    constructor
    · rintro (⟨i, hi, e⟩ | e)
      · exact ⟨i, by omega, e⟩
      · exact ⟨f, by omega, e⟩
    · rintro ⟨i, hi, e⟩
      by_cases ei : i = f
      · exact Or.inr (ei ▸ e)
      · exact Or.inl ⟨i, by omega, e⟩
theorem bO_tb {g : Nat → Nat} {s b : Nat} : ∀ f, (bO g s f).testBit b = true ↔ ∃ i, i < f ∧ s.testBit i = true ∧ g i = b
  | 0 => by
    refine ⟨fun h => ?_, fun ⟨i, hi, _⟩ => absurd hi (Nat.not_lt_zero i)⟩
    rw [show bO g s 0 = 0 from rfl, Nat.zero_testBit] at h
    exact absurd h (by decide)
  | f + 1 => by
    by_cases hz : s >>> f &&& 1 = 0
    · rw [bO_0 hz, bO_tb f]
      have hz2 := tb0.mp hz
      constructor
      · rintro ⟨i, hi, e⟩
        exact ⟨i, by omega, e⟩
      · rintro ⟨i, hi, e, e2⟩
        by_cases ei : i = f
        · rw [ei, hz2] at e
          exact absurd e (by decide)
        · exact ⟨i, by omega, e, e2⟩
    · have hz2 := tb1.mp hz
      rw [bO_1 hz, Nat.testBit_or, Bool.or_eq_true, bO_tb f, one_tb]
      constructor
      · rintro (⟨i, hi, e⟩ | e)
        · exact ⟨i, by omega, e⟩
        · exact ⟨f, by omega, hz2, e⟩
      · rintro ⟨i, hi, e, e2⟩
        by_cases ei : i = f
        · exact Or.inr (ei ▸ e2)
        · exact Or.inl ⟨i, by omega, e, e2⟩
theorem bZ_tb {g : Nat → Nat} {s b : Nat} : ∀ f, (bZ g s f).testBit b = true ↔ ∃ i, i < f ∧ s.testBit i = false ∧ g i = b
  | 0 => by
    refine ⟨fun h => ?_, fun ⟨i, hi, _⟩ => absurd hi (Nat.not_lt_zero i)⟩
    rw [show bZ g s 0 = 0 from rfl, Nat.zero_testBit] at h
    exact absurd h (by decide)
  | f + 1 => by
    by_cases hz : s >>> f &&& 1 = 0
    · have hz2 := tb0.mp hz
      rw [bZ_0 hz, Nat.testBit_or, Bool.or_eq_true, bZ_tb f, one_tb]
      constructor
      · rintro (⟨i, hi, e⟩ | e)
        · exact ⟨i, by omega, e⟩
        · exact ⟨f, by omega, hz2, e⟩
      · rintro ⟨i, hi, e, e2⟩
        by_cases ei : i = f
        · exact Or.inr (ei ▸ e2)
        · exact Or.inl ⟨i, by omega, e, e2⟩
    · rw [bZ_1 hz, bZ_tb f]
      have hz2 := tb1.mp hz
      constructor
      · rintro ⟨i, hi, e⟩
        exact ⟨i, by omega, e⟩
      · rintro ⟨i, hi, e, e2⟩
        by_cases ei : i = f
        · rw [ei, hz2] at e
          exact absurd e (by decide)
        · exact ⟨i, by omega, e, e2⟩
theorem z_tb {a : Nat} : a = 0 ↔ ∀ b, a.testBit b = false := ⟨fun h b => by rw [h]; exact Nat.zero_testBit b, fun h => Nat.eq_of_testBit_eq fun b => by rw [h b, Nat.zero_testBit]⟩
def xv (st lk : Nat) : Nat := lk ||| st <<< 12
abbrev agr (st lk kn va : Nat) : Prop := (va ^^^ xv st lk) &&& kn = 0
theorem agr_i {st lk kn va : Nat} : agr st lk kn va ↔ ∀ b, kn.testBit b = true → va.testBit b = (xv st lk).testBit b := by
  unfold agr
  rw [z_tb]
  constructor
  · intro h b hb
    have q := h b
    rw [Nat.testBit_and, Nat.testBit_xor, hb, Bool.and_true] at q
    revert q
    cases va.testBit b <;> cases (xv st lk).testBit b <;> decide
  · intro h b
    rw [Nat.testBit_and, Nat.testBit_xor]
    cases hb : kn.testBit b
    · rw [Bool.and_false]
    · rw [h b hb, Bool.xor_self]
      rfl
theorem xv_hi {st lk b : Nat} (h : lk < 2 ^ 12) (hb : 12 ≤ b) : (xv st lk).testBit b = st.testBit (b - 12) := by
  unfold xv
  rw [Nat.testBit_or, Nat.testBit_shiftLeft, decide_eq_true hb, Nat.testBit_lt_two_pow (Nat.lt_of_lt_of_le h (Nat.pow_le_pow_right (by decide) hb)), Bool.true_and, Bool.false_or]
theorem xv_lo {st lk b : Nat} (hb : b < 12) : (xv st lk).testBit b = lk.testBit b := by
  unfold xv
  rw [Nat.testBit_or, Nat.testBit_shiftLeft, decide_eq_false (by omega), Bool.false_and, Bool.or_false]
def pst (F : Nat → Nat) (sl : Nat → Nat → Nat) (st lk k : Nat) : Nat := bo (fun f => (xv st lk).testBit (sl k f)) (F k)
theorem pst_lt (F : Nat → Nat) (sl : Nat → Nat → Nat) (st lk k : Nat) : pst F sl st lk k < 1 <<< F k := by rw [Nat.one_shiftLeft]; exact bo_lt _ _
theorem pst_i {F : Nat → Nat} {sl : Nat → Nat → Nat} {st lk k s : Nat} (hs : s < 1 <<< F k) : pst F sl st lk k = s ↔ ∀ f, f < F k → (xv st lk).testBit (sl k f) = s.testBit f := by
  rw [Nat.one_shiftLeft] at hs
  constructor
  · intro h f hf
    rw [← h]
    unfold pst
    rw [bo_tb, decide_eq_true hf, Bool.true_and]
  · intro h
    apply Nat.eq_of_testBit_eq
    intro b
    unfold pst
    rw [bo_tb]
    by_cases hb : b < F k
    · rw [decide_eq_true hb, Bool.true_and, h b hb]
    · rw [decide_eq_false hb, Bool.false_and, Nat.testBit_lt_two_pow (Nat.lt_of_lt_of_le hs (Nat.pow_le_pow_right (by decide) (by omega)))]
/-- a STATE of a PIECE agrees with itself and with what is known -/
def okC (F : Nat → Nat) (sl : Nat → Nat → Nat) (k s kn va : Nat) : Prop := bO (sl k) s (F k) &&& bZ (sl k) s (F k) = 0 ∧ (bO (sl k) s (F k) ^^^ va) &&& slO (sl k) (F k) &&& kn = 0
theorem okC_1 {F : Nat → Nat} {sl : Nat → Nat → Nat} {k s kn va : Nat} (h : okC F sl k s kn va) {f : Nat} (hf : f < F k) : (bO (sl k) s (F k)).testBit (sl k f) = s.testBit f := by
  cases hz : s.testBit f
  · have hZ := (bZ_tb (g := sl k) (s := s) (F k)).mpr ⟨f, hf, hz, rfl⟩
    have q := z_tb.mp h.1 (sl k f)
    rw [Nat.testBit_and, hZ, Bool.and_true] at q
    exact q
  · exact (bO_tb (F k)).mpr ⟨f, hf, hz, rfl⟩
theorem okC_2 {F : Nat → Nat} {sl : Nat → Nat → Nat} {k s kn va : Nat} (h : okC F sl k s kn va) {b : Nat} (hb : (slO (sl k) (F k)).testBit b = true) (hk : kn.testBit b = true) : va.testBit b = (bO (sl k) s (F k)).testBit b := by
  have q := z_tb.mp h.2 b
  rw [Nat.testBit_and, Nat.testBit_and, Nat.testBit_xor, hb, hk, Bool.and_true, Bool.and_true] at q
  revert q
  cases va.testBit b <;> cases (bO (sl k) s (F k)).testBit b <;> decide
theorem bO_sl {g : Nat → Nat} {s f b : Nat} (h : (slO g f).testBit b = false) : (bO g s f).testBit b = false := by
  cases hz : (bO g s f).testBit b
  · rfl
  · obtain ⟨i, hi, -, e⟩ := (bO_tb f).mp hz
    rw [(slO_tb f).mpr ⟨i, hi, e⟩] at h
    exact absurd h (by decide)
/-- the step: one PIECE more -/
theorem agr_s {F : Nat → Nat} {sl : Nat → Nat → Nat} {st lk k s kn va : Nat} (hv : ∀ b, va.testBit b = true → kn.testBit b = true) (hs : s < 1 <<< F k) : (pst F sl st lk k = s ∧ agr st lk kn va) ↔ (okC F sl k s kn va ∧ agr st lk (kn ||| slO (sl k) (F k)) (va ||| bO (sl k) s (F k))) := by
  rw [pst_i hs, agr_i, agr_i]
  constructor
  · rintro ⟨h1, h2⟩
    have hB : ∀ b, (slO (sl k) (F k)).testBit b = true → (bO (sl k) s (F k)).testBit b = (xv st lk).testBit b := by
      intro b hb
      obtain ⟨f, hf, e⟩ := (slO_tb (F k)).mp hb
      cases hz : (bO (sl k) s (F k)).testBit b
      · cases hx : (xv st lk).testBit b
        · rfl
        · rw [← e, h1 f hf] at hx
          rw [(bO_tb (F k)).mpr ⟨f, hf, hx, e⟩] at hz
          exact absurd hz (by decide)
      · obtain ⟨i, hi, e1, e2⟩ := (bO_tb (F k)).mp hz
        rw [← e2, h1 i hi, e1]
    refine ⟨⟨z_tb.mpr fun b => ?_, z_tb.mpr fun b => ?_⟩, fun b hb => ?_⟩
    · rw [Nat.testBit_and]
      cases ha : (bO (sl k) s (F k)).testBit b
      · rfl
      · cases hc : (bZ (sl k) s (F k)).testBit b
        · rfl
        · obtain ⟨i, hi, e1, e2⟩ := (bO_tb (F k)).mp ha
          obtain ⟨j, hj, g1, g2⟩ := (bZ_tb (F k)).mp hc
          have q1 := h1 i hi
          have q2 := h1 j hj
          rw [e2, e1] at q1
          rw [g2, g1, q1] at q2
          exact absurd q2 (by decide)
    · rw [Nat.testBit_and, Nat.testBit_and, Nat.testBit_xor]
      cases hb : (slO (sl k) (F k)).testBit b
      · rw [Bool.and_false, Bool.false_and]
      · cases hk : kn.testBit b
        · rw [Bool.and_false]
        · rw [hB b hb, h2 b hk, Bool.xor_self]
          rfl
    · rw [Nat.testBit_or, Bool.or_eq_true] at hb
      rw [Nat.testBit_or]
      cases hsb : (slO (sl k) (F k)).testBit b
      · rw [bO_sl hsb, Bool.or_false]
        exact h2 b (hb.resolve_right (by rw [hsb]; decide))
      · rw [hB b hsb]
        cases hk : kn.testBit b
        · have hva : va.testBit b = false := by
            cases hz : va.testBit b
            · rfl
            · rw [hv b hz] at hk
              exact absurd hk (by decide)
          rw [hva, Bool.false_or]
        · rw [h2 b hk, Bool.or_self]
  · rintro ⟨h1, h2⟩
    have hB : ∀ b, (slO (sl k) (F k)).testBit b = true → (bO (sl k) s (F k)).testBit b = (xv st lk).testBit b := by
      intro b hb
      have q := h2 b (by rw [Nat.testBit_or, hb, Bool.or_true])
      rw [Nat.testBit_or] at q
      cases hk : kn.testBit b
      · have hva : va.testBit b = false := by
          cases hz : va.testBit b
          · rfl
          · rw [hv b hz] at hk
            exact absurd hk (by decide)
        rw [hva, Bool.false_or] at q
        exact q
      · rw [okC_2 h1 hb hk, Bool.or_self] at q
        exact q
    refine ⟨fun f hf => ?_, fun b hk => ?_⟩
    · rw [← hB _ ((slO_tb (F k)).mpr ⟨f, hf, rfl⟩)]
      exact okC_1 h1 hf
    · cases hb : (slO (sl k) (F k)).testBit b
      · have q := h2 b (by rw [Nat.testBit_or, hk, Bool.true_or])
        rw [Nat.testBit_or, bO_sl hb, Bool.or_false] at q
        exact q
      · rw [okC_2 h1 hb hk]
        exact hB b hb
/-- what is known before PIECE k -/
def IVk (F : Nat → Nat) (sl : Nat → Nat → Nat) (P L st k kn va : Nat) : Prop := (∀ b, va.testBit b = true → kn.testBit b = true) ∧ (∀ b, 12 ≤ b → kn.testBit b = true → va.testBit b = st.testBit (b - 12)) ∧ (∀ j, j < P → ∀ f, f < F j → 12 ≤ sl j f → kn.testBit (sl j f) = true) ∧ (∀ b, b < 12 → kn.testBit b = true → b < L) ∧ ∀ j, j < k → ∀ f, f < F j → kn.testBit (sl j f) = true
theorem IVk_s {F : Nat → Nat} {sl : Nat → Nat → Nat} {P L st k kn va s : Nat} (hsl : ∀ j, j < P → ∀ f, f < F j → sl j f < 12 → sl j f < L) (hk : k < P) (h : IVk F sl P L st k kn va) (hok : okC F sl k s kn va) : IVk F sl P L st (k + 1) (kn ||| slO (sl k) (F k)) (va ||| bO (sl k) s (F k)) := by
  obtain ⟨h1, h2, h3, h4, h5⟩ := h
  refine ⟨fun b hb => ?_, fun b hb12 hb => ?_, fun j hj f hf q => ?_, fun b hb12 hb => ?_, fun j hj f hf => ?_⟩
  · rw [Nat.testBit_or, Bool.or_eq_true] at hb ⊢
    refine hb.imp (h1 b) (fun z => ?_)
    obtain ⟨i, hi, -, e⟩ := (bO_tb (F k)).mp z
    exact (slO_tb (F k)).mpr ⟨i, hi, e⟩
  · have hkb : kn.testBit b = true := by
      rw [Nat.testBit_or, Bool.or_eq_true] at hb
      rcases hb with z | z
      · exact z
      · obtain ⟨i, hi, e⟩ := (slO_tb (F k)).mp z
        rw [← e]
        exact h3 k hk i hi (by omega)
    rw [Nat.testBit_or]
    cases hsb : (slO (sl k) (F k)).testBit b
    · rw [bO_sl hsb, Bool.or_false]
      exact h2 b hb12 hkb
    · rw [← okC_2 hok hsb hkb, Bool.or_self]
      exact h2 b hb12 hkb
  · rw [Nat.testBit_or, h3 j hj f hf q, Bool.true_or]
  · rw [Nat.testBit_or, Bool.or_eq_true] at hb
    rcases hb with z | z
    · exact h4 b hb12 z
    · obtain ⟨i, hi, e⟩ := (slO_tb (F k)).mp z
      rw [← e]
      exact hsl k hk i hi (by omega)
  · rw [Nat.testBit_or]
    by_cases e : j = k
    · subst e
      rw [(slO_tb (F j)).mpr ⟨f, hf, rfl⟩, Bool.or_true]
    · rw [h5 j (by omega) f hf, Bool.true_or]
/-- at the end all is known: one STATE of the LINKS -/
theorem IVk_e {F : Nat → Nat} {sl : Nat → Nat → Nat} {P L st kn va : Nat} (hL : L ≤ 12) (hcov : ∀ b, b < L → ∃ j, j < P ∧ ∃ f, f < F j ∧ sl j f = b) (h : IVk F sl P L st P kn va) : ∀ lk, lk < 1 <<< L → (agr st lk kn va ↔ lk = va % 2 ^ L) := by
  obtain ⟨h1, h2, h3, h4, h5⟩ := h
  intro lk hlk
  rw [Nat.one_shiftLeft] at hlk
  have hlk12 : lk < 2 ^ 12 := Nat.lt_of_lt_of_le hlk (Nat.pow_le_pow_right (by decide) hL)
  rw [agr_i]
  constructor
  · intro h
    apply Nat.eq_of_testBit_eq
    intro b
    rw [Nat.testBit_mod_two_pow]
    by_cases hb : b < L
    · obtain ⟨j, hj, f, hf, e⟩ := hcov b hb
      have q := h b (by rw [← e]; exact h5 j hj f hf)
      rw [xv_lo (by omega)] at q
      rw [decide_eq_true hb, Bool.true_and, q]
    · rw [decide_eq_false hb, Bool.false_and, Nat.testBit_lt_two_pow (Nat.lt_of_lt_of_le hlk (Nat.pow_le_pow_right (by decide) (by omega)))]
  · intro e b hb
    by_cases hb12 : b < 12
    · rw [xv_lo hb12, e, Nat.testBit_mod_two_pow, decide_eq_true (h4 b hb12 hb), Bool.true_and]
    · rw [xv_hi hlk12 (by omega)]
      exact h2 b (by omega) hb
