
/-! the law's world: both sides at once -/
theorem bk_m {G : Gt} {b om : Nat} {L : List va_E} {H H1 : Heap} (h : bk G b L H) (hk : ∀ q : Nat, q < H.size → ¬ (om ≤ q ∧ q < om + 20) → H1[q]? = H[q]?) (hA : b + L.length ≤ om ∨ om + 20 ≤ b) : bk G b L H1 := by
  refine h.kept fun q h1 h2 => hk q ?_ (by omega)
  have := h.lt (k := q - b) (by omega)
  omega
theorem gLH_m {G : Gt} {o om : Nat} {H H1 : Heap} (h : gLH G o H) (hk : ∀ q : Nat, q < H.size → ¬ (om ≤ q ∧ q < om + 20) → H1[q]? = H[q]?) (ho : o ≤ om) : gLH G o H1 := by
  obtain ⟨⟨h1, h2⟩, h3, h4, h5, h6, h7⟩ := h
  refine ⟨⟨h1, h2⟩, ?_, ?_, h5, h6, h7⟩
  · rw [hk _ (Array.getElem?_eq_some_iff.mp h3).1 (by omega)]; exact h3
  · rw [hk _ (Array.getElem?_eq_some_iff.mp h4).1 (by omega)]; exact h4
/-- the reference writes: the class's world stays -/
theorem CW_ml {G : Gt} {o om : Nat} {μ : Sx} {H H1 : Heap} (h : CW G o om μ H) (hz : H.size ≤ H1.size) (hk : ∀ q : Nat, q < H.size → ¬ (om ≤ q ∧ q < om + 20) → H1[q]? = H[q]?) : CW G o om μ H1 := by
  obtain ⟨pa, na, ⟨h1, h2, h3⟩, x, φ, ρ, qX, qF, qR, hRX, hB, hN, hAP⟩ := h
  refine ⟨pa, na, ⟨h1, Nat.le_trans h2 hz, gLH_m h3 hk (by omega)⟩, x, φ, ρ, bk_m qX hk (Or.inl (by show o + 6 ≤ om; omega)), bk_m qF hk (Or.inl (by show o + 6 + 4 ≤ om; omega)), bk_m qR hk (Or.inl (by show o + 10 + 1 ≤ om; omega)), hRX, fun p hp => ?_, fun n hn => ?_, hAP⟩
  · obtain ⟨g1, β, g2, g3⟩ := hB p hp
    exact ⟨g1, β, bk_m g2 hk (Or.inr g1), g3⟩
  · obtain ⟨g1, ν, g2, g3⟩ := hN n hn
    exact ⟨g1, ν, bk_m g2 hk (Or.inr g1), g3⟩
/-- the law's world: one state for both -/
def LW (G : Gt) (o om : Nat) (H : Heap) : Prop := ∃ μ : Sx, IV μ ∧ CW G o om μ H ∧ bk G om (mL G om μ) H
/-- between the two calls: the class is at ν, the reference still at μ -/
def LM (G : Gt) (o om : Nat) (μ ν : Sx) (H : Heap) : Prop := CW G o om ν H ∧ bk G om (mL G om μ) H
section LKX
variable {l : Launch} {G : Gt} {o om : Nat} {μ ν : Sx} {y : MethodName} {cc : ByteArray} {mX : Nat} {ret : Option FieldType} {f mc ms : Nat} {av : List Value} {r : Option Value}
theorem mL_k {H H1 : Heap} {A : Nat → Prop} (h : bk G om (mL G om μ) H) (hk : ∀ q : Nat, q < H.size → ¬ A q → H1[q]? = H[q]?) (hA : ∀ q : Nat, om ≤ q → q < om + 20 → q < H.size → ¬ A q) : bk G om (mL G om μ) H1 := by
  refine h.kept fun q h1 h2 => ?_
  have hl : q < H.size := by
    have := h.lt (k := q - om) (by omega)
    omega
  exact hk q hl (hA q h1 h2 hl)
theorem lx_0 (h : ∀ pa na : Nat → Nat, Ct l G y cc mX ret f mc ms av (fun H => CWx G o om μ pa na H) r (fun H => CW G o om ν H) (fun q => o ≤ q ∧ q < o + 11)) : Ct l G y cc mX ret f mc ms av (fun H => LM G o om μ μ H) r (fun H => LM G o om μ ν H) (fun q => o ≤ q) := by
  refine ct_w (ct_ex (Pre := fun (i : (Nat → Nat) × (Nat → Nat)) H => CWx G o om μ i.1 i.2 H ∧ bk G om (mL G om μ) H) (fun i => ct_w (h i.1 i.2) (Post' := fun H => LM G o om μ ν H) (A' := fun q => o ≤ q) (fun H q => q.1) (fun H H1 q1 q2 q3 q4 => ⟨q2, mL_k q1.2 q4 (fun q g1 g2 g3 g4 => by have := q1.1.1.1; omega)⟩) (fun H q1 q g => g.1))) (fun H q => ?_) (fun H H1 q1 q2 q3 q4 => q2) (fun H q1 q g => g)
  obtain ⟨⟨pa, na, q1⟩, q2⟩ := q
  exact ⟨(pa, na), q1, q2⟩
theorem lx_n (h : ∀ (pa na : Nat → Nat) (nb : Nat), Ct l G y cc mX ret f mc ms av (fun H => CWx G o om μ pa na H ∧ H.size = nb) r (fun H => CW G o om ν H) (fun q => (o ≤ q ∧ q < o + 11) ∨ nb ≤ q)) : Ct l G y cc mX ret f mc ms av (fun H => LM G o om μ μ H) r (fun H => LM G o om μ ν H) (fun q => o ≤ q) := by
  refine ct_w (ct_ex (Pre := fun (i : (Nat → Nat) × (Nat → Nat) × Nat) H => (CWx G o om μ i.1 i.2.1 H ∧ H.size = i.2.2) ∧ bk G om (mL G om μ) H) (fun i => ct_w (h i.1 i.2.1 i.2.2) (Post' := fun H => LM G o om μ ν H) (A' := fun q => o ≤ q) (fun H q => q.1) (fun H H1 q1 q2 q3 q4 => ⟨q2, mL_k q1.2 q4 (fun q g1 g2 g3 g4 => by have := q1.1.1.1.1; have := q1.1.2; omega)⟩) (fun H q1 q g => by have := q1.1.1.1.1; have := q1.1.1.1.2.1; have := q1.1.2; omega))) (fun H q => ?_) (fun H H1 q1 q2 q3 q4 => q2) (fun H q1 q g => g)
  obtain ⟨⟨pa, na, q1⟩, q2⟩ := q
  exact ⟨(pa, na, H.size), ⟨q1, rfl⟩, q2⟩
theorem lx_p {n : Int32} (h : ∀ pa na : Nat → Nat, Ct l G y cc mX ret f mc ms av (fun H => CWx G o om μ pa na H) r (fun H => CW G o om ν H) (fun q => (o ≤ q ∧ q < o + 11) ∨ (inI n (μ.1 18) = true ∧ na (cx n) ≤ q ∧ q < na (cx n) + 4))) : Ct l G y cc mX ret f mc ms av (fun H => LM G o om μ μ H) r (fun H => LM G o om μ ν H) (fun q => o ≤ q) := by
  have key : ∀ (pa na : Nat → Nat) (H : Heap), CWx G o om μ pa na H → inI n (μ.1 18) = true → o + 11 ≤ om ∧ om + 20 ≤ na (cx n) := by
    intro pa na H q1 q2
    obtain ⟨⟨h1, -, -⟩, x, φ, ρ, -, -, -, -, -, hN, -⟩ := q1
    exact ⟨h1, (hN _ (inI_t q2).2).1⟩
  refine ct_w (ct_ex (Pre := fun (i : (Nat → Nat) × (Nat → Nat)) H => CWx G o om μ i.1 i.2 H ∧ bk G om (mL G om μ) H) (fun i => ct_w (h i.1 i.2) (Post' := fun H => LM G o om μ ν H) (A' := fun q => o ≤ q) (fun H q => q.1) (fun H H1 q1 q2 q3 q4 => ⟨q2, mL_k q1.2 q4 (fun q g1 g2 g3 g4 => ?_)⟩) (fun H q1 q g => ?_))) (fun H q => ?_) (fun H H1 q1 q2 q3 q4 => q2) (fun H q1 q g => g)
  · rcases g4 with g4 | ⟨g4, g5, g6⟩
    · have := q1.1.1.1
      omega
    · have := key _ _ _ q1.1 g4
      omega
  · rcases g with g | ⟨g4, g5, g6⟩
    · exact g.1
    · have := key _ _ _ q1.1 g4
      omega
  · obtain ⟨⟨pa, na, q1⟩, q2⟩ := q
    exact ⟨(pa, na), q1, q2⟩
theorem lm_e (hI : IV ν) (h : Ct l G y cc mX ret f mc ms av (fun H => bk G om (mL G om μ) H) r (fun H => bk G om (mL G om ν) H) (fun q => om ≤ q ∧ q < om + 20)) : Ct l G y cc mX ret f mc ms av (fun H => LM G o om μ ν H) r (fun H => LW G o om H) (fun q => o ≤ q) :=
  ct_w h (fun H q => q.2) (fun H H1 q1 q2 q3 q4 => ⟨ν, hI, CW_ml q1.1 q3 q4, q2⟩) (fun H q1 q g => by
    obtain ⟨pa, na, ⟨h1, -, -⟩, -⟩ := q1.1
    omega)
theorem lm_v (hI : IV ν) (h : Ct l G y cc mX ret f mc ms av (fun H => bk G om (mL G om μ) H) r (fun H => ∃ σ : Sx, bk G om (mL G om σ) H ∧ vis σ ν) (fun q => om ≤ q ∧ q < om + 20)) : Ct l G y cc mX ret f mc ms av (fun H => LM G o om μ ν H) r (fun H => LW G o om H) (fun q => o ≤ q) :=
  ct_w h (fun H q => q.2) (fun H H1 q1 q2 q3 q4 => by
    obtain ⟨σ, g1, g2⟩ := q2
    exact ⟨σ, IV_vis g2 hI, CW_vis g2 (CW_ml q1.1 q3 q4), g1⟩) (fun H q1 q g => by
    obtain ⟨pa, na, ⟨h1, -, -⟩, -⟩ := q1.1
    omega)
theorem lm_s (hI : IV ν) (h : Ct l G y cc mX ret f mc ms av (fun H => bk G om (mL G om μ) H) r (fun H => ∃ σ : Sx, bk G om (mL G om σ) H ∧ scr σ ν) (fun q => om ≤ q ∧ q < om + 20)) : Ct l G y cc mX ret f mc ms av (fun H => LM G o om μ ν H) r (fun H => LW G o om H) (fun q => o ≤ q) :=
  lm_v hI (ct_w h (fun H q => q) (fun H H1 q1 q2 q3 q4 => by
    obtain ⟨σ, g1, g2⟩ := q2
    exact ⟨σ, g1, vis_s g2⟩) (fun H q1 q g => g))
theorem lm_r (hI : IV μ) (h : Cr l G y cc mX ret f av (fun H => bk G om (mL G om μ) H) r) : Ct l G y cc mX ret f 0 0 av (fun H => LM G o om μ μ H) r (fun H => LW G o om H) (fun q => o ≤ q) := by
  intro p e a1 a2 a3 s m args below a4 a5 a6 a7
  obtain ⟨n, o', b1, b2, b3, ⟨c1, c2⟩, L, c4, c5⟩ := h p e a1 a2 a3 s m args below a4 a5 ⟨a6.1, a6.2.1, a6.2.2.2⟩ a7
  refine ⟨n, o', b1, b2, b3, ⟨⟨c1, ?_⟩, ?_⟩, L, c4, fun q hq => (c5 q hq).elim⟩
  · rw [c2]
    exact ⟨μ, hI, a6.2.2.1, a6.2.2.2⟩
  · exact ⟨by rw [c2]; exact Nat.le_refl _, fun q _ _ => by rw [c2]⟩
end LKX
/-! the calls that keep all -/
section KP2
variable {μ : Sx}

theorem I_lets (hI : IV μ) (p : Int32) : IV (lets_M μ p).2 := by
  unfold lets_M
  repeat' (first | exact hI | exact IV_rf hI _ | split)

theorem I_ways (hI : IV μ) (p st : Int32) : IV (ways_M μ p st).2 := by
  unfold ways_M
  repeat' (first | exact hI | exact IV_rf hI _ | split)

theorem I_cell (hI : IV μ) (p xy : Int32) : IV (cell_M μ p xy).2 := by
  unfold cell_M
  repeat' (first | exact hI | exact IV_rf hI _ | split)

theorem I_partOf (hI : IV μ) (p what : Int32) : IV (partOf_M μ p what).2 := by
  unfold partOf_M
  repeat' (first | exact hI | exact IV_rf hI _ | split)

theorem I_barred (hI : IV μ) (p : Int32) : IV (barred_M μ p).2 := by
  unfold barred_M
  repeat' (first | exact hI | exact IV_rf hI _ | split)

theorem I_covered (hI : IV μ) (p st xy : Int32) : IV (covered_M μ p st xy).2 := by
  unfold covered_M
  repeat' (first | exact hI | exact IV_rf hI _ | split)

theorem I_means (hI : IV μ) (f m : Int32) : IV (means_M μ f m).2 := by
  unfold means_M
  repeat' (first | exact hI | exact IV_rf hI _ | split)

theorem I_does (hI : IV μ) (p f : Int32) : IV (does_M μ p f).2 := by
  unfold does_M
  repeat' (first | exact hI | exact IV_rf hI _ | split)

theorem I_misses (hI : IV μ) (p f : Int32) : IV (misses_M μ p f).2 := by
  unfold misses_M
  repeat' (first | exact hI | exact IV_rf hI _ | split)

theorem I_alike (hI : IV μ) (a b : Int32) : IV (alike_M μ a b).2 := by
  unfold alike_M
  repeat' (first | exact hI | exact IV_rf hI _ | split)

theorem I_needless (hI : IV μ) (p : Int32) : IV (needless_M μ p).2 := by
  unfold needless_M
  repeat' (first | exact hI | exact IV_rf hI _ | split)

theorem I_netLets (hI : IV μ) (n st : Int32) : IV (netLets_M μ n st).2 := by
  unfold netLets_M
  repeat' (first | exact hI | exact IV_rf hI _ | split)

theorem I_howMany (hI : IV μ) (n st : Int32) : IV (howMany_M μ n st).2 := by
  unfold howMany_M
  repeat' (first | exact hI | exact IV_rf hI _ | split)

theorem I_netDoes (hI : IV μ) (n f : Int32) : IV (netDoes_M μ n f).2 := by
  unfold netDoes_M
  repeat' (first | exact hI | exact IV_rf hI _ | split)

theorem I_free (hI : IV μ) (n i : Int32) : IV (free_M μ n i).2 := by
  unfold free_M
  repeat' (first | exact hI | exact IV_rf hI _ | split)

theorem I_meets (hI : IV μ) (k f : Int32) : IV (meets_M μ k f).2 := by
  unfold meets_M
  repeat' (first | exact hI | exact IV_rf hI _ | split)

end KP2
