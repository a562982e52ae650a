
/-! walks: the class's NETS beside the reference's -/
theorem fc1_cg {Z Y : Nat → Nat → Bool} {k : Nat} : ∀ m, (∀ f, f < m → Z k f = Y k f) → fc1 Z k m = fc1 Y k m
  | 0, _ => rfl
  | m + 1, h => by
    unfold fc1
    rw [fc1_cg m (fun f hf => h f (by omega)), h m (by omega)]
theorem fcN_cg {F : Nat → Nat} {Z Y : Nat → Nat → Bool} : ∀ P, (∀ k, k < P → ∀ f, f < F k → Z k f = Y k f) → fcN F Z P = fcN F Y P
  | 0, _ => rfl
  | P + 1, h => by
    unfold fcN
    rw [fcN_cg P (fun k hk => h k (by omega)), fc1_cg (F P) (h P (by omega))]
theorem frW_cg {P : Nat} {F : Nat → Nat} {Z Y : Nat → Nat → Bool} {i last : Int32} (h : ∀ k, k < P → ∀ f, f < F k → Z k f = Y k f) : ∀ u k f m, frW P F Z i last u k f m = frW P F Y i last u k f m
  | 0, _, _, _ => rfl
  | u + 1, k, f, m => by
    unfold frW
    by_cases h1 : k < P
    · rw [if_pos h1, if_pos h1]
      by_cases h2 : f < F k
      · rw [if_pos h2, if_pos h2, h k h1 f h2, frW_cg h u k (f + 1) (m + 1), frW_cg h u k (f + 1) m]
      · rw [if_neg h2, if_neg h2, frW_cg h u (k + 1) 0 m]
    · rw [if_neg h1, if_neg h1]
theorem fnd_sn {P : Nat → Bool} : ∀ n i, fnd P (n + 1) i = match fnd P n i with
    | some j => some j
    | none => if P (i + n) then some (i + n) else none
  | 0, i => by
    show (if P i then some i else none) = (if P i then some i else none)
    rfl
  | n + 1, i => by
    cases h : P i
    · rw [fnd_f h, fnd_f (n := n) h, fnd_sn n (i + 1), show i + 1 + n = i + (n + 1) by omega]
    · rw [fnd_t h, fnd_t (n := n) h]
theorem lkC_0 (z : Option Nat) : decide (lkC z = 0) = z.isNone := by
  cases z
  · rfl
  · exact decide_eq_false (Nat.succ_ne_zero _)
theorem lkC_1 (z : Option Nat) : decide (¬ lkC z = 0) = z.isSome := by
  cases z
  · rfl
  · exact decide_eq_true (Nat.succ_ne_zero _)
section NRS
variable {G : Gt} {o om : Nat} {μ μ' σ φ ρ ν : Sx} {pa na : Nat → Nat} {H0 H : Heap} {A : Nat → Prop} {locs : List Loc} {n m b : Nat}
theorem NR_z (h : NR μ pa n ν) {k f : Nat} (hk : k < 8) (hf : f < 5) : zK ν k f = zM μ n k f := by
  show decide (ν.2.1 3 (5 * k + f) = 0) = (lkM μ n (10 * k + f)).isNone
  rw [h.2.2.2 k hk f hf, lkC_0]
theorem NR_l (h : NR μ pa n ν) {t : Nat} (h8 : t / 10 < 8) (h5 : t % 10 < 5) : ν.2.1 3 (5 * (t / 10) + t % 10) = lkC (lkM μ n t) := by
  have e := h.2.2.2 (t / 10) h8 (t % 10) h5
  rw [show 10 * (t / 10) + t % 10 = t by omega] at e
  exact e
theorem NR_li (h : NR μ pa n ν) {t : Nat} (h8 : t / 10 < 8) (h5 : t % 10 < 5) : decide (¬ ν.2.1 3 (5 * (t / 10) + t % 10) = 0) = (lkM μ n t).isSome := by rw [NR_l h h8 h5, lkC_1]
theorem NR_12 (h : NR μ pa n ν) (h12 : μ.2.1 8 n ≤ 12) : ∀ j, j < 40 → ν.2.1 3 j ≤ 12 := by
  intro j hj
  have e := h.2.2.2 (j / 5) (by omega) (j % 5) (by omega)
  rw [show 5 * (j / 5) + j % 5 = j by omega] at e
  rw [e]
  cases hq : lkM μ n (10 * (j / 5) + j % 5) with
  | none => exact Nat.zero_le _
  | some l =>
    have := fnd_lt _ _ hq
    show l + 1 ≤ 12
    omega
theorem NR_4 (h : NR μ pa n ν) (g : Nat → Nat) : NR μ pa n (uR ν 4 g) := h
theorem hsF_e (h : NR μ pa n ν) (v : Int32) : hsF (ν.1 1) (fM μ n) v = isFc μ n v := by
  rw [h.1]
  rfl
theorem fM_5 (hb0 : MIb μ) (hn0 : MIn μ) (hn : n < μ.1 18) : ∀ k, k < μ.2.1 7 n → fM μ n k ≤ 5 := fun k hk => (hb0.2 _ ((hn0.2 n hn).2.2.1 k hk)).1.2.2
theorem fcK_e (h : NR μ pa n ν) (hb0 : MIb μ) (hn0 : MIn μ) (hn : n < μ.1 18) {P : Nat} (hP : P ≤ μ.2.1 7 n) : fcN (fM μ n) (zK ν) P = fcN (fM μ n) (zM μ n) P := fcN_cg P fun k hk f hf => NR_z h (by have := (hn0.2 n hn).1; omega) (by have := fM_5 hb0 hn0 hn k (by omega); omega)
theorem fcK_M (h : NR μ pa n ν) (hb0 : MIb μ) (hn0 : MIn μ) (hn : n < μ.1 18) : fcN (fM μ n) (zK ν) (ν.1 1) = fcM μ n := by rw [h.1]; exact fcK_e h hb0 hn0 hn (Nat.le_refl _)
theorem fr_M (h : NR μ pa n ν) (hb0 : MIb μ) (hn0 : MIn μ) (hn : n < μ.1 18) (i : Int32) : frW (ν.1 1) (fM μ n) (zK ν) i (-9) 100 0 0 0 = freeOf_M μ n i := by
  rw [h.1]
  exact frW_cg (fun k hk f hf => NR_z h (by have := (hn0.2 n hn).1; omega) (by have := fM_5 hb0 hn0 hn k (by omega); omega)) 100 0 0 0
theorem fr_c (h : NR μ pa n ν) (hb0 : MIb μ) (hn0 : MIn μ) (hn : n < μ.1 18) : freeOf_M μ n (-1) = nI (fcN (fM μ n) (zK ν) (ν.1 1)) := by
  rw [fcK_M h hb0 hn0 hn]
  exact (frW_c (Z := zM μ n) (last := -9) (hn0.2 n hn).1 (fM_5 hb0 hn0 hn) 100 0 0 (Nat.zero_le _) (fun _ => Nat.zero_le _) (fun _ => rfl) (by have := (hn0.2 n hn).1; omega)).1
theorem NB_w (hC : CWx G o om μ pa na H0) (hb0 : MIb μ) (hn0 : MIn μ) (hn : n < μ.1 18) (h : NR μ pa n ν) (hS : va_S A H0 H locs) (hA : ∀ q, A q → (o ≤ q ∧ q < o + 11) ∨ (na n ≤ q ∧ q < na n + 4)) : NB G (na n) ν (fM μ n) (wyM μ n) H := by
  obtain ⟨⟨ho, -, -⟩, σ0, φ0, ρ0, -, -, -, -, hWB, hWN, hAP⟩ := hC
  intro k hk
  rw [h.1] at hk
  have hp := (hn0.2 n hn).2.2.1 k hk
  obtain ⟨h1, β, h2, h3, h4⟩ := hWB _ hp
  have hap := hAP.2 n _ hn hp
  refine ⟨pa (μ.2.1 9 (8 * n + k)), β, h.2.2.1 k hk, hap.symm, bk_S h2 hS (fun q g1 g2 g3 z => ?_), h3.2.2.2.2.1, fM_5 hb0 hn0 hn k hk, fun s hs => ⟨h4.1 s hs, wy_lt μ n k s⟩⟩
  have g4 : q < pa (μ.2.1 9 (8 * n + k)) + 4 := g2
  have := hA q z
  omega
/-- the same PARTS, and the same NETS but one -/
def NE (μ' μ : Sx) (m : Nat) : Prop := μ'.1 16 = μ.1 16 ∧ (μ'.2.1 1 = μ.2.1 1 ∧ μ'.2.1 2 = μ.2.1 2 ∧ μ'.2.1 3 = μ.2.1 3 ∧ μ'.2.1 4 = μ.2.1 4) ∧ ∀ n, n < μ'.1 18 → n ≠ m → n < μ.1 18 ∧ μ'.2.1 7 n = μ.2.1 7 n ∧ μ'.2.1 8 n = μ.2.1 8 n ∧ (∀ k, k < 8 → μ'.2.1 9 (8 * n + k) = μ.2.1 9 (8 * n + k)) ∧ ∀ k, k < 12 → μ'.2.1 10 (12 * n + k) = μ.2.1 10 (12 * n + k) ∧ μ'.2.1 11 (12 * n + k) = μ.2.1 11 (12 * n + k)
theorem NE_k (h : KP μ' μ) (m : Nat) : NE μ' μ m := by
  obtain ⟨⟨h1, h2⟩, h3, h7, h8, h9, h10, h11⟩ := h
  refine ⟨h1, h3, fun n hn _ => ?_⟩
  rw [h2] at hn
  rw [h7, h8, h9, h10, h11]
  exact ⟨hn, rfl, rfl, fun _ _ => rfl, fun _ _ => ⟨rfl, rfl⟩⟩
theorem NR_n (hN : NE μ' μ m) (hn0 : MIn μ) (hn : n < μ'.1 18) (hm : n ≠ m) (h : NR μ pa n ν) : NR μ' pa n ν := by
  obtain ⟨e1, e7, e8, e9, e10⟩ := hN.2.2 n hn hm
  obtain ⟨q1, q2, q3, q4⟩ := h
  obtain ⟨m1, m2, -, -⟩ := hn0.2 n e1
  refine ⟨by rw [e7]; exact q1, by rw [e8]; exact q2, fun k hk => ?_, fun k hk f hf => ?_⟩
  · rw [e7] at hk
    rw [e9 k (by omega)]
    exact q3 k hk
  · rw [q4 k hk f hf]
    refine congrArg lkC ?_
    show fnd _ (μ.2.1 8 n) 0 = fnd _ (μ'.2.1 8 n) 0
    rw [e8]
    refine fnd_congr _ _ (fun j _ hj => ?_)
    show (decide (μ.2.1 10 (12 * n + j) = _) || decide (μ.2.1 11 (12 * n + j) = _)) = (decide (μ'.2.1 10 (12 * n + j) = _) || decide (μ'.2.1 11 (12 * n + j) = _))
    rw [(e10 j (by omega)).1, (e10 j (by omega)).2]
theorem CW_n (hC : CWx G o om μ pa na H0) (hn0 : MIn μ) (hS : va_S A H0 H locs) (hA : ∀ q, A q → (o ≤ q ∧ q < o + 11) ∨ (b ≤ q ∧ q < b + 4) ∨ H0.size ≤ q) (hX : bk G o (xL G o σ) H) (hF : bk G (o + 6) (flL G (o + 6) φ) H) (hR : bk G (o + 10) (rfL G (o + 10) ρ) H) (hRX : RX μ' σ φ ρ pa (upP na m b)) (hm : m < μ'.1 18) (hbo : om + 20 ≤ b) (hB : bk G b (ntL G b ν) H) (hNR : NR μ' pa m ν) (hN : NE μ' μ m) (hAP : AP μ' pa (upP na m b)) : CW G o om μ' H := by
  obtain ⟨⟨h1, h2, h3⟩, σ0, φ0, ρ0, -, -, -, -, hWB, hWN, -⟩ := hC
  refine ⟨pa, upP na m b, ⟨h1, Nat.le_trans h2 hS.1, gLH_S h3 hS (fun q hq z => by have := hA q z; omega)⟩, σ, φ, ρ, hX, hF, hR, hRX, fun p hp => ?_, fun n hn => ?_, hAP⟩
  · have hap := hAP.2 m p hm hp
    rw [show upP na m b m = b from if_pos rfl] at hap
    rw [hN.1] at hp
    obtain ⟨q1, β, q2, q3, q4⟩ := hWB p hp
    refine ⟨q1, β, bk_S q2 hS (fun q g1 g2 g3 z => ?_), ?_⟩
    · have g4 : q < pa p + 4 := g2
      have := hA q z
      omega
    · show BG (μ'.2.1 1 p) (μ'.2.1 2 p) (μ'.2.1 3 p) (fun k => μ'.2.1 4 (20 * p + k)) β ∧ BC (μ'.2.1 3 p) (fun k => μ'.2.1 4 (20 * p + k)) β
      rw [hN.2.1.1, hN.2.1.2.1, hN.2.1.2.2.1, hN.2.1.2.2.2]
      exact ⟨q3, q4⟩
  · by_cases e : n = m
    · subst e
      rw [show upP na n b n = b from if_pos rfl]
      exact ⟨hbo, ν, hB, hNR⟩
    · obtain ⟨q1, ν', q2, q3⟩ := hWN n (hN.2.2 n hn e).1
      have en : upP na m b n = na n := if_neg e
      have em : upP na m b m = b := if_pos rfl
      have hap : na n + 4 ≤ b ∨ b + 4 ≤ na n := by
        rcases Nat.lt_or_gt_of_ne e with z | z
        · have := hAP.1 n m z hm
          rw [en, em] at this
          exact Or.inl this
        · have := hAP.1 m n z hn
          rw [en, em] at this
          exact Or.inr this
      rw [en]
      refine ⟨q1, ν', bk_S q2 hS (fun q g1 g2 g3 z => ?_), NR_n hN hn0 hn e q3⟩
      have g4 : q < na n + 4 := g2
      have := hA q z
      omega
theorem upP_e : upP na n (na n) = na := by
  funext j
  show (if j = n then na n else na j) = na j
  split
  · rename_i e
    rw [e]
  · rfl
theorem CW_m (hC : CWx G o om μ pa na H0) (hn0 : MIn μ) (hS : va_S A H0 H locs) (hA : ∀ q, A q → (o ≤ q ∧ q < o + 11) ∨ (na n ≤ q ∧ q < na n + 4)) (hX : bk G o (xL G o σ) H) (hF : bk G (o + 6) (flL G (o + 6) φ) H) (hR : bk G (o + 10) (rfL G (o + 10) ρ) H) (hRX : RX μ' σ φ ρ pa na) (hn : n < μ.1 18) (h18 : μ'.1 18 = μ.1 18) (hB : bk G (na n) (ntL G (na n) ν) H) (hNR : NR μ' pa n ν) (hN : NE μ' μ n) : CW G o om μ' H := by
  have hAP := hC.2.choose_spec.choose_spec.choose_spec.2.2.2.2.2.2
  have hWN := hC.2.choose_spec.choose_spec.choose_spec.2.2.2.2.2.1
  refine CW_n (m := n) (b := na n) hC hn0 hS (fun q z => (hA q z).elim Or.inl (fun z => Or.inr (Or.inl z))) hX hF hR (by rw [upP_e]; exact hRX) (by rw [h18]; exact hn) (hWN n hn).1 hB hNR hN ?_
  rw [upP_e]
  unfold AP
  rw [h18, hN.1]
  exact hAP
theorem RX_pc (h : RX μ σ φ ρ pa na) (i x y : Nat) : RX (uA (uA μ 9 i x) 7 n y) σ φ ρ pa na := ⟨h.1, h.2.1, FX_c h.2.2.1 rfl rfl rfl rfl rfl, h.2.2.2⟩
theorem NE_pc {c x y : Nat} (hc : c < 8) : NE (uA (uA μ 9 (8 * m + c) x) 7 m y) μ m := ⟨rfl, ⟨rfl, rfl, rfl, rfl⟩, fun n hn e => ⟨hn, uN_n e, rfl, fun k hk => uN_n (by omega), fun _ _ => ⟨rfl, rfl⟩⟩⟩
theorem NR_pc (h : NR μ pa n ν) {p a : Nat} (ha : pa p = a) : NR (uA (uA μ 9 (8 * n + μ.2.1 7 n) p) 7 n (μ.2.1 7 n + 1)) pa n (uS (uQ ν 0 (ν.1 1) a) 1 (ν.1 1 + 1)) := by
  obtain ⟨h1, h2, h3, h4⟩ := h
  refine ⟨?_, h2, fun k hk => ?_, h4⟩
  · show ν.1 1 + 1 = uN (μ.2.1 7) n (μ.2.1 7 n + 1) n
    rw [uN_s, h1]
  · replace hk : k < uN (μ.2.1 7) n (μ.2.1 7 n + 1) n := hk
    rw [uN_s] at hk
    show va_up (ν.2.2 0) (ν.1 1) (some a) k = some (pa (uN (μ.2.1 9) (8 * n + μ.2.1 7 n) p (8 * n + k)))
    rw [h1]
    by_cases e : k = μ.2.1 7 n
    · rw [e, uN_s, ha]
      simp [va_up]
    · rw [uN_n (by omega)]
      simp only [va_up, if_neg e]
      exact h3 k (by omega)
theorem RX_lk (h : RX μ σ φ ρ pa na) (i a c y : Nat) : RX (uA (uA (uA μ 10 i a) 11 i c) 8 n y) σ φ ρ pa na := ⟨h.1, h.2.1, FX_c h.2.2.1 rfl rfl rfl rfl rfl, h.2.2.2⟩
theorem NE_lk {L a c y : Nat} (hc : L < 12) : NE (uA (uA (uA μ 10 (12 * m + L) a) 11 (12 * m + L) c) 8 m y) μ m := ⟨rfl, ⟨rfl, rfl, rfl, rfl⟩, fun n hn e => ⟨hn, rfl, uN_n e, fun _ _ => rfl, fun k hk => ⟨uN_n (by omega), uN_n (by omega)⟩⟩⟩
theorem NR_lk (h : NR μ pa n ν) {a c : Nat} (ha : a % 10 < 5) (hc : c % 10 < 5) (hla : lkM μ n a = none) (hlc : lkM μ n c = none) : NR (uA (uA (uA μ 10 (12 * n + μ.2.1 8 n) a) 11 (12 * n + μ.2.1 8 n) c) 8 n (μ.2.1 8 n + 1)) pa n (uA (uA (uS ν 2 (ν.1 2 + 1)) 3 (5 * (a / 10) + a % 10) (ν.1 2 + 1)) 3 (5 * (c / 10) + c % 10) (ν.1 2 + 1)) := by
  obtain ⟨h1, h2, h3, h4⟩ := h
  refine ⟨h1, ?_, h3, fun k hk f hf => ?_⟩
  · show ν.1 2 + 1 = uN (μ.2.1 8) n (μ.2.1 8 n + 1) n
    rw [uN_s, h2]
  · show uN (uN (ν.2.1 3) (5 * (a / 10) + a % 10) (ν.1 2 + 1)) (5 * (c / 10) + c % 10) (ν.1 2 + 1) (5 * k + f) = lkC (fnd (lkP (fun j => uN (μ.2.1 10) (12 * n + μ.2.1 8 n) a (12 * n + j)) (fun j => uN (μ.2.1 11) (12 * n + μ.2.1 8 n) c (12 * n + j)) (10 * k + f)) (uN (μ.2.1 8) n (μ.2.1 8 n + 1) n) 0)
    rw [uN_s, fnd_sn, Nat.zero_add]
    have e1 : fnd (lkP (fun j => uN (μ.2.1 10) (12 * n + μ.2.1 8 n) a (12 * n + j)) (fun j => uN (μ.2.1 11) (12 * n + μ.2.1 8 n) c (12 * n + j)) (10 * k + f)) (μ.2.1 8 n) 0 = lkM μ n (10 * k + f) := fnd_congr _ _ (fun j _ hj => by
      show (decide (uN _ _ _ (12 * n + j) = _) || decide (uN _ _ _ (12 * n + j) = _)) = _
      rw [uN_n (by omega), uN_n (by omega)]
      rfl)
    have e2 : lkP (fun j => uN (μ.2.1 10) (12 * n + μ.2.1 8 n) a (12 * n + j)) (fun j => uN (μ.2.1 11) (12 * n + μ.2.1 8 n) c (12 * n + j)) (10 * k + f) (μ.2.1 8 n) = (decide (a = 10 * k + f) || decide (c = 10 * k + f)) := by
      show (decide (uN _ _ _ (12 * n + μ.2.1 8 n) = _) || decide (uN _ _ _ (12 * n + μ.2.1 8 n) = _)) = _
      rw [uN_s, uN_s]
    rw [e1, e2]
    by_cases ec : c = 10 * k + f
    · rw [show 5 * k + f = 5 * (c / 10) + c % 10 by omega, uN_s, ← ec, hlc, decide_eq_true (p := c = c) rfl, Bool.or_true, h2]
      rfl
    · rw [uN_n (show 5 * k + f ≠ 5 * (c / 10) + c % 10 by omega), decide_eq_false ec, Bool.or_false]
      by_cases ea : a = 10 * k + f
      · rw [show 5 * k + f = 5 * (a / 10) + a % 10 by omega, uN_s, ← ea, hla, decide_eq_true (p := a = a) rfl, h2]
        rfl
      · rw [uN_n (show 5 * k + f ≠ 5 * (a / 10) + a % 10 by omega), decide_eq_false ea, h4 k hk f hf]
        cases lkM μ n (10 * k + f) <;> rfl
theorem AP_nw {nb : Nat} (hC : CWx G o om μ pa na H0) (hz : H0.size ≤ nb) (h16 : μ'.1 16 = μ.1 16) (h18 : μ'.1 18 = μ.1 18 + 1) : AP μ' pa (upP na (μ.1 18) nb) := by
  obtain ⟨-, σ0, φ0, ρ0, -, -, -, -, hWB, hWN, hAP⟩ := hC
  refine ⟨fun n m hnm hm => ?_, fun n p hn hp => ?_⟩
  · rw [h18] at hm
    rw [show upP na (μ.1 18) nb n = na n from if_neg (by omega)]
    by_cases e : m = μ.1 18
    · rw [show upP na (μ.1 18) nb m = nb from if_pos e]
      obtain ⟨q1, ν', q2, q3⟩ := hWN n (by omega)
      have := bk.lt (k := 3) q2 (show 3 < 4 by decide)
      omega
    · rw [show upP na (μ.1 18) nb m = na m from if_neg e]
      exact hAP.1 n m hnm (by omega)
  · rw [h18] at hn
    rw [h16] at hp
    by_cases e : n = μ.1 18
    · rw [show upP na (μ.1 18) nb n = nb from if_pos e]
      obtain ⟨q1, β', q2, q3⟩ := hWB p hp
      have := bk.lt (k := 3) q2 (show 3 < 4 by decide)
      exact Or.inr (by omega)
    · rw [show upP na (μ.1 18) nb n = na n from if_neg e]
      exact hAP.2 n p (by omega) hp
abbrev net1 (μ : Sx) : Sx := uS (uA (uA μ 7 (μ.1 18) 0) 8 (μ.1 18) 0) 18 (μ.1 18 + 1)
theorem NE_nw : NE (net1 μ) μ (μ.1 18) := ⟨rfl, ⟨rfl, rfl, rfl, rfl⟩, fun n hn e => ⟨by replace hn : n < μ.1 18 + 1 := hn; omega, uN_n e, uN_n e, fun _ _ => rfl, fun _ _ => ⟨rfl, rfl⟩⟩⟩
theorem NR_nw : NR (net1 μ) pa (μ.1 18) nt0 := by
  refine ⟨(uN_s _ _ _).symm, (uN_s _ _ _).symm, fun k hk => ?_, fun k hk f hf => ?_⟩
  · replace hk : k < uN (μ.2.1 7) (μ.1 18) 0 (μ.1 18) := hk
    rw [uN_s] at hk
    omega
  · show 0 = lkC (fnd _ (uN (μ.2.1 8) (μ.1 18) 0 (μ.1 18)) 0)
    rw [uN_s]
    rfl
theorem RX_nw {nb : Nat} (h : RX μ σ φ ρ pa na) : RX (net1 μ) (uS (uQ σ 6 (σ.1 7) nb) 7 (σ.1 7 + 1)) φ ρ pa (upP na (μ.1 18) nb) := by
  refine ⟨h.1, h.2.1, FX_c h.2.2.1 rfl rfl rfl rfl rfl, ⟨?_, fun n hn => ?_⟩, h.2.2.2.2⟩
  · show σ.1 7 + 1 = μ.1 18 + 1
    rw [h.2.2.2.1.1]
  · replace hn : n < μ.1 18 + 1 := hn
    show va_up (σ.2.2 6) (σ.1 7) (some nb) n = _
    rw [h.2.2.2.1.1]
    by_cases e : n = μ.1 18
    · rw [e, show upP na (μ.1 18) nb (μ.1 18) = nb from if_pos rfl]
      simp [va_up]
    · rw [show upP na (μ.1 18) nb n = na n from if_neg e]
      simp only [va_up, if_neg e]
      exact h.2.2.2.1.2 n (by omega)
end NRS

set_option maxHeartbeats 1000000 in
set_option maxRecDepth 100000 in
theorem c_X6_keepNet_y (l : Launch) (G : Gt) (o : Nat) (σ : Sx) (a : Nat) (ν : Sx) (h6 : σ.1 7 < 6) (hoa : o + 11 ≤ a) : Ct l G yX6_keepNet cX6_keepNet 2 ((some .int)) 1 0 0 [.ref o, .ref a] (fun H => bk G o (xL G o σ) H ∧ bk G a (ntL G a ν) H) (some (.int (nI (σ.1 7)))) (fun H => bk G o (xL G o (uS (uQ σ 6 (σ.1 7) a) 7 (σ.1 7 + 1))) H ∧ bk G a (ntL G a ν) H) (fun q => o ≤ q ∧ q < o + 6) := by
  refine ct_entry [(0, .ref o), (1, .ref a)] (by decide) (Nat.le_of_ble_eq_true rfl) rfl ?_
  intro zp ze zs zm za zb zt zc Q S hK hPre hin hE ls hl
  have hx := S.1
  have hb := S.2.1
  obtain ⟨hX, hN⟩ := hPre
  have hS : va_S (fun q => o ≤ q ∧ q < o + 6) zs.heap zs.heap [] := va_S.rf
  refine lv_aload_n hx hb dX6_keepNet_0 rfl (lv_at hl 0 rfl) ?_
  refine kg (C := RX6) (T := TX6) (N := 12) (ci := 4) (k := 7) (v := .int (nI (σ.1 7))) S hK rfl inX6 (by decide) q_131 dX6_keepNet_1 hX rfl rfl ?_
  refine lv_bipush (v := nI 6) hx hb dX6_keepNet_4 (by decide) ?_
  refine n_icmp_lt (tgt := 16) hx hb dX6_keepNet_6 (by decide) (by omega) (by decide) (fun c_6 => ?_) (fun c_6 => ?_)
  ·
    refine lv_aload_n hx hb dX6_keepNet_16 rfl (lv_at hl 0 rfl) ?_
    refine kg (C := RX6) (T := TX6) (N := 12) (ci := 4) (k := 6) (v := .ref (o + 4)) S hK rfl inX6 (by decide) q_130 dX6_keepNet_17 hX rfl rfl ?_
    refine lv_aload_n hx hb dX6_keepNet_20 rfl (lv_at hl 0 rfl) ?_
    refine kg (C := RX6) (T := TX6) (N := 12) (ci := 4) (k := 7) (v := .int (nI (σ.1 7))) S hK rfl inX6 (by decide) q_131 dX6_keepNet_21 hX rfl rfl ?_
    refine lv_aload_n hx hb dX6_keepNet_24 rfl (lv_at hl 1 rfl) ?_
    refine kqs (C := "PuzzleParts$Net") (T := TX4) (N := 5) S hK dX6_keepNet_25 4 3 3 hX rfl rfl rfl hN rfl (by decide) rfl (by omega) (L1 := xL G o (uQ σ 6 (σ.1 7) a)) rfl hS (by first | exact ⟨by omega, by omega⟩ | omega) (fun H locs hX hS hz2 hk => ?_)
    replace hN := hN.kept (fun q h1 h2 => hk q (by have h3 : q < a + 4 := h2; omega))
    refine lv_aload_n hx hb dX6_keepNet_26 rfl (lv_at hl 0 rfl) ?_
    refine lv_dup hx hb dX6_keepNet_27 rfl ?_
    refine kg (C := RX6) (T := TX6) (N := 12) (ci := 4) (k := 7) (v := .int (nI (σ.1 7))) S hK rfl inX6 (by decide) q_131 dX6_keepNet_28 hX rfl rfl ?_
    refine lv_iconst (v := nI 1) hx hb dX6_keepNet_31 (by decide) ?_
    refine n_iadd hx hb dX6_keepNet_32 ?_
    refine kp (C := RX6) (T := TX6) (N := 12) (ci := 4) (k := 7) (ty := .int) tyX6 tyX6_ok nmX6 S hK rfl inX6 (by decide) q_131 rfl dX6_keepNet_33 rfl rfl rfl hX rfl (Nat.le_of_ble_eq_true rfl) (L1 := xL G o (uS (uQ σ 6 (σ.1 7) a) 7 ((σ.1 7) + 1))) rfl hS (by first | exact ⟨by omega, by omega⟩ | omega) (fun H locs hX hS hz2 hk => ?_)
    replace hN := hN.kept (fun q h1 h2 => hk q (by have h3 : q < a + 4 := h2; omega))
    refine lv_aload_n hx hb dX6_keepNet_36 rfl (lv_at hl 0 rfl) ?_
    refine kg (C := RX6) (T := TX6) (N := 12) (ci := 4) (k := 7) (v := .int (nI ((σ.1 7) + 1))) S hK rfl inX6 (by decide) q_131 dX6_keepNet_37 hX rfl rfl ?_
    refine lv_iconst (v := nI 1) hx hb dX6_keepNet_40 (by decide) ?_
    refine n_isub hx hb dX6_keepNet_41 (by omega) ?_
    refine w_top (v' := .int (nI (σ.1 7))) (congrArg (fun z => Value.int (nI z)) (show (((σ.1 7) + 1) - 1) = (σ.1 7) from by omega)) ?_
    replace hX := bk_eq hX (show xL G o (uS (uQ σ 6 (σ.1 7) a) 7 ((σ.1 7) + 1)) = xL G o (uS (uQ σ 6 (σ.1 7) a) 7 (σ.1 7 + 1)) from rfl)
    exact hE _ _ _ _ _ _ (kr_i dX6_keepNet_42) hS (by decide) (by decide) ⟨hX, hN⟩
  ·
    omega

set_option maxHeartbeats 1000000 in
set_option maxRecDepth 100000 in
theorem c_X6_keepNet_n (l : Launch) (G : Gt) (o : Nat) (σ : Sx) (ρ : Sx) (a : Nat) (h6 : ¬ σ.1 7 < 6) (hn6 : σ.1 7 ≤ 6) : Ct l G yX6_keepNet cX6_keepNet 2 ((some .int)) 1 0 0 [.ref o, .ref a] (fun H => bk G o (xL G o σ) H ∧ bk G (o + 10) (rfL G (o + 10) ρ) H) (some (.int (-6))) (fun H => bk G o (xL G o σ) H ∧ bk G (o + 10) (rfL G (o + 10) (uA ρ 0 6 (ρ.2.1 0 6 + 1))) H) (fun q => o + 10 ≤ q ∧ q < o + 11) := by
  refine ct_entry [(0, .ref o), (1, .ref a)] (by decide) (Nat.le_of_ble_eq_true rfl) rfl ?_
  intro zp ze zs zm za zb zt zc Q S hK hPre hin hE ls hl
  have hx := S.1
  have hb := S.2.1
  obtain ⟨hX, hRF⟩ := hPre
  have hS : va_S (fun q => o + 10 ≤ q ∧ q < o + 11) zs.heap zs.heap [] := va_S.rf
  refine lv_aload_n hx hb dX6_keepNet_0 rfl (lv_at hl 0 rfl) ?_
  refine kg (C := RX6) (T := TX6) (N := 12) (ci := 4) (k := 7) (v := .int (nI (σ.1 7))) S hK rfl inX6 (by decide) q_131 dX6_keepNet_1 hX rfl rfl ?_
  refine lv_bipush (v := nI 6) hx hb dX6_keepNet_4 (by decide) ?_
  refine n_icmp_lt (tgt := 16) hx hb dX6_keepNet_6 (by decide) (by omega) (by decide) (fun c_6 => ?_) (fun c_6 => ?_)
  ·
    omega
  ·
    refine lv_aload_n hx hb dX6_keepNet_9 rfl (lv_at hl 0 rfl) ?_
    refine lv_bipush (v := (-6)) hx hb dX6_keepNet_10 (by decide) ?_
    refine ctV (rest := []) S hK (c_X6_refuse l G o σ ρ (-6) 6 rfl (by decide)) cw_X6_42 rfl ⟨Nat.le_of_ble_eq_true rfl, Nat.le_of_ble_eq_true rfl⟩ ⟨Nat.le_of_ble_eq_true rfl, Nat.le_of_ble_eq_true rfl⟩ (bk.recv hK hX rfl rfl) hl.1 rfl (Nat.le_of_ble_eq_true rfl) dX6_keepNet_12 ⟨hX, hRF⟩ hS (fun _ h => by first | exact h | omega) (fun H locs hPost hz hk hS => ?_)
    obtain ⟨hX, hRF⟩ := hPost
    exact hE _ _ _ _ _ _ (kr_i dX6_keepNet_15) hS (by decide) (by decide) ⟨hX, hRF⟩

set_option maxHeartbeats 1000000 in
set_option maxRecDepth 100000 in
theorem c_X6_net (l : Launch) (G : Gt) (o : Nat) (om : Nat) (μ : Sx) (pa : Nat → Nat) (na : Nat → Nat) (nb : Nat) (hb0 : MIb μ) (hn0 : MIn μ) (hif : MIf μ) (hit : MIt μ) (hl0 : MIl μ) (hr0 : MIr μ) : Ct l G yX6_net cX6_net 1 ((some .int)) 4 4 93 [.ref o] (fun H => CWx G o om μ pa na H ∧ H.size = nb) (some (.int ((net_M μ).1))) (fun H => CW G o om (net_M μ).2 H) (fun q => (o ≤ q ∧ q < o + 11) ∨ nb ≤ q) := by
  refine ct_entry [(0, .ref o)] (by decide) (Nat.le_of_ble_eq_true rfl) rfl ?_
  intro zp ze zs zm za zb zt zc Q S hK hPre hin hE ls hl
  have hx := S.1
  have hb := S.2.1
  obtain ⟨hCW, hz⟩ := hPre
  have hS : va_S (fun q => (o ≤ q ∧ q < o + 11) ∨ nb ≤ q) zs.heap zs.heap [] := va_S.rf
  obtain ⟨⟨hoo, hosz, hLH⟩, σ, φ, ρ, hX, hF, hRF, hRX, hWB, hWN, hAP⟩ := id hCW
  obtain ⟨⟨hT1, hT2⟩, ⟨hP1, hP2⟩, ⟨hF1, hF2⟩, ⟨hN1, hN2⟩, ⟨hR1, hR2⟩, ⟨hL1, hL2, hL3, hL4⟩, hRR⟩ := id hRX
  obtain ⟨h16, -⟩ := id hb0
  obtain ⟨h18, -⟩ := id hn0
  obtain ⟨h17, -⟩ := id hif
  obtain ⟨h22, -⟩ := id hit
  obtain ⟨h19, -⟩ := id hl0
  obtain ⟨h20, -⟩ := id hr0
  have hz0 := hz
  refine lv_aload_n hx hb dX6_net_0 rfl (lv_at hl 0 rfl) ?_
  refine kn (C := RX4) (T := TX4) (N := 5) (ci := 3) tyX4 tyX4_ok S hK rfl inX4 q_99 q_501 q_87 [.null, .int (nI 0), .int (nI 0), .null, .null] (fun j hj => by first | (rcases (show j = 0 ∨ j = 1 ∨ j = 2 ∨ j = 3 ∨ j = 4 by omega) with rfl | rfl | rfl | rfl | rfl <;> rfl)) dX6_net_1 (by decide) (by decide) (h := nb) hz hS (fun H hT hS hz hk => ?_)
  replace hX := hX.kept (fun q h1 h2 => hk q (by have h3 : q < o + 6 := h2; omega))
  replace hF := hF.kept (fun q h1 h2 => hk q (by have h3 : q < o + 6 + 4 := h2; omega))
  replace hRF := hRF.kept (fun q h1 h2 => hk q (by have h3 : q < o + 10 + 1 := h2; omega))
  refine lv_dup hx hb dX6_net_4 rfl ?_
  refine ctI (rest := [.ref nb, .ref o]) S hK (c_X4_init l G nb) cw_X6_184 rfl ⟨Nat.le_of_ble_eq_true rfl, Nat.le_of_ble_eq_true rfl⟩ ⟨Nat.le_of_ble_eq_true rfl, Nat.le_of_ble_eq_true rfl⟩ hl.1 rfl (Nat.le_of_ble_eq_true rfl) dX6_net_5 ⟨hT, hz⟩ hS (fun q h => by omega) (fun H locs hPost hz2 hk hS => ?_)
  obtain ⟨hT, hz⟩ := hPost
  replace hX := hX.over hk (fun q h1 h2 => by have h3 : q < o + 6 := h2; intro hA1; omega)
  replace hF := hF.over hk (fun q h1 h2 => by have h3 : q < o + 6 + 4 := h2; intro hA1; omega)
  replace hRF := hRF.over hk (fun q h1 h2 => by have h3 : q < o + 10 + 1 := h2; intro hA1; omega)
  by_cases h6 : σ.1 7 < 6
  ·
    refine ctV (rest := []) S hK (c_X6_keepNet_y l G o σ nb nt0 h6 (by omega)) cw_X6_185 rfl ⟨Nat.le_of_ble_eq_true rfl, Nat.le_of_ble_eq_true rfl⟩ ⟨Nat.le_of_ble_eq_true rfl, Nat.le_of_ble_eq_true rfl⟩ (bk.recv hK hX rfl rfl) hl.1 rfl (Nat.le_of_ble_eq_true rfl) dX6_net_8 ⟨hX, hT⟩ hS (fun q h => by omega) (fun H locs hPost hz2 hk hS => ?_)
    obtain ⟨hX, hT⟩ := hPost
    replace hF := hF.over hk (fun q h1 h2 => by have h3 : q < o + 6 + 4 := h2; intro hA1; omega)
    replace hRF := hRF.over hk (fun q h1 h2 => by have h3 : q < o + 10 + 1 := h2; intro hA1; omega)
    have hr : net_M μ = ((nI (σ.1 7)), net1 μ) := by unfold net_M; rw [if_neg (by omega), hN1]
    refine w_top (v' := .int ((net_M μ).1)) (congrArg (fun z => Value.int z) (congrArg Prod.fst hr).symm) ?_
    have hcw := CW_r (G := G) (o := o) (om := om) hr (CW_n (m := μ.1 18) (b := nb) hCW hn0 hS (fun q h => by omega) hX hF hRF (RX_nw hRX) (Nat.lt_succ_self _) (by omega) hT NR_nw NE_nw (AP_nw hCW (by omega) rfl rfl))
    exact hE _ _ _ _ _ _ (kr_i dX6_net_11) hS (by decide) (by decide) hcw
  ·
    refine ctV (rest := []) S hK (c_X6_keepNet_n l G o σ ρ nb h6 (by omega)) cw_X6_185 rfl ⟨Nat.le_of_ble_eq_true rfl, Nat.le_of_ble_eq_true rfl⟩ ⟨Nat.le_of_ble_eq_true rfl, Nat.le_of_ble_eq_true rfl⟩ (bk.recv hK hX rfl rfl) hl.1 rfl (Nat.le_of_ble_eq_true rfl) dX6_net_8 ⟨hX, hRF⟩ hS (fun q h => by omega) (fun H locs hPost hz2 hk hS => ?_)
    obtain ⟨hX, hRF⟩ := hPost
    replace hF := hF.over hk (fun q h1 h2 => by have h3 : q < o + 6 + 4 := h2; intro hA1; omega)
    replace hT := hT.over hk (fun q h1 h2 => by have h3 : q < nb + 4 := h2; intro hA1; omega)
    have hr : net_M μ = ((-6), rfM μ 6) := by unfold net_M; rw [if_pos (by omega)]
    refine w_top (v' := .int ((net_M μ).1)) (congrArg (fun z => Value.int z) (congrArg Prod.fst hr).symm) ?_
    have hcw := CW_r (G := G) (o := o) (om := om) hr (CW_x hCW hS (fun q h => by omega) hX hF hRF (RX_rf hRX) (KP_rf μ _))
    exact hE _ _ _ _ _ _ (kr_i dX6_net_11) hS (by decide) (by decide) hcw
