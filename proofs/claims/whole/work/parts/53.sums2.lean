
/-! the class's sum is the reference's -/
def sg (f : Nat → Nat) : Nat → Nat
  | 0 => 0
  | m + 1 => sg f m + f m
theorem sg_c {f g : Nat → Nat} : ∀ m, (∀ i, i < m → f i = g i) → sg f m = sg g m
  | 0, _ => rfl
  | m + 1, h => by
    unfold sg
    rw [sg_c m (fun i hi => h i (by omega)), h m (by omega)]
theorem sg_m {f g : Nat → Nat} {q : Nat} : ∀ m, (∀ i, i < m → f i % q = g i % q) → sg f m % q = sg g m % q
  | 0, _ => rfl
  | m + 1, h => by
    unfold sg
    rw [Nat.add_mod, sg_m m (fun i hi => h i (by omega)), h m (by omega), ← Nat.add_mod]
theorem sg_0 {f : Nat → Nat} : ∀ m, (∀ i, i < m → f i = 0) → sg f m = 0
  | 0, _ => rfl
  | m + 1, h => by
    unfold sg
    rw [sg_0 m (fun i hi => h i (by omega)), h m (by omega)]
theorem sg_add {f g : Nat → Nat} : ∀ m, sg (fun i => f i + g i) m = sg f m + sg g m
  | 0 => rfl
  | m + 1 => by
    unfold sg
    rw [sg_add m]
    omega
theorem sg_mul {f : Nat → Nat} {a : Nat} : ∀ m, sg (fun i => a * f i) m = a * sg f m
  | 0 => rfl
  | m + 1 => by
    unfold sg
    rw [sg_mul m, Nat.mul_add]
theorem sg_swap {f : Nat → Nat → Nat} {k : Nat} : ∀ m, sg (fun i => sg (f i) k) m = sg (fun j => sg (fun i => f i j) m) k
  | 0 => (sg_0 k (fun _ _ => rfl)).symm
  | m + 1 => by
    show sg (fun i => sg (f i) k) m + sg (f m) k = sg (fun j => sg (fun i => f i j) m + f m j) k
    rw [sg_swap m, ← sg_add]
theorem sg_one {f : Nat → Nat} {i0 : Nat} : ∀ m, i0 < m → (∀ i, i < m → i ≠ i0 → f i = 0) → sg f m = f i0
  | 0, h, _ => absurd h (Nat.not_lt_zero _)
  | m + 1, h, h2 => by
    unfold sg
    by_cases e : i0 = m
    · rw [sg_0 m (fun i hi => h2 i (by omega) (by omega)), e, Nat.zero_add]
    · rw [sg_one m (by omega) (fun i hi => h2 i (by omega)), h2 m (by omega) (by omega), Nat.add_zero]
theorem acS_sg {c : Nat → Bool} {g : Nat → Nat} : ∀ m, acS (fun s a => if c s then (a + g s) % 1000000007 else a) m = sg (fun s => if c s then g s else 0) m % 1000000007
  | 0 => rfl
  | m + 1 => by
    show (if c m then (acS (fun s a => if c s then (a + g s) % 1000000007 else a) m + g m) % 1000000007 else acS (fun s a => if c s then (a + g s) % 1000000007 else a) m) = (sg (fun s => if c s then g s else 0) m + (if c m then g m else 0)) % 1000000007
    rw [acS_sg m]
    cases c m
    · rw [if_neg (by decide), if_neg (by decide), Nat.add_zero]
    · rw [if_pos rfl, if_pos rfl, Nat.mod_add_mod]
def qr (w : Nat → Nat → Nat) (ps : Nat → Nat) : Nat → Nat → Nat
  | _, 0 => 1
  | k, m + 1 => w k (ps k) * qr w ps (k + 1) m
theorem qr_l {w : Nat → Nat → Nat} {ps : Nat → Nat} : ∀ m k, qr w ps k (m + 1) = qr w ps k m * w (k + m) (ps (k + m))
  | 0, k => by
    show w k (ps k) * 1 = 1 * w (k + 0) (ps (k + 0))
    rw [Nat.mul_one, Nat.one_mul, Nat.add_zero]
  | m + 1, k => by
    show w k (ps k) * qr w ps (k + 1) (m + 1) = w k (ps k) * qr w ps (k + 1) m * w (k + (m + 1)) (ps (k + (m + 1)))
    rw [qr_l m (k + 1), Nat.mul_assoc, show k + 1 + m = k + (m + 1) by omega]
theorem prV_qr {wf : Nat → Nat} {w : Nat → Nat → Nat} {ps : Nat → Nat} : ∀ P, (∀ j, j < P → wf (32 * j + ps j) = w j (ps j)) → prV wf ps P = qr w ps 0 P % 1000000007
  | 0, _ => rfl
  | P + 1, h => by
    show prV wf ps P * wf (32 * P + ps P) % 1000000007 = _
    rw [prV_qr P (fun j hj => h j (by omega)), h P (by omega), Nat.mod_mul_mod, qr_l, Nat.zero_add]
theorem qr_c {w : Nat → Nat → Nat} {ps qs : Nat → Nat} : ∀ m k, (∀ j, j < k + m → ps j = qs j) → qr w ps k m = qr w qs k m
  | 0, _, _ => rfl
  | m + 1, k, h => by
    show w k (ps k) * qr w ps (k + 1) m = w k (qs k) * qr w qs (k + 1) m
    rw [h k (by omega), qr_c m (k + 1) (fun j hj => h j (by omega))]
theorem suV_sg {w : Nat → Nat} {pv : Nat → Nat → Nat} {P : Nat} : ∀ m, suV w pv P m = sg (fun lk => prV w (pv lk) P) m % 1000000007
  | 0 => rfl
  | m + 1 => by
    show (suV w pv P m + prV w (pv m) P) % 1000000007 = (sg (fun lk => prV w (pv lk) P) m + prV w (pv m) P) % 1000000007
    rw [suV_sg m, Nat.mod_add_mod]
theorem okS_i {F : Nat → Nat} {Wy sl : Nat → Nat → Nat} {k s kn va : Nat} : okS F Wy sl k s kn va = true ↔ ¬ Wy k s = 0 ∧ okC F sl k s kn va := by
  unfold okS okC
  rw [Bool.and_eq_true, Bool.and_eq_true, decide_eq_true_eq, decide_eq_true_eq, decide_eq_true_eq]
section SUMS
variable {F : Nat → Nat} {Wy sl : Nat → Nat → Nat} {P L st : Nat}
theorem sfH_e (hsl : ∀ j, j < P → ∀ f, f < F j → sl j f < 12 → sl j f < L) (hL : L ≤ 12) (hcov : ∀ b, b < L → ∃ j, j < P ∧ ∃ f, f < F j ∧ sl j f = b) : ∀ m k kn va, k + m = P → IVk F sl P L st k kn va → sfH F Wy sl m k kn va = sg (fun lk => if agr st lk kn va then qr Wy (pst F sl st lk) k m else 0) (1 <<< L) % 1000000007
  | 0, k, kn, va, e, hI => by
    have ek : k = P := by omega
    subst ek
    have hE := IVk_e hL hcov hI
    have hlt : va % 2 ^ L < 1 <<< L := by rw [Nat.one_shiftLeft]; exact Nat.mod_lt _ (Nat.two_pow_pos L)
    rw [sg_one (i0 := va % 2 ^ L) _ hlt (fun i hi hne => if_neg (fun q => hne ((hE i hi).mp q))), if_pos ((hE _ hlt).mpr rfl)]
    rfl
  | m + 1, k, kn, va, e, hI => by
    have hk : k < P := by omega
    have e1 : sfH F Wy sl (m + 1) k kn va = sg (fun s => if okS F Wy sl k s kn va then Wy k s * sfH F Wy sl m (k + 1) (kn ||| slO (sl k) (F k)) (va ||| bO (sl k) s (F k)) else 0) (1 <<< F k) % 1000000007 := acS_sg _
    have e2 : sg (fun s => if okS F Wy sl k s kn va then Wy k s * sfH F Wy sl m (k + 1) (kn ||| slO (sl k) (F k)) (va ||| bO (sl k) s (F k)) else 0) (1 <<< F k) % 1000000007 = sg (fun s => sg (fun lk => if pst F sl st lk k = s ∧ agr st lk kn va then Wy k s * qr Wy (pst F sl st lk) (k + 1) m else 0) (1 <<< L)) (1 <<< F k) % 1000000007 := by
      refine sg_m _ (fun s hs => ?_)
      by_cases hok : okS F Wy sl k s kn va = true
      · obtain ⟨hw, hC⟩ := okS_i.mp hok
        rw [if_pos hok, sfH_e hsl hL hcov m (k + 1) _ _ (by omega) (IVk_s hsl hk hI hC), Nat.mul_mod_mod, ← sg_mul]
        refine congrArg (· % 1000000007) (sg_c _ (fun lk _ => ?_))
        have hA := agr_s (F := F) (sl := sl) (st := st) (lk := lk) hI.1 hs
        by_cases ha : agr st lk (kn ||| slO (sl k) (F k)) (va ||| bO (sl k) s (F k))
        · rw [if_pos ha, if_pos (hA.mpr ⟨hC, ha⟩)]
        · rw [if_neg ha, if_neg (fun q => ha (hA.mp q).2), Nat.mul_zero]
      · rw [if_neg hok, sg_0 _ (fun lk _ => ?_)]
        by_cases hw : Wy k s = 0
        · rw [hw, Nat.zero_mul]
          exact ite_self 0
        · exact if_neg (fun q => hok (okS_i.mpr ⟨hw, ((agr_s (st := st) (lk := lk) hI.1 hs).mp q).1⟩))
    rw [e1, e2, sg_swap]
    refine congrArg (· % 1000000007) (sg_c _ (fun lk _ => ?_))
    rw [sg_one (i0 := pst F sl st lk k) _ (pst_lt F sl st lk k) (fun s _ hne => if_neg (fun q => hne q.1.symm))]
    by_cases ha : agr st lk kn va
    · rw [if_pos ha, if_pos ⟨rfl, ha⟩]
      rfl
    · rw [if_neg ha, if_neg (fun q => ha q.2)]
theorem fnd_iS {R : Nat → Bool} {m : Nat} : (fnd R m 0).isSome = true ↔ ∃ i, i < m ∧ R i = true := by
  constructor
  · intro h
    rcases hq : fnd R m 0 with _ | j
    · rw [hq] at h
      exact absurd h (by decide)
    · have := fnd_lt _ _ hq
      exact ⟨j, by omega, this.2.2⟩
  · rintro ⟨i, hi, h⟩
    exact fnd_y hi h
theorem sfA_e (hsl : ∀ j, j < P → ∀ f, f < F j → sl j f < 12 → sl j f < L) (hL : L ≤ 12) (hcov : ∀ b, b < L → ∃ j, j < P ∧ ∃ f, f < F j ∧ sl j f = b) : ∀ m k kn va, k + m = P → IVk F sl P L st k kn va → (sfA F Wy sl m k kn va = true ↔ ∃ lk, lk < 1 <<< L ∧ agr st lk kn va ∧ ∀ j, k ≤ j → j < P → 0 < Wy j (pst F sl st lk j))
  | 0, k, kn, va, e, hI => by
    have ek : k = P := by omega
    subst ek
    have hlt : va % 2 ^ L < 1 <<< L := by rw [Nat.one_shiftLeft]; exact Nat.mod_lt _ (Nat.two_pow_pos L)
    exact ⟨fun _ => ⟨va % 2 ^ L, hlt, (IVk_e hL hcov hI _ hlt).mpr rfl, fun j h1 h2 => by omega⟩, fun _ => rfl⟩
  | m + 1, k, kn, va, e, hI => by
    have hk : k < P := by omega
    rw [sfA_s, fnd_iS]
    constructor
    · rintro ⟨s, hs, h⟩
      unfold paS at h
      rw [Bool.and_eq_true] at h
      obtain ⟨hw, hC⟩ := okS_i.mp h.1
      obtain ⟨lk, h1, h2, h3⟩ := (sfA_e hsl hL hcov m (k + 1) _ _ (by omega) (IVk_s hsl hk hI hC)).mp h.2
      obtain ⟨hp, ha⟩ := (agr_s (st := st) (lk := lk) hI.1 hs).mpr ⟨hC, h2⟩
      refine ⟨lk, h1, ha, fun j hj1 hj2 => ?_⟩
      by_cases ej : j = k
      · rw [ej, hp]
        omega
      · exact h3 j (by omega) hj2
    · rintro ⟨lk, h1, h2, h3⟩
      obtain ⟨hC, ha⟩ := (agr_s (F := F) (sl := sl) (st := st) (lk := lk) hI.1 (pst_lt F sl st lk k)).mp ⟨rfl, h2⟩
      refine ⟨pst F sl st lk k, pst_lt F sl st lk k, ?_⟩
      unfold paS
      rw [Bool.and_eq_true]
      exact ⟨okS_i.mpr ⟨by have := h3 k (by omega) hk; omega, hC⟩, (sfA_e hsl hL hcov m (k + 1) _ _ (by omega) (IVk_s hsl hk hI hC)).mpr ⟨lk, h1, ha, fun j hj1 hj2 => h3 j (by omega) hj2⟩⟩
end SUMS
/-- each LINK is some FACE's -/
def MNl (μ : Sx) : Prop := ∀ n, n < μ.1 18 → ∀ l, l < μ.2.1 8 n → ∃ k, k < μ.2.1 7 n ∧ ∃ f, f < fM μ n k ∧ lkM μ n (10 * k + f) = some l
section NETS
variable {μ : Sx} {n st : Nat}
theorem slM_s {k f l : Nat} (h : lkM μ n (10 * k + f) = some l) : slM μ n k f = l := by unfold slM; rw [h]
theorem slM_n {k f : Nat} (h : lkM μ n (10 * k + f) = none) : slM μ n k f = 12 + (fcN (fM μ n) (zM μ n) k + fc1 (zM μ n) k f) := by unfold slM; rw [h]
theorem slM_l (h2 : μ.2.1 8 n ≤ 12) {k f : Nat} (h : slM μ n k f < 12) : slM μ n k f < μ.2.1 8 n := by
  cases hq : lkM μ n (10 * k + f) with
  | none =>
    rw [slM_n hq] at h
    omega
  | some l =>
    rw [slM_s hq]
    have := fnd_lt _ _ hq
    omega
theorem psB_x (h2 : μ.2.1 8 n ≤ 12) {lk k f : Nat} (hlk : lk < 2 ^ 12) : psB μ n st lk k f = (xv st lk).testBit (slM μ n k f) := by
  cases hq : lkM μ n (10 * k + f) with
  | none => rw [psB_n hq, slM_n hq, xv_hi hlk (by omega), Nat.add_sub_cancel_left]
  | some l =>
    have := fnd_lt _ _ hq
    rw [psB_s hq, slM_s hq, xv_lo (by omega)]
theorem psV_x (h2 : μ.2.1 8 n ≤ 12) {lk k : Nat} (hlk : lk < 2 ^ 12) : psV μ n st lk k = pst (fM μ n) (slM μ n) st lk k := bo_congr fun f _ => psB_x h2 hlk
theorem kn_tb {c b : Nat} : (((1 <<< c) - 1) <<< 12).testBit b = (decide (12 ≤ b) && decide (b - 12 < c)) := by
  rw [Nat.testBit_shiftLeft, Nat.one_shiftLeft, Nat.testBit_two_pow_sub_one]
theorem IV_0 (h2 : μ.2.1 8 n ≤ 12) (hst : st < 1 <<< fcM μ n) : IVk (fM μ n) (slM μ n) (μ.2.1 7 n) (μ.2.1 8 n) st 0 (((1 <<< fcM μ n) - 1) <<< 12) (st <<< 12) := by
  rw [Nat.one_shiftLeft] at hst
  refine ⟨fun b hb => ?_, fun b hb _ => ?_, fun j hj f hf q => ?_, fun b hb h => ?_, fun j hj => absurd hj (Nat.not_lt_zero j)⟩
  · rw [Nat.testBit_shiftLeft, Bool.and_eq_true, decide_eq_true_eq] at hb
    rw [kn_tb, decide_eq_true hb.1, Bool.true_and, decide_eq_true_eq]
    by_cases h : b - 12 < fcM μ n
    · exact h
    · rw [Nat.testBit_lt_two_pow (Nat.lt_of_lt_of_le hst (Nat.pow_le_pow_right (by decide) (by omega)))] at hb
      exact absurd hb.2 (by decide)
  · rw [Nat.testBit_shiftLeft, decide_eq_true hb, Bool.true_and]
  · rw [kn_tb, decide_eq_true q, Bool.true_and, decide_eq_true_eq]
    cases hq : lkM μ n (10 * j + f) with
    | some l =>
      have := fnd_lt _ _ hq
      rw [slM_s hq] at q
      omega
    | none =>
      rw [slM_n hq]
      have h5 := zM_n hq
      have a := fc1_mono (Z := zM μ n) (k := j) (m := fM μ n j) (fM μ n j - (f + 1)) (f + 1) (by omega)
      have b := fcN_mono (F := fM μ n) (Z := zM μ n) (P := μ.2.1 7 n) (μ.2.1 7 n - (j + 1)) (j + 1) (by omega)
      have e : fcN (fM μ n) (zM μ n) (j + 1) = fcN (fM μ n) (zM μ n) j + fc1 (zM μ n) j (fM μ n j) := rfl
      show 12 + (fcN (fM μ n) (zM μ n) j + fc1 (zM μ n) j f) - 12 < fcN (fM μ n) (zM μ n) (μ.2.1 7 n)
      omega
  · rw [kn_tb, decide_eq_false (by omega), Bool.false_and] at h
    exact absurd h (by decide)
theorem agr_0 {lk c : Nat} (hlk : lk < 2 ^ 12) : agr st lk (((1 <<< c) - 1) <<< 12) (st <<< 12) := by
  rw [agr_i]
  intro b hb
  rw [kn_tb, Bool.and_eq_true, decide_eq_true_eq] at hb
  rw [xv_hi hlk hb.1, Nat.testBit_shiftLeft, decide_eq_true hb.1, Bool.true_and]
theorem cov_M (hl : MNl μ) (hn : n < μ.1 18) : ∀ b, b < μ.2.1 8 n → ∃ j, j < μ.2.1 7 n ∧ ∃ f, f < fM μ n j ∧ slM μ n j f = b := fun b hb => by
  obtain ⟨k, hk, f, hf, e⟩ := hl n hn b hb
  exact ⟨k, hk, f, hf, slM_s e⟩
theorem lk_12 {L lk : Nat} (hL : L ≤ 12) (h : lk < 1 <<< L) : lk < 2 ^ 12 := by
  rw [Nat.one_shiftLeft] at h
  exact Nat.lt_of_lt_of_le h (Nat.pow_le_pow_right (by decide) hL)
theorem wyF_M {j s : Nat} (hs : s < 32) : wyF μ n (32 * j + s) = wyM μ n j s := by
  show wyM μ n ((32 * j + s) / 32) ((32 * j + s) % 32) = _
  rw [show (32 * j + s) / 32 = j by omega, show (32 * j + s) % 32 = s by omega]
theorem QH_M (hb0 : MIb μ) (hn0 : MIn μ) (hl : MNl μ) : QH μ := by
  intro n hn hc st hst
  obtain ⟨h1, h2, h3, h4⟩ := hn0.2 n hn
  have hN := mn1 (mi0 hb0) hn0 hn
  rw [sfH_e (fun j _ f _ q => slM_l h2 q) h2 (cov_M hl hn) _ _ _ _ (Nat.zero_add _) (IV_0 h2 hst)]
  show _ = suV (wyF μ n) (psV μ n st) (μ.2.1 7 n) (1 <<< μ.2.1 8 n)
  rw [suV_sg]
  refine sg_m _ (fun lk hlk => ?_)
  have h12 := lk_12 h2 hlk
  rw [if_pos (agr_0 h12), prV_qr (w := wyM μ n) _ (fun j hj => wyF_M (psV_lt hN st lk hj)), Nat.mod_mod]
  refine congrArg (· % 1000000007) (qr_c _ _ (fun j _ => (psV_x h2 h12).symm))
theorem alB_i {w ps : Nat → Nat} : ∀ P, alB w ps P = true ↔ ∀ j, j < P → 0 < w (32 * j + ps j)
  | 0 => ⟨fun _ j hj => absurd hj (Nat.not_lt_zero j), fun _ => rfl⟩
  | P + 1 => by
    show (alB w ps P && decide (0 < w (32 * P + ps P))) = true ↔ _
    rw [Bool.and_eq_true, alB_i P, decide_eq_true_eq]
    constructor
    · rintro ⟨h1, h2⟩ j hj
      by_cases e : j = P
      · rw [e]
        exact h2
      · exact h1 j (by omega)
    · intro h
      exact ⟨fun j hj => h j (by omega), h P (by omega)⟩
theorem QA_M (hb0 : MIb μ) (hn0 : MIn μ) (hl : MNl μ) : QA μ := by
  intro n hn hc st hst
  obtain ⟨h1, h2, h3, h4⟩ := hn0.2 n hn
  have hN := mn1 (mi0 hb0) hn0 hn
  have hi : ∀ x y : Bool, (x = true ↔ y = true) → x = y := by decide
  refine hi _ _ ?_
  rw [sfA_e (fun j _ f _ q => slM_l h2 q) h2 (cov_M hl hn) _ _ _ _ (Nat.zero_add _) (IV_0 h2 hst), fnd_iS]
  constructor
  · rintro ⟨lk, hlk, -, h⟩
    refine ⟨lk, hlk, (alB_i _).mpr (fun j hj => ?_)⟩
    have q := h j (Nat.zero_le _) hj
    rw [← psV_x h2 (lk_12 h2 hlk), ← wyF_M (psV_lt hN st lk hj)] at q
    exact q
  · rintro ⟨lk, hlk, h⟩
    refine ⟨lk, hlk, agr_0 (lk_12 h2 hlk), fun j _ hj => ?_⟩
    have q := (alB_i _).mp h j hj
    rw [wyF_M (psV_lt hN st lk hj), psV_x h2 (lk_12 h2 hlk)] at q
    exact q
end NETS
