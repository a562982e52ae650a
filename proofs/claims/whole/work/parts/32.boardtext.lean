
/-! how a TEXT of a BOARD is read -/
def SG (c : Nat) : Prop := c = 35 ∨ c = 46 ∨ (48 ≤ c ∧ c ≤ 52)
def RI (t : Nat → Nat) (q sn x y w : Nat) : Prop := (q = y * (w + 1) + x ∧ y ≤ 3 ∧ x ≤ 5 ∧ (0 < y → 1 ≤ w ∧ w ≤ 5 ∧ x ≤ w) ∧ sn < 32) ∧ (∀ y', y' < y → (∀ x', x' < w → SG (t (y' * (w + 1) + x'))) ∧ t (y' * (w + 1) + w) = 47) ∧ (∀ x', x' < x → SG (t (y * (w + 1) + x'))) ∧ UQ (rdc t w x y) ∧ ∀ j, sn.testBit j = true ↔ ∃ k, k < 20 ∧ rdc t w x y k = 10 + j
theorem RI_s {t : Nat → Nat} {q sn x y w : Nat} (h : RI t q sn x y w) (h47 : t q = 47) (hb : ¬ (x = 0 ∨ (0 < y ∧ x < w) ∨ y = 3)) : RI t (q + 1) sn 0 (y + 1) x := by
  obtain ⟨⟨a1, a2, a3, a4, a5⟩, b1, b2, b3, b4⟩ := h
  have hx : 0 < y → x = w := fun z => by have := a4 z; omega
  have e0 : y * (w + 1) = y * (x + 1) := by
    rcases Nat.eq_zero_or_pos y with z | z
    · rw [z, Nat.zero_mul, Nat.zero_mul]
    · rw [hx z]
  have e1 : rdc t w x y = rdc t x 0 (y + 1) := funext fun k => rdc_l hx
  rw [e1] at b3 b4
  refine ⟨⟨rd_q1 a1 hx, by omega, by omega, fun _ => ⟨by omega, a3, by omega⟩, a5⟩, fun y' hy => ?_, fun x' hx' => by omega, b3, b4⟩
  by_cases z : y' = y
  · rw [z]
    refine ⟨fun x' hx' => ?_, ?_⟩
    · rw [← e0]
      exact b2 x' hx'
    · rw [← e0, ← a1]
      exact h47
  · have q := b1 y' (by omega)
    rw [← hx (by omega)] at q
    exact q
theorem sg_bd {c sn : Nat} (h : ¬ bdC c sn = true) : SG c ∧ (48 ≤ c → c ≤ 52 → sn.testBit (c - 48) = false) := by
  by_cases h1 : c = 35
  · exact ⟨Or.inl h1, fun q _ => by omega⟩
  · by_cases h2 : c = 46
    · exact ⟨Or.inr (Or.inl h2), fun q _ => by omega⟩
    · by_cases h3 : c < 48 ∨ 52 < c ∨ sn.testBit (c - 48) = true
      · exact absurd (bdC_3 h1 h2 h3) h
      · have h4 : 48 ≤ c ∧ c ≤ 52 := ⟨by omega, by omega⟩
        exact ⟨Or.inr (Or.inr h4), fun _ _ => by
          cases z : sn.testBit (c - 48)
          · rfl
          · exact absurd (Or.inr (Or.inr z)) h3⟩
theorem cdT_v {c : Nat} (h : SG c) : cdT c = 0 ∨ cdT c = 1 ∨ (10 ≤ cdT c ∧ cdT c < 15) := by
  rcases h with h | h | h
  · rw [h]; exact Or.inl rfl
  · rw [h]; exact Or.inr (Or.inl rfl)
  · unfold cdT
    rw [if_neg (by omega), if_neg (by omega)]
    omega
theorem cdT_f {c : Nat} (h : SG c) (h10 : 10 ≤ cdT c) : 48 ≤ c ∧ c ≤ 52 ∧ cdT c = 10 + (c - 48) := by
  rcases h with h | h | h
  · rw [h] at h10; exact absurd h10 (by decide)
  · rw [h] at h10; exact absurd h10 (by decide)
  · refine ⟨h.1, h.2, ?_⟩
    unfold cdT
    rw [if_neg (by omega), if_neg (by omega)]
    omega
theorem RI_c {t : Nat → Nat} {q sn x y w : Nat} (h : RI t q sn x y w) (h47 : ¬ t q = 47) (hb : ¬ (x = 5 ∨ (0 < y ∧ x = w) ∨ bdC (t q) sn = true)) : RI t (q + 1) (seN (t q) sn) (x + 1) y w := by
  obtain ⟨⟨a1, a2, a3, a4, a5⟩, b1, b2, b3, b4⟩ := h
  have hx : x < 5 := by omega
  have hw : 0 < y → x < w := fun z => by have := a4 z; omega
  obtain ⟨hs, hn⟩ := sg_bd (fun z => hb (Or.inr (Or.inr z)))
  have hk : 5 * y + x < 20 := by omega
  have e : ∀ k, rdc t w (x + 1) y k = if k = 5 * y + x then cdT (t q) else rdc t w x y k := fun k => rdc_c hx hw a1
  have e0 : rdc t w x y (5 * y + x) = 0 := by unfold rdc; rw [if_neg (by omega)]
  have hnew : 10 ≤ cdT (t q) → ∀ i, i < 20 → ¬ rdc t w x y i = cdT (t q) := by
    intro h10 i hi z
    obtain ⟨c1, c2, c3⟩ := cdT_f hs h10
    have := (b4 (t q - 48)).mpr ⟨i, hi, by omega⟩
    rw [hn c1 c2] at this
    cases this
  refine ⟨⟨by omega, a2, by omega, fun z => ⟨(a4 z).1, (a4 z).2.1, hw z⟩, seN_lt a5⟩, b1, fun x' hx' => ?_, ⟨fun k hk => ?_, fun k i hk hi h10 he => ?_⟩, fun j => ?_⟩
  · by_cases z : x' = x
    · rw [z, ← a1]; exact hs
    · exact b2 x' (by omega)
  · rw [e]
    split
    · exact cdT_v hs
    · exact b3.1 k hk
  · rw [e] at h10 he
    rw [e i] at he
    by_cases zk : k = 5 * y + x
    · rw [if_pos zk] at h10 he
      by_cases zi : i = 5 * y + x
      · omega
      · rw [if_neg zi] at he
        exact absurd he.symm (hnew h10 i hi)
    · rw [if_neg zk] at h10 he
      by_cases zi : i = 5 * y + x
      · rw [if_pos zi] at he
        exact absurd he (hnew (by omega) k hk)
      · rw [if_neg zi] at he
        exact b3.2 k i hk hi h10 he
  · have b := b4 j
    unfold seN
    by_cases hd : 48 ≤ t q ∧ t q ≤ 52
    · rw [if_pos hd, Nat.testBit_or, Nat.one_shiftLeft, Nat.testBit_two_pow, Bool.or_eq_true, decide_eq_true_eq, b]
      have hc : cdT (t q) = 10 + (t q - 48) := by unfold cdT; rw [if_neg (by omega), if_neg (by omega)]; omega
      constructor
      · rintro (⟨k, hk, z⟩ | z)
        · refine ⟨k, hk, ?_⟩
          rw [e, if_neg (fun g => by rw [g, e0] at z; omega)]
          exact z
        · exact ⟨5 * y + x, by omega, by rw [e, if_pos rfl, hc, z]⟩
      · rintro ⟨k, hk, z⟩
        rw [e] at z
        by_cases g : k = 5 * y + x
        · rw [if_pos g, hc] at z
          exact Or.inr (by omega)
        · rw [if_neg g] at z
          exact Or.inl ⟨k, hk, z⟩
    · rw [if_neg hd, b]
      have hc : cdT (t q) < 10 := by
        rcases Nat.lt_or_ge (cdT (t q)) 10 with g | g
        · exact g
        · have := cdT_f hs g
          exact absurd ⟨this.1, this.2.1⟩ hd
      constructor
      · rintro ⟨k, hk, z⟩
        refine ⟨k, hk, ?_⟩
        rw [e, if_neg (fun g => by rw [g, e0] at z; omega)]
        exact z
      · rintro ⟨k, hk, z⟩
        rw [e] at z
        by_cases g : k = 5 * y + x
        · rw [if_pos g] at z
          omega
        · rw [if_neg g] at z
          exact ⟨k, hk, z⟩
theorem rd_ok {t : Nat → Nat} : ∀ (k q sn x y w : Nat), RI t q sn x y w → ∀ q2 sn2 x2 y2 w2, rdL t k q sn x y w = (q2, some (sn2, x2, y2, w2)) → q2 = q + k ∧ RI t q2 sn2 x2 y2 w2
  | 0, q, sn, x, y, w, h, q2, sn2, x2, y2, w2, e => by
    unfold rdL at e
    cases e
    exact ⟨rfl, h⟩
  | k + 1, q, sn, x, y, w, h, q2, sn2, x2, y2, w2, e => by
    unfold rdL at e
    by_cases h47 : t q = 47
    · rw [if_pos h47] at e
      by_cases hb : x = 0 ∨ (0 < y ∧ x < w) ∨ y = 3
      · rw [if_pos hb] at e
        cases e
      · rw [if_neg hb] at e
        obtain ⟨a, b⟩ := rd_ok k _ _ _ _ _ (RI_s h h47 hb) _ _ _ _ _ e
        exact ⟨by omega, b⟩
    · rw [if_neg h47] at e
      by_cases hb : x = 5 ∨ (0 < y ∧ x = w) ∨ bdC (t q) sn = true
      · rw [if_pos hb] at e
        cases e
      · rw [if_neg hb] at e
        obtain ⟨a, b⟩ := rd_ok k _ _ _ _ _ (RI_c h h47 hb) _ _ _ _ _ e
        exact ⟨by omega, b⟩
/-- a TEXT that can stand -/
def TXT (t : Nat → Nat) (n w h : Nat) : Prop := n + 1 = h * (w + 1) ∧ (1 ≤ w ∧ w ≤ 5) ∧ (1 ≤ h ∧ h ≤ 4) ∧ (∀ y, y < h → ∀ x, x < w → SG (t (y * (w + 1) + x))) ∧ ∀ y, y + 1 < h → t (y * (w + 1) + w) = 47
theorem RI_0 (t : Nat → Nat) : RI t 0 0 0 0 0 := by
  have e : ∀ k, rdc t 0 0 0 k = 0 := fun k => rdc_0 t 0 k
  refine ⟨⟨rfl, by omega, by omega, fun z => absurd z (by omega), by decide⟩, fun y hy => absurd hy (Nat.not_lt_zero y), fun x hx => absurd hx (Nat.not_lt_zero x), ⟨fun k _ => Or.inl (e k), fun k i _ _ h => ?_⟩, fun j => ?_⟩
  · rw [e] at h
    omega
  · rw [Nat.zero_testBit]
    constructor
    · intro h
      cases h
    · rintro ⟨k, -, z⟩
      rw [e] at z
      omega
theorem rd_tx {t : Nat → Nat} {n q w h f : Nat} (e : rdE (rdL t n 0 0 0 0 0) = (q, some (w, h, f))) : q = n ∧ TXT t n w h ∧ BS w h f (rdc t w 0 h) := by
  rcases hr : rdL t n 0 0 0 0 0 with ⟨q2, _ | ⟨sn, x, y, w2⟩⟩
  · rw [hr] at e
    unfold rdE at e
    cases e
  · rw [hr] at e
    unfold rdE at e
    dsimp only at e
    obtain ⟨hq, ⟨⟨a1, a2, a3, a4, a5⟩, b1, b2, b3, b4⟩⟩ := rd_ok n 0 0 0 0 0 (RI_0 t) _ _ _ _ _ hr
    by_cases hb : x = 0 ∨ (0 < y ∧ x < w2)
    · rw [if_pos hb] at e
      cases e
    · rw [if_neg hb] at e
      by_cases hf : sn = 1 <<< tro sn 5 0 - 1
      · rw [if_pos hf] at e
        simp only [Prod.mk.injEq, Option.some.injEq] at e
        obtain ⟨g1, g2, g3, g4⟩ := e
        subst g2
        subst g3
        subst g4
        have hx : 0 < y → x = w2 := fun z => by have := a4 z; omega
        have e0 : y * (w2 + 1) = y * (x + 1) := by
          rcases Nat.eq_zero_or_pos y with z | z
          · rw [z, Nat.zero_mul, Nat.zero_mul]
          · rw [hx z]
        have e1 : rdc t w2 x y = rdc t x 0 (y + 1) := funext fun k => rdc_l hx
        rw [e1] at b3 b4
        have ht5 : tro sn 5 0 ≤ 5 := by
          have hs : ∀ s, s < 32 → tro s 5 0 ≤ 5 := by decide +kernel
          exact hs sn a5
        have hbit : ∀ j, sn.testBit j = true ↔ j < tro sn 5 0 := by
          intro j
          conv => lhs; rw [hf]
          rw [Nat.one_shiftLeft, Nat.testBit_two_pow_sub_one, decide_eq_true_eq]
        refine ⟨by omega, ⟨?_, ⟨by omega, a3⟩, ⟨by omega, by omega⟩, fun y' hy => ?_, fun y' hy => ?_⟩, ⟨⟨⟨by omega, a3⟩, ⟨by omega, by omega⟩, ht5⟩, fun k hk z => ?_, fun k hk => ?_, fun j hj => ?_, b3.2⟩⟩
        · have := rd_q1 a1 hx
          omega
        · by_cases z : y' = y
          · intro x' hx'
            rw [z, ← e0]
            exact b2 x' hx'
          · have q := (b1 y' (by omega)).1
            rw [← hx (by omega)] at q
            exact q
        · have q := (b1 y' (by omega)).2
          rw [← hx (by omega)] at q
          exact q
        · unfold rdc
          exact if_neg (by omega)
        · rcases b3.1 k hk with z | z | z
          · exact Or.inl z
          · exact Or.inr (Or.inl z)
          · have := (b4 (rdc t x 0 (y + 1) k - 10)).mpr ⟨k, hk, by omega⟩
            have := (hbit _).mp this
            exact Or.inr (Or.inr ⟨z.1, by omega⟩)
        · exact (b4 j).mp ((hbit j).mpr hj)
      · rw [if_neg hf] at e
        cases e
theorem gap_e : ∀ sn, sn < 32 → ((sn &&& (sn + 1) = 0) ↔ sn = 1 <<< tro sn 5 0 - 1) := by decide +kernel
def ftV : Nat × Option (Nat × Nat × Nat) → Int32
  | (q, none) => nI q
  | (_, some _) => -1
def tpL2 (G : Gt) (b : Nat) (σ : Sx) : List va_E := tpL G b σ
theorem bk_tp {G : Gt} {o : Nat} {σ : Sx} {H : Heap} (h : bk G o (xL G o σ) H) : bk G (o + 1) (tpL G (o + 1) σ) H := by
  intro k e hk
  have hz : k < 1 := (List.getElem?_eq_some_iff.mp hk).1
  obtain rfl : k = 0 := by omega
  cases hk
  exact h 1 _ rfl

set_option maxHeartbeats 1000000 in
set_option maxRecDepth 100000 in
theorem c_X1_faceOf_f (l : Launch) (G : Gt) (sg : Nat) (h1 : 48 ≤ sg) (h2 : sg ≤ 52) : Cr l G yX1_faceOf cX1_faceOf 1 ((some .int)) 0 [.int (nI sg)] (fun H => True) (some (.int (nI (sg - 48)))) := by
  refine cr_entry [(0, .int (nI sg))] (by decide) (Nat.le_of_ble_eq_true rfl) rfl ?_
  intro zp ze zs zm za zb zt zc Q S hK hPre hE ls hl
  have hx := S.1
  have hb := S.2.1
  refine lv_iload_n hx hb dX1_faceOf_0 rfl (lv_at hl 0 rfl) ?_
  refine lv_bipush (v := nI 48) hx hb dX1_faceOf_1 (by decide) ?_
  refine n_icmp_lt (tgt := 19) hx hb dX1_faceOf_3 (by decide) (by omega) (by decide) (fun c_3 => ?_) (fun c_3 => ?_)
  ·
    omega
  ·
    refine lv_iload_n hx hb dX1_faceOf_6 rfl (lv_at hl 0 rfl) ?_
    refine lv_bipush (v := nI 53) hx hb dX1_faceOf_7 (by decide) ?_
    refine n_icmp_ge (tgt := 19) hx hb dX1_faceOf_9 (by decide) (by omega) (by decide) (fun c_9 => ?_) (fun c_9 => ?_)
    ·
      omega
    ·
      refine lv_iload_n hx hb dX1_faceOf_12 rfl (lv_at hl 0 rfl) ?_
      refine lv_bipush (v := nI 48) hx hb dX1_faceOf_13 (by decide) ?_
      refine n_isub hx hb dX1_faceOf_15 (by omega) ?_
      refine lv_goto (tgt := 20) hx hb dX1_faceOf_16 (by decide) ?_
      exact hE _ _ (kr_i dX1_faceOf_20)

set_option maxHeartbeats 1000000 in
set_option maxRecDepth 100000 in
theorem c_X1_faceOf_n (l : Launch) (G : Gt) (sg : Nat) (h1 : sg < 48 ∨ 52 < sg) (h2 : sg < 256) : Cr l G yX1_faceOf cX1_faceOf 1 ((some .int)) 0 [.int (nI sg)] (fun H => True) (some (.int (-1))) := by
  refine cr_entry [(0, .int (nI sg))] (by decide) (Nat.le_of_ble_eq_true rfl) rfl ?_
  intro zp ze zs zm za zb zt zc Q S hK hPre hE ls hl
  have hx := S.1
  have hb := S.2.1
  refine lv_iload_n hx hb dX1_faceOf_0 rfl (lv_at hl 0 rfl) ?_
  refine lv_bipush (v := nI 48) hx hb dX1_faceOf_1 (by decide) ?_
  refine n_icmp_lt (tgt := 19) hx hb dX1_faceOf_3 (by decide) (by omega) (by decide) (fun c_3 => ?_) (fun c_3 => ?_)
  ·
    refine lv_iconst (v := (-1)) hx hb dX1_faceOf_19 (by decide) ?_
    exact hE _ _ (kr_i dX1_faceOf_20)
  ·
    refine lv_iload_n hx hb dX1_faceOf_6 rfl (lv_at hl 0 rfl) ?_
    refine lv_bipush (v := nI 53) hx hb dX1_faceOf_7 (by decide) ?_
    refine n_icmp_ge (tgt := 19) hx hb dX1_faceOf_9 (by decide) (by omega) (by decide) (fun c_9 => ?_) (fun c_9 => ?_)
    ·
      refine lv_iconst (v := (-1)) hx hb dX1_faceOf_19 (by decide) ?_
      exact hE _ _ (kr_i dX1_faceOf_20)
    ·
      omega

set_option maxHeartbeats 1000000 in
set_option maxRecDepth 100000 in
theorem c_X1_codeOf_y (l : Launch) (G : Gt) (sg : Nat) (hsg : SG sg) : Cr l G yX1_codeOf cX1_codeOf 1 ((some .int)) 1 [.int (nI sg)] (fun H => True) (some (.int (nI (cdT sg)))) := by
  refine cr_entry [(0, .int (nI sg))] (by decide) (Nat.le_of_ble_eq_true rfl) rfl ?_
  intro zp ze zs zm za zb zt zc Q S hK hPre hE ls hl
  have hx := S.1
  have hb := S.2.1
  have h256 : sg < 256 := by rcases hsg with q | q | q <;> omega
  refine lv_iload_n hx hb dX1_codeOf_0 rfl (lv_at hl 0 rfl) ?_
  refine lv_bipush (v := nI 35) hx hb dX1_codeOf_1 (by decide) ?_
  refine n_icmp_ne (tgt := 8) hx hb dX1_codeOf_3 (by decide) (by omega) (by decide) (fun c_3 => ?_) (fun c_3 => ?_)
  ·
    refine lv_iload_n hx hb dX1_codeOf_8 rfl (lv_at hl 0 rfl) ?_
    refine lv_bipush (v := nI 46) hx hb dX1_codeOf_9 (by decide) ?_
    refine n_icmp_ne (tgt := 16) hx hb dX1_codeOf_11 (by decide) (by omega) (by decide) (fun c_11 => ?_) (fun c_11 => ?_)
    ·
      have hdg : 48 ≤ sg ∧ sg ≤ 52 := by rcases hsg with q | q | q <;> omega
      have hr : cdT sg = 10 + (sg - 48) := by unfold cdT; rw [if_neg c_3, if_neg c_11]; omega
      refine lv_iload_n hx hb dX1_codeOf_16 rfl (lv_at hl 0 rfl) ?_
      refine crS (rest := []) S hK (c_X1_faceOf_f l G sg (by first | assumption | omega | decide) (by first | assumption | omega | decide)) cw_X1_9 rfl ⟨Nat.le_of_ble_eq_true rfl, Nat.le_of_ble_eq_true rfl⟩ ⟨Nat.le_of_ble_eq_true rfl, Nat.le_of_ble_eq_true rfl⟩ hl.1 rfl (Nat.le_of_ble_eq_true rfl) dX1_codeOf_17 trivial ?_
      refine n_if_ge (tgt := 27) hx hb dX1_codeOf_20 (by decide) (by omega) (fun c_20 => ?_)
      refine lv_bipush (v := nI 10) hx hb dX1_codeOf_27 (by decide) ?_
      refine lv_iload_n hx hb dX1_codeOf_29 rfl (lv_at hl 0 rfl) ?_
      refine crS (rest := [.int (nI 10)]) S hK (c_X1_faceOf_f l G sg (by first | assumption | omega | decide) (by first | assumption | omega | decide)) cw_X1_9 rfl ⟨Nat.le_of_ble_eq_true rfl, Nat.le_of_ble_eq_true rfl⟩ ⟨Nat.le_of_ble_eq_true rfl, Nat.le_of_ble_eq_true rfl⟩ hl.1 rfl (Nat.le_of_ble_eq_true rfl) dX1_codeOf_30 trivial ?_
      refine n_iadd hx hb dX1_codeOf_33 ?_
      refine w_top (v' := .int (nI (cdT sg))) (congrArg (fun z => Value.int (nI z)) (show (10 + (sg - 48)) = (cdT sg) from hr.symm)) ?_
      exact hE _ _ (kr_i dX1_codeOf_34)
    ·
      have hr : cdT sg = 1 := by rw [c_11]; rfl
      refine lv_iconst (v := nI 1) hx hb dX1_codeOf_14 (by decide) ?_
      refine w_top (v' := .int (nI (cdT sg))) (congrArg (fun z => Value.int (nI z)) (show 1 = (cdT sg) from hr.symm)) ?_
      exact hE _ _ (kr_i dX1_codeOf_15)
  ·
    have hr : cdT sg = 0 := by rw [c_3]; rfl
    refine lv_iconst (v := nI 0) hx hb dX1_codeOf_6 (by decide) ?_
    refine w_top (v' := .int (nI (cdT sg))) (congrArg (fun z => Value.int (nI z)) (show 0 = (cdT sg) from hr.symm)) ?_
    exact hE _ _ (kr_i dX1_codeOf_7)

set_option maxHeartbeats 1000000 in
set_option maxRecDepth 100000 in
theorem c_X1_codeOf_n (l : Launch) (G : Gt) (sg : Nat) (hsg : ¬ SG sg) (h256 : sg < 256) : Cr l G yX1_codeOf cX1_codeOf 1 ((some .int)) 1 [.int (nI sg)] (fun H => True) (some (.int (-1))) := by
  refine cr_entry [(0, .int (nI sg))] (by decide) (Nat.le_of_ble_eq_true rfl) rfl ?_
  intro zp ze zs zm za zb zt zc Q S hK hPre hE ls hl
  have hx := S.1
  have hb := S.2.1
  refine lv_iload_n hx hb dX1_codeOf_0 rfl (lv_at hl 0 rfl) ?_
  refine lv_bipush (v := nI 35) hx hb dX1_codeOf_1 (by decide) ?_
  refine n_icmp_ne (tgt := 8) hx hb dX1_codeOf_3 (by decide) (by omega) (by decide) (fun c_3 => ?_) (fun c_3 => ?_)
  ·
    refine lv_iload_n hx hb dX1_codeOf_8 rfl (lv_at hl 0 rfl) ?_
    refine lv_bipush (v := nI 46) hx hb dX1_codeOf_9 (by decide) ?_
    refine n_icmp_ne (tgt := 16) hx hb dX1_codeOf_11 (by decide) (by omega) (by decide) (fun c_11 => ?_) (fun c_11 => ?_)
    ·
      have hdg : sg < 48 ∨ 52 < sg := by
        by_cases q : 48 ≤ sg ∧ sg ≤ 52
        · exact absurd (Or.inr (Or.inr q)) hsg
        · omega
      refine lv_iload_n hx hb dX1_codeOf_16 rfl (lv_at hl 0 rfl) ?_
      refine crS (rest := []) S hK (c_X1_faceOf_n l G sg (by first | assumption | omega | decide) (by first | assumption | omega | decide)) cw_X1_9 rfl ⟨Nat.le_of_ble_eq_true rfl, Nat.le_of_ble_eq_true rfl⟩ ⟨Nat.le_of_ble_eq_true rfl, Nat.le_of_ble_eq_true rfl⟩ hl.1 rfl (Nat.le_of_ble_eq_true rfl) dX1_codeOf_17 trivial ?_
      refine lv_if_ge (tgt := 27) hx hb dX1_codeOf_20 (by decide) (fun c_20 => ?_) (fun c_20 => ?_)
      ·
        exact absurd c_20 (by decide)
      ·
        refine lv_iconst (v := (-1)) hx hb dX1_codeOf_23 (by decide) ?_
        refine lv_goto (tgt := 34) hx hb dX1_codeOf_24 (by decide) ?_
        exact hE _ _ (kr_i dX1_codeOf_34)
    ·
      exact absurd (Or.inr (Or.inl c_11)) hsg
  ·
    exact absurd (Or.inl c_3) hsg

set_option maxHeartbeats 1000000 in
set_option maxRecDepth 100000 in
theorem c_X1_wideOf (l : Launch) (G : Gt) (b : Nat) (σ : Sx) (n : Nat) (w : Nat) (h : Nat) (hn40 : n ≤ 40) (h256 : ∀ i, i < n → σ.2.1 0 i < 256) (hT : TXT (σ.2.1 0) n w h) : Cr l G yX1_wideOf cX1_wideOf 3 ((some .int)) 0 [.ref b, .int (nI n)] (fun H => bk G b (tpL G b σ) H) (some (.int (nI w))) := by
  refine cr_entry [(0, .ref b), (1, .int (nI n))] (by decide) (Nat.le_of_ble_eq_true rfl) rfl ?_
  intro zp ze zs zm za zb zt zc Q S hK hPre hE ls hl
  have hx := S.1
  have hb := S.2.1
  have hTP := hPre
  obtain ⟨ht1, ⟨ht2, ht3⟩, ⟨ht4, ht5⟩, ht6, ht7⟩ := id hT
  have hnw : w ≤ n := by
    have q : 1 * (w + 1) ≤ h * (w + 1) := Nat.mul_le_mul_right _ ht4
    omega
  refine lv_iconst (v := nI 0) hx hb dX1_wideOf_0 (by decide) ?_
  refine lv_istore_n (lv' := [(2, .int (nI 0)), (0, .ref b), (1, .int (nI n))]) hx hb dX1_wideOf_1 rfl hl (by decide) rfl (fun ls hl => ?_)
  have L2 : ∀ (fu : Nat), ∀ (vi : Nat), (vi ≤ w) → n - vi < fu → ∀ ls : Array Slot, lv_has ls 3 [(0, .ref b), (1, .int (nI n)), (2, .int (nI vi))] → W zp l ze (rL 0 0 0) zs zm za zb zt zc zs.heap [] 0 0 Q (F0 zm 2 ls []) := by
    intro fu
    induction fu with
    | zero =>
      intro vi hvi hmu ls hl
      exact absurd hmu (Nat.not_lt_zero _)
    | succ fu ih2 =>
      intro vi hvi hmu ls hl
      refine lv_iload_n hx hb dX1_wideOf_2 rfl (lv_at hl 2 rfl) ?_
      refine lv_iload_n hx hb dX1_wideOf_3 rfl (lv_at hl 1 rfl) ?_
      refine n_icmp_ge (tgt := 29) hx hb dX1_wideOf_4 (by decide) (by omega) (by omega) (fun c_4 => ?_) (fun c_4 => ?_)
      ·
        refine lv_iload_n hx hb dX1_wideOf_29 rfl (lv_at hl 1 rfl) ?_
        refine w_top (v' := .int (nI w)) (congrArg (fun z => Value.int (nI z)) (show n = w from by omega)) ?_
        exact hE _ _ (kr_i dX1_wideOf_30)
      ·
        have h2 := h256 vi (by omega)
        refine lv_iload_n hx hb dX1_wideOf_7 rfl (lv_at hl 2 rfl) ?_
        refine lv_aload_n hx hb dX1_wideOf_8 rfl (lv_at hl 0 rfl) ?_
        refine kal S hK dX1_wideOf_9 0 0 hTP rfl rfl ?_
        refine w_top (v' := .int (nI 40)) rfl ?_
        refine n_icmp_ge (tgt := 29) hx hb dX1_wideOf_10 (by decide) (by omega) (by decide) (fun c_10 => ?_) (fun c_10 => ?_)
        ·
          omega
        ·
          refine lv_aload_n hx hb dX1_wideOf_13 rfl (lv_at hl 0 rfl) ?_
          refine lv_iload_n hx hb dX1_wideOf_14 rfl (lv_at hl 2 rfl) ?_
          refine kil (f := σ.2.1 0) S hK dX1_wideOf_15 0 hTP rfl (by decide) rfl (by omega) ?_
          refine lv_bipush (v := nI 47) hx hb dX1_wideOf_16 (by decide) ?_
          refine n_icmp_ne (tgt := 23) hx hb dX1_wideOf_18 (by decide) (by omega) (by decide) (fun c_18 => ?_) (fun c_18 => ?_)
          ·
            have hne : ¬ vi = w := by
              intro q
              have h1 : 1 < h := by
                rcases Nat.lt_or_ge 1 h with z | z
                · exact z
                · obtain rfl : h = 1 := by omega
                  omega
              have z := ht7 0 (by omega)
              rw [Nat.zero_mul, Nat.zero_add, ← q] at z
              exact c_18 z
            refine lv_iinc (v := (nI (vi + 1))) (lv' := [(2, .int (nI (vi + 1))), (0, .ref b), (1, .int (nI n))]) hx hb dX1_wideOf_23 hl (k := 2) rfl (inc1 _) (by decide) rfl (fun ls hl => ?_)
            refine lv_goto (tgt := 2) hx hb dX1_wideOf_26 (by decide) ?_
            exact ih2 (vi + 1) (by omega) (by omega) ls (lv_sub hl [1, 2, 0] rfl)
          ·
            have he : vi = w := by
              rcases Nat.lt_or_ge vi w with z | z
              · have y := ht6 0 (by omega) vi z
                rw [Nat.zero_mul, Nat.zero_add, c_18] at y
                rcases y with y | y | y <;> omega
              · omega
            refine lv_iload_n hx hb dX1_wideOf_21 rfl (lv_at hl 2 rfl) ?_
            refine w_top (v' := .int (nI w)) (congrArg (fun z => Value.int (nI z)) (show vi = w from by omega)) ?_
            exact hE _ _ (kr_i dX1_wideOf_22)
  exact L2 ((n - 0) + 1) 0 (Nat.zero_le _) (Nat.lt_succ_self _) ls (lv_sub hl [1, 2, 0] rfl)

set_option maxHeartbeats 1000000 in
set_option maxRecDepth 100000 in
theorem c_X1_boardOf (l : Launch) (G : Gt) (nb : Nat) (b : Nat) (σ : Sx) (n : Nat) (w : Nat) (h : Nat) (f : Nat) (hn40 : n ≤ 40) (h256 : ∀ i, i < n → σ.2.1 0 i < 256) (hT : TXT (σ.2.1 0) n w h) (hBS : BS w h f (rdc (σ.2.1 0) w 0 h)) : Ct l G yX1_boardOf cX1_boardOf 7 ((some (.object "PuzzleParts$Board"))) 2 4 66 [.ref b, .int (nI n)] (fun H => bk G b (tpL G b σ) H ∧ H.size = nb) (some (.ref nb)) (fun H => bk G b (tpL G b σ) H ∧ ∃ ρ : Sx, bk G nb (bdL G nb ρ) H ∧ PD w h (rdc (σ.2.1 0) w 0 h) ρ) (fun q => nb ≤ q) := by
  refine ct_entry [(0, .ref b), (1, .int (nI n))] (by decide) (Nat.le_of_ble_eq_true rfl) rfl ?_
  intro zp ze zs zm za zb zt zc Q S hK hPre hin hE ls hl
  have hx := S.1
  have hb := S.2.1
  obtain ⟨hTP, hz⟩ := hPre
  have hS : va_S (fun q => nb ≤ q) zs.heap zs.heap [] := va_S.rf
  obtain ⟨ht1, ⟨ht2, ht3⟩, ⟨ht4, ht5⟩, ht6, ht7⟩ := id hT
  have hb4 : b + 1 ≤ nb := by have q := bk.lt (k := 0) hTP (show 0 < 1 by decide); omega
  have hUd := BS_uq hBS
  refine lv_aload_n hx hb dX1_boardOf_0 rfl (lv_at hl 0 rfl) ?_
  refine lv_iload_n hx hb dX1_boardOf_1 rfl (lv_at hl 1 rfl) ?_
  refine crS (rest := []) S hK (c_X1_wideOf l G b σ n w h (by first | assumption | omega | decide) (by first | assumption | omega | decide) (by first | assumption | omega | decide)) cw_X1_18 rfl ⟨Nat.le_of_ble_eq_true rfl, Nat.le_of_ble_eq_true rfl⟩ ⟨Nat.le_of_ble_eq_true rfl, Nat.le_of_ble_eq_true rfl⟩ hl.1 rfl (Nat.le_of_ble_eq_true rfl) dX1_boardOf_2 hTP ?_
  refine lv_istore_n (lv' := [(2, .int (nI w)), (0, .ref b), (1, .int (nI n))]) hx hb dX1_boardOf_5 rfl hl (by decide) rfl (fun ls hl => ?_)
  refine kn (C := RX0) (T := TX0) (N := 9) (ci := 0) tyX0 tyX0_ok S hK rfl inX0 q_188 q_189 q_83 [.int (nI 0), .int (nI 0), .null, .int (nI 0), .int (nI 0), .null, .null, .long (lN 0), .long (lN 0)] (fun j hj => by first | (rcases (show j = 0 ∨ j = 1 ∨ j = 2 ∨ j = 3 ∨ j = 4 ∨ j = 5 ∨ j = 6 ∨ j = 7 ∨ j = 8 by omega) with rfl | rfl | rfl | rfl | rfl | rfl | rfl | rfl | rfl <;> rfl)) dX1_boardOf_6 (by decide) (by decide) (h := nb) hz hS (fun H hT hS hz hk => ?_)
  replace hTP := hTP.kept (fun q h1 h2 => hk q (by have h3 : q < b + 1 := h2; omega))
  refine lv_dup hx hb dX1_boardOf_9 rfl ?_
  refine lv_iload_n hx hb dX1_boardOf_10 rfl (lv_at hl 0 rfl) ?_
  refine lv_iload_n hx hb dX1_boardOf_11 rfl (lv_at hl 2 rfl) ?_
  refine lv_iconst (v := nI 1) hx hb dX1_boardOf_12 (by decide) ?_
  refine n_iadd hx hb dX1_boardOf_13 ?_
  refine lv_iload_n hx hb dX1_boardOf_14 rfl (lv_at hl 0 rfl) ?_
  refine lv_iconst (v := nI 1) hx hb dX1_boardOf_15 (by decide) ?_
  refine n_iadd hx hb dX1_boardOf_16 ?_
  refine n_idiv hx hb dX1_boardOf_17 (by omega) (by omega) (by omega) ?_
  refine ctI (rest := [.ref nb]) S hK (c_X0_init l G nb w ((n + 1) / (w + 1))) cw_X1_22 rfl ⟨Nat.le_of_ble_eq_true rfl, Nat.le_of_ble_eq_true rfl⟩ ⟨Nat.le_of_ble_eq_true rfl, Nat.le_of_ble_eq_true rfl⟩ hl.1 rfl (Nat.le_of_ble_eq_true rfl) dX1_boardOf_18 ⟨hT, hz⟩ hS (fun _ h => by first | exact h | omega) (fun H locs hPost hz2 hk hS => ?_)
  obtain ⟨hT, hz⟩ := hPost
  replace hTP := hTP.over hk (fun q h1 h2 => by have h3 : q < b + 1 := h2; intro hA1; omega)
  refine lv_astore_n (lv' := [(3, .ref nb), (2, .int (nI w)), (0, .ref b), (1, .int (nI n))]) hx hb dX1_boardOf_21 rfl hl (by decide) rfl (fun ls hl => ?_)
  refine lv_iconst (v := nI 0) hx hb dX1_boardOf_22 (by decide) ?_
  refine lv_istore (lv' := [(4, .int (nI 0)), (3, .ref nb), (2, .int (nI w)), (0, .ref b), (1, .int (nI n))]) hx hb dX1_boardOf_23 hl (by decide) rfl (fun ls hl => ?_)
  refine lv_iconst (v := nI 0) hx hb dX1_boardOf_25 (by decide) ?_
  refine lv_istore (lv' := [(5, .int (nI 0)), (4, .int (nI 0)), (3, .ref nb), (2, .int (nI w)), (0, .ref b), (1, .int (nI n))]) hx hb dX1_boardOf_26 hl (by decide) rfl (fun ls hl => ?_)
  refine lv_iconst (v := nI 0) hx hb dX1_boardOf_28 (by decide) ?_
  refine lv_istore (lv' := [(6, .int (nI 0)), (5, .int (nI 0)), (4, .int (nI 0)), (3, .ref nb), (2, .int (nI w)), (0, .ref b), (1, .int (nI n))]) hx hb dX1_boardOf_29 hl (by decide) rfl (fun ls hl => ?_)
  have L31 : ∀ (fu : Nat), ∀ (vx : Nat) (vy : Nat) (ρ : Sx), (vx ≤ w) → (vy < h) → (PD w h (pt (dnI w h vy vx) (rdc (σ.2.1 0) w 0 h)) ρ) → n - (vy * (w + 1) + vx) < fu → ∀ (H : Heap) (locs : List Loc), bk G b (tpL G b σ) H → bk G nb (bdL G nb ρ) H → va_S (fun q => nb ≤ q) zs.heap H locs → H.size = nb + 4 → ∀ ls : Array Slot, lv_has ls 7 [(0, .ref b), (1, .int (nI n)), (3, .ref nb), (4, .int (nI vx)), (5, .int (nI vy)), (6, .int (nI (vy * (w + 1) + vx)))] → W zp l ze (rL 2 4 66) zs zm za zb zt zc H locs 4 66 Q (F0 zm 31 ls []) := by
    intro fu
    induction fu with
    | zero =>
      intro vx vy ρ hvx hvy hP hmu H locs hTP hT hS hz ls hl
      exact absurd hmu (Nat.not_lt_zero _)
    | succ fu ih31 =>
      intro vx vy ρ hvx hvy hP hmu H locs hTP hT hS hz ls hl
      have hq1 : (vy + 1) * (w + 1) ≤ h * (w + 1) := Nat.mul_le_mul_right _ hvy
      rw [Nat.succ_mul] at hq1
      refine lv_iload hx hb dX1_boardOf_31 (lv_at hl 5 rfl) ?_
      refine lv_iload_n hx hb dX1_boardOf_33 rfl (lv_at hl 1 rfl) ?_
      refine n_icmp_ge (tgt := 86) hx hb dX1_boardOf_34 (by decide) (by omega) (by omega) (fun c_34 => ?_) (fun c_34 => ?_)
      ·
        have hend : vy = h - 1 ∧ vx = w := by
          rcases Nat.lt_or_ge (vy + 1) h with z | z
          · have q : (vy + 2) * (w + 1) ≤ h * (w + 1) := Nat.mul_le_mul_right _ z
            rw [Nat.succ_mul, Nat.succ_mul] at q
            omega
          · obtain rfl : h = vy + 1 := by omega
            rw [Nat.succ_mul] at ht1
            omega
        refine lv_aload_n hx hb dX1_boardOf_86 rfl (lv_at hl 2 rfl) ?_
        exact hE _ _ _ _ _ _ (kr_a dX1_boardOf_87) hS (by decide) (by decide) ⟨hTP, _, hT, PD_congr hP (pt_all (fun k hk => by
          by_cases z : k % 5 < w ∧ k / 5 < h
          · exact Or.inl (decide_eq_true ⟨z, by omega⟩)
          · exact Or.inr (by unfold rdc; exact if_neg (by omega))))⟩
      ·
        have h2 := h256 (vy * (w + 1) + vx) (by omega)
        refine lv_iload hx hb dX1_boardOf_37 (lv_at hl 5 rfl) ?_
        refine lv_aload_n hx hb dX1_boardOf_39 rfl (lv_at hl 0 rfl) ?_
        refine kal S hK dX1_boardOf_40 0 0 hTP rfl rfl ?_
        refine w_top (v' := .int (nI 40)) rfl ?_
        refine n_icmp_ge (tgt := 86) hx hb dX1_boardOf_41 (by decide) (by omega) (by decide) (fun c_41 => ?_) (fun c_41 => ?_)
        ·
          omega
        ·
          refine lv_aload_n hx hb dX1_boardOf_44 rfl (lv_at hl 0 rfl) ?_
          refine lv_iload hx hb dX1_boardOf_45 (lv_at hl 5 rfl) ?_
          refine kil (f := σ.2.1 0) S hK dX1_boardOf_47 0 hTP rfl (by decide) rfl (by omega) ?_
          refine lv_bipush (v := nI 47) hx hb dX1_boardOf_48 (by decide) ?_
          refine n_icmp_ne (tgt := 62) hx hb dX1_boardOf_50 (by decide) (by omega) (by decide) (fun c_50 => ?_) (fun c_50 => ?_)
          ·
            have hxw : vx < w := by
              rcases Nat.lt_or_ge vx w with z | z
              · exact z
              · have e : vx = w := by omega
                rcases Nat.lt_or_ge (vy + 1) h with y | y
                · have q := ht7 vy y
                  rw [← e] at q
                  rw [← e] at c_50
                  exact absurd q c_50
                · obtain rfl : h = vy + 1 := by omega
                  rw [Nat.succ_mul] at ht1
                  omega
            have hsg := ht6 vy hvy vx hxw
            refine lv_aload_n hx hb dX1_boardOf_62 rfl (lv_at hl 2 rfl) ?_
            refine lv_iload hx hb dX1_boardOf_63 (lv_at hl 3 rfl) ?_
            refine lv_iload hx hb dX1_boardOf_65 (lv_at hl 4 rfl) ?_
            refine lv_aload_n hx hb dX1_boardOf_67 rfl (lv_at hl 0 rfl) ?_
            refine lv_iload hx hb dX1_boardOf_68 (lv_at hl 5 rfl) ?_
            refine kil (f := σ.2.1 0) S hK dX1_boardOf_70 0 hTP rfl (by decide) rfl (by omega) ?_
            refine crS (rest := [.int (nI vy), .int (nI vx), .ref nb]) S hK (c_X1_codeOf_y l G (σ.2.1 0 (vy * (w + 1) + vx)) hsg) cw_X1_15 rfl ⟨Nat.le_of_ble_eq_true rfl, Nat.le_of_ble_eq_true rfl⟩ ⟨Nat.le_of_ble_eq_true rfl, Nat.le_of_ble_eq_true rfl⟩ hl.1 rfl (Nat.le_of_ble_eq_true rfl) dX1_boardOf_71 trivial ?_
            have hv9 : cdT (σ.2.1 0 (vy * (w + 1) + vx)) = rdc (σ.2.1 0) w 0 h (5 * vy + vx) := by
              unfold rdc
              rw [if_pos (by omega), show (5 * vy + vx) / 5 = vy from by omega, show (5 * vy + vx) % 5 = vx from by omega]
            refine ctVv (rest := []) S hK (c_X0_set l G (nb + 4) nb ρ vx vy (cdT (σ.2.1 0 (vy * (w + 1) + vx))) w h (dnI w h vy vx) (dnI w h vy (vx + 1)) (rdc (σ.2.1 0) w 0 h) hP (by omega) (by omega) (by omega) hUd (decide_eq_false (by omega)) (fun i hi => dec_or (by omega)) hv9) cw_X1_25 rfl ⟨Nat.le_of_ble_eq_true rfl, Nat.le_of_ble_eq_true rfl⟩ ⟨Nat.le_of_ble_eq_true rfl, Nat.le_of_ble_eq_true rfl⟩ (bk.recv hK hT rfl rfl) hl.1 rfl (Nat.le_of_ble_eq_true rfl) dX1_boardOf_74 ⟨hT, hz⟩ hS (fun _ h => by first | exact h | omega) (fun H locs hPost hz2 hk hS => ?_)
            obtain ⟨hz, ⟨ρ3, hT, hP3⟩⟩ := hPost
            replace hTP := hTP.over hk (fun q h1 h2 => by have h3 : q < b + 1 := h2; intro hA1; omega)
            refine lv_iinc (v := (nI (vx + 1))) (lv' := [(4, .int (nI (vx + 1))), (0, .ref b), (1, .int (nI n)), (3, .ref nb), (5, .int (nI vy)), (6, .int (nI (vy * (w + 1) + vx)))]) hx hb dX1_boardOf_77 hl (k := 3) rfl (inc1 _) (by decide) rfl (fun ls hl => ?_)
            refine lv_iinc (v := (nI (vy * (w + 1) + vx + 1))) (lv' := [(6, .int (nI (vy * (w + 1) + vx + 1))), (4, .int (nI (vx + 1))), (0, .ref b), (1, .int (nI n)), (3, .ref nb), (5, .int (nI vy))]) hx hb dX1_boardOf_80 hl (k := 5) rfl (inc1 _) (by decide) rfl (fun ls hl => ?_)
            refine lv_goto (tgt := 31) hx hb dX1_boardOf_83 (by decide) ?_
            replace hl := lv_eq 0 hl rfl (v2 := .int (nI (vy * (w + 1) + (vx + 1)))) (congrArg (fun z => Value.int (nI z)) (show (vy * (w + 1) + vx + 1) = (vy * (w + 1) + (vx + 1)) from by rw [Nat.add_assoc]))
            exact ih31 (vx + 1) vy ρ3 (by omega) hvy hP3 (by omega) _ _ hTP hT hS hz ls (lv_sub hl [2, 3, 4, 1, 5, 0] rfl)
          ·
            have hxw : vx = w := by
              rcases Nat.lt_or_ge vx w with z | z
              · have y := ht6 vy hvy vx z
                rw [c_50] at y
                rcases y with y | y | y <;> omega
              · omega
            have hy1 : vy + 1 < h := by
              rcases Nat.lt_or_ge (vy + 1) h with z | z
              · exact z
              · obtain rfl : h = vy + 1 := by omega
                rw [Nat.succ_mul] at ht1
                omega
            refine lv_iconst (v := nI 0) hx hb dX1_boardOf_53 (by decide) ?_
            refine lv_istore (lv' := [(4, .int (nI 0)), (0, .ref b), (1, .int (nI n)), (3, .ref nb), (5, .int (nI vy)), (6, .int (nI (vy * (w + 1) + vx)))]) hx hb dX1_boardOf_54 hl (by decide) rfl (fun ls hl => ?_)
            refine lv_iinc (v := (nI (vy + 1))) (lv' := [(5, .int (nI (vy + 1))), (4, .int (nI 0)), (0, .ref b), (1, .int (nI n)), (3, .ref nb), (6, .int (nI (vy * (w + 1) + vx)))]) hx hb dX1_boardOf_56 hl (k := 4) rfl (inc1 _) (by decide) rfl (fun ls hl => ?_)
            refine lv_goto (tgt := 80) hx hb dX1_boardOf_59 (by decide) ?_
            refine lv_iinc (v := (nI (vy * (w + 1) + vx + 1))) (lv' := [(6, .int (nI (vy * (w + 1) + vx + 1))), (5, .int (nI (vy + 1))), (4, .int (nI 0)), (0, .ref b), (1, .int (nI n)), (3, .ref nb)]) hx hb dX1_boardOf_80 hl (k := 5) rfl (inc1 _) (by decide) rfl (fun ls hl => ?_)
            refine lv_goto (tgt := 31) hx hb dX1_boardOf_83 (by decide) ?_
            replace hl := lv_eq 0 hl rfl (v2 := .int (nI ((vy + 1) * (w + 1) + 0))) (congrArg (fun z => Value.int (nI z)) (show (vy * (w + 1) + vx + 1) = ((vy + 1) * (w + 1) + 0) from by rw [hxw, Nat.succ_mul, Nat.add_assoc]; rfl))
            exact ih31 0 (vy + 1) ρ (Nat.zero_le _) hy1 (PD_congr hP (pt_c (fun k hk => dec_e (by omega)))) (by rw [Nat.succ_mul]; omega) _ _ hTP hT hS hz ls (lv_sub hl [3, 4, 5, 2, 1, 0] rfl)
  replace hl := lv_eq 0 hl rfl (v2 := .int (nI (0 * (w + 1) + 0))) (congrArg (fun z => Value.int (nI z)) (show 0 = (0 * (w + 1) + 0) from by rw [Nat.zero_mul]))
  exact L31 ((n - (0 * (w + 1) + 0)) + 1) 0 0 (bd0 w ((n + 1) / (w + 1))) (Nat.zero_le _) (by omega) (by rw [show (n + 1) / (w + 1) = h from by rw [ht1]; exact Nat.mul_div_cancel _ (by omega)]; exact PD_new2 (fun k hk => decide_eq_false (by omega))) (Nat.lt_succ_self _) _ _ hTP hT hS hz ls (lv_sub hl [5, 6, 3, 2, 1, 0] rfl)

set_option maxHeartbeats 1000000 in
set_option maxRecDepth 100000 in
theorem c_X1_faultOf (l : Launch) (G : Gt) (b : Nat) (σ : Sx) (n : Nat) (hn40 : n ≤ 40) (h256 : ∀ i, i < n → σ.2.1 0 i < 256) : Cr l G yX1_faultOf cX1_faultOf 9 ((some .int)) 2 [.ref b, .int (nI n)] (fun H => bk G b (tpL G b σ) H) (some (.int (ftV (rdE (rdL (σ.2.1 0) n 0 0 0 0 0))))) := by
  refine cr_entry [(0, .ref b), (1, .int (nI n))] (by decide) (Nat.le_of_ble_eq_true rfl) rfl ?_
  intro zp ze zs zm za zb zt zc Q S hK hPre hE ls hl
  have hx := S.1
  have hb := S.2.1
  have hTP := hPre
  refine lv_iconst (v := nI 5) hx hb dX1_faultOf_0 (by decide) ?_
  refine lv_istore_n (lv' := [(2, .int (nI 5)), (0, .ref b), (1, .int (nI n))]) hx hb dX1_faultOf_1 rfl hl (by decide) rfl (fun ls hl => ?_)
  refine lv_iconst (v := nI 0) hx hb dX1_faultOf_2 (by decide) ?_
  refine lv_istore_n (lv' := [(3, .int (nI 0)), (2, .int (nI 5)), (0, .ref b), (1, .int (nI n))]) hx hb dX1_faultOf_3 rfl hl (by decide) rfl (fun ls hl => ?_)
  refine lv_iconst (v := nI 0) hx hb dX1_faultOf_4 (by decide) ?_
  refine lv_istore (lv' := [(4, .int (nI 0)), (3, .int (nI 0)), (2, .int (nI 5)), (0, .ref b), (1, .int (nI n))]) hx hb dX1_faultOf_5 hl (by decide) rfl (fun ls hl => ?_)
  refine lv_iconst (v := nI 0) hx hb dX1_faultOf_7 (by decide) ?_
  refine lv_istore (lv' := [(5, .int (nI 0)), (4, .int (nI 0)), (3, .int (nI 0)), (2, .int (nI 5)), (0, .ref b), (1, .int (nI n))]) hx hb dX1_faultOf_8 hl (by decide) rfl (fun ls hl => ?_)
  refine lv_iconst (v := nI 0) hx hb dX1_faultOf_10 (by decide) ?_
  refine lv_istore (lv' := [(6, .int (nI 0)), (5, .int (nI 0)), (4, .int (nI 0)), (3, .int (nI 0)), (2, .int (nI 5)), (0, .ref b), (1, .int (nI n))]) hx hb dX1_faultOf_11 hl (by decide) rfl (fun ls hl => ?_)
  have L13 : ∀ (fu : Nat), ∀ (vq : Nat) (vs : Nat) (vx : Nat) (vy : Nat) (vw : Nat) (vW : Nat), (vq ≤ n) → (vy ≤ 3 ∧ vx ≤ 5 ∧ (vy = 0 → vW = 5) ∧ (0 < vy → vW = vw ∧ vw ≤ 5 ∧ vx ≤ vw)) → (vs < 32) → (rdL (σ.2.1 0) (n - vq) vq vs vx vy vw = rdL (σ.2.1 0) n 0 0 0 0 0) → n - vq < fu → ∀ ls : Array Slot, lv_has ls 9 [(0, .ref b), (1, .int (nI n)), (2, .int (nI vW)), (3, .int (nI vx)), (4, .int (nI vy)), (5, .int (nI vs)), (6, .int (nI vq))] → W zp l ze (rL 2 0 0) zs zm za zb zt zc zs.heap [] 0 0 Q (F0 zm 13 ls []) := by
    intro fu
    induction fu with
    | zero =>
      intro vq vs vx vy vw vW hvq hI hs32 hrd hmu ls hl
      exact absurd hmu (Nat.not_lt_zero _)
    | succ fu ih13 =>
      intro vq vs vx vy vw vW hvq hI hs32 hrd hmu ls hl
      refine lv_iload hx hb dX1_faultOf_13 (lv_at hl 6 rfl) ?_
      refine lv_iload_n hx hb dX1_faultOf_15 rfl (lv_at hl 1 rfl) ?_
      refine n_icmp_ge (tgt := 139) hx hb dX1_faultOf_16 (by decide) (by first | omega | exact hcd | exact Nat.lt_of_le_of_lt Nat.and_le_left (by omega)) (by first | omega | exact hcd | exact Nat.lt_of_le_of_lt Nat.and_le_left (by omega)) (fun c_16 => ?_) (fun c_16 => ?_)
      ·
        have hqn : vq = n := by omega
        have hre : ftV (rdE (rdL (σ.2.1 0) n 0 0 0 0 0)) = ftV (rdE (n, some (vs, vx, vy, vw))) := by rw [← hrd, rd_e (by omega), hqn]
        refine lv_iload_n hx hb dX1_faultOf_139 rfl (lv_at hl 3 rfl) ?_
        refine n_if_eq (tgt := 153) hx hb dX1_faultOf_140 (by decide) (by first | omega | exact hcd | exact Nat.lt_of_le_of_lt Nat.and_le_left (by omega)) (fun c_140 => ?_) (fun c_140 => ?_)
        ·
          refine lv_iconst (v := nI 1) hx hb dX1_faultOf_153 (by decide) ?_
          refine lv_goto (tgt := 158) hx hb dX1_faultOf_154 (by decide) ?_
          refine lv_istore (lv' := [(6, .int (nI 1)), (0, .ref b), (1, .int (nI n)), (2, .int (nI vW)), (3, .int (nI vx)), (4, .int (nI vy)), (5, .int (nI vs))]) hx hb dX1_faultOf_158 hl (by decide) rfl (fun ls hl => ?_)
          refine lv_iload hx hb dX1_faultOf_160 (lv_at hl 6 rfl) ?_
          refine lv_iload hx hb dX1_faultOf_162 (lv_at hl 6 rfl) ?_
          refine lv_iconst (v := nI 1) hx hb dX1_faultOf_164 (by decide) ?_
          refine n_iadd hx hb dX1_faultOf_165 ?_
          refine n_iand hx hb dX1_faultOf_166 ?_
          refine n_if_eq (tgt := 174) hx hb dX1_faultOf_167 (by decide) (by first | omega | exact hcd | exact Nat.lt_of_le_of_lt Nat.and_le_left (by omega)) (fun c_167 => ?_) (fun c_167 => ?_)
          ·
            refine lv_iconst (v := nI 0) hx hb dX1_faultOf_174 (by decide) ?_
            refine lv_istore (lv' := [(7, .int (nI 0)), (6, .int (nI 1)), (0, .ref b), (1, .int (nI n)), (2, .int (nI vW)), (3, .int (nI vx)), (4, .int (nI vy)), (5, .int (nI vs))]) hx hb dX1_faultOf_175 hl (by decide) rfl (fun ls hl => ?_)
            refine lv_iload hx hb dX1_faultOf_177 (lv_at hl 1 rfl) ?_
            refine n_if_ne (tgt := 187) hx hb dX1_faultOf_179 (by decide) (by decide) (fun c_179 => ?_) (fun c_179 => ?_)
            ·
              have hr : ftV (rdE (rdL (σ.2.1 0) n 0 0 0 0 0)) = nI n := by
                rw [hre]
                unfold rdE
                dsimp only
                rw [if_pos (by omega)]
                rfl
              refine lv_iload_n hx hb dX1_faultOf_187 rfl (lv_at hl 3 rfl) ?_
              refine lv_goto (tgt := 192) hx hb dX1_faultOf_188 (by decide) ?_
              refine w_top (v' := .int (ftV (rdE (rdL (σ.2.1 0) n 0 0 0 0 0)))) (show (.int (nI n) : Value) = .int (ftV (rdE (rdL (σ.2.1 0) n 0 0 0 0 0))) from by rw [hr]) ?_
              exact hE _ _ (kr_i dX1_faultOf_192)
            ·
              exact absurd c_179 (by decide)
          ·
            refine lv_iconst (v := nI 1) hx hb dX1_faultOf_170 (by decide) ?_
            refine lv_goto (tgt := 175) hx hb dX1_faultOf_171 (by decide) ?_
            refine lv_istore (lv' := [(7, .int (nI 1)), (6, .int (nI 1)), (0, .ref b), (1, .int (nI n)), (2, .int (nI vW)), (3, .int (nI vx)), (4, .int (nI vy)), (5, .int (nI vs))]) hx hb dX1_faultOf_175 hl (by decide) rfl (fun ls hl => ?_)
            refine lv_iload hx hb dX1_faultOf_177 (lv_at hl 1 rfl) ?_
            refine n_if_ne (tgt := 187) hx hb dX1_faultOf_179 (by decide) (by decide) (fun c_179 => ?_) (fun c_179 => ?_)
            ·
              have hr : ftV (rdE (rdL (σ.2.1 0) n 0 0 0 0 0)) = nI n := by
                rw [hre]
                unfold rdE
                dsimp only
                rw [if_pos (by omega)]
                rfl
              refine lv_iload_n hx hb dX1_faultOf_187 rfl (lv_at hl 3 rfl) ?_
              refine lv_goto (tgt := 192) hx hb dX1_faultOf_188 (by decide) ?_
              refine w_top (v' := .int (ftV (rdE (rdL (σ.2.1 0) n 0 0 0 0 0)))) (show (.int (nI n) : Value) = .int (ftV (rdE (rdL (σ.2.1 0) n 0 0 0 0 0))) from by rw [hr]) ?_
              exact hE _ _ (kr_i dX1_faultOf_192)
            ·
              exact absurd c_179 (by decide)
        ·
          refine lv_iload hx hb dX1_faultOf_143 (lv_at hl 4 rfl) ?_
          refine n_if_le (tgt := 157) hx hb dX1_faultOf_145 (by decide) (by first | omega | exact hcd | exact Nat.lt_of_le_of_lt Nat.and_le_left (by omega)) (fun c_145 => ?_) (fun c_145 => ?_)
          ·
            refine lv_iconst (v := nI 0) hx hb dX1_faultOf_157 (by decide) ?_
            refine lv_istore (lv' := [(6, .int (nI 0)), (0, .ref b), (1, .int (nI n)), (2, .int (nI vW)), (3, .int (nI vx)), (4, .int (nI vy)), (5, .int (nI vs))]) hx hb dX1_faultOf_158 hl (by decide) rfl (fun ls hl => ?_)
            refine lv_iload hx hb dX1_faultOf_160 (lv_at hl 6 rfl) ?_
            refine lv_iload hx hb dX1_faultOf_162 (lv_at hl 6 rfl) ?_
            refine lv_iconst (v := nI 1) hx hb dX1_faultOf_164 (by decide) ?_
            refine n_iadd hx hb dX1_faultOf_165 ?_
            refine n_iand hx hb dX1_faultOf_166 ?_
            refine n_if_eq (tgt := 174) hx hb dX1_faultOf_167 (by decide) (by first | omega | exact hcd | exact Nat.lt_of_le_of_lt Nat.and_le_left (by omega)) (fun c_167 => ?_) (fun c_167 => ?_)
            ·
              refine lv_iconst (v := nI 0) hx hb dX1_faultOf_174 (by decide) ?_
              refine lv_istore (lv' := [(7, .int (nI 0)), (6, .int (nI 0)), (0, .ref b), (1, .int (nI n)), (2, .int (nI vW)), (3, .int (nI vx)), (4, .int (nI vy)), (5, .int (nI vs))]) hx hb dX1_faultOf_175 hl (by decide) rfl (fun ls hl => ?_)
              refine lv_iload hx hb dX1_faultOf_177 (lv_at hl 1 rfl) ?_
              refine n_if_ne (tgt := 187) hx hb dX1_faultOf_179 (by decide) (by decide) (fun c_179 => ?_) (fun c_179 => ?_)
              ·
                exact absurd c_179 (by decide)
              ·
                refine lv_iload hx hb dX1_faultOf_182 (lv_at hl 0 rfl) ?_
                refine n_if_eq (tgt := 191) hx hb dX1_faultOf_184 (by decide) (by decide) (fun c_184 => ?_) (fun c_184 => ?_)
                ·
                  have hr : ftV (rdE (rdL (σ.2.1 0) n 0 0 0 0 0)) = -1 := by
                    rw [hre]
                    unfold rdE
                    dsimp only
                    rw [if_neg (by omega), if_pos ((gap_e vs hs32).mp c_167)]
                    rfl
                  refine lv_iconst (v := (-1)) hx hb dX1_faultOf_191 (by decide) ?_
                  refine w_top (v' := .int (ftV (rdE (rdL (σ.2.1 0) n 0 0 0 0 0)))) (congrArg (fun z => Value.int z) (show (-1) = (ftV (rdE (rdL (σ.2.1 0) n 0 0 0 0 0))) from by rw [hr])) ?_
                  exact hE _ _ (kr_i dX1_faultOf_192)
                ·
                  exact absurd c_184 (by decide)
            ·
              refine lv_iconst (v := nI 1) hx hb dX1_faultOf_170 (by decide) ?_
              refine lv_goto (tgt := 175) hx hb dX1_faultOf_171 (by decide) ?_
              refine lv_istore (lv' := [(7, .int (nI 1)), (6, .int (nI 0)), (0, .ref b), (1, .int (nI n)), (2, .int (nI vW)), (3, .int (nI vx)), (4, .int (nI vy)), (5, .int (nI vs))]) hx hb dX1_faultOf_175 hl (by decide) rfl (fun ls hl => ?_)
              refine lv_iload hx hb dX1_faultOf_177 (lv_at hl 1 rfl) ?_
              refine n_if_ne (tgt := 187) hx hb dX1_faultOf_179 (by decide) (by decide) (fun c_179 => ?_) (fun c_179 => ?_)
              ·
                exact absurd c_179 (by decide)
              ·
                refine lv_iload hx hb dX1_faultOf_182 (lv_at hl 0 rfl) ?_
                refine n_if_eq (tgt := 191) hx hb dX1_faultOf_184 (by decide) (by decide) (fun c_184 => ?_) (fun c_184 => ?_)
                ·
                  exact absurd c_184 (by decide)
                ·
                  have hr : ftV (rdE (rdL (σ.2.1 0) n 0 0 0 0 0)) = nI n := by
                    rw [hre]
                    unfold rdE
                    dsimp only
                    first
                      | (rw [if_pos (by omega)]; rfl)
                      | (rw [if_neg (by omega), if_neg (fun z => c_167 ((gap_e vs hs32).mpr z))]; rfl)
                  refine lv_iload_n hx hb dX1_faultOf_187 rfl (lv_at hl 3 rfl) ?_
                  refine lv_goto (tgt := 192) hx hb dX1_faultOf_188 (by decide) ?_
                  refine w_top (v' := .int (ftV (rdE (rdL (σ.2.1 0) n 0 0 0 0 0)))) (show (.int (nI n) : Value) = .int (ftV (rdE (rdL (σ.2.1 0) n 0 0 0 0 0))) from by rw [hr]) ?_
                  exact hE _ _ (kr_i dX1_faultOf_192)
          ·
            refine lv_iload_n hx hb dX1_faultOf_148 rfl (lv_at hl 3 rfl) ?_
            refine lv_iload_n hx hb dX1_faultOf_149 rfl (lv_at hl 2 rfl) ?_
            refine n_icmp_ge (tgt := 157) hx hb dX1_faultOf_150 (by decide) (by first | omega | exact hcd | exact Nat.lt_of_le_of_lt Nat.and_le_left (by omega)) (by first | omega | exact hcd | exact Nat.lt_of_le_of_lt Nat.and_le_left (by omega)) (fun c_150 => ?_) (fun c_150 => ?_)
            ·
              refine lv_iconst (v := nI 0) hx hb dX1_faultOf_157 (by decide) ?_
              refine lv_istore (lv' := [(6, .int (nI 0)), (0, .ref b), (1, .int (nI n)), (2, .int (nI vW)), (3, .int (nI vx)), (4, .int (nI vy)), (5, .int (nI vs))]) hx hb dX1_faultOf_158 hl (by decide) rfl (fun ls hl => ?_)
              refine lv_iload hx hb dX1_faultOf_160 (lv_at hl 6 rfl) ?_
              refine lv_iload hx hb dX1_faultOf_162 (lv_at hl 6 rfl) ?_
              refine lv_iconst (v := nI 1) hx hb dX1_faultOf_164 (by decide) ?_
              refine n_iadd hx hb dX1_faultOf_165 ?_
              refine n_iand hx hb dX1_faultOf_166 ?_
              refine n_if_eq (tgt := 174) hx hb dX1_faultOf_167 (by decide) (by first | omega | exact hcd | exact Nat.lt_of_le_of_lt Nat.and_le_left (by omega)) (fun c_167 => ?_) (fun c_167 => ?_)
              ·
                refine lv_iconst (v := nI 0) hx hb dX1_faultOf_174 (by decide) ?_
                refine lv_istore (lv' := [(7, .int (nI 0)), (6, .int (nI 0)), (0, .ref b), (1, .int (nI n)), (2, .int (nI vW)), (3, .int (nI vx)), (4, .int (nI vy)), (5, .int (nI vs))]) hx hb dX1_faultOf_175 hl (by decide) rfl (fun ls hl => ?_)
                refine lv_iload hx hb dX1_faultOf_177 (lv_at hl 1 rfl) ?_
                refine n_if_ne (tgt := 187) hx hb dX1_faultOf_179 (by decide) (by decide) (fun c_179 => ?_) (fun c_179 => ?_)
                ·
                  exact absurd c_179 (by decide)
                ·
                  refine lv_iload hx hb dX1_faultOf_182 (lv_at hl 0 rfl) ?_
                  refine n_if_eq (tgt := 191) hx hb dX1_faultOf_184 (by decide) (by decide) (fun c_184 => ?_) (fun c_184 => ?_)
                  ·
                    have hr : ftV (rdE (rdL (σ.2.1 0) n 0 0 0 0 0)) = -1 := by
                      rw [hre]
                      unfold rdE
                      dsimp only
                      rw [if_neg (by omega), if_pos ((gap_e vs hs32).mp c_167)]
                      rfl
                    refine lv_iconst (v := (-1)) hx hb dX1_faultOf_191 (by decide) ?_
                    refine w_top (v' := .int (ftV (rdE (rdL (σ.2.1 0) n 0 0 0 0 0)))) (congrArg (fun z => Value.int z) (show (-1) = (ftV (rdE (rdL (σ.2.1 0) n 0 0 0 0 0))) from by rw [hr])) ?_
                    exact hE _ _ (kr_i dX1_faultOf_192)
                  ·
                    exact absurd c_184 (by decide)
              ·
                refine lv_iconst (v := nI 1) hx hb dX1_faultOf_170 (by decide) ?_
                refine lv_goto (tgt := 175) hx hb dX1_faultOf_171 (by decide) ?_
                refine lv_istore (lv' := [(7, .int (nI 1)), (6, .int (nI 0)), (0, .ref b), (1, .int (nI n)), (2, .int (nI vW)), (3, .int (nI vx)), (4, .int (nI vy)), (5, .int (nI vs))]) hx hb dX1_faultOf_175 hl (by decide) rfl (fun ls hl => ?_)
                refine lv_iload hx hb dX1_faultOf_177 (lv_at hl 1 rfl) ?_
                refine n_if_ne (tgt := 187) hx hb dX1_faultOf_179 (by decide) (by decide) (fun c_179 => ?_) (fun c_179 => ?_)
                ·
                  exact absurd c_179 (by decide)
                ·
                  refine lv_iload hx hb dX1_faultOf_182 (lv_at hl 0 rfl) ?_
                  refine n_if_eq (tgt := 191) hx hb dX1_faultOf_184 (by decide) (by decide) (fun c_184 => ?_) (fun c_184 => ?_)
                  ·
                    exact absurd c_184 (by decide)
                  ·
                    have hr : ftV (rdE (rdL (σ.2.1 0) n 0 0 0 0 0)) = nI n := by
                      rw [hre]
                      unfold rdE
                      dsimp only
                      first
                        | (rw [if_pos (by omega)]; rfl)
                        | (rw [if_neg (by omega), if_neg (fun z => c_167 ((gap_e vs hs32).mpr z))]; rfl)
                    refine lv_iload_n hx hb dX1_faultOf_187 rfl (lv_at hl 3 rfl) ?_
                    refine lv_goto (tgt := 192) hx hb dX1_faultOf_188 (by decide) ?_
                    refine w_top (v' := .int (ftV (rdE (rdL (σ.2.1 0) n 0 0 0 0 0)))) (show (.int (nI n) : Value) = .int (ftV (rdE (rdL (σ.2.1 0) n 0 0 0 0 0))) from by rw [hr]) ?_
                    exact hE _ _ (kr_i dX1_faultOf_192)
            ·
              refine lv_iconst (v := nI 1) hx hb dX1_faultOf_153 (by decide) ?_
              refine lv_goto (tgt := 158) hx hb dX1_faultOf_154 (by decide) ?_
              refine lv_istore (lv' := [(6, .int (nI 1)), (0, .ref b), (1, .int (nI n)), (2, .int (nI vW)), (3, .int (nI vx)), (4, .int (nI vy)), (5, .int (nI vs))]) hx hb dX1_faultOf_158 hl (by decide) rfl (fun ls hl => ?_)
              refine lv_iload hx hb dX1_faultOf_160 (lv_at hl 6 rfl) ?_
              refine lv_iload hx hb dX1_faultOf_162 (lv_at hl 6 rfl) ?_
              refine lv_iconst (v := nI 1) hx hb dX1_faultOf_164 (by decide) ?_
              refine n_iadd hx hb dX1_faultOf_165 ?_
              refine n_iand hx hb dX1_faultOf_166 ?_
              refine n_if_eq (tgt := 174) hx hb dX1_faultOf_167 (by decide) (by first | omega | exact hcd | exact Nat.lt_of_le_of_lt Nat.and_le_left (by omega)) (fun c_167 => ?_) (fun c_167 => ?_)
              ·
                refine lv_iconst (v := nI 0) hx hb dX1_faultOf_174 (by decide) ?_
                refine lv_istore (lv' := [(7, .int (nI 0)), (6, .int (nI 1)), (0, .ref b), (1, .int (nI n)), (2, .int (nI vW)), (3, .int (nI vx)), (4, .int (nI vy)), (5, .int (nI vs))]) hx hb dX1_faultOf_175 hl (by decide) rfl (fun ls hl => ?_)
                refine lv_iload hx hb dX1_faultOf_177 (lv_at hl 1 rfl) ?_
                refine n_if_ne (tgt := 187) hx hb dX1_faultOf_179 (by decide) (by decide) (fun c_179 => ?_) (fun c_179 => ?_)
                ·
                  have hr : ftV (rdE (rdL (σ.2.1 0) n 0 0 0 0 0)) = nI n := by
                    rw [hre]
                    unfold rdE
                    dsimp only
                    rw [if_pos (by omega)]
                    rfl
                  refine lv_iload_n hx hb dX1_faultOf_187 rfl (lv_at hl 3 rfl) ?_
                  refine lv_goto (tgt := 192) hx hb dX1_faultOf_188 (by decide) ?_
                  refine w_top (v' := .int (ftV (rdE (rdL (σ.2.1 0) n 0 0 0 0 0)))) (show (.int (nI n) : Value) = .int (ftV (rdE (rdL (σ.2.1 0) n 0 0 0 0 0))) from by rw [hr]) ?_
                  exact hE _ _ (kr_i dX1_faultOf_192)
                ·
                  exact absurd c_179 (by decide)
              ·
                refine lv_iconst (v := nI 1) hx hb dX1_faultOf_170 (by decide) ?_
                refine lv_goto (tgt := 175) hx hb dX1_faultOf_171 (by decide) ?_
                refine lv_istore (lv' := [(7, .int (nI 1)), (6, .int (nI 1)), (0, .ref b), (1, .int (nI n)), (2, .int (nI vW)), (3, .int (nI vx)), (4, .int (nI vy)), (5, .int (nI vs))]) hx hb dX1_faultOf_175 hl (by decide) rfl (fun ls hl => ?_)
                refine lv_iload hx hb dX1_faultOf_177 (lv_at hl 1 rfl) ?_
                refine n_if_ne (tgt := 187) hx hb dX1_faultOf_179 (by decide) (by decide) (fun c_179 => ?_) (fun c_179 => ?_)
                ·
                  have hr : ftV (rdE (rdL (σ.2.1 0) n 0 0 0 0 0)) = nI n := by
                    rw [hre]
                    unfold rdE
                    dsimp only
                    rw [if_pos (by omega)]
                    rfl
                  refine lv_iload_n hx hb dX1_faultOf_187 rfl (lv_at hl 3 rfl) ?_
                  refine lv_goto (tgt := 192) hx hb dX1_faultOf_188 (by decide) ?_
                  refine w_top (v' := .int (ftV (rdE (rdL (σ.2.1 0) n 0 0 0 0 0)))) (show (.int (nI n) : Value) = .int (ftV (rdE (rdL (σ.2.1 0) n 0 0 0 0 0))) from by rw [hr]) ?_
                  exact hE _ _ (kr_i dX1_faultOf_192)
                ·
                  exact absurd c_179 (by decide)
      ·
        have h2 := h256 vq (by omega)
        have hcd : cdT (σ.2.1 0 vq) < 2 ^ 31 := by
          unfold cdT
          split
          · decide
          · split
            · decide
            · omega
        refine lv_iload hx hb dX1_faultOf_19 (lv_at hl 6 rfl) ?_
        refine lv_aload_n hx hb dX1_faultOf_21 rfl (lv_at hl 0 rfl) ?_
        refine kal S hK dX1_faultOf_22 0 0 hTP rfl rfl ?_
        refine w_top (v' := .int (nI 40)) rfl ?_
        refine n_icmp_ge (tgt := 139) hx hb dX1_faultOf_23 (by decide) (by first | omega | exact hcd | exact Nat.lt_of_le_of_lt Nat.and_le_left (by omega)) (by decide) (fun c_23 => ?_) (fun c_23 => ?_)
        ·
          omega
        ·
          refine lv_aload_n hx hb dX1_faultOf_26 rfl (lv_at hl 0 rfl) ?_
          refine lv_iload hx hb dX1_faultOf_27 (lv_at hl 6 rfl) ?_
          refine kil (f := σ.2.1 0) S hK dX1_faultOf_29 0 hTP rfl (by decide) rfl (by first | omega | exact hcd | exact Nat.lt_of_le_of_lt Nat.and_le_left (by omega)) ?_
          refine lv_istore (lv' := [(7, .int (nI (σ.2.1 0 vq))), (0, .ref b), (1, .int (nI n)), (2, .int (nI vW)), (3, .int (nI vx)), (4, .int (nI vy)), (5, .int (nI vs)), (6, .int (nI vq))]) hx hb dX1_faultOf_30 hl (by decide) rfl (fun ls hl => ?_)
          refine lv_iload hx hb dX1_faultOf_32 (lv_at hl 0 rfl) ?_
          refine lv_bipush (v := nI 47) hx hb dX1_faultOf_34 (by decide) ?_
          refine n_icmp_ne (tgt := 74) hx hb dX1_faultOf_36 (by decide) (by first | omega | exact hcd | exact Nat.lt_of_le_of_lt Nat.and_le_left (by omega)) (by decide) (fun c_36 => ?_) (fun c_36 => ?_)
          ·
            refine lv_iload hx hb dX1_faultOf_74 (lv_at hl 0 rfl) ?_
            by_cases hdg : 48 ≤ σ.2.1 0 vq ∧ σ.2.1 0 vq ≤ 52
            ·
              refine crS (rest := []) S hK (c_X1_faceOf_f l G (σ.2.1 0 vq) hdg.1 hdg.2) cw_X1_9 rfl ⟨Nat.le_of_ble_eq_true rfl, Nat.le_of_ble_eq_true rfl⟩ ⟨Nat.le_of_ble_eq_true rfl, Nat.le_of_ble_eq_true rfl⟩ hl.1 rfl (Nat.le_of_ble_eq_true rfl) dX1_faultOf_76 trivial ?_
              refine lv_istore (lv' := [(8, .int (nI ((σ.2.1 0 vq) - 48))), (7, .int (nI (σ.2.1 0 vq))), (0, .ref b), (1, .int (nI n)), (2, .int (nI vW)), (3, .int (nI vx)), (4, .int (nI vy)), (5, .int (nI vs)), (6, .int (nI vq))]) hx hb dX1_faultOf_79 hl (by decide) rfl (fun ls hl => ?_)
              refine lv_iload_n hx hb dX1_faultOf_81 rfl (lv_at hl 5 rfl) ?_
              refine lv_iload_n hx hb dX1_faultOf_82 rfl (lv_at hl 4 rfl) ?_
              refine n_icmp_ge (tgt := 109) hx hb dX1_faultOf_83 (by decide) (by first | omega | exact hcd | exact Nat.lt_of_le_of_lt Nat.and_le_left (by omega)) (by first | omega | exact hcd | exact Nat.lt_of_le_of_lt Nat.and_le_left (by omega)) (fun c_83 => ?_) (fun c_83 => ?_)
              ·
                have hr : ftV (rdE (rdL (σ.2.1 0) n 0 0 0 0 0)) = nI vq := by rw [← hrd, rd_cf (by omega) c_36 (by omega)]; rfl
                refine lv_iload hx hb dX1_faultOf_109 (lv_at hl 8 rfl) ?_
                refine w_top (v' := .int (ftV (rdE (rdL (σ.2.1 0) n 0 0 0 0 0)))) (show (.int (nI vq) : Value) = .int (ftV (rdE (rdL (σ.2.1 0) n 0 0 0 0 0))) from by rw [hr]) ?_
                exact hE _ _ (kr_i dX1_faultOf_111)
              ·
                refine lv_iload hx hb dX1_faultOf_86 (lv_at hl 1 rfl) ?_
                refine crS (rest := []) S hK (c_X1_codeOf_y l G (σ.2.1 0 vq) (Or.inr (Or.inr hdg))) cw_X1_15 rfl ⟨Nat.le_of_ble_eq_true rfl, Nat.le_of_ble_eq_true rfl⟩ ⟨Nat.le_of_ble_eq_true rfl, Nat.le_of_ble_eq_true rfl⟩ hl.1 rfl (Nat.le_of_ble_eq_true rfl) dX1_faultOf_88 trivial ?_
                refine n_if_lt (tgt := 109) hx hb dX1_faultOf_91 (by decide) (by first | omega | exact hcd | exact Nat.lt_of_le_of_lt Nat.and_le_left (by omega)) (fun c_91 => ?_)
                refine lv_iload hx hb dX1_faultOf_94 (lv_at hl 0 rfl) ?_
                refine n_if_lt (tgt := 112) hx hb dX1_faultOf_96 (by decide) (by first | omega | exact hcd | exact Nat.lt_of_le_of_lt Nat.and_le_left (by omega)) (fun c_96 => ?_)
                refine lv_iload hx hb dX1_faultOf_99 (lv_at hl 7 rfl) ?_
                refine lv_iload hx hb dX1_faultOf_101 (lv_at hl 0 rfl) ?_
                refine n_ishr hx hb dX1_faultOf_103 (by first | omega | exact hcd | exact Nat.lt_of_le_of_lt Nat.and_le_left (by omega)) (by first | omega | exact hcd | exact Nat.lt_of_le_of_lt Nat.and_le_left (by omega)) ?_
                refine lv_iconst (v := nI 1) hx hb dX1_faultOf_104 (by decide) ?_
                refine n_iand hx hb dX1_faultOf_105 ?_
                refine n_if_eq (tgt := 112) hx hb dX1_faultOf_106 (by decide) (Nat.lt_of_le_of_lt Nat.and_le_right (by decide)) (fun c_106 => ?_) (fun c_106 => ?_)
                ·
                  have hnb : ¬ (vx = 5 ∨ (0 < vy ∧ vx = vw) ∨ bdC (σ.2.1 0 vq) vs = true) := by
                    rintro (q | q | q)
                    · omega
                    · omega
                    · exact bdC_2 hdg.1 hdg.2 (tb0.mp c_106) q
                  have hse : vs ||| 1 <<< (σ.2.1 0 vq - 48) = seN (σ.2.1 0 vq) vs := by unfold seN; rw [if_pos hdg]
                  refine lv_iload hx hb dX1_faultOf_112 (lv_at hl 7 rfl) ?_
                  refine lv_iload hx hb dX1_faultOf_114 (lv_at hl 0 rfl) ?_
                  refine n_if_lt (tgt := 126) hx hb dX1_faultOf_116 (by decide) (by first | omega | exact hcd | exact Nat.lt_of_le_of_lt Nat.and_le_left (by omega)) (fun c_116 => ?_)
                  refine lv_iconst (v := nI 1) hx hb dX1_faultOf_119 (by decide) ?_
                  refine lv_iload hx hb dX1_faultOf_120 (lv_at hl 0 rfl) ?_
                  refine n_ishl hx hb dX1_faultOf_122 (by first | omega | exact hcd | exact Nat.lt_of_le_of_lt Nat.and_le_left (by omega)) ?_
                  refine lv_goto (tgt := 127) hx hb dX1_faultOf_123 (by decide) ?_
                  refine n_ior hx hb dX1_faultOf_127 ?_
                  refine lv_istore (lv' := [(5, .int (nI (vs ||| (1 <<< ((σ.2.1 0 vq) - 48))))), (8, .int (nI ((σ.2.1 0 vq) - 48))), (7, .int (nI (σ.2.1 0 vq))), (0, .ref b), (1, .int (nI n)), (2, .int (nI vW)), (3, .int (nI vx)), (4, .int (nI vy)), (6, .int (nI vq))]) hx hb dX1_faultOf_128 hl (by decide) rfl (fun ls hl => ?_)
                  refine lv_iinc (v := (nI (vx + 1))) (lv' := [(3, .int (nI (vx + 1))), (5, .int (nI (vs ||| (1 <<< ((σ.2.1 0 vq) - 48))))), (8, .int (nI ((σ.2.1 0 vq) - 48))), (7, .int (nI (σ.2.1 0 vq))), (0, .ref b), (1, .int (nI n)), (2, .int (nI vW)), (4, .int (nI vy)), (6, .int (nI vq))]) hx hb dX1_faultOf_130 hl (k := 6) rfl (inc1 _) (by decide) rfl (fun ls hl => ?_)
                  refine lv_iinc (v := (nI (vq + 1))) (lv' := [(6, .int (nI (vq + 1))), (3, .int (nI (vx + 1))), (5, .int (nI (vs ||| (1 <<< ((σ.2.1 0 vq) - 48))))), (8, .int (nI ((σ.2.1 0 vq) - 48))), (7, .int (nI (σ.2.1 0 vq))), (0, .ref b), (1, .int (nI n)), (2, .int (nI vW)), (4, .int (nI vy))]) hx hb dX1_faultOf_133 hl (k := 8) rfl (inc1 _) (by decide) rfl (fun ls hl => ?_)
                  refine lv_goto (tgt := 13) hx hb dX1_faultOf_136 (by decide) ?_
                  replace hl := lv_eq 2 hl rfl (v2 := .int (nI (seN (σ.2.1 0 vq) vs))) (congrArg (fun z => Value.int (nI z)) (show (vs ||| (1 <<< ((σ.2.1 0 vq) - 48))) = (seN (σ.2.1 0 vq) vs) from hse))
                  exact ih13 (vq + 1) (seN (σ.2.1 0 vq) vs) (vx + 1) vy vw vW (by omega) (by omega) (seN_lt hs32) ((rd_c (by omega) c_36 hnb).symm.trans hrd) (by omega) ls (lv_sub hl [5, 6, 7, 1, 8, 2, 0] rfl)
                ·
                  have hr : ftV (rdE (rdL (σ.2.1 0) n 0 0 0 0 0)) = nI vq := by rw [← hrd, rd_cf (by omega) c_36 (Or.inr (Or.inr (bdC_3 (by omega) (by omega) (Or.inr (Or.inr (by have q := mt tb0.mpr c_106; simpa using q))))))]; rfl
                  refine lv_iload hx hb dX1_faultOf_109 (lv_at hl 8 rfl) ?_
                  refine w_top (v' := .int (ftV (rdE (rdL (σ.2.1 0) n 0 0 0 0 0)))) (show (.int (nI vq) : Value) = .int (ftV (rdE (rdL (σ.2.1 0) n 0 0 0 0 0))) from by rw [hr]) ?_
                  exact hE _ _ (kr_i dX1_faultOf_111)
            ·
              refine crS (rest := []) S hK (c_X1_faceOf_n l G (σ.2.1 0 vq) (by omega) h2) cw_X1_9 rfl ⟨Nat.le_of_ble_eq_true rfl, Nat.le_of_ble_eq_true rfl⟩ ⟨Nat.le_of_ble_eq_true rfl, Nat.le_of_ble_eq_true rfl⟩ hl.1 rfl (Nat.le_of_ble_eq_true rfl) dX1_faultOf_76 trivial ?_
              refine lv_istore (lv' := [(8, .int (-1)), (7, .int (nI (σ.2.1 0 vq))), (0, .ref b), (1, .int (nI n)), (2, .int (nI vW)), (3, .int (nI vx)), (4, .int (nI vy)), (5, .int (nI vs)), (6, .int (nI vq))]) hx hb dX1_faultOf_79 hl (by decide) rfl (fun ls hl => ?_)
              refine lv_iload_n hx hb dX1_faultOf_81 rfl (lv_at hl 5 rfl) ?_
              refine lv_iload_n hx hb dX1_faultOf_82 rfl (lv_at hl 4 rfl) ?_
              refine n_icmp_ge (tgt := 109) hx hb dX1_faultOf_83 (by decide) (by first | omega | exact hcd | exact Nat.lt_of_le_of_lt Nat.and_le_left (by omega)) (by first | omega | exact hcd | exact Nat.lt_of_le_of_lt Nat.and_le_left (by omega)) (fun c_83 => ?_) (fun c_83 => ?_)
              ·
                have hr : ftV (rdE (rdL (σ.2.1 0) n 0 0 0 0 0)) = nI vq := by rw [← hrd, rd_cf (by omega) c_36 (by omega)]; rfl
                refine lv_iload hx hb dX1_faultOf_109 (lv_at hl 8 rfl) ?_
                refine w_top (v' := .int (ftV (rdE (rdL (σ.2.1 0) n 0 0 0 0 0)))) (show (.int (nI vq) : Value) = .int (ftV (rdE (rdL (σ.2.1 0) n 0 0 0 0 0))) from by rw [hr]) ?_
                exact hE _ _ (kr_i dX1_faultOf_111)
              ·
                refine lv_iload hx hb dX1_faultOf_86 (lv_at hl 1 rfl) ?_
                by_cases hsg : SG (σ.2.1 0 vq)
                ·
                  refine crS (rest := []) S hK (c_X1_codeOf_y l G (σ.2.1 0 vq) hsg) cw_X1_15 rfl ⟨Nat.le_of_ble_eq_true rfl, Nat.le_of_ble_eq_true rfl⟩ ⟨Nat.le_of_ble_eq_true rfl, Nat.le_of_ble_eq_true rfl⟩ hl.1 rfl (Nat.le_of_ble_eq_true rfl) dX1_faultOf_88 trivial ?_
                  refine n_if_lt (tgt := 109) hx hb dX1_faultOf_91 (by decide) (by first | omega | exact hcd | exact Nat.lt_of_le_of_lt Nat.and_le_left (by omega)) (fun c_91 => ?_)
                  refine lv_iload hx hb dX1_faultOf_94 (lv_at hl 0 rfl) ?_
                  refine lv_if_lt (tgt := 112) hx hb dX1_faultOf_96 (by decide) (fun c_96 => ?_) (fun c_96 => ?_)
                  ·
                    have hnb : ¬ (vx = 5 ∨ (0 < vy ∧ vx = vw) ∨ bdC (σ.2.1 0 vq) vs = true) := by
                      rintro (q | q | q)
                      · omega
                      · omega
                      · exact bdC_1 (by rcases hsg with z | z | z <;> omega) q
                    have hse : vs ||| 0 = seN (σ.2.1 0 vq) vs := by unfold seN; rw [if_neg hdg, Nat.or_zero]
                    refine lv_iload hx hb dX1_faultOf_112 (lv_at hl 7 rfl) ?_
                    refine lv_iload hx hb dX1_faultOf_114 (lv_at hl 0 rfl) ?_
                    refine lv_if_lt (tgt := 126) hx hb dX1_faultOf_116 (by decide) (fun c_116 => ?_) (fun c_116 => ?_)
                    ·
                      refine lv_iconst (v := nI 0) hx hb dX1_faultOf_126 (by decide) ?_
                      refine n_ior hx hb dX1_faultOf_127 ?_
                      refine lv_istore (lv' := [(5, .int (nI (vs ||| 0))), (8, .int (-1)), (7, .int (nI (σ.2.1 0 vq))), (0, .ref b), (1, .int (nI n)), (2, .int (nI vW)), (3, .int (nI vx)), (4, .int (nI vy)), (6, .int (nI vq))]) hx hb dX1_faultOf_128 hl (by decide) rfl (fun ls hl => ?_)
                      refine lv_iinc (v := (nI (vx + 1))) (lv' := [(3, .int (nI (vx + 1))), (5, .int (nI (vs ||| 0))), (8, .int (-1)), (7, .int (nI (σ.2.1 0 vq))), (0, .ref b), (1, .int (nI n)), (2, .int (nI vW)), (4, .int (nI vy)), (6, .int (nI vq))]) hx hb dX1_faultOf_130 hl (k := 6) rfl (inc1 _) (by decide) rfl (fun ls hl => ?_)
                      refine lv_iinc (v := (nI (vq + 1))) (lv' := [(6, .int (nI (vq + 1))), (3, .int (nI (vx + 1))), (5, .int (nI (vs ||| 0))), (8, .int (-1)), (7, .int (nI (σ.2.1 0 vq))), (0, .ref b), (1, .int (nI n)), (2, .int (nI vW)), (4, .int (nI vy))]) hx hb dX1_faultOf_133 hl (k := 8) rfl (inc1 _) (by decide) rfl (fun ls hl => ?_)
                      refine lv_goto (tgt := 13) hx hb dX1_faultOf_136 (by decide) ?_
                      replace hl := lv_eq 2 hl rfl (v2 := .int (nI (seN (σ.2.1 0 vq) vs))) (congrArg (fun z => Value.int (nI z)) (show (vs ||| 0) = (seN (σ.2.1 0 vq) vs) from hse))
                      exact ih13 (vq + 1) (seN (σ.2.1 0 vq) vs) (vx + 1) vy vw vW (by omega) (by omega) (seN_lt hs32) ((rd_c (by omega) c_36 hnb).symm.trans hrd) (by omega) ls (lv_sub hl [5, 6, 7, 1, 8, 2, 0] rfl)
                    ·
                      exact absurd c_116 (by decide)
                  ·
                    exact absurd c_96 (by decide)
                ·
                  refine crS (rest := []) S hK (c_X1_codeOf_n l G (σ.2.1 0 vq) hsg h2) cw_X1_15 rfl ⟨Nat.le_of_ble_eq_true rfl, Nat.le_of_ble_eq_true rfl⟩ ⟨Nat.le_of_ble_eq_true rfl, Nat.le_of_ble_eq_true rfl⟩ hl.1 rfl (Nat.le_of_ble_eq_true rfl) dX1_faultOf_88 trivial ?_
                  refine lv_if_lt (tgt := 109) hx hb dX1_faultOf_91 (by decide) (fun c_91 => ?_) (fun c_91 => ?_)
                  ·
                    have hr : ftV (rdE (rdL (σ.2.1 0) n 0 0 0 0 0)) = nI vq := by rw [← hrd, rd_cf (by omega) c_36 (Or.inr (Or.inr (bdC_3 (fun z => hsg (Or.inl z)) (fun z => hsg (Or.inr (Or.inl z))) (by omega))))]; rfl
                    refine lv_iload hx hb dX1_faultOf_109 (lv_at hl 8 rfl) ?_
                    refine w_top (v' := .int (ftV (rdE (rdL (σ.2.1 0) n 0 0 0 0 0)))) (show (.int (nI vq) : Value) = .int (ftV (rdE (rdL (σ.2.1 0) n 0 0 0 0 0))) from by rw [hr]) ?_
                    exact hE _ _ (kr_i dX1_faultOf_111)
                  ·
                    exact absurd c_91 (by decide)
          ·
            refine lv_iload_n hx hb dX1_faultOf_39 rfl (lv_at hl 4 rfl) ?_
            refine n_if_eq (tgt := 61) hx hb dX1_faultOf_40 (by decide) (by first | omega | exact hcd | exact Nat.lt_of_le_of_lt Nat.and_le_left (by omega)) (fun c_40 => ?_) (fun c_40 => ?_)
            ·
              have hr : ftV (rdE (rdL (σ.2.1 0) n 0 0 0 0 0)) = nI vq := by rw [← hrd, rd_sf (by omega) c_36 (by omega)]; rfl
              refine lv_iload hx hb dX1_faultOf_61 (lv_at hl 7 rfl) ?_
              refine w_top (v' := .int (ftV (rdE (rdL (σ.2.1 0) n 0 0 0 0 0)))) (show (.int (nI vq) : Value) = .int (ftV (rdE (rdL (σ.2.1 0) n 0 0 0 0 0))) from by rw [hr]) ?_
              exact hE _ _ (kr_i dX1_faultOf_63)
            ·
              refine lv_iload hx hb dX1_faultOf_43 (lv_at hl 5 rfl) ?_
              refine n_if_le (tgt := 53) hx hb dX1_faultOf_45 (by decide) (by first | omega | exact hcd | exact Nat.lt_of_le_of_lt Nat.and_le_left (by omega)) (fun c_45 => ?_) (fun c_45 => ?_)
              ·
                refine lv_iload hx hb dX1_faultOf_53 (lv_at hl 5 rfl) ?_
                refine lv_iconst (v := nI 1) hx hb dX1_faultOf_55 (by decide) ?_
                refine n_iadd hx hb dX1_faultOf_56 ?_
                refine lv_iconst (v := nI 4) hx hb dX1_faultOf_57 (by decide) ?_
                refine n_icmp_lt (tgt := 64) hx hb dX1_faultOf_58 (by decide) (by first | omega | exact hcd | exact Nat.lt_of_le_of_lt Nat.and_le_left (by omega)) (by decide) (fun c_58 => ?_) (fun c_58 => ?_)
                ·
                  refine lv_iload_n hx hb dX1_faultOf_64 rfl (lv_at hl 4 rfl) ?_
                  refine lv_istore_n (lv' := [(2, .int (nI vx)), (7, .int (nI (σ.2.1 0 vq))), (0, .ref b), (1, .int (nI n)), (3, .int (nI vx)), (4, .int (nI vy)), (5, .int (nI vs)), (6, .int (nI vq))]) hx hb dX1_faultOf_65 rfl hl (by decide) rfl (fun ls hl => ?_)
                  refine lv_iconst (v := nI 0) hx hb dX1_faultOf_66 (by decide) ?_
                  refine lv_istore_n (lv' := [(3, .int (nI 0)), (2, .int (nI vx)), (7, .int (nI (σ.2.1 0 vq))), (0, .ref b), (1, .int (nI n)), (4, .int (nI vy)), (5, .int (nI vs)), (6, .int (nI vq))]) hx hb dX1_faultOf_67 rfl hl (by decide) rfl (fun ls hl => ?_)
                  refine lv_iinc (v := (nI (vy + 1))) (lv' := [(4, .int (nI (vy + 1))), (3, .int (nI 0)), (2, .int (nI vx)), (7, .int (nI (σ.2.1 0 vq))), (0, .ref b), (1, .int (nI n)), (5, .int (nI vs)), (6, .int (nI vq))]) hx hb dX1_faultOf_68 hl (k := 5) rfl (inc1 _) (by decide) rfl (fun ls hl => ?_)
                  refine lv_goto (tgt := 133) hx hb dX1_faultOf_71 (by decide) ?_
                  refine lv_iinc (v := (nI (vq + 1))) (lv' := [(6, .int (nI (vq + 1))), (4, .int (nI (vy + 1))), (3, .int (nI 0)), (2, .int (nI vx)), (7, .int (nI (σ.2.1 0 vq))), (0, .ref b), (1, .int (nI n)), (5, .int (nI vs))]) hx hb dX1_faultOf_133 hl (k := 7) rfl (inc1 _) (by decide) rfl (fun ls hl => ?_)
                  refine lv_goto (tgt := 13) hx hb dX1_faultOf_136 (by decide) ?_
                  exact ih13 (vq + 1) vs 0 (vy + 1) vx vx (by omega) (by omega) hs32 ((rd_s (by omega) c_36 (by omega)).symm.trans hrd) (by omega) ls (lv_sub hl [5, 6, 3, 2, 1, 7, 0] rfl)
                ·
                  have hr : ftV (rdE (rdL (σ.2.1 0) n 0 0 0 0 0)) = nI vq := by rw [← hrd, rd_sf (by omega) c_36 (by omega)]; rfl
                  refine lv_iload hx hb dX1_faultOf_61 (lv_at hl 7 rfl) ?_
                  refine w_top (v' := .int (ftV (rdE (rdL (σ.2.1 0) n 0 0 0 0 0)))) (show (.int (nI vq) : Value) = .int (ftV (rdE (rdL (σ.2.1 0) n 0 0 0 0 0))) from by rw [hr]) ?_
                  exact hE _ _ (kr_i dX1_faultOf_63)
              ·
                refine lv_iload_n hx hb dX1_faultOf_48 rfl (lv_at hl 4 rfl) ?_
                refine lv_iload_n hx hb dX1_faultOf_49 rfl (lv_at hl 3 rfl) ?_
                refine n_icmp_lt (tgt := 61) hx hb dX1_faultOf_50 (by decide) (by first | omega | exact hcd | exact Nat.lt_of_le_of_lt Nat.and_le_left (by omega)) (by first | omega | exact hcd | exact Nat.lt_of_le_of_lt Nat.and_le_left (by omega)) (fun c_50 => ?_) (fun c_50 => ?_)
                ·
                  have hr : ftV (rdE (rdL (σ.2.1 0) n 0 0 0 0 0)) = nI vq := by rw [← hrd, rd_sf (by omega) c_36 (by omega)]; rfl
                  refine lv_iload hx hb dX1_faultOf_61 (lv_at hl 7 rfl) ?_
                  refine w_top (v' := .int (ftV (rdE (rdL (σ.2.1 0) n 0 0 0 0 0)))) (show (.int (nI vq) : Value) = .int (ftV (rdE (rdL (σ.2.1 0) n 0 0 0 0 0))) from by rw [hr]) ?_
                  exact hE _ _ (kr_i dX1_faultOf_63)
                ·
                  refine lv_iload hx hb dX1_faultOf_53 (lv_at hl 5 rfl) ?_
                  refine lv_iconst (v := nI 1) hx hb dX1_faultOf_55 (by decide) ?_
                  refine n_iadd hx hb dX1_faultOf_56 ?_
                  refine lv_iconst (v := nI 4) hx hb dX1_faultOf_57 (by decide) ?_
                  refine n_icmp_lt (tgt := 64) hx hb dX1_faultOf_58 (by decide) (by first | omega | exact hcd | exact Nat.lt_of_le_of_lt Nat.and_le_left (by omega)) (by decide) (fun c_58 => ?_) (fun c_58 => ?_)
                  ·
                    refine lv_iload_n hx hb dX1_faultOf_64 rfl (lv_at hl 4 rfl) ?_
                    refine lv_istore_n (lv' := [(2, .int (nI vx)), (7, .int (nI (σ.2.1 0 vq))), (0, .ref b), (1, .int (nI n)), (3, .int (nI vx)), (4, .int (nI vy)), (5, .int (nI vs)), (6, .int (nI vq))]) hx hb dX1_faultOf_65 rfl hl (by decide) rfl (fun ls hl => ?_)
                    refine lv_iconst (v := nI 0) hx hb dX1_faultOf_66 (by decide) ?_
                    refine lv_istore_n (lv' := [(3, .int (nI 0)), (2, .int (nI vx)), (7, .int (nI (σ.2.1 0 vq))), (0, .ref b), (1, .int (nI n)), (4, .int (nI vy)), (5, .int (nI vs)), (6, .int (nI vq))]) hx hb dX1_faultOf_67 rfl hl (by decide) rfl (fun ls hl => ?_)
                    refine lv_iinc (v := (nI (vy + 1))) (lv' := [(4, .int (nI (vy + 1))), (3, .int (nI 0)), (2, .int (nI vx)), (7, .int (nI (σ.2.1 0 vq))), (0, .ref b), (1, .int (nI n)), (5, .int (nI vs)), (6, .int (nI vq))]) hx hb dX1_faultOf_68 hl (k := 5) rfl (inc1 _) (by decide) rfl (fun ls hl => ?_)
                    refine lv_goto (tgt := 133) hx hb dX1_faultOf_71 (by decide) ?_
                    refine lv_iinc (v := (nI (vq + 1))) (lv' := [(6, .int (nI (vq + 1))), (4, .int (nI (vy + 1))), (3, .int (nI 0)), (2, .int (nI vx)), (7, .int (nI (σ.2.1 0 vq))), (0, .ref b), (1, .int (nI n)), (5, .int (nI vs))]) hx hb dX1_faultOf_133 hl (k := 7) rfl (inc1 _) (by decide) rfl (fun ls hl => ?_)
                    refine lv_goto (tgt := 13) hx hb dX1_faultOf_136 (by decide) ?_
                    exact ih13 (vq + 1) vs 0 (vy + 1) vx vx (by omega) (by omega) hs32 ((rd_s (by omega) c_36 (by omega)).symm.trans hrd) (by omega) ls (lv_sub hl [5, 6, 3, 2, 1, 7, 0] rfl)
                  ·
                    have hr : ftV (rdE (rdL (σ.2.1 0) n 0 0 0 0 0)) = nI vq := by rw [← hrd, rd_sf (by omega) c_36 (by omega)]; rfl
                    refine lv_iload hx hb dX1_faultOf_61 (lv_at hl 7 rfl) ?_
                    refine w_top (v' := .int (ftV (rdE (rdL (σ.2.1 0) n 0 0 0 0 0)))) (show (.int (nI vq) : Value) = .int (ftV (rdE (rdL (σ.2.1 0) n 0 0 0 0 0))) from by rw [hr]) ?_
                    exact hE _ _ (kr_i dX1_faultOf_63)
  exact L13 ((n - 0) + 1) 0 0 0 0 0 5 (Nat.zero_le _) (by omega) (by decide) rfl (Nat.lt_succ_self _) ls (lv_sub hl [5, 6, 4, 3, 2, 1, 0] rfl)
