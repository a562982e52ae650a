
/-! walks: the reference reads FORMULAS -/
def pq (μ : Sx) (p d w : Nat) : Sx := uS (uS (uS μ 23 p) 26 d) 29 w
def txM (μ : Sx) (i : Nat) : Nat := if μ.1 28 = 17 then μ.2.1 21 i else μ.2.1 5 i
/-- the text that is read: where it lies, how long it is, what stands there -/
def PW (μ : Sx) : Prop := ((μ.1 28 = 17 ∧ μ.1 25 + μ.1 24 ≤ 40) ∨ (μ.1 28 = 6 ∧ μ.1 25 + μ.1 24 ≤ 800)) ∧ (∀ i, i < μ.1 24 → txM μ (μ.1 25 + i) < 256) ∧ μ.1 24 ≤ 40 ∧ μ.1 27 < 2 ^ 31
def sgM (μ : Sx) (p : Nat) : Option Nat := if μ.1 24 ≤ p then none else some (txM μ (μ.1 25 + p))
def tkB (μ : Sx) (p w c : Nat) : Bool := decide (¬ w = 0) && decide (sgM μ p = some c)
theorem tkB_lt {μ : Sx} {p w c : Nat} (h : tkB μ p w c = true) : p < μ.1 24 ∧ ¬ w = 0 := by
  unfold tkB sgM at h
  simp only [Bool.and_eq_true, decide_eq_true_eq] at h
  refine ⟨?_, h.1⟩
  by_cases e : μ.1 24 ≤ p
  · rw [if_pos e] at h
    cases h.2
  · omega
/-- a letter's, a number's truth in a STATE -/
def ltB (μ : Sx) (c : Nat) : Bool := decide (c = 49) || (decide (97 ≤ c) && (μ.1 27).testBit (c - 97))
def isLt (c : Nat) : Bool := decide (c = 48) || decide (c = 49) || (decide (97 ≤ c) && decide (c ≤ 101))
/-- the reading: kinds 0 OR, 1 AND, 2 UNIT, 3 and 4 what goes on behind an AND, a UNIT -/
def pP (μ : Sx) : Nat → Nat → Bool → Nat → Nat → Nat → Bool × Nat × Nat × Nat
  | 0, _, v, p, d, w => (v, p, d, w)
  | n + 1, 0, _, p, d, w => let r := pP μ n 1 false p d w; pP μ n 3 r.1 r.2.1 r.2.2.1 r.2.2.2
  | n + 1, 1, _, p, d, w => let r := pP μ n 2 false p d w; pP μ n 4 r.1 r.2.1 r.2.2.1 r.2.2.2
  | n + 1, 3, v, p, d, w => if tkB μ p w 124 then (let r := pP μ n 1 false (p + 1) d w; pP μ n 3 (v || r.1) r.2.1 r.2.2.1 r.2.2.2) else (v, p, d, w)
  | n + 1, 4, v, p, d, w => if tkB μ p w 38 then (let r := pP μ n 2 false (p + 1) d w; pP μ n 4 (v && r.1) r.2.1 r.2.2.1 r.2.2.2) else (v, p, d, w)
  | n + 1, _, _, p, d, w => if w = 0 then (false, p, d, w) else match sgM μ p with
    | none => (false, p, d, 0)
    | some c => if c = 33 ∨ c = 40 then (if d = 5 then (false, p, d, 0) else
        if c = 33 then (let r := pP μ n 2 false (p + 1) (d + 1) w; (!r.1, r.2.1, r.2.2.1 - 1, r.2.2.2)) else
          (let r := pP μ n 0 false (p + 1) (d + 1) w; if tkB μ r.2.1 r.2.2.2 41 then (r.1, r.2.1 + 1, r.2.2.1 - 1, r.2.2.2) else (false, r.2.1, r.2.2.1, 0)))
      else if isLt c then (ltB μ c, p + 1, d, w) else (false, p, d, 0)
theorem sg_lt {μ : Sx} {p c : Nat} (h : sgM μ p = some c) : p < μ.1 24 ∧ txM μ (μ.1 25 + p) = c := by
  unfold sgM at h
  by_cases e : μ.1 24 ≤ p
  · rw [if_pos e] at h
    cases h
  · rw [if_neg e] at h
    cases h
    exact ⟨by omega, rfl⟩
section PD7
variable {μ : Sx} {n p d w c : Nat} {v : Bool}
theorem pU_d : pP μ (n + 1) 2 v p d w = (if w = 0 then (false, p, d, w) else match sgM μ p with
    | none => (false, p, d, 0)
    | some c => if c = 33 ∨ c = 40 then (if d = 5 then (false, p, d, 0) else
        if c = 33 then (let r := pP μ n 2 false (p + 1) (d + 1) w; (!r.1, r.2.1, r.2.2.1 - 1, r.2.2.2)) else
          (let r := pP μ n 0 false (p + 1) (d + 1) w; if tkB μ r.2.1 r.2.2.2 41 then (r.1, r.2.1 + 1, r.2.2.1 - 1, r.2.2.2) else (false, r.2.1, r.2.2.1, 0)))
      else if isLt c then (ltB μ c, p + 1, d, w) else (false, p, d, 0)) := rfl
theorem pU_w (h : w = 0) : pP μ (n + 1) 2 v p d w = (false, p, d, w) := by
  rw [pU_d, if_pos h]
theorem pU_e (h : ¬ w = 0) (hs : sgM μ p = none) : pP μ (n + 1) 2 v p d w = (false, p, d, 0) := by
  rw [pU_d, if_neg h, hs]
theorem pU_s (h : ¬ w = 0) (hs : sgM μ p = some c) : pP μ (n + 1) 2 v p d w = (if c = 33 ∨ c = 40 then (if d = 5 then (false, p, d, 0) else
        if c = 33 then (let r := pP μ n 2 false (p + 1) (d + 1) w; (!r.1, r.2.1, r.2.2.1 - 1, r.2.2.2)) else
          (let r := pP μ n 0 false (p + 1) (d + 1) w; if tkB μ r.2.1 r.2.2.2 41 then (r.1, r.2.1 + 1, r.2.2.1 - 1, r.2.2.2) else (false, r.2.1, r.2.2.1, 0)))
      else if isLt c then (ltB μ c, p + 1, d, w) else (false, p, d, 0)) := by
  rw [pU_d, if_neg h, hs]
theorem p4_f (ht : tkB μ p w 38 = false) : pP μ (n + 1) 4 v p d w = (v, p, d, w) := by
  show (if tkB μ p w 38 = true then _ else _) = _
  rw [if_neg (by rw [ht]; decide)]
theorem p3_f (ht : tkB μ p w 124 = false) : pP μ (n + 1) 3 v p d w = (v, p, d, w) := by
  show (if tkB μ p w 124 = true then _ else _) = _
  rw [if_neg (by rw [ht]; decide)]
theorem p4_d (ht : tkB μ p w 38 = true) : pP μ (n + 1) 4 v p d w = pP μ n 4 (v && (pP μ n 2 false (p + 1) d w).1) (pP μ n 2 false (p + 1) d w).2.1 (pP μ n 2 false (p + 1) d w).2.2.1 (pP μ n 2 false (p + 1) d w).2.2.2 := by
  show (if tkB μ p w 38 = true then _ else _) = _
  rw [if_pos ht]
theorem p3_d (ht : tkB μ p w 124 = true) : pP μ (n + 1) 3 v p d w = pP μ n 3 (v || (pP μ n 1 false (p + 1) d w).1) (pP μ n 1 false (p + 1) d w).2.1 (pP μ n 1 false (p + 1) d w).2.2.1 (pP μ n 1 false (p + 1) d w).2.2.2 := by
  show (if tkB μ p w 124 = true then _ else _) = _
  rw [if_pos ht]
end PD7
/-- the place never goes back and stays in the text; the depth never falls below where it began, is there again if all is well, and 5 at most -/
theorem pP_ok (μ : Sx) : ∀ n m v p d w, p ≤ μ.1 24 → d ≤ 5 → p ≤ (pP μ n m v p d w).2.1 ∧ (pP μ n m v p d w).2.1 ≤ μ.1 24 ∧ d ≤ (pP μ n m v p d w).2.2.1 ∧ (pP μ n m v p d w).2.2.1 ≤ 5 ∧ (¬ (pP μ n m v p d w).2.2.2 = 0 → (pP μ n m v p d w).2.2.1 = d ∧ (pP μ n m v p d w).2.2.2 = w) := by
  intro n
  induction n with
  | zero =>
    intro m v p d w hp hd
    unfold pP
    exact ⟨Nat.le_refl _, hp, Nat.le_refl _, hd, fun _ => ⟨rfl, rfl⟩⟩
  | succ n ih =>
    intro m v p d w hp hd
    have two : ∀ (a : Nat) (v1 : Bool) (p1 : Nat) (b : Nat) (f : Bool → Bool), p1 ≤ μ.1 24 → p ≤ p1 → p ≤ (pP μ n b (f (pP μ n a v1 p1 d w).1) (pP μ n a v1 p1 d w).2.1 (pP μ n a v1 p1 d w).2.2.1 (pP μ n a v1 p1 d w).2.2.2).2.1 ∧ (pP μ n b (f (pP μ n a v1 p1 d w).1) (pP μ n a v1 p1 d w).2.1 (pP μ n a v1 p1 d w).2.2.1 (pP μ n a v1 p1 d w).2.2.2).2.1 ≤ μ.1 24 ∧ d ≤ (pP μ n b (f (pP μ n a v1 p1 d w).1) (pP μ n a v1 p1 d w).2.1 (pP μ n a v1 p1 d w).2.2.1 (pP μ n a v1 p1 d w).2.2.2).2.2.1 ∧ (pP μ n b (f (pP μ n a v1 p1 d w).1) (pP μ n a v1 p1 d w).2.1 (pP μ n a v1 p1 d w).2.2.1 (pP μ n a v1 p1 d w).2.2.2).2.2.1 ≤ 5 ∧ (¬ (pP μ n b (f (pP μ n a v1 p1 d w).1) (pP μ n a v1 p1 d w).2.1 (pP μ n a v1 p1 d w).2.2.1 (pP μ n a v1 p1 d w).2.2.2).2.2.2 = 0 → (pP μ n b (f (pP μ n a v1 p1 d w).1) (pP μ n a v1 p1 d w).2.1 (pP μ n a v1 p1 d w).2.2.1 (pP μ n a v1 p1 d w).2.2.2).2.2.1 = d ∧ (pP μ n b (f (pP μ n a v1 p1 d w).1) (pP μ n a v1 p1 d w).2.1 (pP μ n a v1 p1 d w).2.2.1 (pP μ n a v1 p1 d w).2.2.2).2.2.2 = w) := by
      intro a v1 p1 b f h1 h2
      obtain ⟨a1, a2, a3, a4, a5⟩ := ih a v1 p1 d w h1 hd
      obtain ⟨b1, b2, b3, b4, b5⟩ := ih b (f (pP μ n a v1 p1 d w).1) (pP μ n a v1 p1 d w).2.1 (pP μ n a v1 p1 d w).2.2.1 (pP μ n a v1 p1 d w).2.2.2 a2 a4
      refine ⟨by omega, b2, by omega, b4, fun q => ?_⟩
      obtain ⟨b6, b7⟩ := b5 q
      obtain ⟨a6, a7⟩ := a5 (by rw [← b7]; exact q)
      exact ⟨b6.trans a6, b7.trans a7⟩
    have unit : ∀ m, ¬ m = 0 → ¬ m = 1 → ¬ m = 3 → ¬ m = 4 → pP μ (n + 1) m v p d w = pP μ (n + 1) 2 v p d w := by
      intro m h0 h1 h3 h4
      match m, h0, h1, h3, h4 with
      | 2, _, _, _, _ => rfl
      | k + 5, _, _, _, _ => rfl
    by_cases m0 : m = 0
    · subst m0
      exact two 1 false p 3 id hp (Nat.le_refl _)
    · by_cases m1 : m = 1
      · subst m1
        exact two 2 false p 4 id hp (Nat.le_refl _)
      · by_cases m3 : m = 3
        · subst m3
          cases ht : tkB μ p w 124
          · rw [p3_f ht]
            exact ⟨Nat.le_refl _, hp, Nat.le_refl _, hd, fun _ => ⟨rfl, rfl⟩⟩
          · rw [p3_d ht]
            exact two 1 false (p + 1) 3 (fun z => v || z) (tkB_lt ht).1 (by omega)
        · by_cases m4 : m = 4
          · subst m4
            cases ht : tkB μ p w 38
            · rw [p4_f ht]
              exact ⟨Nat.le_refl _, hp, Nat.le_refl _, hd, fun _ => ⟨rfl, rfl⟩⟩
            · rw [p4_d ht]
              exact two 2 false (p + 1) 4 (fun z => v && z) (tkB_lt ht).1 (by omega)
          · rw [unit m m0 m1 m3 m4]
            by_cases hw : w = 0
            · rw [pU_w hw]
              exact ⟨Nat.le_refl _, hp, Nat.le_refl _, hd, fun _ => ⟨rfl, rfl⟩⟩
            · cases hs : sgM μ p with
              | none =>
                rw [pU_e hw hs]
                exact ⟨Nat.le_refl _, hp, Nat.le_refl _, hd, fun q => absurd rfl q⟩
              | some c =>
                have hpl := (sg_lt hs).1
                rw [pU_s hw hs]
                by_cases h1 : c = 33 ∨ c = 40
                · rw [if_pos h1]
                  by_cases h5 : d = 5
                  · rw [if_pos h5]
                    exact ⟨Nat.le_refl _, hp, Nat.le_refl _, hd, fun q => absurd rfl q⟩
                  · rw [if_neg h5]
                    by_cases h33 : c = 33
                    · rw [if_pos h33]
                      obtain ⟨a1, a2, a3, a4, a5⟩ := ih 2 false (p + 1) (d + 1) w (by omega) (by omega)
                      dsimp only
                      exact ⟨by omega, a2, by omega, by omega, fun q => ⟨by have := (a5 q).1; omega, (a5 q).2⟩⟩
                    · rw [if_neg h33]
                      obtain ⟨a1, a2, a3, a4, a5⟩ := ih 0 false (p + 1) (d + 1) w (by omega) (by omega)
                      dsimp only
                      cases ht : tkB μ (pP μ n 0 false (p + 1) (d + 1) w).2.1 (pP μ n 0 false (p + 1) (d + 1) w).2.2.2 41
                      · rw [if_neg (show ¬ (false = true) from by decide)]
                        dsimp only
                        exact ⟨by omega, a2, by omega, a4, fun q => absurd rfl q⟩
                      · have htl := (tkB_lt ht).1
                        rw [if_pos rfl]
                        dsimp only
                        exact ⟨by omega, htl, by omega, by omega, fun q => ⟨by have := (a5 q).1; omega, (a5 q).2⟩⟩
                · rw [if_neg h1]
                  cases hl : isLt c
                  · rw [if_neg (show ¬ (false = true) from by decide)]
                    exact ⟨Nat.le_refl _, hp, Nat.le_refl _, hd, fun q => absurd rfl q⟩
                  · rw [if_pos rfl]
                    dsimp only
                    exact ⟨by omega, hpl, Nat.le_refl _, hd, fun _ => ⟨rfl, rfl⟩⟩
theorem txM_17 {μ : Sx} (h : μ.1 28 = 17) (i : Nat) : txM μ i = μ.2.1 21 i := by unfold txM; rw [if_pos h]
theorem txM_6 {μ : Sx} (h : μ.1 28 = 6) (i : Nat) : txM μ i = μ.2.1 5 i := by unfold txM; rw [if_neg (by omega)]
theorem sg_e {μ : Sx} {p : Nat} (h : μ.1 24 ≤ p) : sgM μ p = none := by unfold sgM; rw [if_pos h]
theorem sg_b {μ : Sx} {p : Nat} (h : ¬ μ.1 24 ≤ p) : sgM μ p = some (txM μ (μ.1 25 + p)) := by unfold sgM; rw [if_neg h]

set_option maxHeartbeats 1000000 in
set_option maxRecDepth 100000 in
theorem c_X7_sign_17 (l : Launch) (G : Gt) (om : Nat) (μ : Sx) (vp : Nat) (vd : Nat) (vw : Nat) (vc : Nat) (hPW : PW μ) (h28 : μ.1 28 = 17) (hsg : sgM μ vp = some vc) : Cr l G yX7_sign cX7_sign 1 ((some .int)) 0 [.ref om] (fun H => bk G om (mL G om (pq μ vp vd vw)) H) (some (.int (nI vc))) := by
  refine cr_entry [(0, .ref om)] (by decide) (Nat.le_of_ble_eq_true rfl) rfl ?_
  intro zp ze zs zm za zb zt zc Q S hK hPre hE ls hl
  have hx := S.1
  have hb := S.2.1
  have hM := hPre
  obtain ⟨hvp, htx⟩ := sg_lt hsg
  obtain ⟨hbs, hby, hsz, has⟩ := id hPW
  rw [txM_17 h28] at htx
  refine lv_aload_n hx hb dX7_sign_0 rfl (lv_at hl 0 rfl) ?_
  refine kg (C := RX7) (T := TX7) (N := 32) (ci := 5) (k := 23) (v := .int (nI vp)) S hK rfl inX7 (by decide) q_753 dX7_sign_1 hM rfl rfl ?_
  refine lv_aload_n hx hb dX7_sign_4 rfl (lv_at hl 0 rfl) ?_
  refine kg (C := RX7) (T := TX7) (N := 32) (ci := 5) (k := 24) (v := .int (nI (μ.1 24))) S hK rfl inX7 (by decide) q_754 dX7_sign_5 hM rfl rfl ?_
  refine n_icmp_lt (tgt := 15) hx hb dX7_sign_8 (by decide) (by omega) (by omega) (fun c_8 => ?_) (fun c_8 => ?_)
  ·
    refine lv_aload_n hx hb dX7_sign_15 rfl (lv_at hl 0 rfl) ?_
    refine kg (C := RX7) (T := TX7) (N := 32) (ci := 5) (k := 28) (v := .ref (om + (pq μ vp vd vw).1 28)) S hK rfl inX7 (by decide) q_758 dX7_sign_16 hM rfl rfl ?_
    refine w_top (v' := .ref (om + 17)) (congrArg (fun z => Value.ref (om + z)) h28) ?_
    refine lv_aload_n hx hb dX7_sign_19 rfl (lv_at hl 0 rfl) ?_
    refine kg (C := RX7) (T := TX7) (N := 32) (ci := 5) (k := 25) (v := .int (nI (μ.1 25))) S hK rfl inX7 (by decide) q_755 dX7_sign_20 hM rfl rfl ?_
    refine lv_aload_n hx hb dX7_sign_23 rfl (lv_at hl 0 rfl) ?_
    refine kg (C := RX7) (T := TX7) (N := 32) (ci := 5) (k := 23) (v := .int (nI vp)) S hK rfl inX7 (by decide) q_753 dX7_sign_24 hM rfl rfl ?_
    refine n_iadd hx hb dX7_sign_27 ?_
    refine kil (f := μ.2.1 21) S hK dX7_sign_28 17 hM rfl (by decide) rfl (by omega) ?_
    refine w_top (v' := .int (nI vc)) (congrArg (fun z => Value.int (nI z)) (show (μ.2.1 21 ((μ.1 25) + vp)) = vc from htx)) ?_
    exact hE _ _ (kr_i dX7_sign_29)
  ·
    omega

set_option maxHeartbeats 1000000 in
set_option maxRecDepth 100000 in
theorem c_X7_sign_6 (l : Launch) (G : Gt) (om : Nat) (μ : Sx) (vp : Nat) (vd : Nat) (vw : Nat) (vc : Nat) (hPW : PW μ) (h28 : μ.1 28 = 6) (hsg : sgM μ vp = some vc) : Cr l G yX7_sign cX7_sign 1 ((some .int)) 0 [.ref om] (fun H => bk G om (mL G om (pq μ vp vd vw)) H) (some (.int (nI vc))) := by
  refine cr_entry [(0, .ref om)] (by decide) (Nat.le_of_ble_eq_true rfl) rfl ?_
  intro zp ze zs zm za zb zt zc Q S hK hPre hE ls hl
  have hx := S.1
  have hb := S.2.1
  have hM := hPre
  obtain ⟨hvp, htx⟩ := sg_lt hsg
  obtain ⟨hbs, hby, hsz, has⟩ := id hPW
  rw [txM_6 h28] at htx
  refine lv_aload_n hx hb dX7_sign_0 rfl (lv_at hl 0 rfl) ?_
  refine kg (C := RX7) (T := TX7) (N := 32) (ci := 5) (k := 23) (v := .int (nI vp)) S hK rfl inX7 (by decide) q_753 dX7_sign_1 hM rfl rfl ?_
  refine lv_aload_n hx hb dX7_sign_4 rfl (lv_at hl 0 rfl) ?_
  refine kg (C := RX7) (T := TX7) (N := 32) (ci := 5) (k := 24) (v := .int (nI (μ.1 24))) S hK rfl inX7 (by decide) q_754 dX7_sign_5 hM rfl rfl ?_
  refine n_icmp_lt (tgt := 15) hx hb dX7_sign_8 (by decide) (by omega) (by omega) (fun c_8 => ?_) (fun c_8 => ?_)
  ·
    refine lv_aload_n hx hb dX7_sign_15 rfl (lv_at hl 0 rfl) ?_
    refine kg (C := RX7) (T := TX7) (N := 32) (ci := 5) (k := 28) (v := .ref (om + (pq μ vp vd vw).1 28)) S hK rfl inX7 (by decide) q_758 dX7_sign_16 hM rfl rfl ?_
    refine w_top (v' := .ref (om + 6)) (congrArg (fun z => Value.ref (om + z)) h28) ?_
    refine lv_aload_n hx hb dX7_sign_19 rfl (lv_at hl 0 rfl) ?_
    refine kg (C := RX7) (T := TX7) (N := 32) (ci := 5) (k := 25) (v := .int (nI (μ.1 25))) S hK rfl inX7 (by decide) q_755 dX7_sign_20 hM rfl rfl ?_
    refine lv_aload_n hx hb dX7_sign_23 rfl (lv_at hl 0 rfl) ?_
    refine kg (C := RX7) (T := TX7) (N := 32) (ci := 5) (k := 23) (v := .int (nI vp)) S hK rfl inX7 (by decide) q_753 dX7_sign_24 hM rfl rfl ?_
    refine n_iadd hx hb dX7_sign_27 ?_
    refine kil (f := μ.2.1 5) S hK dX7_sign_28 6 hM rfl (by decide) rfl (by omega) ?_
    refine w_top (v' := .int (nI vc)) (congrArg (fun z => Value.int (nI z)) (show (μ.2.1 5 ((μ.1 25) + vp)) = vc from htx)) ?_
    exact hE _ _ (kr_i dX7_sign_29)
  ·
    omega

set_option maxHeartbeats 1000000 in
set_option maxRecDepth 100000 in
theorem c_X7_sign_e (l : Launch) (G : Gt) (om : Nat) (μ : Sx) (vp : Nat) (vd : Nat) (vw : Nat) (hPW : PW μ) (hp1 : vp ≤ μ.1 24) (hsg : sgM μ vp = none) : Cr l G yX7_sign cX7_sign 1 ((some .int)) 0 [.ref om] (fun H => bk G om (mL G om (pq μ vp vd vw)) H) (some (.int (-1))) := by
  refine cr_entry [(0, .ref om)] (by decide) (Nat.le_of_ble_eq_true rfl) rfl ?_
  intro zp ze zs zm za zb zt zc Q S hK hPre hE ls hl
  have hx := S.1
  have hb := S.2.1
  have hM := hPre
  have hvp : μ.1 24 ≤ vp := by
    by_cases e : μ.1 24 ≤ vp
    · exact e
    · rw [sg_b e] at hsg; cases hsg
  obtain ⟨hbs, hby, hsz, has⟩ := id hPW
  refine lv_aload_n hx hb dX7_sign_0 rfl (lv_at hl 0 rfl) ?_
  refine kg (C := RX7) (T := TX7) (N := 32) (ci := 5) (k := 23) (v := .int (nI vp)) S hK rfl inX7 (by decide) q_753 dX7_sign_1 hM rfl rfl ?_
  refine lv_aload_n hx hb dX7_sign_4 rfl (lv_at hl 0 rfl) ?_
  refine kg (C := RX7) (T := TX7) (N := 32) (ci := 5) (k := 24) (v := .int (nI (μ.1 24))) S hK rfl inX7 (by decide) q_754 dX7_sign_5 hM rfl rfl ?_
  refine n_icmp_lt (tgt := 15) hx hb dX7_sign_8 (by decide) (by omega) (by omega) (fun c_8 => ?_) (fun c_8 => ?_)
  ·
    omega
  ·
    refine lv_iconst (v := (-1)) hx hb dX7_sign_11 (by decide) ?_
    refine lv_goto (tgt := 29) hx hb dX7_sign_12 (by decide) ?_
    exact hE _ _ (kr_i dX7_sign_29)

theorem c_X7_sign_b (l : Launch) (G : Gt) (om : Nat) (μ : Sx) (vp : Nat) (vd : Nat) (vw : Nat) (vc : Nat) (hPW : PW μ) (hsg : sgM μ vp = some vc) : Cr l G yX7_sign cX7_sign 1 ((some .int)) 0 [.ref om] (fun H => bk G om (mL G om (pq μ vp vd vw)) H) (some (.int (nI vc))) := by
  rcases hPW.1 with h | h
  · exact c_X7_sign_17 l G om μ vp vd vw vc hPW h.1 hsg
  · exact c_X7_sign_6 l G om μ vp vd vw vc hPW h.1 hsg

theorem neg1_ne {n : Nat} (h : n < 2 ^ 31) : ¬ (-1 : Int32) = nI n := fun q => by
  have q2 := congrArg Int32.toInt q
  rw [nI_toInt h] at q2
  have e : (-1 : Int32).toInt = -1 := rfl
  omega
theorem sg_256 {μ : Sx} {p c : Nat} (h : PW μ) (hs : sgM μ p = some c) : c < 256 := by
  obtain ⟨h1, h2⟩ := sg_lt hs
  rw [← h2]
  exact h.2.1 p h1
theorem tk_w {μ : Sx} {p c : Nat} : tkB μ p 0 c = false := rfl
theorem tk_n {μ : Sx} {p w c : Nat} (h : sgM μ p = none) : tkB μ p w c = false := by unfold tkB; rw [h, decide_eq_false (p := none = some c) (fun q => by cases q), Bool.and_false]
theorem tk_s {μ : Sx} {p w c d : Nat} (h : sgM μ p = some d) (hd : ¬ d = c) : tkB μ p w c = false := by unfold tkB; rw [h, decide_eq_false (p := some d = some c) (fun q => hd (Option.some.inj q)), Bool.and_false]
theorem tk_y {μ : Sx} {p w c : Nat} (h : sgM μ p = some c) (hw : ¬ w = 0) : tkB μ p w c = true := by unfold tkB; rw [h, decide_eq_true hw, decide_eq_true (p := some c = some c) rfl]; rfl
theorem q4 {X : Bool × Nat × Nat × Nat} {a a1 : Bool} {b c d b1 c1 d1 : Nat} (h : X = (a, b, c, d)) (h1 : X = (a1, b1, c1, d1)) : a1 = a ∧ b1 = b ∧ c1 = c ∧ d1 = d := by
  have q := h1.symm.trans h
  exact ⟨congrArg (fun z => z.1) q, congrArg (fun z => z.2.1) q, congrArg (fun z => z.2.2.1) q, congrArg (fun z => z.2.2.2) q⟩
section PU7
variable {μ : Sx} {n p d w c : Nat} {v : Bool}
theorem pU_5 (h : ¬ w = 0) (hs : sgM μ p = some c) (hc : c = 33 ∨ c = 40) (h5 : d = 5) : pP μ (n + 1) 2 v p d w = (false, p, d, 0) := by
  rw [pU_s h hs, if_pos hc, if_pos h5]
theorem pU_n {b1 : Bool} {p1 d1 w1 : Nat} (h : ¬ w = 0) (hs : sgM μ p = some 33) (h5 : ¬ d = 5) (hr : pP μ n 2 false (p + 1) (d + 1) w = (b1, p1, d1, w1)) : pP μ (n + 1) 2 v p d w = (!b1, p1, d1 - 1, w1) := by
  rw [pU_s h hs, if_pos (Or.inl rfl), if_neg h5, if_pos rfl, hr]
theorem pU_b {b1 : Bool} {p1 d1 w1 : Nat} (h : ¬ w = 0) (hs : sgM μ p = some 40) (h5 : ¬ d = 5) (hr : pP μ n 0 false (p + 1) (d + 1) w = (b1, p1, d1, w1)) (ht : tkB μ p1 w1 41 = true) : pP μ (n + 1) 2 v p d w = (b1, p1 + 1, d1 - 1, w1) := by
  rw [pU_s h hs, if_pos (Or.inr rfl), if_neg h5, if_neg (by decide), hr]
  show (if tkB μ p1 w1 41 = true then _ else _) = _
  rw [if_pos ht]
theorem pU_c {b1 : Bool} {p1 d1 w1 : Nat} (h : ¬ w = 0) (hs : sgM μ p = some 40) (h5 : ¬ d = 5) (hr : pP μ n 0 false (p + 1) (d + 1) w = (b1, p1, d1, w1)) (ht : tkB μ p1 w1 41 = false) : pP μ (n + 1) 2 v p d w = (false, p1, d1, 0) := by
  rw [pU_s h hs, if_pos (Or.inr rfl), if_neg h5, if_neg (by decide), hr]
  show (if tkB μ p1 w1 41 = true then _ else _) = _
  rw [if_neg (by rw [ht]; decide)]
theorem pU_l (h : ¬ w = 0) (hs : sgM μ p = some c) (hl : c = 48 ∨ c = 49 ∨ (97 ≤ c ∧ c ≤ 101)) : pP μ (n + 1) 2 v p d w = (ltB μ c, p + 1, d, w) := by
  rw [pU_s h hs, if_neg (by omega), if_pos]
  unfold isLt
  simp only [Bool.or_eq_true, Bool.and_eq_true, decide_eq_true_eq]
  omega
theorem pU_x (h : ¬ w = 0) (hs : sgM μ p = some c) (h33 : ¬ c = 33) (h40 : ¬ c = 40) (h48 : ¬ c = 48) (h49 : ¬ c = 49) (hl : c < 97 ∨ 101 < c) : pP μ (n + 1) 2 v p d w = (false, p, d, 0) := by
  rw [pU_s h hs, if_neg (by omega), if_neg]
  unfold isLt
  simp only [Bool.or_eq_true, Bool.and_eq_true, decide_eq_true_eq]
  omega
theorem pA_e {b1 : Bool} {p1 d1 w1 : Nat} {X : Bool × Nat × Nat × Nat} (hr : pP μ n 2 false p d w = (b1, p1, d1, w1)) (h : pP μ (n + 1) 1 v p d w = X) : pP μ n 4 b1 p1 d1 w1 = X := by
  rw [← h]
  show _ = pP μ n 4 (pP μ n 2 false p d w).1 (pP μ n 2 false p d w).2.1 (pP μ n 2 false p d w).2.2.1 (pP μ n 2 false p d w).2.2.2
  rw [hr]
theorem pO_e {b1 : Bool} {p1 d1 w1 : Nat} {X : Bool × Nat × Nat × Nat} (hr : pP μ n 1 false p d w = (b1, p1, d1, w1)) (h : pP μ (n + 1) 0 v p d w = X) : pP μ n 3 b1 p1 d1 w1 = X := by
  rw [← h]
  show _ = pP μ n 3 (pP μ n 1 false p d w).1 (pP μ n 1 false p d w).2.1 (pP μ n 1 false p d w).2.2.1 (pP μ n 1 false p d w).2.2.2
  rw [hr]
theorem p4_t {b1 : Bool} {p1 d1 w1 : Nat} {X : Bool × Nat × Nat × Nat} (ht : tkB μ p w 38 = true) (hr : pP μ n 2 false (p + 1) d w = (b1, p1, d1, w1)) (h : pP μ (n + 1) 4 v p d w = X) : pP μ n 4 (v && b1) p1 d1 w1 = X := by
  rw [← h, p4_d ht, hr]
theorem p3_t {b1 : Bool} {p1 d1 w1 : Nat} {X : Bool × Nat × Nat × Nat} (ht : tkB μ p w 124 = true) (hr : pP μ n 1 false (p + 1) d w = (b1, p1, d1, w1)) (h : pP μ (n + 1) 3 v p d w = X) : pP μ n 3 (v || b1) p1 d1 w1 = X := by
  rw [← h, p3_d ht, hr]
theorem pP_k {m b2 c2 d2 : Nat} {a2 : Bool} (hr : pP μ n m v p d w = (a2, b2, c2, d2)) (hp : p ≤ μ.1 24) (hd : d ≤ 5) (hw : w < 2) : p ≤ b2 ∧ b2 ≤ μ.1 24 ∧ d ≤ c2 ∧ c2 ≤ 5 ∧ d2 < 2 := by
  have h := pP_ok μ n m v p d w hp hd
  rw [hr] at h
  obtain ⟨h1, h2, h3, h4, h5⟩ := h
  refine ⟨h1, h2, h3, h4, ?_⟩
  show d2 < 2
  by_cases e : d2 = 0
  · omega
  · have q := (h5 e).2
    dsimp only at q
    omega
theorem ltB_1 (h : 97 ≤ c) (hb : μ.1 27 >>> (c - 97) &&& 1 = 1) : ltB μ c = true := by
  unfold ltB
  rw [decide_eq_true h, bit1.mp hb]
  cases decide (c = 49) <;> rfl
theorem ltB_0 (h : ¬ c = 49) (hb : ¬ μ.1 27 >>> (c - 97) &&& 1 = 1) : ltB μ c = false := by
  unfold ltB
  have q : (μ.1 27).testBit (c - 97) = false := by
    cases hq : (μ.1 27).testBit (c - 97)
    · rfl
    · exact absurd (bit1.mpr hq) hb
  rw [decide_eq_false h, q, Bool.and_false]
  rfl
end PU7

set_option maxHeartbeats 1000000 in
set_option maxRecDepth 100000 in
theorem c_X7_takes_t (l : Launch) (G : Gt) (om : Nat) (μ : Sx) (vp : Nat) (vd : Nat) (vw : Nat) (vc0 : Nat) (hPW : PW μ) (hp1 : vp ≤ μ.1 24) (h256 : vc0 < 256) (htk : tkB μ vp vw vc0 = true) (hw2 : vw < 2) : Ct l G yX7_takes cX7_takes 2 ((some .boolean)) 1 0 0 [.ref om, .int (nI vc0)] (fun H => bk G om (mL G om (pq μ vp vd vw)) H) (some (.int (b2i true))) (fun H => bk G om (mL G om (pq μ (vp + 1) vd vw)) H) (fun q => om ≤ q ∧ q < om + 20) := by
  refine ct_entry [(0, .ref om), (1, .int (nI vc0))] (by decide) (Nat.le_of_ble_eq_true rfl) rfl ?_
  intro zp ze zs zm za zb zt zc Q S hK hPre hin hE ls hl
  have hx := S.1
  have hb := S.2.1
  have hM := hPre
  have hS : va_S (fun q => om ≤ q ∧ q < om + 20) zs.heap zs.heap [] := va_S.rf
  obtain ⟨hvp, hw0⟩ := tkB_lt htk
  have hsg : sgM μ vp = some vc0 := by unfold tkB at htk; simp only [Bool.and_eq_true, decide_eq_true_eq] at htk; exact htk.2
  refine lv_aload_n hx hb dX7_takes_0 rfl (lv_at hl 0 rfl) ?_
  refine kg (C := RX7) (T := TX7) (N := 32) (ci := 5) (k := 29) (v := .int (nI vw)) S hK rfl inX7 (by decide) q_759 dX7_takes_1 hM rfl rfl ?_
  refine n_if_eq (tgt := 15) hx hb dX7_takes_4 (by decide) (by omega) (fun c_4 => ?_) (fun c_4 => ?_)
  ·
    exact absurd c_4 hw0
  ·
    refine lv_aload_n hx hb dX7_takes_7 rfl (lv_at hl 0 rfl) ?_
    refine crV (rest := []) S hK (c_X7_sign_b l G om μ vp vd vw vc0 (by first | assumption | omega | decide) (by first | assumption | omega | decide)) cw_X7_155 rfl ⟨Nat.le_of_ble_eq_true rfl, Nat.le_of_ble_eq_true rfl⟩ ⟨Nat.le_of_ble_eq_true rfl, Nat.le_of_ble_eq_true rfl⟩ (bk.recv hK hM rfl rfl) hl.1 rfl (Nat.le_of_ble_eq_true rfl) dX7_takes_8 hM ?_
    refine lv_iload_n hx hb dX7_takes_11 rfl (lv_at hl 1 rfl) ?_
    refine n_icmp_eq (tgt := 17) hx hb dX7_takes_12 (by decide) (by omega) (by omega) (fun c_12 => ?_) (fun c_12 => ?_)
    ·
      refine lv_aload_n hx hb dX7_takes_17 rfl (lv_at hl 0 rfl) ?_
      refine lv_dup hx hb dX7_takes_18 rfl ?_
      refine kg (C := RX7) (T := TX7) (N := 32) (ci := 5) (k := 23) (v := .int (nI vp)) S hK rfl inX7 (by decide) q_753 dX7_takes_19 hM rfl rfl ?_
      refine lv_iconst (v := nI 1) hx hb dX7_takes_22 (by decide) ?_
      refine n_iadd hx hb dX7_takes_23 ?_
      refine kp (C := RX7) (T := TX7) (N := 32) (ci := 5) (k := 23) (ty := .int) tyX7 tyX7_ok nmX7 S hK rfl inX7 (by decide) q_753 rfl dX7_takes_24 rfl rfl rfl hM rfl (Nat.le_of_ble_eq_true rfl) (L1 := mL G om (pq μ (vp + 1) vd vw)) rfl hS (by first | exact ⟨by omega, by omega⟩ | omega) (fun H locs hM hS hz hk => ?_)
      refine lv_iconst (v := nI 1) hx hb dX7_takes_27 (by decide) ?_
      refine w_top (v' := .int (b2i true)) (bz_t (show true = true from rfl)) ?_
      exact hE _ _ _ _ _ _ (kr_z dX7_takes_28) hS (by decide) (by decide) hM
    ·
      exact absurd rfl c_12

set_option maxHeartbeats 1000000 in
set_option maxRecDepth 100000 in
theorem c_X7_takes_f (l : Launch) (G : Gt) (om : Nat) (μ : Sx) (vp : Nat) (vd : Nat) (vw : Nat) (vc0 : Nat) (hPW : PW μ) (hp1 : vp ≤ μ.1 24) (h256 : vc0 < 256) (htk : tkB μ vp vw vc0 = false) (hw2 : vw < 2) : Cr l G yX7_takes cX7_takes 2 ((some .boolean)) 1 [.ref om, .int (nI vc0)] (fun H => bk G om (mL G om (pq μ vp vd vw)) H) (some (.int (b2i false))) := by
  refine cr_entry [(0, .ref om), (1, .int (nI vc0))] (by decide) (Nat.le_of_ble_eq_true rfl) rfl ?_
  intro zp ze zs zm za zb zt zc Q S hK hPre hE ls hl
  have hx := S.1
  have hb := S.2.1
  have hM := hPre
  refine lv_aload_n hx hb dX7_takes_0 rfl (lv_at hl 0 rfl) ?_
  refine kg (C := RX7) (T := TX7) (N := 32) (ci := 5) (k := 29) (v := .int (nI vw)) S hK rfl inX7 (by decide) q_759 dX7_takes_1 hM rfl rfl ?_
  refine n_if_eq (tgt := 15) hx hb dX7_takes_4 (by decide) (by omega) (fun c_4 => ?_) (fun c_4 => ?_)
  ·
    refine lv_iconst (v := nI 0) hx hb dX7_takes_15 (by decide) ?_
    refine w_top (v' := .int (b2i false)) (bz_f (show false = false from rfl)) ?_
    exact hE _ _ (kr_z dX7_takes_16)
  ·
    refine lv_aload_n hx hb dX7_takes_7 rfl (lv_at hl 0 rfl) ?_
    rcases hsg : sgM μ vp with _ | vc
    ·
      refine crV (rest := []) S hK (c_X7_sign_e l G om μ vp vd vw (by first | assumption | omega | decide) (by first | assumption | omega | decide) (by first | assumption | omega | decide)) cw_X7_155 rfl ⟨Nat.le_of_ble_eq_true rfl, Nat.le_of_ble_eq_true rfl⟩ ⟨Nat.le_of_ble_eq_true rfl, Nat.le_of_ble_eq_true rfl⟩ (bk.recv hK hM rfl rfl) hl.1 rfl (Nat.le_of_ble_eq_true rfl) dX7_takes_8 hM ?_
      refine lv_iload_n hx hb dX7_takes_11 rfl (lv_at hl 1 rfl) ?_
      refine lv_icmp_eq (tgt := 17) hx hb dX7_takes_12 (by decide) (fun c_12 => ?_) (fun c_12 => ?_)
      ·
        first | exact absurd c_12 (neg1_ne (by omega)) | (subst c_12; exact absurd (htk.symm.trans (tk_y hsg c_4)) (by decide))
      ·
        refine lv_iconst (v := nI 0) hx hb dX7_takes_15 (by decide) ?_
        refine w_top (v' := .int (b2i false)) (bz_f (show false = false from rfl)) ?_
        exact hE _ _ (kr_z dX7_takes_16)
    ·
      have hvc := sg_256 hPW hsg
      refine crV (rest := []) S hK (c_X7_sign_b l G om μ vp vd vw vc (by first | assumption | omega | decide) (by first | assumption | omega | decide)) cw_X7_155 rfl ⟨Nat.le_of_ble_eq_true rfl, Nat.le_of_ble_eq_true rfl⟩ ⟨Nat.le_of_ble_eq_true rfl, Nat.le_of_ble_eq_true rfl⟩ (bk.recv hK hM rfl rfl) hl.1 rfl (Nat.le_of_ble_eq_true rfl) dX7_takes_8 hM ?_
      refine lv_iload_n hx hb dX7_takes_11 rfl (lv_at hl 1 rfl) ?_
      refine n_icmp_eq (tgt := 17) hx hb dX7_takes_12 (by decide) (by omega) (by omega) (fun c_12 => ?_) (fun c_12 => ?_)
      ·
        first | exact absurd c_12 (neg1_ne (by omega)) | (subst c_12; exact absurd (htk.symm.trans (tk_y hsg c_4)) (by decide))
      ·
        refine lv_iconst (v := nI 0) hx hb dX7_takes_15 (by decide) ?_
        refine w_top (v' := .int (b2i false)) (bz_f (show false = false from rfl)) ?_
        exact hE _ _ (kr_z dX7_takes_16)

set_option maxHeartbeats 1000000 in
set_option maxRecDepth 100000 in
theorem c_X7_breaks (l : Launch) (G : Gt) (om : Nat) (μ : Sx) (vp : Nat) (vd : Nat) (vw : Nat)  : Ct l G yX7_breaks cX7_breaks 1 ((some .boolean)) 0 0 0 [.ref om] (fun H => bk G om (mL G om (pq μ vp vd vw)) H) (some (.int (b2i false))) (fun H => bk G om (mL G om (pq μ vp vd 0)) H) (fun q => om ≤ q ∧ q < om + 20) := by
  refine ct_entry [(0, .ref om)] (by decide) (Nat.le_of_ble_eq_true rfl) rfl ?_
  intro zp ze zs zm za zb zt zc Q S hK hPre hin hE ls hl
  have hx := S.1
  have hb := S.2.1
  have hM := hPre
  have hS : va_S (fun q => om ≤ q ∧ q < om + 20) zs.heap zs.heap [] := va_S.rf
  refine lv_aload_n hx hb dX7_breaks_0 rfl (lv_at hl 0 rfl) ?_
  refine lv_iconst (v := nI 0) hx hb dX7_breaks_1 (by decide) ?_
  refine kp (C := RX7) (T := TX7) (N := 32) (ci := 5) (k := 29) (ty := .boolean) tyX7 tyX7_ok nmX7 S hK rfl inX7 (by decide) q_759 rfl dX7_breaks_2 rfl rfl rfl hM rfl (Nat.le_of_ble_eq_true rfl) (L1 := mL G om (pq μ vp vd 0)) rfl hS (by first | exact ⟨by omega, by omega⟩ | omega) (fun H locs hM hS hz hk => ?_)
  refine lv_iconst (v := nI 0) hx hb dX7_breaks_5 (by decide) ?_
  refine w_top (v' := .int (b2i false)) (bz_f (show false = false from rfl)) ?_
  exact hE _ _ _ _ _ _ (kr_z dX7_breaks_6) hS (by decide) (by decide) hM

def KU (l : Launch) (G : Gt) (om : Nat) (μ : Sx) (n : Nat) : Prop := ∀ (vp vd vw : Nat) (vb : Bool) (p2 d2 w2 : Nat), (PW μ) → (vp ≤ μ.1 24) → (vd ≤ 5) → (vw < 2) → (4 * (μ.1 24 - vp) + 1 ≤ n) → (pP μ n 2 false vp vd vw = (vb, p2, d2, w2)) → Ct l G yX7_unit cX7_unit 3 ((some .boolean)) (3 * (5 - vd) + 2) 0 0 [.ref om] (fun H => bk G om (mL G om (pq μ vp vd vw)) H) (some (.int (b2i vb))) (fun H => bk G om (mL G om (pq μ p2 d2 w2)) H) (fun q => om ≤ q ∧ q < om + 20)

def KA (l : Launch) (G : Gt) (om : Nat) (μ : Sx) (n : Nat) : Prop := ∀ (vp vd vw : Nat) (vb : Bool) (p2 d2 w2 : Nat), (PW μ) → (vp ≤ μ.1 24) → (vd ≤ 5) → (vw < 2) → (4 * (μ.1 24 - vp) + 2 ≤ n) → (pP μ n 1 false vp vd vw = (vb, p2, d2, w2)) → Ct l G yX7_and cX7_and 3 ((some .boolean)) (3 * (5 - vd) + 3) 0 0 [.ref om] (fun H => bk G om (mL G om (pq μ vp vd vw)) H) (some (.int (b2i vb))) (fun H => bk G om (mL G om (pq μ p2 d2 w2)) H) (fun q => om ≤ q ∧ q < om + 20)

def KO (l : Launch) (G : Gt) (om : Nat) (μ : Sx) (n : Nat) : Prop := ∀ (vp vd vw : Nat) (vb : Bool) (p2 d2 w2 : Nat), (PW μ) → (vp ≤ μ.1 24) → (vd ≤ 5) → (vw < 2) → (4 * (μ.1 24 - vp) + 3 ≤ n) → (pP μ n 0 false vp vd vw = (vb, p2, d2, w2)) → Ct l G yX7_or cX7_or 3 ((some .boolean)) (3 * (5 - vd) + 4) 0 0 [.ref om] (fun H => bk G om (mL G om (pq μ vp vd vw)) H) (some (.int (b2i vb))) (fun H => bk G om (mL G om (pq μ p2 d2 w2)) H) (fun q => om ≤ q ∧ q < om + 20)

set_option maxHeartbeats 1000000 in
set_option maxRecDepth 100000 in
theorem s_X7_unit (l : Launch) (G : Gt) (om : Nat) (μ : Sx) (vp : Nat) (vd : Nat) (vw : Nat) (vb : Bool) (p2 : Nat) (d2 : Nat) (w2 : Nat) (n : Nat) (hPW : PW μ) (hp1 : vp ≤ μ.1 24) (hd1 : vd ≤ 5) (hw1 : vw < 2) (hfu : 4 * (μ.1 24 - vp) + 1 ≤ n) (hres : pP μ n 2 false vp vd vw = (vb, p2, d2, w2)) (hKU : ∀ q, q < n → KU l G om μ q) (hKO : ∀ q, q < n → KO l G om μ q) : Ct l G yX7_unit cX7_unit 3 ((some .boolean)) (3 * (5 - vd) + 2) 0 0 [.ref om] (fun H => bk G om (mL G om (pq μ vp vd vw)) H) (some (.int (b2i vb))) (fun H => bk G om (mL G om (pq μ p2 d2 w2)) H) (fun q => om ≤ q ∧ q < om + 20) := by
  refine ct_entry [(0, .ref om)] (by decide) (Nat.le_of_ble_eq_true rfl) rfl ?_
  intro zp ze zs zm za zb zt zc Q S hK hPre hin hE ls hl
  have hx := S.1
  have hb := S.2.1
  have hM := hPre
  have hS : va_S (fun q => om ≤ q ∧ q < om + 20) zs.heap zs.heap [] := va_S.rf
  obtain ⟨k, rfl⟩ : ∃ k, n = k + 1 := ⟨n - 1, by omega⟩
  have has := hPW.2.2.2
  refine lv_aload_n hx hb dX7_unit_0 rfl (lv_at hl 0 rfl) ?_
  refine kg (C := RX7) (T := TX7) (N := 32) (ci := 5) (k := 29) (v := .int (nI vw)) S hK rfl inX7 (by decide) q_759 dX7_unit_1 hM rfl rfl ?_
  refine n_if_ne (tgt := 9) hx hb dX7_unit_4 (by decide) (by omega) (fun c_4 => ?_) (fun c_4 => ?_)
  ·
    refine lv_aload_n hx hb dX7_unit_9 rfl (lv_at hl 0 rfl) ?_
    rcases hsg : sgM μ vp with _ | vc
    ·
      refine crV (rest := []) S hK (c_X7_sign_e l G om μ vp vd vw (by first | assumption | omega | decide) (by first | assumption | omega | decide) (by first | assumption | omega | decide)) cw_X7_155 rfl ⟨by simp only [rL]; omega, by simp only [rL]; omega⟩ ⟨Nat.le_of_ble_eq_true rfl, Nat.le_of_ble_eq_true rfl⟩ (bk.recv hK hM rfl rfl) hl.1 rfl (Nat.le_of_ble_eq_true rfl) dX7_unit_10 hM ?_
      refine lv_istore_n (lv' := [(1, .int (-1)), (0, .ref om)]) hx hb dX7_unit_13 rfl hl (by decide) rfl (fun ls hl => ?_)
      refine lv_iload_n hx hb dX7_unit_14 rfl (lv_at hl 0 rfl) ?_
      refine lv_bipush (v := nI 33) hx hb dX7_unit_15 (by decide) ?_
      refine lv_icmp_eq (tgt := 26) hx hb dX7_unit_17 (by decide) (fun c_17 => ?_) (fun c_17 => ?_)
      ·
        exact absurd c_17 (by decide)
      ·
        refine lv_iload_n hx hb dX7_unit_20 rfl (lv_at hl 0 rfl) ?_
        refine lv_bipush (v := nI 40) hx hb dX7_unit_21 (by decide) ?_
        refine lv_icmp_ne (tgt := 117) hx hb dX7_unit_23 (by decide) (fun c_23 => ?_) (fun c_23 => ?_)
        ·
          refine lv_iload_n hx hb dX7_unit_117 rfl (lv_at hl 0 rfl) ?_
          refine lv_bipush (v := nI 48) hx hb dX7_unit_118 (by decide) ?_
          refine lv_icmp_eq (tgt := 146) hx hb dX7_unit_120 (by decide) (fun c_120 => ?_) (fun c_120 => ?_)
          ·
            exact absurd c_120 (by decide)
          ·
            refine lv_iload_n hx hb dX7_unit_123 rfl (lv_at hl 0 rfl) ?_
            refine lv_bipush (v := nI 49) hx hb dX7_unit_124 (by decide) ?_
            refine lv_icmp_eq (tgt := 146) hx hb dX7_unit_126 (by decide) (fun c_126 => ?_) (fun c_126 => ?_)
            ·
              exact absurd c_126 (by decide)
            ·
              refine lv_iload_n hx hb dX7_unit_129 rfl (lv_at hl 0 rfl) ?_
              refine lv_bipush (v := nI 97) hx hb dX7_unit_130 (by decide) ?_
              refine lv_icmp_lt (tgt := 141) hx hb dX7_unit_132 (by decide) (fun c_132 => ?_) (fun c_132 => ?_)
              ·
                refine lv_aload_n hx hb dX7_unit_141 rfl (lv_at hl 1 rfl) ?_
                refine ctV (rest := []) S hK (c_X7_breaks l G om μ vp vd vw) cw_X7_172 rfl ⟨by simp only [rL]; omega, by simp only [rL]; omega⟩ ⟨Nat.le_of_ble_eq_true rfl, Nat.le_of_ble_eq_true rfl⟩ (bk.recv hK hM rfl rfl) hl.1 rfl (Nat.le_of_ble_eq_true rfl) dX7_unit_142 hM hS (fun _ h => h) (fun H locs hPost hz hk hS => ?_)
                have hM := hPost
                obtain ⟨e1, e2, e3, e4⟩ := q4 hres (by first | exact pU_e c_4 hsg | exact pU_x c_4 hsg (by omega) (by omega) (by omega) (by omega) (by omega))
                subst e1
                subst e2
                subst e3
                subst e4
                exact hE _ _ _ _ _ _ (kr_z dX7_unit_145) hS (by decide) (by decide) hM
              ·
                exact absurd c_132 (by decide)
        ·
          exact absurd c_23 (by decide)
    ·
      have hvc := sg_256 hPW hsg
      have hvp := (sg_lt hsg).1
      refine crV (rest := []) S hK (c_X7_sign_b l G om μ vp vd vw vc (by first | assumption | omega | decide) (by first | assumption | omega | decide)) cw_X7_155 rfl ⟨by simp only [rL]; omega, by simp only [rL]; omega⟩ ⟨Nat.le_of_ble_eq_true rfl, Nat.le_of_ble_eq_true rfl⟩ (bk.recv hK hM rfl rfl) hl.1 rfl (Nat.le_of_ble_eq_true rfl) dX7_unit_10 hM ?_
      refine lv_istore_n (lv' := [(1, .int (nI vc)), (0, .ref om)]) hx hb dX7_unit_13 rfl hl (by decide) rfl (fun ls hl => ?_)
      refine lv_iload_n hx hb dX7_unit_14 rfl (lv_at hl 0 rfl) ?_
      refine lv_bipush (v := nI 33) hx hb dX7_unit_15 (by decide) ?_
      refine n_icmp_eq (tgt := 26) hx hb dX7_unit_17 (by decide) (by omega) (by decide) (fun c_17 => ?_) (fun c_17 => ?_)
      ·
        subst c_17
        refine lv_aload_n hx hb dX7_unit_26 rfl (lv_at hl 1 rfl) ?_
        refine kg (C := RX7) (T := TX7) (N := 32) (ci := 5) (k := 26) (v := .int (nI vd)) S hK rfl inX7 (by decide) q_756 dX7_unit_27 hM rfl rfl ?_
        refine lv_iconst (v := nI 5) hx hb dX7_unit_30 (by decide) ?_
        refine n_icmp_ne (tgt := 39) hx hb dX7_unit_31 (by decide) (by omega) (by decide) (fun c_31 => ?_) (fun c_31 => ?_)
        ·
          refine lv_aload_n hx hb dX7_unit_39 rfl (lv_at hl 1 rfl) ?_
          refine lv_dup hx hb dX7_unit_40 rfl ?_
          refine kg (C := RX7) (T := TX7) (N := 32) (ci := 5) (k := 23) (v := .int (nI vp)) S hK rfl inX7 (by decide) q_753 dX7_unit_41 hM rfl rfl ?_
          refine lv_iconst (v := nI 1) hx hb dX7_unit_44 (by decide) ?_
          refine n_iadd hx hb dX7_unit_45 ?_
          refine kp (C := RX7) (T := TX7) (N := 32) (ci := 5) (k := 23) (ty := .int) tyX7 tyX7_ok nmX7 S hK rfl inX7 (by decide) q_753 rfl dX7_unit_46 rfl rfl rfl hM rfl (Nat.le_of_ble_eq_true rfl) (L1 := mL G om (pq μ (vp + 1) vd vw)) rfl hS (by first | exact ⟨by omega, by omega⟩ | omega) (fun H locs hM hS hz hk => ?_)
          refine lv_aload_n hx hb dX7_unit_49 rfl (lv_at hl 1 rfl) ?_
          refine lv_dup hx hb dX7_unit_50 rfl ?_
          refine kg (C := RX7) (T := TX7) (N := 32) (ci := 5) (k := 26) (v := .int (nI vd)) S hK rfl inX7 (by decide) q_756 dX7_unit_51 hM rfl rfl ?_
          refine lv_iconst (v := nI 1) hx hb dX7_unit_54 (by decide) ?_
          refine n_iadd hx hb dX7_unit_55 ?_
          refine kp (C := RX7) (T := TX7) (N := 32) (ci := 5) (k := 26) (ty := .int) tyX7 tyX7_ok nmX7 S hK rfl inX7 (by decide) q_756 rfl dX7_unit_56 rfl rfl rfl hM rfl (Nat.le_of_ble_eq_true rfl) (L1 := mL G om (pq μ (vp + 1) (vd + 1) vw)) rfl hS (by first | exact ⟨by omega, by omega⟩ | omega) (fun H locs hM hS hz hk => ?_)
          refine lv_iload_n hx hb dX7_unit_59 rfl (lv_at hl 0 rfl) ?_
          refine lv_bipush (v := nI 33) hx hb dX7_unit_60 (by decide) ?_
          refine n_icmp_ne (tgt := 80) hx hb dX7_unit_62 (by decide) (by decide) (by decide) (fun c_62 => ?_) (fun c_62 => ?_)
          ·
            exact absurd c_62 (by decide)
          ·
            refine lv_aload_n hx hb dX7_unit_65 rfl (lv_at hl 1 rfl) ?_
            rcases hq3 : pP μ k 2 false (vp + 1) (vd + 1) vw with ⟨b3, p3, d3, w3⟩
            obtain ⟨m31, m32, m33, m34, m35⟩ := pP_k hq3 (by omega) (by omega) (by omega)
            refine ctV (rest := []) S hK (hKU k (by omega) (vp + 1) (vd + 1) vw b3 p3 d3 w3 (by first | assumption | omega | decide) (by first | assumption | omega | decide) (by first | assumption | omega | decide) (by first | assumption | omega | decide) (by first | assumption | omega | decide) (by first | assumption | omega | decide)) cw_X7_166 rfl ⟨by simp only [rL]; omega, by simp only [rL]; omega⟩ ⟨Nat.le_of_ble_eq_true rfl, Nat.le_of_ble_eq_true rfl⟩ (bk.recv hK hM rfl rfl) hl.1 rfl (Nat.le_of_ble_eq_true rfl) dX7_unit_66 hM hS (fun _ h => h) (fun H locs hPost hz hk hS => ?_)
            have hM := hPost
            refine z_if_ne (tgt := 76) hx hb dX7_unit_69 (by decide) (fun c_69 => ?_) (fun c_69 => ?_)
            ·
              refine lv_iconst (v := nI 0) hx hb dX7_unit_76 (by decide) ?_
              refine lv_goto (tgt := 84) hx hb dX7_unit_77 (by decide) ?_
              refine lv_istore_n (lv' := [(2, .int (nI 0)), (1, .int (nI 33)), (0, .ref om)]) hx hb dX7_unit_84 rfl hl (by decide) rfl (fun ls hl => ?_)
              refine lv_iload_n hx hb dX7_unit_85 rfl (lv_at hl 1 rfl) ?_
              refine lv_bipush (v := nI 40) hx hb dX7_unit_86 (by decide) ?_
              refine n_icmp_ne (tgt := 105) hx hb dX7_unit_88 (by decide) (by decide) (by decide) (fun c_88 => ?_) (fun c_88 => ?_)
              ·
                refine lv_aload_n hx hb dX7_unit_105 rfl (lv_at hl 2 rfl) ?_
                refine lv_dup hx hb dX7_unit_106 rfl ?_
                refine kg (C := RX7) (T := TX7) (N := 32) (ci := 5) (k := 26) (v := .int (nI d3)) S hK rfl inX7 (by decide) q_756 dX7_unit_107 hM rfl rfl ?_
                refine lv_iconst (v := nI 1) hx hb dX7_unit_110 (by decide) ?_
                refine n_isub hx hb dX7_unit_111 (by omega) ?_
                refine kp (C := RX7) (T := TX7) (N := 32) (ci := 5) (k := 26) (ty := .int) tyX7 tyX7_ok nmX7 S hK rfl inX7 (by decide) q_756 rfl dX7_unit_112 rfl rfl rfl hM rfl (Nat.le_of_ble_eq_true rfl) (L1 := mL G om (pq μ p3 (d3 - 1) w3)) rfl hS (by first | exact ⟨by omega, by omega⟩ | omega) (fun H locs hM hS hz hk => ?_)
                refine lv_iload_n hx hb dX7_unit_115 rfl (lv_at hl 0 rfl) ?_
                obtain ⟨e1, e2, e3, e4⟩ := q4 hres (pU_n c_4 hsg c_31 hq3)
                subst e1
                subst e2
                subst e3
                subst e4
                refine w_top (v' := .int (b2i (!b3))) (bz_f (show (!b3) = false from (by rw [c_69]; rfl))) ?_
                exact hE _ _ _ _ _ _ (kr_z dX7_unit_116) hS (by decide) (by decide) hM
              ·
                exact absurd c_88 (by decide)
            ·
              refine lv_iconst (v := nI 1) hx hb dX7_unit_72 (by decide) ?_
              refine lv_goto (tgt := 84) hx hb dX7_unit_73 (by decide) ?_
              refine lv_istore_n (lv' := [(2, .int (nI 1)), (1, .int (nI 33)), (0, .ref om)]) hx hb dX7_unit_84 rfl hl (by decide) rfl (fun ls hl => ?_)
              refine lv_iload_n hx hb dX7_unit_85 rfl (lv_at hl 1 rfl) ?_
              refine lv_bipush (v := nI 40) hx hb dX7_unit_86 (by decide) ?_
              refine n_icmp_ne (tgt := 105) hx hb dX7_unit_88 (by decide) (by decide) (by decide) (fun c_88 => ?_) (fun c_88 => ?_)
              ·
                refine lv_aload_n hx hb dX7_unit_105 rfl (lv_at hl 2 rfl) ?_
                refine lv_dup hx hb dX7_unit_106 rfl ?_
                refine kg (C := RX7) (T := TX7) (N := 32) (ci := 5) (k := 26) (v := .int (nI d3)) S hK rfl inX7 (by decide) q_756 dX7_unit_107 hM rfl rfl ?_
                refine lv_iconst (v := nI 1) hx hb dX7_unit_110 (by decide) ?_
                refine n_isub hx hb dX7_unit_111 (by omega) ?_
                refine kp (C := RX7) (T := TX7) (N := 32) (ci := 5) (k := 26) (ty := .int) tyX7 tyX7_ok nmX7 S hK rfl inX7 (by decide) q_756 rfl dX7_unit_112 rfl rfl rfl hM rfl (Nat.le_of_ble_eq_true rfl) (L1 := mL G om (pq μ p3 (d3 - 1) w3)) rfl hS (by first | exact ⟨by omega, by omega⟩ | omega) (fun H locs hM hS hz hk => ?_)
                refine lv_iload_n hx hb dX7_unit_115 rfl (lv_at hl 0 rfl) ?_
                obtain ⟨e1, e2, e3, e4⟩ := q4 hres (pU_n c_4 hsg c_31 hq3)
                subst e1
                subst e2
                subst e3
                subst e4
                refine w_top (v' := .int (b2i (!b3))) (bz_t (show (!b3) = true from (by rw [c_69]; rfl))) ?_
                exact hE _ _ _ _ _ _ (kr_z dX7_unit_116) hS (by decide) (by decide) hM
              ·
                exact absurd c_88 (by decide)
        ·
          refine lv_aload_n hx hb dX7_unit_34 rfl (lv_at hl 1 rfl) ?_
          refine ctV (rest := []) S hK (c_X7_breaks l G om μ vp vd vw) cw_X7_172 rfl ⟨by simp only [rL]; omega, by simp only [rL]; omega⟩ ⟨Nat.le_of_ble_eq_true rfl, Nat.le_of_ble_eq_true rfl⟩ (bk.recv hK hM rfl rfl) hl.1 rfl (Nat.le_of_ble_eq_true rfl) dX7_unit_35 hM hS (fun _ h => h) (fun H locs hPost hz hk hS => ?_)
          have hM := hPost
          obtain ⟨e1, e2, e3, e4⟩ := q4 hres (pU_5 c_4 hsg (by omega) c_31)
          subst e1
          subst e2
          subst e3
          subst e4
          exact hE _ _ _ _ _ _ (kr_z dX7_unit_38) hS (by decide) (by decide) hM
      ·
        refine lv_iload_n hx hb dX7_unit_20 rfl (lv_at hl 0 rfl) ?_
        refine lv_bipush (v := nI 40) hx hb dX7_unit_21 (by decide) ?_
        refine n_icmp_ne (tgt := 117) hx hb dX7_unit_23 (by decide) (by omega) (by decide) (fun c_23 => ?_) (fun c_23 => ?_)
        ·
          refine lv_iload_n hx hb dX7_unit_117 rfl (lv_at hl 0 rfl) ?_
          refine lv_bipush (v := nI 48) hx hb dX7_unit_118 (by decide) ?_
          refine n_icmp_eq (tgt := 146) hx hb dX7_unit_120 (by decide) (by omega) (by decide) (fun c_120 => ?_) (fun c_120 => ?_)
          ·
            subst c_120
            refine lv_aload_n hx hb dX7_unit_146 rfl (lv_at hl 1 rfl) ?_
            refine lv_dup hx hb dX7_unit_147 rfl ?_
            refine kg (C := RX7) (T := TX7) (N := 32) (ci := 5) (k := 23) (v := .int (nI vp)) S hK rfl inX7 (by decide) q_753 dX7_unit_148 hM rfl rfl ?_
            refine lv_iconst (v := nI 1) hx hb dX7_unit_151 (by decide) ?_
            refine n_iadd hx hb dX7_unit_152 ?_
            refine kp (C := RX7) (T := TX7) (N := 32) (ci := 5) (k := 23) (ty := .int) tyX7 tyX7_ok nmX7 S hK rfl inX7 (by decide) q_753 rfl dX7_unit_153 rfl rfl rfl hM rfl (Nat.le_of_ble_eq_true rfl) (L1 := mL G om (pq μ (vp + 1) vd vw)) rfl hS (by first | exact ⟨by omega, by omega⟩ | omega) (fun H locs hM hS hz hk => ?_)
            refine lv_iload_n hx hb dX7_unit_156 rfl (lv_at hl 0 rfl) ?_
            refine lv_bipush (v := nI 49) hx hb dX7_unit_157 (by decide) ?_
            refine n_icmp_eq (tgt := 183) hx hb dX7_unit_159 (by decide) (by decide) (by decide) (fun c_159 => ?_) (fun c_159 => ?_)
            ·
              exact absurd c_159 (by decide)
            ·
              refine lv_iload_n hx hb dX7_unit_162 rfl (lv_at hl 0 rfl) ?_
              refine lv_bipush (v := nI 97) hx hb dX7_unit_163 (by decide) ?_
              refine n_icmp_lt (tgt := 187) hx hb dX7_unit_165 (by decide) (by decide) (by decide) (fun c_165 => ?_) (fun c_165 => ?_)
              ·
                refine lv_iconst (v := nI 0) hx hb dX7_unit_187 (by decide) ?_
                obtain ⟨e1, e2, e3, e4⟩ := q4 hres (pU_l c_4 hsg (by omega))
                subst e1
                subst e2
                subst e3
                subst e4
                refine w_top (v' := .int (b2i (ltB μ 48))) (bz_f (show (ltB μ 48) = false from (by first | rfl | exact ltB_1 (by omega) c_180 | exact ltB_0 c_159 c_180))) ?_
                exact hE _ _ _ _ _ _ (kr_z dX7_unit_188) hS (by decide) (by decide) hM
              ·
                exact absurd c_165 (by decide)
          ·
            refine lv_iload_n hx hb dX7_unit_123 rfl (lv_at hl 0 rfl) ?_
            refine lv_bipush (v := nI 49) hx hb dX7_unit_124 (by decide) ?_
            refine n_icmp_eq (tgt := 146) hx hb dX7_unit_126 (by decide) (by omega) (by decide) (fun c_126 => ?_) (fun c_126 => ?_)
            ·
              subst c_126
              refine lv_aload_n hx hb dX7_unit_146 rfl (lv_at hl 1 rfl) ?_
              refine lv_dup hx hb dX7_unit_147 rfl ?_
              refine kg (C := RX7) (T := TX7) (N := 32) (ci := 5) (k := 23) (v := .int (nI vp)) S hK rfl inX7 (by decide) q_753 dX7_unit_148 hM rfl rfl ?_
              refine lv_iconst (v := nI 1) hx hb dX7_unit_151 (by decide) ?_
              refine n_iadd hx hb dX7_unit_152 ?_
              refine kp (C := RX7) (T := TX7) (N := 32) (ci := 5) (k := 23) (ty := .int) tyX7 tyX7_ok nmX7 S hK rfl inX7 (by decide) q_753 rfl dX7_unit_153 rfl rfl rfl hM rfl (Nat.le_of_ble_eq_true rfl) (L1 := mL G om (pq μ (vp + 1) vd vw)) rfl hS (by first | exact ⟨by omega, by omega⟩ | omega) (fun H locs hM hS hz hk => ?_)
              refine lv_iload_n hx hb dX7_unit_156 rfl (lv_at hl 0 rfl) ?_
              refine lv_bipush (v := nI 49) hx hb dX7_unit_157 (by decide) ?_
              refine n_icmp_eq (tgt := 183) hx hb dX7_unit_159 (by decide) (by decide) (by decide) (fun c_159 => ?_) (fun c_159 => ?_)
              ·
                refine lv_iconst (v := nI 1) hx hb dX7_unit_183 (by decide) ?_
                refine lv_goto (tgt := 188) hx hb dX7_unit_184 (by decide) ?_
                obtain ⟨e1, e2, e3, e4⟩ := q4 hres (pU_l c_4 hsg (by omega))
                subst e1
                subst e2
                subst e3
                subst e4
                refine w_top (v' := .int (b2i (ltB μ 49))) (bz_t (show (ltB μ 49) = true from (by first | rfl | exact ltB_1 (by omega) c_180 | exact ltB_0 c_159 c_180))) ?_
                exact hE _ _ _ _ _ _ (kr_z dX7_unit_188) hS (by decide) (by decide) hM
              ·
                exact absurd c_159 (by decide)
            ·
              refine lv_iload_n hx hb dX7_unit_129 rfl (lv_at hl 0 rfl) ?_
              refine lv_bipush (v := nI 97) hx hb dX7_unit_130 (by decide) ?_
              refine n_icmp_lt (tgt := 141) hx hb dX7_unit_132 (by decide) (by omega) (by decide) (fun c_132 => ?_) (fun c_132 => ?_)
              ·
                refine lv_aload_n hx hb dX7_unit_141 rfl (lv_at hl 1 rfl) ?_
                refine ctV (rest := []) S hK (c_X7_breaks l G om μ vp vd vw) cw_X7_172 rfl ⟨by simp only [rL]; omega, by simp only [rL]; omega⟩ ⟨Nat.le_of_ble_eq_true rfl, Nat.le_of_ble_eq_true rfl⟩ (bk.recv hK hM rfl rfl) hl.1 rfl (Nat.le_of_ble_eq_true rfl) dX7_unit_142 hM hS (fun _ h => h) (fun H locs hPost hz hk hS => ?_)
                have hM := hPost
                obtain ⟨e1, e2, e3, e4⟩ := q4 hres (by first | exact pU_e c_4 hsg | exact pU_x c_4 hsg (by omega) (by omega) (by omega) (by omega) (by omega))
                subst e1
                subst e2
                subst e3
                subst e4
                exact hE _ _ _ _ _ _ (kr_z dX7_unit_145) hS (by decide) (by decide) hM
              ·
                refine lv_iload_n hx hb dX7_unit_135 rfl (lv_at hl 0 rfl) ?_
                refine lv_bipush (v := nI 101) hx hb dX7_unit_136 (by decide) ?_
                refine n_icmp_le (tgt := 146) hx hb dX7_unit_138 (by decide) (by omega) (by decide) (fun c_138 => ?_) (fun c_138 => ?_)
                ·
                  refine lv_aload_n hx hb dX7_unit_146 rfl (lv_at hl 1 rfl) ?_
                  refine lv_dup hx hb dX7_unit_147 rfl ?_
                  refine kg (C := RX7) (T := TX7) (N := 32) (ci := 5) (k := 23) (v := .int (nI vp)) S hK rfl inX7 (by decide) q_753 dX7_unit_148 hM rfl rfl ?_
                  refine lv_iconst (v := nI 1) hx hb dX7_unit_151 (by decide) ?_
                  refine n_iadd hx hb dX7_unit_152 ?_
                  refine kp (C := RX7) (T := TX7) (N := 32) (ci := 5) (k := 23) (ty := .int) tyX7 tyX7_ok nmX7 S hK rfl inX7 (by decide) q_753 rfl dX7_unit_153 rfl rfl rfl hM rfl (Nat.le_of_ble_eq_true rfl) (L1 := mL G om (pq μ (vp + 1) vd vw)) rfl hS (by first | exact ⟨by omega, by omega⟩ | omega) (fun H locs hM hS hz hk => ?_)
                  refine lv_iload_n hx hb dX7_unit_156 rfl (lv_at hl 0 rfl) ?_
                  refine lv_bipush (v := nI 49) hx hb dX7_unit_157 (by decide) ?_
                  refine n_icmp_eq (tgt := 183) hx hb dX7_unit_159 (by decide) (by omega) (by decide) (fun c_159 => ?_) (fun c_159 => ?_)
                  ·
                    exact absurd c_159 c_126
                  ·
                    refine lv_iload_n hx hb dX7_unit_162 rfl (lv_at hl 0 rfl) ?_
                    refine lv_bipush (v := nI 97) hx hb dX7_unit_163 (by decide) ?_
                    refine n_icmp_lt (tgt := 187) hx hb dX7_unit_165 (by decide) (by omega) (by decide) (fun c_165 => ?_) (fun c_165 => ?_)
                    ·
                      omega
                    ·
                      refine lv_aload_n hx hb dX7_unit_168 rfl (lv_at hl 1 rfl) ?_
                      refine kg (C := RX7) (T := TX7) (N := 32) (ci := 5) (k := 27) (v := .int (nI (μ.1 27))) S hK rfl inX7 (by decide) q_757 dX7_unit_169 hM rfl rfl ?_
                      refine lv_iload_n hx hb dX7_unit_172 rfl (lv_at hl 0 rfl) ?_
                      refine lv_bipush (v := nI 97) hx hb dX7_unit_173 (by decide) ?_
                      refine n_isub hx hb dX7_unit_175 (by omega) ?_
                      refine n_ishr hx hb dX7_unit_176 (by omega) (by omega) ?_
                      refine lv_iconst (v := nI 1) hx hb dX7_unit_177 (by decide) ?_
                      refine n_iand hx hb dX7_unit_178 ?_
                      refine lv_iconst (v := nI 1) hx hb dX7_unit_179 (by decide) ?_
                      refine n_icmp_ne (tgt := 187) hx hb dX7_unit_180 (by decide) (Nat.lt_of_le_of_lt Nat.and_le_right (by decide)) (by decide) (fun c_180 => ?_) (fun c_180 => ?_)
                      ·
                        refine lv_iconst (v := nI 0) hx hb dX7_unit_187 (by decide) ?_
                        obtain ⟨e1, e2, e3, e4⟩ := q4 hres (pU_l c_4 hsg (by omega))
                        subst e1
                        subst e2
                        subst e3
                        subst e4
                        refine w_top (v' := .int (b2i (ltB μ vc))) (bz_f (show (ltB μ vc) = false from (by first | rfl | exact ltB_1 (by omega) c_180 | exact ltB_0 c_159 c_180))) ?_
                        exact hE _ _ _ _ _ _ (kr_z dX7_unit_188) hS (by decide) (by decide) hM
                      ·
                        refine lv_iconst (v := nI 1) hx hb dX7_unit_183 (by decide) ?_
                        refine lv_goto (tgt := 188) hx hb dX7_unit_184 (by decide) ?_
                        obtain ⟨e1, e2, e3, e4⟩ := q4 hres (pU_l c_4 hsg (by omega))
                        subst e1
                        subst e2
                        subst e3
                        subst e4
                        refine w_top (v' := .int (b2i (ltB μ vc))) (bz_t (show (ltB μ vc) = true from (by first | rfl | exact ltB_1 (by omega) c_180 | exact ltB_0 c_159 c_180))) ?_
                        exact hE _ _ _ _ _ _ (kr_z dX7_unit_188) hS (by decide) (by decide) hM
                ·
                  refine lv_aload_n hx hb dX7_unit_141 rfl (lv_at hl 1 rfl) ?_
                  refine ctV (rest := []) S hK (c_X7_breaks l G om μ vp vd vw) cw_X7_172 rfl ⟨by simp only [rL]; omega, by simp only [rL]; omega⟩ ⟨Nat.le_of_ble_eq_true rfl, Nat.le_of_ble_eq_true rfl⟩ (bk.recv hK hM rfl rfl) hl.1 rfl (Nat.le_of_ble_eq_true rfl) dX7_unit_142 hM hS (fun _ h => h) (fun H locs hPost hz hk hS => ?_)
                  have hM := hPost
                  obtain ⟨e1, e2, e3, e4⟩ := q4 hres (by first | exact pU_e c_4 hsg | exact pU_x c_4 hsg (by omega) (by omega) (by omega) (by omega) (by omega))
                  subst e1
                  subst e2
                  subst e3
                  subst e4
                  exact hE _ _ _ _ _ _ (kr_z dX7_unit_145) hS (by decide) (by decide) hM
        ·
          subst c_23
          refine lv_aload_n hx hb dX7_unit_26 rfl (lv_at hl 1 rfl) ?_
          refine kg (C := RX7) (T := TX7) (N := 32) (ci := 5) (k := 26) (v := .int (nI vd)) S hK rfl inX7 (by decide) q_756 dX7_unit_27 hM rfl rfl ?_
          refine lv_iconst (v := nI 5) hx hb dX7_unit_30 (by decide) ?_
          refine n_icmp_ne (tgt := 39) hx hb dX7_unit_31 (by decide) (by omega) (by decide) (fun c_31 => ?_) (fun c_31 => ?_)
          ·
            refine lv_aload_n hx hb dX7_unit_39 rfl (lv_at hl 1 rfl) ?_
            refine lv_dup hx hb dX7_unit_40 rfl ?_
            refine kg (C := RX7) (T := TX7) (N := 32) (ci := 5) (k := 23) (v := .int (nI vp)) S hK rfl inX7 (by decide) q_753 dX7_unit_41 hM rfl rfl ?_
            refine lv_iconst (v := nI 1) hx hb dX7_unit_44 (by decide) ?_
            refine n_iadd hx hb dX7_unit_45 ?_
            refine kp (C := RX7) (T := TX7) (N := 32) (ci := 5) (k := 23) (ty := .int) tyX7 tyX7_ok nmX7 S hK rfl inX7 (by decide) q_753 rfl dX7_unit_46 rfl rfl rfl hM rfl (Nat.le_of_ble_eq_true rfl) (L1 := mL G om (pq μ (vp + 1) vd vw)) rfl hS (by first | exact ⟨by omega, by omega⟩ | omega) (fun H locs hM hS hz hk => ?_)
            refine lv_aload_n hx hb dX7_unit_49 rfl (lv_at hl 1 rfl) ?_
            refine lv_dup hx hb dX7_unit_50 rfl ?_
            refine kg (C := RX7) (T := TX7) (N := 32) (ci := 5) (k := 26) (v := .int (nI vd)) S hK rfl inX7 (by decide) q_756 dX7_unit_51 hM rfl rfl ?_
            refine lv_iconst (v := nI 1) hx hb dX7_unit_54 (by decide) ?_
            refine n_iadd hx hb dX7_unit_55 ?_
            refine kp (C := RX7) (T := TX7) (N := 32) (ci := 5) (k := 26) (ty := .int) tyX7 tyX7_ok nmX7 S hK rfl inX7 (by decide) q_756 rfl dX7_unit_56 rfl rfl rfl hM rfl (Nat.le_of_ble_eq_true rfl) (L1 := mL G om (pq μ (vp + 1) (vd + 1) vw)) rfl hS (by first | exact ⟨by omega, by omega⟩ | omega) (fun H locs hM hS hz hk => ?_)
            refine lv_iload_n hx hb dX7_unit_59 rfl (lv_at hl 0 rfl) ?_
            refine lv_bipush (v := nI 33) hx hb dX7_unit_60 (by decide) ?_
            refine n_icmp_ne (tgt := 80) hx hb dX7_unit_62 (by decide) (by decide) (by decide) (fun c_62 => ?_) (fun c_62 => ?_)
            ·
              refine lv_aload_n hx hb dX7_unit_80 rfl (lv_at hl 1 rfl) ?_
              rcases hq4 : pP μ k 0 false (vp + 1) (vd + 1) vw with ⟨b4, p4, d4, w4⟩
              obtain ⟨m41, m42, m43, m44, m45⟩ := pP_k hq4 (by omega) (by omega) (by omega)
              refine ctV (rest := []) S hK (hKO k (by omega) (vp + 1) (vd + 1) vw b4 p4 d4 w4 (by first | assumption | omega | decide) (by first | assumption | omega | decide) (by first | assumption | omega | decide) (by first | assumption | omega | decide) (by first | assumption | omega | decide) (by first | assumption | omega | decide)) cw_X7_175 rfl ⟨by simp only [rL]; omega, by simp only [rL]; omega⟩ ⟨Nat.le_of_ble_eq_true rfl, Nat.le_of_ble_eq_true rfl⟩ (bk.recv hK hM rfl rfl) hl.1 rfl (Nat.le_of_ble_eq_true rfl) dX7_unit_81 hM hS (fun _ h => h) (fun H locs hPost hz hk hS => ?_)
              have hM := hPost
              refine lv_istore_n (lv' := [(2, .int (b2i b4)), (1, .int (nI 40)), (0, .ref om)]) hx hb dX7_unit_84 rfl hl (by decide) rfl (fun ls hl => ?_)
              refine lv_iload_n hx hb dX7_unit_85 rfl (lv_at hl 1 rfl) ?_
              refine lv_bipush (v := nI 40) hx hb dX7_unit_86 (by decide) ?_
              refine n_icmp_ne (tgt := 105) hx hb dX7_unit_88 (by decide) (by decide) (by decide) (fun c_88 => ?_) (fun c_88 => ?_)
              ·
                exact absurd c_88 (by decide)
              ·
                refine lv_aload_n hx hb dX7_unit_91 rfl (lv_at hl 2 rfl) ?_
                refine lv_bipush (v := nI 41) hx hb dX7_unit_92 (by decide) ?_
                rcases htk : tkB μ p4 w4 41 with _ | _
                ·
                  refine crV (rest := []) S hK (c_X7_takes_f l G om μ p4 d4 w4 41 (by first | assumption | omega | decide) (by first | assumption | omega | decide) (by first | assumption | omega | decide) (by first | assumption | omega | decide) (by first | assumption | omega | decide)) cw_X7_163 rfl ⟨by simp only [rL]; omega, by simp only [rL]; omega⟩ ⟨Nat.le_of_ble_eq_true rfl, Nat.le_of_ble_eq_true rfl⟩ (bk.recv hK hM rfl rfl) hl.1 rfl (Nat.le_of_ble_eq_true rfl) dX7_unit_94 hM ?_
                  refine z_if_ne (tgt := 105) hx hb dX7_unit_97 (by decide) (fun c_97 => ?_) (fun c_97 => ?_)
                  ·
                    exact absurd c_97 (by decide)
                  ·
                    refine lv_aload_n hx hb dX7_unit_100 rfl (lv_at hl 2 rfl) ?_
                    refine ctV (rest := []) S hK (c_X7_breaks l G om μ p4 d4 w4) cw_X7_172 rfl ⟨by simp only [rL]; omega, by simp only [rL]; omega⟩ ⟨Nat.le_of_ble_eq_true rfl, Nat.le_of_ble_eq_true rfl⟩ (bk.recv hK hM rfl rfl) hl.1 rfl (Nat.le_of_ble_eq_true rfl) dX7_unit_101 hM hS (fun _ h => h) (fun H locs hPost hz hk hS => ?_)
                    have hM := hPost
                    obtain ⟨e1, e2, e3, e4⟩ := q4 hres (pU_c c_4 hsg c_31 hq4 htk)
                    subst e1
                    subst e2
                    subst e3
                    subst e4
                    exact hE _ _ _ _ _ _ (kr_z dX7_unit_104) hS (by decide) (by decide) hM
                ·
                  obtain ⟨htl, htw⟩ := tkB_lt htk
                  refine ctV (rest := []) S hK (c_X7_takes_t l G om μ p4 d4 w4 41 (by first | assumption | omega | decide) (by first | assumption | omega | decide) (by first | assumption | omega | decide) (by first | assumption | omega | decide) (by first | assumption | omega | decide)) cw_X7_163 rfl ⟨by simp only [rL]; omega, by simp only [rL]; omega⟩ ⟨Nat.le_of_ble_eq_true rfl, Nat.le_of_ble_eq_true rfl⟩ (bk.recv hK hM rfl rfl) hl.1 rfl (Nat.le_of_ble_eq_true rfl) dX7_unit_94 hM hS (fun _ h => h) (fun H locs hPost hz hk hS => ?_)
                  have hM := hPost
                  refine z_if_ne (tgt := 105) hx hb dX7_unit_97 (by decide) (fun c_97 => ?_) (fun c_97 => ?_)
                  ·
                    refine lv_aload_n hx hb dX7_unit_105 rfl (lv_at hl 2 rfl) ?_
                    refine lv_dup hx hb dX7_unit_106 rfl ?_
                    refine kg (C := RX7) (T := TX7) (N := 32) (ci := 5) (k := 26) (v := .int (nI d4)) S hK rfl inX7 (by decide) q_756 dX7_unit_107 hM rfl rfl ?_
                    refine lv_iconst (v := nI 1) hx hb dX7_unit_110 (by decide) ?_
                    refine n_isub hx hb dX7_unit_111 (by omega) ?_
                    refine kp (C := RX7) (T := TX7) (N := 32) (ci := 5) (k := 26) (ty := .int) tyX7 tyX7_ok nmX7 S hK rfl inX7 (by decide) q_756 rfl dX7_unit_112 rfl rfl rfl hM rfl (Nat.le_of_ble_eq_true rfl) (L1 := mL G om (pq μ (p4 + 1) (d4 - 1) w4)) rfl hS (by first | exact ⟨by omega, by omega⟩ | omega) (fun H locs hM hS hz hk => ?_)
                    refine lv_iload_n hx hb dX7_unit_115 rfl (lv_at hl 0 rfl) ?_
                    obtain ⟨e1, e2, e3, e4⟩ := q4 hres (pU_b c_4 hsg c_31 hq4 htk)
                    subst e1
                    subst e2
                    subst e3
                    subst e4
                    exact hE _ _ _ _ _ _ (kr_z dX7_unit_116) hS (by decide) (by decide) hM
                  ·
                    exact absurd c_97 (by decide)
            ·
              exact absurd c_62 (by decide)
          ·
            refine lv_aload_n hx hb dX7_unit_34 rfl (lv_at hl 1 rfl) ?_
            refine ctV (rest := []) S hK (c_X7_breaks l G om μ vp vd vw) cw_X7_172 rfl ⟨by simp only [rL]; omega, by simp only [rL]; omega⟩ ⟨Nat.le_of_ble_eq_true rfl, Nat.le_of_ble_eq_true rfl⟩ (bk.recv hK hM rfl rfl) hl.1 rfl (Nat.le_of_ble_eq_true rfl) dX7_unit_35 hM hS (fun _ h => h) (fun H locs hPost hz hk hS => ?_)
            have hM := hPost
            obtain ⟨e1, e2, e3, e4⟩ := q4 hres (pU_5 c_4 hsg (by omega) c_31)
            subst e1
            subst e2
            subst e3
            subst e4
            exact hE _ _ _ _ _ _ (kr_z dX7_unit_38) hS (by decide) (by decide) hM
  ·
    refine lv_iconst (v := nI 0) hx hb dX7_unit_7 (by decide) ?_
    obtain ⟨e1, e2, e3, e4⟩ := q4 hres (pU_w c_4)
    subst e1
    subst e2
    subst e3
    subst e4
    refine w_top (v' := .int (b2i false)) (bz_f (show false = false from rfl)) ?_
    exact hE _ _ _ _ _ _ (kr_z dX7_unit_8) hS (by decide) (by decide) hM

set_option maxHeartbeats 1000000 in
set_option maxRecDepth 100000 in
theorem s_X7_and (l : Launch) (G : Gt) (om : Nat) (μ : Sx) (vp : Nat) (vd : Nat) (vw : Nat) (vb : Bool) (p2 : Nat) (d2 : Nat) (w2 : Nat) (n : Nat) (hPW : PW μ) (hp1 : vp ≤ μ.1 24) (hd1 : vd ≤ 5) (hw1 : vw < 2) (hfu : 4 * (μ.1 24 - vp) + 2 ≤ n) (hres : pP μ n 1 false vp vd vw = (vb, p2, d2, w2)) (hKU : ∀ q, q < n → KU l G om μ q) : Ct l G yX7_and cX7_and 3 ((some .boolean)) (3 * (5 - vd) + 3) 0 0 [.ref om] (fun H => bk G om (mL G om (pq μ vp vd vw)) H) (some (.int (b2i vb))) (fun H => bk G om (mL G om (pq μ p2 d2 w2)) H) (fun q => om ≤ q ∧ q < om + 20) := by
  refine ct_entry [(0, .ref om)] (by decide) (Nat.le_of_ble_eq_true rfl) rfl ?_
  intro zp ze zs zm za zb zt zc Q S hK hPre hin hE ls hl
  have hx := S.1
  have hb := S.2.1
  have hM := hPre
  have hS : va_S (fun q => om ≤ q ∧ q < om + 20) zs.heap zs.heap [] := va_S.rf
  obtain ⟨k, rfl⟩ : ∃ k, n = k + 1 := ⟨n - 1, by omega⟩
  refine lv_aload_n hx hb dX7_and_0 rfl (lv_at hl 0 rfl) ?_
  rcases hq3 : pP μ k 2 false vp vd vw with ⟨b3, p3, d3, w3⟩
  obtain ⟨m31, m32, m33, m34, m35⟩ := pP_k hq3 (by omega) (by omega) (by omega)
  refine ctV (rest := []) S hK (hKU k (by omega) vp vd vw b3 p3 d3 w3 (by first | assumption | omega | decide) (by first | assumption | omega | decide) (by first | assumption | omega | decide) (by first | assumption | omega | decide) (by first | assumption | omega | decide) (by first | assumption | omega | decide)) cw_X7_166 rfl ⟨by simp only [rL]; omega, by simp only [rL]; omega⟩ ⟨Nat.le_of_ble_eq_true rfl, Nat.le_of_ble_eq_true rfl⟩ (bk.recv hK hM rfl rfl) hl.1 rfl (Nat.le_of_ble_eq_true rfl) dX7_and_1 hM hS (fun _ h => h) (fun H locs hPost hz hk hS => ?_)
  have hM := hPost
  refine lv_istore_n (lv' := [(1, .int (b2i b3)), (0, .ref om)]) hx hb dX7_and_4 rfl hl (by decide) rfl (fun ls hl => ?_)
  have L5 : ∀ (fu : Nat), ∀ (vv : Bool) (vm : Nat) (vx : Nat) (vy : Nat) (vz : Nat), (vx ≤ μ.1 24) → (vy ≤ 5) → (vz < 2) → (vd ≤ vy) → (4 * (μ.1 24 - vx) + 1 ≤ vm) → (vm ≤ k) → (pP μ vm 4 vv vx vy vz = (vb, p2, d2, w2)) → vm < fu → ∀ (H : Heap) (locs : List Loc), bk G om (mL G om (pq μ vx vy vz)) H → va_S (fun q => om ≤ q ∧ q < om + 20) zs.heap H locs → ∀ ls : Array Slot, lv_has ls 3 [(0, .ref om), (1, .int (b2i vv))] → W zp l ze (rL (3 * (5 - vd) + 3) 0 0) zs zm za zb zt zc H locs 0 0 Q (F0 zm 5 ls []) := by
    intro fu
    induction fu with
    | zero =>
      intro vv vm vx vy vz hA1 hA2 hA3 hA4 hA5 hA6 hA7 hmu H locs hM hS ls hl
      exact absurd hmu (Nat.not_lt_zero _)
    | succ fu ih5 =>
      intro vv vm vx vy vz hA1 hA2 hA3 hA4 hA5 hA6 hA7 hmu H locs hM hS ls hl
      obtain ⟨vm, rfl⟩ : ∃ q, vm = q + 1 := ⟨vm - 1, by omega⟩
      refine lv_aload_n hx hb dX7_and_5 rfl (lv_at hl 0 rfl) ?_
      refine lv_bipush (v := nI 38) hx hb dX7_and_6 (by decide) ?_
      rcases htk : tkB μ vx vz 38 with _ | _
      ·
        refine crV (rest := []) S hK (c_X7_takes_f l G om μ vx vy vz 38 (by first | assumption | omega | decide) (by first | assumption | omega | decide) (by first | assumption | omega | decide) (by first | assumption | omega | decide) (by first | assumption | omega | decide)) cw_X7_163 rfl ⟨by simp only [rL]; omega, by simp only [rL]; omega⟩ ⟨Nat.le_of_ble_eq_true rfl, Nat.le_of_ble_eq_true rfl⟩ (bk.recv hK hM rfl rfl) hl.1 rfl (Nat.le_of_ble_eq_true rfl) dX7_and_8 hM ?_
        refine z_if_eq (tgt := 36) hx hb dX7_and_11 (by decide) (fun c_11 => ?_) (fun c_11 => ?_)
        ·
          refine lv_iload_n hx hb dX7_and_36 rfl (lv_at hl 1 rfl) ?_
          obtain ⟨e1, e2, e3, e4⟩ := q4 hA7 (p4_f htk)
          subst e1
          subst e2
          subst e3
          subst e4
          exact hE _ _ _ _ _ _ (kr_z dX7_and_37) hS (by decide) (by decide) hM
        ·
          exact absurd c_11 (by decide)
      ·
        obtain ⟨htl, htw⟩ := tkB_lt htk
        refine ctV (rest := []) S hK (c_X7_takes_t l G om μ vx vy vz 38 (by first | assumption | omega | decide) (by first | assumption | omega | decide) (by first | assumption | omega | decide) (by first | assumption | omega | decide) (by first | assumption | omega | decide)) cw_X7_163 rfl ⟨by simp only [rL]; omega, by simp only [rL]; omega⟩ ⟨Nat.le_of_ble_eq_true rfl, Nat.le_of_ble_eq_true rfl⟩ (bk.recv hK hM rfl rfl) hl.1 rfl (Nat.le_of_ble_eq_true rfl) dX7_and_8 hM hS (fun _ h => h) (fun H locs hPost hz hk hS => ?_)
        have hM := hPost
        refine z_if_eq (tgt := 36) hx hb dX7_and_11 (by decide) (fun c_11 => ?_) (fun c_11 => ?_)
        ·
          exact absurd c_11 (by decide)
        ·
          refine lv_aload_n hx hb dX7_and_14 rfl (lv_at hl 0 rfl) ?_
          rcases hq4 : pP μ vm 2 false (vx + 1) vy vz with ⟨b4, p4, d4, w4⟩
          obtain ⟨m41, m42, m43, m44, m45⟩ := pP_k hq4 (by omega) (by omega) (by omega)
          refine ctV (rest := []) S hK (hKU vm (by omega) (vx + 1) vy vz b4 p4 d4 w4 (by first | assumption | omega | decide) (by first | assumption | omega | decide) (by first | assumption | omega | decide) (by first | assumption | omega | decide) (by first | assumption | omega | decide) (by first | assumption | omega | decide)) cw_X7_166 rfl ⟨by simp only [rL]; omega, by simp only [rL]; omega⟩ ⟨Nat.le_of_ble_eq_true rfl, Nat.le_of_ble_eq_true rfl⟩ (bk.recv hK hM rfl rfl) hl.1 rfl (Nat.le_of_ble_eq_true rfl) dX7_and_15 hM hS (fun _ h => h) (fun H locs hPost hz hk hS => ?_)
          have hM := hPost
          refine lv_istore_n (lv' := [(2, .int (b2i b4)), (0, .ref om), (1, .int (b2i vv))]) hx hb dX7_and_18 rfl hl (by decide) rfl (fun ls hl => ?_)
          refine lv_iload_n hx hb dX7_and_19 rfl (lv_at hl 2 rfl) ?_
          refine z_if_eq (tgt := 31) hx hb dX7_and_20 (by decide) (fun c_20 => ?_) (fun c_20 => ?_)
          ·
            refine lv_iconst (v := nI 0) hx hb dX7_and_31 (by decide) ?_
            refine lv_istore_n (lv' := [(1, .int (nI 0)), (2, .int (b2i b4)), (0, .ref om)]) hx hb dX7_and_32 rfl hl (by decide) rfl (fun ls hl => ?_)
            refine lv_goto (tgt := 5) hx hb dX7_and_33 (by decide) ?_
            replace hl := lv_eq 0 hl rfl (v2 := .int (b2i (vv && b4))) (show (.int (nI 0) : Value) = .int (b2i (vv && b4)) from (by first | exact bz_t (by rw [c_20, c_24]; rfl) | exact bz_f (by rw [c_20, c_24]; rfl) | exact bz_t (by rw [c_20]; rfl) | exact bz_f (by rw [c_20]; rfl)))
            exact ih5 (vv && b4) vm p4 d4 w4 (by first | assumption | omega) (by first | assumption | omega) (by first | assumption | omega) (by first | assumption | omega) (by first | assumption | omega) (by first | assumption | omega) (p4_t htk hq4 hA7) (by omega) _ _ hM hS ls (lv_sub hl [2, 0] rfl)
          ·
            refine lv_iload_n hx hb dX7_and_23 rfl (lv_at hl 0 rfl) ?_
            refine z_if_eq (tgt := 31) hx hb dX7_and_24 (by decide) (fun c_24 => ?_) (fun c_24 => ?_)
            ·
              refine lv_iconst (v := nI 0) hx hb dX7_and_31 (by decide) ?_
              refine lv_istore_n (lv' := [(1, .int (nI 0)), (2, .int (b2i b4)), (0, .ref om)]) hx hb dX7_and_32 rfl hl (by decide) rfl (fun ls hl => ?_)
              refine lv_goto (tgt := 5) hx hb dX7_and_33 (by decide) ?_
              replace hl := lv_eq 0 hl rfl (v2 := .int (b2i (vv && b4))) (show (.int (nI 0) : Value) = .int (b2i (vv && b4)) from (by first | exact bz_t (by rw [c_20, c_24]; rfl) | exact bz_f (by rw [c_20, c_24]; rfl) | exact bz_t (by rw [c_20]; rfl) | exact bz_f (by rw [c_20]; rfl)))
              exact ih5 (vv && b4) vm p4 d4 w4 (by first | assumption | omega) (by first | assumption | omega) (by first | assumption | omega) (by first | assumption | omega) (by first | assumption | omega) (by first | assumption | omega) (p4_t htk hq4 hA7) (by omega) _ _ hM hS ls (lv_sub hl [2, 0] rfl)
            ·
              refine lv_iconst (v := nI 1) hx hb dX7_and_27 (by decide) ?_
              refine lv_goto (tgt := 32) hx hb dX7_and_28 (by decide) ?_
              refine lv_istore_n (lv' := [(1, .int (nI 1)), (2, .int (b2i b4)), (0, .ref om)]) hx hb dX7_and_32 rfl hl (by decide) rfl (fun ls hl => ?_)
              refine lv_goto (tgt := 5) hx hb dX7_and_33 (by decide) ?_
              replace hl := lv_eq 0 hl rfl (v2 := .int (b2i (vv && b4))) (show (.int (nI 1) : Value) = .int (b2i (vv && b4)) from (by first | exact bz_t (by rw [c_20, c_24]; rfl) | exact bz_f (by rw [c_20, c_24]; rfl) | exact bz_t (by rw [c_20]; rfl) | exact bz_f (by rw [c_20]; rfl)))
              exact ih5 (vv && b4) vm p4 d4 w4 (by first | assumption | omega) (by first | assumption | omega) (by first | assumption | omega) (by first | assumption | omega) (by first | assumption | omega) (by first | assumption | omega) (p4_t htk hq4 hA7) (by omega) _ _ hM hS ls (lv_sub hl [2, 0] rfl)
  exact L5 (k + 1) b3 k p3 d3 w3 (by first | assumption | omega) (by first | assumption | omega) (by first | assumption | omega) (by first | assumption | omega) (by first | assumption | omega) (by first | assumption | omega) (pA_e hq3 hres) (Nat.lt_succ_self _) _ _ hM hS ls (lv_sub hl [1, 0] rfl)

set_option maxHeartbeats 1000000 in
set_option maxRecDepth 100000 in
theorem s_X7_or (l : Launch) (G : Gt) (om : Nat) (μ : Sx) (vp : Nat) (vd : Nat) (vw : Nat) (vb : Bool) (p2 : Nat) (d2 : Nat) (w2 : Nat) (n : Nat) (hPW : PW μ) (hp1 : vp ≤ μ.1 24) (hd1 : vd ≤ 5) (hw1 : vw < 2) (hfu : 4 * (μ.1 24 - vp) + 3 ≤ n) (hres : pP μ n 0 false vp vd vw = (vb, p2, d2, w2)) (hKA : ∀ q, q < n → KA l G om μ q) : Ct l G yX7_or cX7_or 3 ((some .boolean)) (3 * (5 - vd) + 4) 0 0 [.ref om] (fun H => bk G om (mL G om (pq μ vp vd vw)) H) (some (.int (b2i vb))) (fun H => bk G om (mL G om (pq μ p2 d2 w2)) H) (fun q => om ≤ q ∧ q < om + 20) := by
  refine ct_entry [(0, .ref om)] (by decide) (Nat.le_of_ble_eq_true rfl) rfl ?_
  intro zp ze zs zm za zb zt zc Q S hK hPre hin hE ls hl
  have hx := S.1
  have hb := S.2.1
  have hM := hPre
  have hS : va_S (fun q => om ≤ q ∧ q < om + 20) zs.heap zs.heap [] := va_S.rf
  obtain ⟨k, rfl⟩ : ∃ k, n = k + 1 := ⟨n - 1, by omega⟩
  refine lv_aload_n hx hb dX7_or_0 rfl (lv_at hl 0 rfl) ?_
  rcases hq3 : pP μ k 1 false vp vd vw with ⟨b3, p3, d3, w3⟩
  obtain ⟨m31, m32, m33, m34, m35⟩ := pP_k hq3 (by omega) (by omega) (by omega)
  refine ctV (rest := []) S hK (hKA k (by omega) vp vd vw b3 p3 d3 w3 (by first | assumption | omega | decide) (by first | assumption | omega | decide) (by first | assumption | omega | decide) (by first | assumption | omega | decide) (by first | assumption | omega | decide) (by first | assumption | omega | decide)) cw_X7_159 rfl ⟨by simp only [rL]; omega, by simp only [rL]; omega⟩ ⟨Nat.le_of_ble_eq_true rfl, Nat.le_of_ble_eq_true rfl⟩ (bk.recv hK hM rfl rfl) hl.1 rfl (Nat.le_of_ble_eq_true rfl) dX7_or_1 hM hS (fun _ h => h) (fun H locs hPost hz hk hS => ?_)
  have hM := hPost
  refine lv_istore_n (lv' := [(1, .int (b2i b3)), (0, .ref om)]) hx hb dX7_or_4 rfl hl (by decide) rfl (fun ls hl => ?_)
  have L5 : ∀ (fu : Nat), ∀ (vv : Bool) (vm : Nat) (vx : Nat) (vy : Nat) (vz : Nat), (vx ≤ μ.1 24) → (vy ≤ 5) → (vz < 2) → (vd ≤ vy) → (4 * (μ.1 24 - vx) + 2 ≤ vm) → (vm ≤ k) → (pP μ vm 3 vv vx vy vz = (vb, p2, d2, w2)) → vm < fu → ∀ (H : Heap) (locs : List Loc), bk G om (mL G om (pq μ vx vy vz)) H → va_S (fun q => om ≤ q ∧ q < om + 20) zs.heap H locs → ∀ ls : Array Slot, lv_has ls 3 [(0, .ref om), (1, .int (b2i vv))] → W zp l ze (rL (3 * (5 - vd) + 4) 0 0) zs zm za zb zt zc H locs 0 0 Q (F0 zm 5 ls []) := by
    intro fu
    induction fu with
    | zero =>
      intro vv vm vx vy vz hA1 hA2 hA3 hA4 hA5 hA6 hA7 hmu H locs hM hS ls hl
      exact absurd hmu (Nat.not_lt_zero _)
    | succ fu ih5 =>
      intro vv vm vx vy vz hA1 hA2 hA3 hA4 hA5 hA6 hA7 hmu H locs hM hS ls hl
      obtain ⟨vm, rfl⟩ : ∃ q, vm = q + 1 := ⟨vm - 1, by omega⟩
      refine lv_aload_n hx hb dX7_or_5 rfl (lv_at hl 0 rfl) ?_
      refine lv_bipush (v := nI 124) hx hb dX7_or_6 (by decide) ?_
      rcases htk : tkB μ vx vz 124 with _ | _
      ·
        refine crV (rest := []) S hK (c_X7_takes_f l G om μ vx vy vz 124 (by first | assumption | omega | decide) (by first | assumption | omega | decide) (by first | assumption | omega | decide) (by first | assumption | omega | decide) (by first | assumption | omega | decide)) cw_X7_163 rfl ⟨by simp only [rL]; omega, by simp only [rL]; omega⟩ ⟨Nat.le_of_ble_eq_true rfl, Nat.le_of_ble_eq_true rfl⟩ (bk.recv hK hM rfl rfl) hl.1 rfl (Nat.le_of_ble_eq_true rfl) dX7_or_8 hM ?_
        refine z_if_eq (tgt := 36) hx hb dX7_or_11 (by decide) (fun c_11 => ?_) (fun c_11 => ?_)
        ·
          refine lv_iload_n hx hb dX7_or_36 rfl (lv_at hl 1 rfl) ?_
          obtain ⟨e1, e2, e3, e4⟩ := q4 hA7 (p3_f htk)
          subst e1
          subst e2
          subst e3
          subst e4
          exact hE _ _ _ _ _ _ (kr_z dX7_or_37) hS (by decide) (by decide) hM
        ·
          exact absurd c_11 (by decide)
      ·
        obtain ⟨htl, htw⟩ := tkB_lt htk
        refine ctV (rest := []) S hK (c_X7_takes_t l G om μ vx vy vz 124 (by first | assumption | omega | decide) (by first | assumption | omega | decide) (by first | assumption | omega | decide) (by first | assumption | omega | decide) (by first | assumption | omega | decide)) cw_X7_163 rfl ⟨by simp only [rL]; omega, by simp only [rL]; omega⟩ ⟨Nat.le_of_ble_eq_true rfl, Nat.le_of_ble_eq_true rfl⟩ (bk.recv hK hM rfl rfl) hl.1 rfl (Nat.le_of_ble_eq_true rfl) dX7_or_8 hM hS (fun _ h => h) (fun H locs hPost hz hk hS => ?_)
        have hM := hPost
        refine z_if_eq (tgt := 36) hx hb dX7_or_11 (by decide) (fun c_11 => ?_) (fun c_11 => ?_)
        ·
          exact absurd c_11 (by decide)
        ·
          refine lv_aload_n hx hb dX7_or_14 rfl (lv_at hl 0 rfl) ?_
          rcases hq4 : pP μ vm 1 false (vx + 1) vy vz with ⟨b4, p4, d4, w4⟩
          obtain ⟨m41, m42, m43, m44, m45⟩ := pP_k hq4 (by omega) (by omega) (by omega)
          refine ctV (rest := []) S hK (hKA vm (by omega) (vx + 1) vy vz b4 p4 d4 w4 (by first | assumption | omega | decide) (by first | assumption | omega | decide) (by first | assumption | omega | decide) (by first | assumption | omega | decide) (by first | assumption | omega | decide) (by first | assumption | omega | decide)) cw_X7_159 rfl ⟨by simp only [rL]; omega, by simp only [rL]; omega⟩ ⟨Nat.le_of_ble_eq_true rfl, Nat.le_of_ble_eq_true rfl⟩ (bk.recv hK hM rfl rfl) hl.1 rfl (Nat.le_of_ble_eq_true rfl) dX7_or_15 hM hS (fun _ h => h) (fun H locs hPost hz hk hS => ?_)
          have hM := hPost
          refine lv_istore_n (lv' := [(2, .int (b2i b4)), (0, .ref om), (1, .int (b2i vv))]) hx hb dX7_or_18 rfl hl (by decide) rfl (fun ls hl => ?_)
          refine lv_iload_n hx hb dX7_or_19 rfl (lv_at hl 2 rfl) ?_
          refine z_if_ne (tgt := 27) hx hb dX7_or_20 (by decide) (fun c_20 => ?_) (fun c_20 => ?_)
          ·
            refine lv_iconst (v := nI 1) hx hb dX7_or_27 (by decide) ?_
            refine lv_goto (tgt := 32) hx hb dX7_or_28 (by decide) ?_
            refine lv_istore_n (lv' := [(1, .int (nI 1)), (2, .int (b2i b4)), (0, .ref om)]) hx hb dX7_or_32 rfl hl (by decide) rfl (fun ls hl => ?_)
            refine lv_goto (tgt := 5) hx hb dX7_or_33 (by decide) ?_
            replace hl := lv_eq 0 hl rfl (v2 := .int (b2i (vv || b4))) (show (.int (nI 1) : Value) = .int (b2i (vv || b4)) from (by first | exact bz_t (by rw [c_20, c_24]; rfl) | exact bz_f (by rw [c_20, c_24]; rfl) | exact bz_t (by rw [c_20]; rfl) | exact bz_f (by rw [c_20]; rfl)))
            exact ih5 (vv || b4) vm p4 d4 w4 (by first | assumption | omega) (by first | assumption | omega) (by first | assumption | omega) (by first | assumption | omega) (by first | assumption | omega) (by first | assumption | omega) (p3_t htk hq4 hA7) (by omega) _ _ hM hS ls (lv_sub hl [2, 0] rfl)
          ·
            refine lv_iload_n hx hb dX7_or_23 rfl (lv_at hl 0 rfl) ?_
            refine z_if_eq (tgt := 31) hx hb dX7_or_24 (by decide) (fun c_24 => ?_) (fun c_24 => ?_)
            ·
              refine lv_iconst (v := nI 0) hx hb dX7_or_31 (by decide) ?_
              refine lv_istore_n (lv' := [(1, .int (nI 0)), (2, .int (b2i b4)), (0, .ref om)]) hx hb dX7_or_32 rfl hl (by decide) rfl (fun ls hl => ?_)
              refine lv_goto (tgt := 5) hx hb dX7_or_33 (by decide) ?_
              replace hl := lv_eq 0 hl rfl (v2 := .int (b2i (vv || b4))) (show (.int (nI 0) : Value) = .int (b2i (vv || b4)) from (by first | exact bz_t (by rw [c_20, c_24]; rfl) | exact bz_f (by rw [c_20, c_24]; rfl) | exact bz_t (by rw [c_20]; rfl) | exact bz_f (by rw [c_20]; rfl)))
              exact ih5 (vv || b4) vm p4 d4 w4 (by first | assumption | omega) (by first | assumption | omega) (by first | assumption | omega) (by first | assumption | omega) (by first | assumption | omega) (by first | assumption | omega) (p3_t htk hq4 hA7) (by omega) _ _ hM hS ls (lv_sub hl [2, 0] rfl)
            ·
              refine lv_iconst (v := nI 1) hx hb dX7_or_27 (by decide) ?_
              refine lv_goto (tgt := 32) hx hb dX7_or_28 (by decide) ?_
              refine lv_istore_n (lv' := [(1, .int (nI 1)), (2, .int (b2i b4)), (0, .ref om)]) hx hb dX7_or_32 rfl hl (by decide) rfl (fun ls hl => ?_)
              refine lv_goto (tgt := 5) hx hb dX7_or_33 (by decide) ?_
              replace hl := lv_eq 0 hl rfl (v2 := .int (b2i (vv || b4))) (show (.int (nI 1) : Value) = .int (b2i (vv || b4)) from (by first | exact bz_t (by rw [c_20, c_24]; rfl) | exact bz_f (by rw [c_20, c_24]; rfl) | exact bz_t (by rw [c_20]; rfl) | exact bz_f (by rw [c_20]; rfl)))
              exact ih5 (vv || b4) vm p4 d4 w4 (by first | assumption | omega) (by first | assumption | omega) (by first | assumption | omega) (by first | assumption | omega) (by first | assumption | omega) (by first | assumption | omega) (p3_t htk hq4 hA7) (by omega) _ _ hM hS ls (lv_sub hl [2, 0] rfl)
  exact L5 (k + 1) b3 k p3 d3 w3 (by first | assumption | omega) (by first | assumption | omega) (by first | assumption | omega) (by first | assumption | omega) (by first | assumption | omega) (by first | assumption | omega) (pO_e hq3 hres) (Nat.lt_succ_self _) _ _ hM hS ls (lv_sub hl [1, 0] rfl)

theorem K_all (l : Launch) (G : Gt) (om : Nat) (μ : Sx) : ∀ n, (∀ q, q < n → KU l G om μ q) ∧ (∀ q, q < n → KA l G om μ q) ∧ ∀ q, q < n → KO l G om μ q
  | 0 => ⟨fun q h => absurd h (Nat.not_lt_zero q), fun q h => absurd h (Nat.not_lt_zero q), fun q h => absurd h (Nat.not_lt_zero q)⟩
  | n + 1 => by
    obtain ⟨h1, h2, h3⟩ := K_all l G om μ n
    refine ⟨fun q hq => ?_, fun q hq => ?_, fun q hq => ?_⟩
    · by_cases e : q = n
      · subst e
        exact fun vp vd vw vb p2 d2 w2 hPW hp1 hd1 hw1 hfu hres => s_X7_unit l G om μ vp vd vw vb p2 d2 w2 q hPW hp1 hd1 hw1 hfu hres h1 h3
      · exact h1 q (by omega)
    · by_cases e : q = n
      · subst e
        exact fun vp vd vw vb p2 d2 w2 hPW hp1 hd1 hw1 hfu hres => s_X7_and l G om μ vp vd vw vb p2 d2 w2 q hPW hp1 hd1 hw1 hfu hres h1
      · exact h2 q (by omega)
    · by_cases e : q = n
      · subst e
        exact fun vp vd vw vb p2 d2 w2 hPW hp1 hd1 hw1 hfu hres => s_X7_or l G om μ vp vd vw vb p2 d2 w2 q hPW hp1 hd1 hw1 hfu hres h2
      · exact h3 q (by omega)

theorem c_X7_or (l : Launch) (G : Gt) (om : Nat) (μ : Sx) (vp : Nat) (vd : Nat) (vw : Nat) (vb : Bool) (p2 : Nat) (d2 : Nat) (w2 : Nat) (n : Nat) (hPW : PW μ) (hp1 : vp ≤ μ.1 24) (hd1 : vd ≤ 5) (hw1 : vw < 2) (hfu : 4 * (μ.1 24 - vp) + 3 ≤ n) (hres : pP μ n 0 false vp vd vw = (vb, p2, d2, w2)) : Ct l G yX7_or cX7_or 3 ((some .boolean)) (3 * (5 - vd) + 4) 0 0 [.ref om] (fun H => bk G om (mL G om (pq μ vp vd vw)) H) (some (.int (b2i vb))) (fun H => bk G om (mL G om (pq μ p2 d2 w2)) H) (fun q => om ≤ q ∧ q < om + 20) := (K_all l G om μ (n + 1)).2.2 n (Nat.lt_succ_self n) vp vd vw vb p2 d2 w2 hPW hp1 hd1 hw1 hfu hres
