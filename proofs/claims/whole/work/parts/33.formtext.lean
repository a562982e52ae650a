
/-! FORMULAS read by the class: all STATES at once -/
def ltW (j : Nat) : Nat := if j = 0 then 2863311530 else if j = 1 then 3435973836 else if j = 2 then 4042322160 else if j = 3 then 4278255360 else 4294901760
/-- the static array of letters -/
def gLH (G : Gt) (lo : Nat) (H : Heap) : Prop := (G.2.2.1 < lo ∧ G.2.2.2.2.1 < lo) ∧ H[G.2.2.2.2.1]? = some G.2.2.2.2.2 ∧ H[G.2.2.1]? = some G.2.2.2.1 ∧ G.2.2.2.1.vm ≠ .unknown ∧ (5 ≤ G.2.2.2.1.slots.size ∧ G.2.2.2.1.slots.size.toInt32 = nI 5) ∧ ∀ j, j < 5 → G.2.2.2.1.slots[j]? = some (.long (lN (ltW j)))
theorem gLH_S {G : Gt} {lo : Nat} {H0 H : Heap} {A : Nat → Prop} {locs : List Loc} (h : gLH G lo H0) (hS : va_S A H0 H locs) (hA : ∀ q, q < lo → ¬ A q) : gLH G lo H := by
  obtain ⟨⟨h1, h2⟩, h3, h4, h5, h6, h7⟩ := h
  refine ⟨⟨h1, h2⟩, ?_, ?_, h5, h6, h7⟩
  · rw [hS.2.1 _ (Array.getElem?_eq_some_iff.mp h3).1 (hA _ h2)]; exact h3
  · rw [hS.2.1 _ (Array.getElem?_eq_some_iff.mp h4).1 (hA _ h1)]; exact h4
section KZ
variable {p : Program} {l : Launch} {e : Env} {R : Room} {s : State} {m : MethodId} {args : Array Value} {below : List Frame} {meth : Method} {c : Code} {H : Heap} {locs : List Loc} {cells slots : Nat} {Q : State → Prop}
variable {cc : ByteArray} {pc nL : Nat} {ls : Array Slot} {rest : List Value} {own : String} {G : Gt} {A : Nat → Prop} {lo : Nat}
theorem k_gets {idx : Nat} (S : CallFix p m c cc nL s args WT own) (hK : gK G s) (hZ : gLH G lo s.heap) (hS : va_S A s.heap H locs) (hA : ∀ q, q < lo → ¬ A q) (hl : Cond.fieldLink own idx "PuzzleParts$FormulaText" "LETTERS" "[J" ∈ WT) (hdg : decode cc pc = .ok (.getstatic idx, 3))
    (kk : W p l e R s m args below meth c H locs cells slots Q (F0 m (pc + 3) ls (.ref G.2.2.1 :: rest))) : W p l e R s m args below meth c H locs cells slots Q (F0 m pc ls rest) := by
  obtain ⟨cf, kf, fi, f, h1, h2, h3, h4, h5, h6, h7⟩ := hK.2.2
  exact W.gets S.1 S.2.1 S.2.2.2.1 (S.2.2.2.2 _ hl) h1 h2 h3 h4 (gLH_S hZ hS hA).2.1 (fun q => by rw [q] at h5; cases h5) h6 rfl hdg kk
theorem k_slen (S : CallFix p m c cc nL s args WT own) (hK : gK G s) (hZ : gLH G lo s.heap) (hS : va_S A s.heap H locs) (hA : ∀ q, q < lo → ¬ A q) (hdg : decode cc pc = .ok (.arraylength, 1))
    (kk : W p l e R s m args below meth c H locs cells slots Q (F0 m (pc + 1) ls (.int (nI 5) :: rest))) : W p l e R s m args below meth c H locs cells slots Q (F0 m pc ls (.ref G.2.2.1 :: rest)) := by
  obtain ⟨cf, kf, fi, f, h1, h2, h3, h4, h5, h6, h7⟩ := hK.2.2
  have hZ2 := gLH_S hZ hS hA
  exact W.alen S.1 S.2.1 hZ2.2.2.1 h7 hZ2.2.2.2.2.1.2 rfl rfl hdg kk
theorem k_sld (S : CallFix p m c cc nL s args WT own) (hK : gK G s) (hZ : gLH G lo s.heap) (hS : va_S A s.heap H locs) (hA : ∀ q, q < lo → ¬ A q) {j : Nat} (hdg : decode cc pc = .ok (.laload, 1)) (hj : j < 5)
    (kk : W p l e R s m args below meth c H locs cells slots Q (F0 m (pc + 1) ls (.long (lN (ltW j)) :: rest))) : W p l e R s m args below meth c H locs cells slots Q (F0 m pc ls (.int (nI j) :: .ref G.2.2.1 :: rest)) := by
  obtain ⟨cf, kf, fi, f, h1, h2, h3, h4, h5, h6, h7⟩ := hK.2.2
  have hZ2 := gLH_S hZ hS hA
  exact W.lald S.1 S.2.1 hZ2.2.2.1 h7 hZ2.2.2.2.1 (fun q => q.elim (fun q1 => vp_in_nI hj (by decide) (Or.inl q1)) (fun q2 => by rw [nI_clamp (by omega)] at q2; have := hZ2.2.2.2.2.1.1; omega)) (by rw [nI_clamp (by omega)]; exact hZ2.2.2.2.2.2 j hj) rfl rfl hdg kk
end KZ
def fq (σ : Sx) (p e : Nat) : Sx := uS (uS σ 2 p) 3 e
def fe (p w : Nat) : Nat := if w = 0 then p + 1 else 0
/-- what the class reads, as the reference's own reader sees it -/
def mT (t : Nat → Nat) (n s : Nat) : Sx := (fun k => if k = 24 then n else if k = 27 then s else if k = 28 then 17 else 0, fun _ => t, fun _ _ => none)
theorem sgT (t : Nat → Nat) (n s p : Nat) : sgM (mT t n s) p = if n ≤ p then none else some (t p) := by
  show (if n ≤ p then none else some (txM (mT t n s) (0 + p))) = _
  rw [Nat.zero_add]
  rfl
def ltT (c : Nat) : Nat := if c = 48 then 0 else if c = 49 then 4294967295 else ltW (c - 97)
def pT (μ : Sx) : Nat → Nat → Nat → Nat → Nat → Nat → Nat × Nat × Nat
  | 0, _, T, p, _, w => (T, p, w)
  | k + 1, 0, _, p, d, w => let r := pT μ k 1 0 p d w; pT μ k 3 r.1 r.2.1 d r.2.2
  | k + 1, 1, _, p, d, w => let r := pT μ k 2 0 p d w; pT μ k 4 r.1 r.2.1 d r.2.2
  | k + 1, 3, T, p, d, w => if tkB μ p w 124 then (let r := pT μ k 1 0 (p + 1) d w; pT μ k 3 (T ||| r.1) r.2.1 d r.2.2) else (T, p, w)
  | k + 1, 4, T, p, d, w => if tkB μ p w 38 then (let r := pT μ k 2 0 (p + 1) d w; pT μ k 4 (T &&& r.1) r.2.1 d r.2.2) else (T, p, w)
  | k + 1, _, _, p, d, w => match sgM μ p with
    | none => (0, p, 0)
    | some c => if c = 33 ∨ c = 40 then (if d = 5 then (0, p, 0) else
        if c = 33 then (let r := pT μ k 2 0 (p + 1) (d + 1) w; (andn 4294967295 r.1, r.2.1, r.2.2)) else
          (let r := pT μ k 0 0 (p + 1) (d + 1) w; if tkB μ r.2.1 r.2.2 41 then (r.1, r.2.1 + 1, r.2.2) else (0, r.2.1, 0)))
      else if isLt c then (ltT c, p + 1, w) else (0, p, 0)
section PT7
variable {μ : Sx} {k p d w c T T1 p1 w1 : Nat} {X : Nat × Nat × Nat}
theorem tU_d : pT μ (k + 1) 2 T p d w = (match sgM μ p with
    | none => (0, p, 0)
    | some c => if c = 33 ∨ c = 40 then (if d = 5 then (0, p, 0) else
        if c = 33 then (let r := pT μ k 2 0 (p + 1) (d + 1) w; (andn 4294967295 r.1, r.2.1, r.2.2)) else
          (let r := pT μ k 0 0 (p + 1) (d + 1) w; if tkB μ r.2.1 r.2.2 41 then (r.1, r.2.1 + 1, r.2.2) else (0, r.2.1, 0)))
      else if isLt c then (ltT c, p + 1, w) else (0, p, 0)) := rfl
theorem tU_e (hs : sgM μ p = none) : pT μ (k + 1) 2 T p d w = (0, p, 0) := by rw [tU_d, hs]
theorem tU_s (hs : sgM μ p = some c) : pT μ (k + 1) 2 T p d w = (if c = 33 ∨ c = 40 then (if d = 5 then (0, p, 0) else
        if c = 33 then (let r := pT μ k 2 0 (p + 1) (d + 1) w; (andn 4294967295 r.1, r.2.1, r.2.2)) else
          (let r := pT μ k 0 0 (p + 1) (d + 1) w; if tkB μ r.2.1 r.2.2 41 then (r.1, r.2.1 + 1, r.2.2) else (0, r.2.1, 0)))
      else if isLt c then (ltT c, p + 1, w) else (0, p, 0)) := by rw [tU_d, hs]
theorem tU_5 (hs : sgM μ p = some c) (hc : c = 33 ∨ c = 40) (h5 : d = 5) : pT μ (k + 1) 2 T p d w = (0, p, 0) := by rw [tU_s hs, if_pos hc, if_pos h5]
theorem tU_n (hs : sgM μ p = some 33) (h5 : ¬ d = 5) (hr : pT μ k 2 0 (p + 1) (d + 1) w = (T1, p1, w1)) : pT μ (k + 1) 2 T p d w = (andn 4294967295 T1, p1, w1) := by
  rw [tU_s hs, if_pos (Or.inl rfl), if_neg h5, if_pos rfl, hr]
theorem tU_b (hs : sgM μ p = some 40) (h5 : ¬ d = 5) (hr : pT μ k 0 0 (p + 1) (d + 1) w = (T1, p1, w1)) (ht : tkB μ p1 w1 41 = true) : pT μ (k + 1) 2 T p d w = (T1, p1 + 1, w1) := by
  rw [tU_s hs, if_pos (Or.inr rfl), if_neg h5, if_neg (by decide), hr]
  show (if tkB μ p1 w1 41 = true then _ else _) = _
  rw [if_pos ht]
theorem tU_c (hs : sgM μ p = some 40) (h5 : ¬ d = 5) (hr : pT μ k 0 0 (p + 1) (d + 1) w = (T1, p1, w1)) (ht : tkB μ p1 w1 41 = false) : pT μ (k + 1) 2 T p d w = (0, p1, 0) := by
  rw [tU_s hs, if_pos (Or.inr rfl), if_neg h5, if_neg (by decide), hr]
  show (if tkB μ p1 w1 41 = true then _ else _) = _
  rw [if_neg (by rw [ht]; decide)]
theorem tU_l (hs : sgM μ p = some c) (hl : c = 48 ∨ c = 49 ∨ (97 ≤ c ∧ c ≤ 101)) : pT μ (k + 1) 2 T p d w = (ltT c, p + 1, w) := by
  rw [tU_s hs, if_neg (by omega), if_pos]
  unfold isLt
  simp only [Bool.or_eq_true, Bool.and_eq_true, decide_eq_true_eq]
  omega
theorem tU_x (hs : sgM μ p = some c) (h33 : ¬ c = 33) (h40 : ¬ c = 40) (h48 : ¬ c = 48) (h49 : ¬ c = 49) (hl : c < 97 ∨ 101 < c) : pT μ (k + 1) 2 T p d w = (0, p, 0) := by
  rw [tU_s hs, if_neg (by omega), if_neg]
  unfold isLt
  simp only [Bool.or_eq_true, Bool.and_eq_true, decide_eq_true_eq]
  omega
theorem tA_e (hr : pT μ k 2 0 p d w = (T1, p1, w1)) (h : pT μ (k + 1) 1 T p d w = X) : pT μ k 4 T1 p1 d w1 = X := by
  rw [← h]
  show _ = pT μ k 4 (pT μ k 2 0 p d w).1 (pT μ k 2 0 p d w).2.1 d (pT μ k 2 0 p d w).2.2
  rw [hr]
theorem tO_e (hr : pT μ k 1 0 p d w = (T1, p1, w1)) (h : pT μ (k + 1) 0 T p d w = X) : pT μ k 3 T1 p1 d w1 = X := by
  rw [← h]
  show _ = pT μ k 3 (pT μ k 1 0 p d w).1 (pT μ k 1 0 p d w).2.1 d (pT μ k 1 0 p d w).2.2
  rw [hr]
theorem t4_f (ht : tkB μ p w 38 = false) : pT μ (k + 1) 4 T p d w = (T, p, w) := by
  show (if tkB μ p w 38 = true then _ else _) = _
  rw [if_neg (by rw [ht]; decide)]
theorem t3_f (ht : tkB μ p w 124 = false) : pT μ (k + 1) 3 T p d w = (T, p, w) := by
  show (if tkB μ p w 124 = true then _ else _) = _
  rw [if_neg (by rw [ht]; decide)]
theorem t4_t (ht : tkB μ p w 38 = true) (hr : pT μ k 2 0 (p + 1) d w = (T1, p1, w1)) (h : pT μ (k + 1) 4 T p d w = X) : pT μ k 4 (T &&& T1) p1 d w1 = X := by
  rw [← h]
  show _ = (if tkB μ p w 38 = true then pT μ k 4 (T &&& (pT μ k 2 0 (p + 1) d w).1) (pT μ k 2 0 (p + 1) d w).2.1 d (pT μ k 2 0 (p + 1) d w).2.2 else _)
  rw [if_pos ht, hr]
theorem t3_t (ht : tkB μ p w 124 = true) (hr : pT μ k 1 0 (p + 1) d w = (T1, p1, w1)) (h : pT μ (k + 1) 3 T p d w = X) : pT μ k 3 (T ||| T1) p1 d w1 = X := by
  rw [← h]
  show _ = (if tkB μ p w 124 = true then pT μ k 3 (T ||| (pT μ k 1 0 (p + 1) d w).1) (pT μ k 1 0 (p + 1) d w).2.1 d (pT μ k 1 0 (p + 1) d w).2.2 else _)
  rw [if_pos ht, hr]
theorem ltT_lt {c : Nat} : ltT c < 2 ^ 32 := by
  unfold ltT ltW
  repeat' split
  all_goals decide
theorem andn_all {T : Nat} : andn 4294967295 T < 2 ^ 32 := andn_lt (by decide)
end PT7
theorem pT_ok (μ : Sx) : ∀ k m T p d w, p ≤ μ.1 24 → T < 2 ^ 32 → w < 2 → p ≤ (pT μ k m T p d w).2.1 ∧ (pT μ k m T p d w).2.1 ≤ μ.1 24 ∧ (pT μ k m T p d w).1 < 2 ^ 32 ∧ (pT μ k m T p d w).2.2 < 2
  | 0, m, T, p, d, w, hp, hT, hw => ⟨Nat.le_refl _, hp, hT, hw⟩
  | k + 1, m, T, p, d, w, hp, hT, hw => by
    have unit : p ≤ (pT μ (k + 1) 2 T p d w).2.1 ∧ (pT μ (k + 1) 2 T p d w).2.1 ≤ μ.1 24 ∧ (pT μ (k + 1) 2 T p d w).1 < 2 ^ 32 ∧ (pT μ (k + 1) 2 T p d w).2.2 < 2 := by
      rcases hsg : sgM μ p with _ | c
      · rw [tU_e hsg]
        exact ⟨Nat.le_refl _, hp, (by decide : (0 : Nat) < 2 ^ 32), (by decide : (0 : Nat) < 2)⟩
      · have hlt := (sg_lt hsg).1
        rw [tU_s hsg]
        by_cases hc : c = 33 ∨ c = 40
        · rw [if_pos hc]
          by_cases h5 : d = 5
          · rw [if_pos h5]
            exact ⟨Nat.le_refl _, hp, (by decide : (0 : Nat) < 2 ^ 32), (by decide : (0 : Nat) < 2)⟩
          · rw [if_neg h5]
            by_cases h3 : c = 33
            · rw [if_pos h3]
              obtain ⟨a1, a2, a3, a4⟩ := pT_ok μ k 2 0 (p + 1) (d + 1) w (by omega) (by decide) hw
              exact ⟨by dsimp only; omega, a2, andn_all, a4⟩
            · rw [if_neg h3]
              obtain ⟨a1, a2, a3, a4⟩ := pT_ok μ k 0 0 (p + 1) (d + 1) w (by omega) (by decide) hw
              dsimp only
              by_cases ht : tkB μ (pT μ k 0 0 (p + 1) (d + 1) w).2.1 (pT μ k 0 0 (p + 1) (d + 1) w).2.2 41 = true
              · rw [if_pos ht]
                have := (tkB_lt ht).1
                exact ⟨by dsimp only; omega, by dsimp only; omega, a3, a4⟩
              · rw [if_neg ht]
                exact ⟨by dsimp only; omega, a2, (by decide : (0 : Nat) < 2 ^ 32), (by decide : (0 : Nat) < 2)⟩
        · rw [if_neg hc]
          by_cases hl : isLt c = true
          · rw [if_pos hl]
            exact ⟨by dsimp only; omega, by dsimp only; omega, ltT_lt, hw⟩
          · rw [if_neg hl]
            exact ⟨Nat.le_refl _, hp, (by decide : (0 : Nat) < 2 ^ 32), (by decide : (0 : Nat) < 2)⟩
    match m with
    | 0 =>
      obtain ⟨a1, a2, a3, a4⟩ := pT_ok μ k 1 0 p d w hp (by decide) hw
      obtain ⟨b1, b2, b3, b4⟩ := pT_ok μ k 3 (pT μ k 1 0 p d w).1 (pT μ k 1 0 p d w).2.1 d (pT μ k 1 0 p d w).2.2 a2 a3 a4
      exact ⟨Nat.le_trans a1 b1, b2, b3, b4⟩
    | 1 =>
      obtain ⟨a1, a2, a3, a4⟩ := pT_ok μ k 2 0 p d w hp (by decide) hw
      obtain ⟨b1, b2, b3, b4⟩ := pT_ok μ k 4 (pT μ k 2 0 p d w).1 (pT μ k 2 0 p d w).2.1 d (pT μ k 2 0 p d w).2.2 a2 a3 a4
      exact ⟨Nat.le_trans a1 b1, b2, b3, b4⟩
    | 2 => exact unit
    | 3 =>
      by_cases ht : tkB μ p w 124 = true
      · rcases hr : pT μ k 1 0 (p + 1) d w with ⟨T1, p1, w1⟩
        rw [← t3_t (X := pT μ (k + 1) 3 T p d w) ht hr rfl]
        have hlt := (tkB_lt ht).1
        have a := pT_ok μ k 1 0 (p + 1) d w (by omega) (by decide) hw
        rw [hr] at a
        obtain ⟨a1, a2, a3, a4⟩ := a
        dsimp only at a1 a2 a3 a4
        obtain ⟨b1, b2, b3, b4⟩ := pT_ok μ k 3 (T ||| T1) p1 d w1 a2 (Nat.or_lt_two_pow hT a3) a4
        exact ⟨by omega, b2, b3, b4⟩
      · rw [t3_f (by simpa using ht)]
        exact ⟨Nat.le_refl _, hp, hT, hw⟩
    | 4 =>
      by_cases ht : tkB μ p w 38 = true
      · rcases hr : pT μ k 2 0 (p + 1) d w with ⟨T1, p1, w1⟩
        rw [← t4_t (X := pT μ (k + 1) 4 T p d w) ht hr rfl]
        have hlt := (tkB_lt ht).1
        have a := pT_ok μ k 2 0 (p + 1) d w (by omega) (by decide) hw
        rw [hr] at a
        obtain ⟨a1, a2, a3, a4⟩ := a
        dsimp only at a1 a2 a3 a4
        obtain ⟨b1, b2, b3, b4⟩ := pT_ok μ k 4 (T &&& T1) p1 d w1 a2 (Nat.and_lt_two_pow T a3) a4
        exact ⟨by omega, b2, b3, b4⟩
      · rw [t4_f (by simpa using ht)]
        exact ⟨Nat.le_refl _, hp, hT, hw⟩
    | _ + 5 => exact unit
theorem pT_k {μ : Sx} {k m T p d w T1 p1 w1 : Nat} (hr : pT μ k m T p d w = (T1, p1, w1)) (hp : p ≤ μ.1 24) (hT : T < 2 ^ 32) (hw : w < 2) : p ≤ p1 ∧ p1 ≤ μ.1 24 ∧ T1 < 2 ^ 32 ∧ w1 < 2 := by
  have h := pT_ok μ k m T p d w hp hT hw
  rw [hr] at h
  exact h
theorem q3 {X : Nat × Nat × Nat} {a b c a1 b1 c1 : Nat} (h : X = (a, b, c)) (h1 : X = (a1, b1, c1)) : a1 = a ∧ b1 = b ∧ c1 = c := by
  rw [h] at h1
  cases h1
  exact ⟨rfl, rfl, rfl⟩
theorem fe_0 {p w : Nat} (h : w = 0) : fe p w = p + 1 := if_pos h
theorem fe_1 {p w : Nat} (h : ¬ w = 0) : fe p w = 0 := if_neg h
theorem flt_0 {p w : Nat} (h : ¬ flt (fe p w) = -1) (hp : p < 2 ^ 31) : w = 0 := by
  by_cases e : w = 0
  · exact e
  · rw [fe_1 e] at h
    exact absurd rfl h
theorem flt_1 {p w : Nat} (h : flt (fe p w) = -1) (hp : p < 2 ^ 31) : ¬ w = 0 := by
  intro e
  rw [fe_0 e] at h
  exact neg1_ne hp h.symm
theorem fl97 : ∀ c, c < 256 → ((nI c - nI 97 < 0) ↔ c < 97) := by decide +kernel
