
/-! walks: the class's FLOOR -/
def MIb (μ : Sx) : Prop := μ.1 16 ≤ 24 ∧ ∀ p, p < μ.1 16 → BS (μ.2.1 1 p) (μ.2.1 2 p) (μ.2.1 3 p) (clM μ p)
theorem mi0 {μ : Sx} (h : MIb μ) : MI0 μ := ⟨h.1, fun p hp => by
  obtain ⟨⟨⟨a1, a2⟩, ⟨a3, a4⟩, a5⟩, b, d, e, g⟩ := h.2 p hp
  refine ⟨a1, a2, a3, a4, a5, fun k hk => ?_⟩
  rcases d k hk with z | z | z <;> omega⟩
/-- the boards that are laid -/
def FB (G : Gt) (μ φ : Sx) (H : Heap) : Prop := φ.1 3 = μ.1 19 ∧ φ.2.1 1 = μ.2.1 13 ∧ φ.2.1 2 = μ.2.1 14 ∧ ∀ k, k < μ.1 19 → ∃ (a : Nat) (β : Sx), φ.2.2 0 k = some a ∧ bk G a (bdL G a β) H ∧ BG (μ.2.1 1 (μ.2.1 12 k)) (μ.2.1 2 (μ.2.1 12 k)) (μ.2.1 3 (μ.2.1 12 k)) (clM μ (μ.2.1 12 k)) β
theorem fnd_y {P : Nat → Bool} {n i : Nat} (hi : i < n) (h : P i = true) : (fnd P n 0).isSome = true := by
  rcases hq : fnd P n 0 with _ | j
  · rw [fnd_none n 0 hq i (Nat.zero_le _) (by omega)] at h
    cases h
  · rfl
theorem fnd_all {P : Nat → Bool} {n : Nat} (h : ∀ i, i < n → P i = false) : (fnd P n 0).isSome = false := by
  rcases hq : fnd P n 0 with _ | j
  · rfl
  · obtain ⟨h1, h2, h3⟩ := fnd_lt n 0 hq
    rw [h j (by omega)] at h3
    cases h3
theorem pl_e {μ : Sx} {k f fp : Nat} (hb : MIb μ) (hl : MIl μ) (hk : k < μ.1 19) (hfp : fp < 20) (hc : clM μ (μ.2.1 12 k) fp = 10 + f) : plM μ k f = some (12 * (μ.2.1 13 k + fp % 5) + (μ.2.1 14 k + fp / 5)) ∧ μ.2.1 13 k + fp % 5 < 12 ∧ μ.2.1 14 k + fp / 5 < 12 := by
  obtain ⟨hp, hx, hy⟩ := hl.2 k hk
  obtain ⟨⟨⟨a1, a2⟩, ⟨a3, a4⟩, a5⟩, b, d, e, g⟩ := hb.2 _ hp
  have hin : fp % 5 < μ.2.1 1 (μ.2.1 12 k) ∧ fp / 5 < μ.2.1 2 (μ.2.1 12 k) := by
    by_cases z : fp % 5 < μ.2.1 1 (μ.2.1 12 k) ∧ fp / 5 < μ.2.1 2 (μ.2.1 12 k)
    · exact z
    · have := b fp hfp z
      omega
  have hu : ∀ i, i < 144 → decide (onM μ k (i / 12) (i % 12) = 10 + f) = true → i = 12 * (μ.2.1 13 k + fp % 5) + (μ.2.1 14 k + fp / 5) := by
    intro i hi h
    have h2 := of_decide_eq_true h
    unfold onM at h2
    split at h2
    · rename_i z
      have q := g _ fp (by omega) hfp (by omega) (h2.trans hc.symm)
      omega
    · omega
  have h0 : decide (onM μ k ((12 * (μ.2.1 13 k + fp % 5) + (μ.2.1 14 k + fp / 5)) / 12) ((12 * (μ.2.1 13 k + fp % 5) + (μ.2.1 14 k + fp / 5)) % 12) = 10 + f) = true := by
    apply decide_eq_true
    unfold onM
    rw [if_pos (by omega), show 5 * ((12 * (μ.2.1 13 k + fp % 5) + (μ.2.1 14 k + fp / 5)) % 12 - μ.2.1 14 k) + ((12 * (μ.2.1 13 k + fp % 5) + (μ.2.1 14 k + fp / 5)) / 12 - μ.2.1 13 k) = fp from by omega]
    exact hc
  refine ⟨?_, by omega, by omega⟩
  rcases hq : plM μ k f with _ | j
  · have := fnd_none 144 0 hq (12 * (μ.2.1 13 k + fp % 5) + (μ.2.1 14 k + fp / 5)) (Nat.zero_le _) (by omega)
    rw [h0] at this
    cases this
  · obtain ⟨h1, h2, h3⟩ := fnd_lt 144 0 hq
    rw [hu j (by omega) h3]
theorem mig {μ : Sx} (hb : MIb μ) (hl : MIl μ) : MIg μ := by
  intro o ho g hg
  obtain ⟨hp, -, -⟩ := hl.2 o ho
  obtain ⟨-, -, -, e, -⟩ := hb.2 _ hp
  obtain ⟨k, hk, hc⟩ := e g hg
  exact ⟨_, (pl_e hb hl ho hk hc).1⟩
/-- the codes beyond the floor's rim too -/
def onI (μ : Sx) (k : Nat) (x y : Int32) : Nat := if inI x 12 && inI y 12 then onM μ k (cx x) (cx y) else 0
def rim (x : Int32) : Prop := x = -1 ∨ ∃ j : Nat, j ≤ 12 ∧ x = nI j
theorem rim_n {j : Nat} (h : j ≤ 12) : rim (nI j) := Or.inr ⟨j, h, rfl⟩
theorem rim_1 {j : Nat} (h : j ≤ 12) : rim (nI j - nI 1) := by
  rcases Nat.eq_zero_or_pos j with z | z
  · subst z; exact Or.inl (by decide)
  · exact Or.inr ⟨j - 1, by omega, nI_subN z (by omega)⟩
theorem inI_m1 : ∀ a, a < 13 → ∀ w, w < 6 → inI (-1 - nI a) w = false := by decide +kernel
theorem rim_in {x : Int32} {a w : Nat} (hx : rim x) (hw : w < 6) (ha : a + w ≤ 12) : inI (x - nI a) w = (inI x 12 && (decide (a ≤ cx x) && decide (cx x < a + w))) := by
  rcases hx with rfl | ⟨j, hj, rfl⟩
  · rw [inI_m1 a (by omega) w hw]; rfl
  · rw [inI_sub (by omega) (by omega), inI_n (by omega), cx_n (by omega)]
    by_cases h : j < a + w
    · rw [decide_eq_true (p := j < 12) (by omega)]; rfl
    · rw [decide_eq_false h, Bool.and_false, Bool.and_false]
theorem rim_cx {x : Int32} {a : Nat} (hx : rim x) (h : a ≤ cx x) (h2 : inI x 12 = true) : cx (x - nI a) = cx x - a := by
  rcases hx with rfl | ⟨j, hj, rfl⟩
  · exact absurd h2 (by decide)
  · rw [cx_n (by omega)] at h ⊢
    rw [nI_subN h (by omega), cx_n (by omega)]
theorem cAt_on {μ β : Sx} {k : Nat} {x y : Int32} (hb : MIb μ) (hl : MIl μ) (hk : k < μ.1 19) (hg : BG (μ.2.1 1 (μ.2.1 12 k)) (μ.2.1 2 (μ.2.1 12 k)) (μ.2.1 3 (μ.2.1 12 k)) (clM μ (μ.2.1 12 k)) β) (hx : rim x) (hy : rim y) : cAt β (x - nI (μ.2.1 13 k)) (y - nI (μ.2.1 14 k)) = onI μ k x y := by
  obtain ⟨hp, hx2, hy2⟩ := hl.2 k hk
  obtain ⟨⟨⟨a1, a2⟩, ⟨a3, a4⟩, a5⟩, -⟩ := hb.2 _ hp
  obtain ⟨g0, g1, g2, -⟩ := hg
  unfold cAt onI
  rw [g0, g1, rim_in hx (by omega) hx2, rim_in hy (by omega) hy2]
  cases ex : inI x 12
  · rfl
  · cases ey : inI y 12
    · rw [Bool.false_and, Bool.and_false]; rfl
    · rw [Bool.true_and, Bool.true_and]
      unfold onM
      by_cases z : (μ.2.1 13 k ≤ cx x ∧ cx x < μ.2.1 13 k + μ.2.1 1 (μ.2.1 12 k)) ∧ (μ.2.1 14 k ≤ cx y ∧ cx y < μ.2.1 14 k + μ.2.1 2 (μ.2.1 12 k))
      · obtain ⟨⟨z1, z2⟩, z3, z4⟩ := z
        rw [decide_eq_true z1, decide_eq_true z2, decide_eq_true z3, decide_eq_true z4, if_pos (by rfl), if_pos (by rfl), if_pos ⟨⟨z1, z2⟩, z3, z4⟩, rim_cx hx z1 ex, rim_cx hy z3 ey]
        exact g2 _ (by omega)
      · rw [if_neg (by simpa using z), if_pos (by rfl), if_neg z]
theorem onI_n {μ : Sx} {k x y : Nat} (hx : x < 12) (hy : y < 12) : onI μ k (nI x) (nI y) = onM μ k x y := by
  unfold onI
  rw [inI_n (by omega), inI_n (by omega), decide_eq_true hx, decide_eq_true hy, cx_n (by omega), cx_n (by omega)]
  rfl
theorem onI_lt {μ : Sx} (hb : MIb μ) (hl : MIl μ) {k : Nat} (hk : k < μ.1 19) (x y : Int32) : onI μ k x y < 16 := by
  unfold onI
  split
  · exact on_lt (mi0 hb) hl hk _ _
  · decide
theorem othI_e {μ : Sx} {k : Nat} {x y : Int32} : othI μ k x y = (fnd (fun o => !decide (o = k) && !decide (onI μ o x y = 0)) (μ.1 19) 0).isSome := by
  unfold othI
  cases ex : inI x 12
  · rw [Bool.false_and, fnd_all]
    intro i _
    unfold onI
    rw [ex]
    simp
  · cases ey : inI y 12
    · rw [Bool.false_and, Bool.and_false, fnd_all]
      intro i _
      unfold onI
      rw [ey]
      simp
    · rw [Bool.true_and, Bool.true_and]
      congr 1
      refine fnd_congr _ _ (fun o _ _ => ?_)
      show (!decide (o = k) && !decide (onM μ o (cx x) (cx y) = 0)) = _
      unfold onI
      rw [ex, ey]
      rfl
def fcI (μ : Sx) (v : Int32) : Nat := if inI v (μ.1 19) then fcL μ (cx v) else 0
theorem fcI_n {μ : Sx} {k : Nat} (hk : k < μ.1 19) (h10 : μ.1 19 ≤ 10) : fcI μ (nI k) = fcL μ k := by
  unfold fcI
  rw [inI_n (by omega), decide_eq_true hk, cx_n (by omega)]
  rfl
def abI (x : Int32) : Int32 := if x < 0 then -x else x
theorem ab_e : ∀ a, a < 12 → ∀ b, b < 12 → abI (nI a - nI b) = nI ((a - b) + (b - a)) := by decide +kernel
theorem bes_d {a b c d : Nat} (ha : a < 12) (hb : b < 12) (hc : c < 12) (hd : d < 12) : ((a - c) + (c - a) + ((b - d) + (d - b)) = 1) ↔ besB (100 * a + b) (100 * c + d) = true := by
  unfold besB
  rw [decide_eq_true_eq]
  omega
theorem frW_sk {P : Nat} {F : Nat → Nat} {Z : Nat → Nat → Bool} {i last : Int32} {k : Nat} (hk : k < P) (hz : ∀ g, g < F k → Z k g = false) : ∀ (d g u many : Nat), g + d = F k → frW P F Z i last (u + d + 1) k g many = frW P F Z i last u (k + 1) 0 many
  | 0, g, u, many, h => frW_k hk (by omega)
  | d + 1, g, u, many, h => by
    show frW P F Z i last (u + d + 1 + 1) k g many = _
    rw [frW_n hk (by omega) (hz g (by omega)), frW_sk hk hz d (g + 1) u many (by omega)]
/-- what the search finds -/
theorem frW_v {P : Nat} {F : Nat → Nat} {Z : Nat → Nat → Bool} {i : Int32} (hi : ¬ i < 0) (hF : ∀ k, k < P → F k ≤ 5) : ∀ u k f many, (k < P → f ≤ F k) → (¬ k < P → f = 0) → 6 * (P - k) + 1 ≤ u + f → frW P F Z i (-9) u k f many = -9 ∨ ∃ o g, o < P ∧ g < F o ∧ Z o g = true ∧ frW P F Z i (-9) u k f many = nI (10 * o + g)
  | 0, k, f, many, h1, h2, h3 => by
    exfalso
    by_cases hk : k < P
    · have := h1 hk
      have := hF k hk
      omega
    · have := h2 hk
      omega
  | u + 1, k, f, many, h1, h2, h3 => by
    by_cases hk : k < P
    · have a := h1 hk
      have b := hF k hk
      by_cases hf : f < F k
      · cases hz : Z k f
        · rw [frW_n hk hf hz]
          exact frW_v hi hF u k (f + 1) many (fun _ => by omega) (fun q => absurd hk q) (by omega)
        · by_cases hm : nI many = i
          · exact Or.inr ⟨k, f, hk, hf, hz, frW_r hk hf hz hm⟩
          · rw [frW_y hk hf hz hm]
            exact frW_v hi hF u k (f + 1) (many + 1) (fun _ => by omega) (fun q => absurd hk q) (by omega)
      · rw [frW_k hk hf]
        exact frW_v hi hF u (k + 1) 0 many (fun _ => Nat.zero_le _) (fun _ => rfl) (by omega)
    · rw [frW_e hk, if_neg hi]
      exact Or.inl rfl
theorem fcL_5 {μ : Sx} (hb : MIb μ) (hl : MIl μ) {o : Nat} (ho : o < μ.1 19) : fcL μ o ≤ 5 := by
  have := (hb.2 _ (hl.2 o ho).1).1
  exact this.2.2
theorem met_v {μ : Sx} (hb : MIb μ) (hl : MIl μ) {k f i : Nat} (hi : i < 100) : metM μ k f i = -9 ∨ ∃ o g, o < μ.1 19 ∧ g < fcL μ o ∧ g ≤ 4 ∧ ¬ o = k ∧ mtZ μ k f o g = true ∧ metM μ k f i = nI (10 * o + g) := by
  have h10 := hl.1
  have hi0 : ¬ nI i < 0 := fun q => by
    have := Int32.lt_iff_toInt_lt.mp q
    rw [nI_toInt (by omega)] at this
    have e : (0 : Int32).toInt = 0 := rfl
    omega
  rcases frW_v (P := μ.1 19) (F := fcL μ) (Z := mtZ μ k f) hi0 (fun o ho => fcL_5 hb hl ho) 100 0 0 0 (fun _ => Nat.zero_le _) (fun _ => rfl) (by omega) with q | ⟨o, g, h1, h2, h3, h4⟩
  · exact Or.inl q
  · have := fcL_5 hb hl h1
    refine Or.inr ⟨o, g, h1, h2, by omega, ?_, h3, h4⟩
    intro e
    subst e
    unfold mtZ at h3
    rw [decide_eq_true rfl] at h3
    cases h3
theorem n9_lt {j : Nat} (hj : j < 2 ^ 31) : ¬ nI j < 0 := fun q => by
  have := Int32.lt_iff_toInt_lt.mp q
  rw [nI_toInt hj] at this
  have e : (0 : Int32).toInt = 0 := rfl
  omega
theorem n9_ne {j : Nat} (hj : j < 2 ^ 31) : ¬ nI j = -9 := fun q => n9_lt hj (by rw [q]; decide)

set_option maxHeartbeats 1000000 in
set_option maxRecDepth 100000 in
theorem c_X2_facesOf (l : Launch) (G : Gt) (fl : Nat) (φ : Sx) (μ : Sx) (v : Int32) (hb0 : MIb μ) (hl0 : MIl μ) : Cr l G yX2_facesOf cX2_facesOf 3 ((some .int)) 0 [.ref fl, .int v] (fun H => bk G fl (flL G fl φ) H ∧ FB G μ φ H) (some (.int (nI (fcI μ v)))) := by
  refine cr_entry [(0, .ref fl), (1, .int v)] (by decide) (Nat.le_of_ble_eq_true rfl) rfl ?_
  intro zp ze zs zm za zb zt zc Q S hK hPre hE ls hl
  have hx := S.1
  have hb := S.2.1
  obtain ⟨hF, hNB⟩ := hPre
  have h10 := hl0.1
  obtain ⟨hf3, hf1, hf2, hfB⟩ := id hNB
  refine lv_iload_n hx hb dX2_facesOf_0 rfl (lv_at hl 1 rfl) ?_
  refine lv_if_lt (tgt := 12) hx hb dX2_facesOf_1 (by decide) (fun c_1 => ?_) (fun c_1 => ?_)
  ·
    have hr : fcI μ v = 0 := by unfold fcI; rw [inI_lt c_1]; rfl
    refine lv_iconst (v := nI 0) hx hb dX2_facesOf_12 (by decide) ?_
    refine w_top (v' := .int (nI (fcI μ v))) (congrArg (fun z => Value.int (nI z)) (show 0 = (fcI μ v) from hr.symm)) ?_
    exact hE _ _ (kr_i dX2_facesOf_13)
  ·
    refine lv_iload_n hx hb dX2_facesOf_4 rfl (lv_at hl 1 rfl) ?_
    refine lv_aload_n hx hb dX2_facesOf_5 rfl (lv_at hl 0 rfl) ?_
    refine kg (C := RX2) (T := TX2) (N := 4) (ci := 1) (k := 3) (v := .int (nI (φ.1 3))) S hK rfl inX2 (by decide) q_111 dX2_facesOf_6 hF rfl rfl ?_
    refine lv_icmp_lt (tgt := 14) hx hb dX2_facesOf_9 (by decide) (fun c_9 => ?_) (fun c_9 => ?_)
    ·
      have hin : inI v (μ.1 19) = true := inI_of2 (by omega) (Int32.not_lt.mp c_1) (by rw [← hf3]; exact c_9)
      obtain ⟨k, hk8, rfl⟩ := inI_x hin
      obtain ⟨a, β, ha1, hB, hBG⟩ := hfB k hk8
      obtain ⟨hp9, hpx, hpy⟩ := hl0.2 k hk8
      have hBS := hb0.2 _ hp9
      obtain ⟨⟨⟨hs1, hs2⟩, ⟨hs3, hs4⟩, hs5⟩, -⟩ := id hBS
      obtain ⟨hg0, hg1, hg2, hg3, hg4, hgF⟩ := id hBG
      have hr : fcI μ (nI k) = β.1 4 := by rw [fcI_n hk8 h10]; exact hg4.symm
      refine lv_aload_n hx hb dX2_facesOf_14 rfl (lv_at hl 0 rfl) ?_
      refine kg (C := RX2) (T := TX2) (N := 4) (ci := 1) (k := 0) (v := .ref (fl + 1)) S hK rfl inX2 (by decide) q_108 dX2_facesOf_15 hF rfl rfl ?_
      refine lv_iload_n hx hb dX2_facesOf_18 rfl (lv_at hl 1 rfl) ?_
      refine kql (f := φ.2.2 0) S hK dX2_facesOf_19 1 2 hF rfl rfl (by decide) rfl (by omega) ?_
      rw [show φ.2.2 0 k = some a from ha1]
      dsimp only [va_rf]
      refine lv_astore_n (lv' := [(2, .ref a), (0, .ref fl), (1, .int (nI k))]) hx hb dX2_facesOf_20 rfl hl (by decide) rfl (fun ls hl => ?_)
      refine lv_aload_n hx hb dX2_facesOf_21 rfl (lv_at hl 0 rfl) ?_
      refine lv_ifnonnull (tgt := 29) hx hb dX2_facesOf_22 (by decide) ?_
      refine lv_aload_n hx hb dX2_facesOf_29 rfl (lv_at hl 0 rfl) ?_
      refine kg (C := RX0) (T := TX0) (N := 9) (ci := 0) (k := 4) (v := .int (nI (β.1 4))) S hK rfl inX0 (by decide) q_203 dX2_facesOf_30 hB rfl rfl ?_
      refine w_top (v' := .int (nI (fcI μ (nI k)))) (congrArg (fun z => Value.int (nI z)) (show (β.1 4) = (fcI μ (nI k)) from hr.symm)) ?_
      exact hE _ _ (kr_i dX2_facesOf_33)
    ·
      have hr : fcI μ v = 0 := by unfold fcI; rw [inI_ge (by omega) (by rw [← hf3]; exact Int32.not_lt.mp c_9)]; rfl
      refine lv_iconst (v := nI 0) hx hb dX2_facesOf_12 (by decide) ?_
      refine w_top (v' := .int (nI (fcI μ v))) (congrArg (fun z => Value.int (nI z)) (show 0 = (fcI μ v) from hr.symm)) ?_
      exact hE _ _ (kr_i dX2_facesOf_13)

theorem c_X2_facesOf_y (l : Launch) (G : Gt) (fl : Nat) (φ : Sx) (μ : Sx) (k : Nat) (hb0 : MIb μ) (hl0 : MIl μ) (hk8 : k < μ.1 19) : Cr l G yX2_facesOf cX2_facesOf 3 ((some .int)) 0 [.ref fl, .int (nI k)] (fun H => bk G fl (flL G fl φ) H ∧ FB G μ φ H) (some (.int (nI (fcL μ k)))) := by
  have h := c_X2_facesOf l G fl φ μ (nI k) hb0 hl0
  rwa [fcI_n hk8 hl0.1] at h

set_option maxHeartbeats 1000000 in
set_option maxRecDepth 100000 in
theorem c_X2_hasFace (l : Launch) (G : Gt) (fl : Nat) (φ : Sx) (μ : Sx) (v : Int32) (u : Int32) (hb0 : MIb μ) (hl0 : MIl μ) : Cr l G yX2_hasFace cX2_hasFace 3 ((some .boolean)) 1 [.ref fl, .int v, .int u] (fun H => bk G fl (flL G fl φ) H ∧ FB G μ φ H) (some (.int (b2i (inI u (fcI μ v))))) := by
  refine cr_entry [(0, .ref fl), (1, .int v), (2, .int u)] (by decide) (Nat.le_of_ble_eq_true rfl) rfl ?_
  intro zp ze zs zm za zb zt zc Q S hK hPre hE ls hl
  have hx := S.1
  have hb := S.2.1
  obtain ⟨hF, hNB⟩ := hPre
  have hfi : fcI μ v ≤ 5 := by
    unfold fcI
    split
    · rename_i z
      exact fcL_5 hb0 hl0 (inI_t z).2
    · decide
  refine lv_iload_n hx hb dX2_hasFace_0 rfl (lv_at hl 2 rfl) ?_
  refine lv_if_lt (tgt := 17) hx hb dX2_hasFace_1 (by decide) (fun c_1 => ?_) (fun c_1 => ?_)
  ·
    have hr : inI u (fcI μ v) = false := inI_lt c_1
    refine lv_iconst (v := nI 0) hx hb dX2_hasFace_17 (by decide) ?_
    refine w_top (v' := .int (b2i (inI u (fcI μ v)))) (bz_f (show (inI u (fcI μ v)) = false from hr)) ?_
    exact hE _ _ (kr_z dX2_hasFace_18)
  ·
    refine lv_iload_n hx hb dX2_hasFace_4 rfl (lv_at hl 2 rfl) ?_
    refine lv_aload_n hx hb dX2_hasFace_5 rfl (lv_at hl 0 rfl) ?_
    refine lv_iload_n hx hb dX2_hasFace_6 rfl (lv_at hl 1 rfl) ?_
    refine crV (rest := [.int u]) S hK (c_X2_facesOf l G fl φ μ v (by first | assumption | omega | decide) (by first | assumption | omega | decide)) cw_X2_28 rfl ⟨Nat.le_of_ble_eq_true rfl, Nat.le_of_ble_eq_true rfl⟩ ⟨Nat.le_of_ble_eq_true rfl, Nat.le_of_ble_eq_true rfl⟩ (bk.recv hK hF rfl rfl) hl.1 rfl (Nat.le_of_ble_eq_true rfl) dX2_hasFace_7 ⟨hF, hNB⟩ ?_
    refine lv_icmp_ge (tgt := 17) hx hb dX2_hasFace_10 (by decide) (fun c_10 => ?_) (fun c_10 => ?_)
    ·
      have hr : inI u (fcI μ v) = false := inI_ge (by omega) c_10
      refine lv_iconst (v := nI 0) hx hb dX2_hasFace_17 (by decide) ?_
      refine w_top (v' := .int (b2i (inI u (fcI μ v)))) (bz_f (show (inI u (fcI μ v)) = false from hr)) ?_
      exact hE _ _ (kr_z dX2_hasFace_18)
    ·
      have hr : inI u (fcI μ v) = true := inI_of (by omega) c_1 c_10
      refine lv_iconst (v := nI 1) hx hb dX2_hasFace_13 (by decide) ?_
      refine lv_goto (tgt := 18) hx hb dX2_hasFace_14 (by decide) ?_
      refine w_top (v' := .int (b2i (inI u (fcI μ v)))) (bz_t (show (inI u (fcI μ v)) = true from hr)) ?_
      exact hE _ _ (kr_z dX2_hasFace_18)

set_option maxHeartbeats 1000000 in
set_option maxRecDepth 100000 in
theorem c_X2_codeOn (l : Launch) (G : Gt) (fl : Nat) (φ : Sx) (μ : Sx) (k : Nat) (x : Int32) (y : Int32) (hb0 : MIb μ) (hl0 : MIl μ) (hk8 : k < μ.1 19) (hx9 : rim x) (hy9 : rim y) : Cr l G yX2_codeOn cX2_codeOn 5 ((some .int)) 2 [.ref fl, .int (nI k), .int x, .int y] (fun H => bk G fl (flL G fl φ) H ∧ FB G μ φ H) (some (.int (nI (onI μ k x y)))) := by
  refine cr_entry [(0, .ref fl), (1, .int (nI k)), (2, .int x), (3, .int y)] (by decide) (Nat.le_of_ble_eq_true rfl) rfl ?_
  intro zp ze zs zm za zb zt zc Q S hK hPre hE ls hl
  have hx := S.1
  have hb := S.2.1
  obtain ⟨hF, hNB⟩ := hPre
  have h10 := hl0.1
  obtain ⟨hf3, hf1, hf2, hfB⟩ := id hNB
  obtain ⟨a, β, ha1, hB, hBG⟩ := hfB k hk8
  obtain ⟨hp9, hpx, hpy⟩ := hl0.2 k hk8
  have hBS := hb0.2 _ hp9
  obtain ⟨⟨⟨hs1, hs2⟩, ⟨hs3, hs4⟩, hs5⟩, -⟩ := id hBS
  obtain ⟨hg0, hg1, hg2, hg3, hg4, hgF⟩ := id hBG
  refine lv_aload_n hx hb dX2_codeOn_0 rfl (lv_at hl 0 rfl) ?_
  refine kg (C := RX2) (T := TX2) (N := 4) (ci := 1) (k := 0) (v := .ref (fl + 1)) S hK rfl inX2 (by decide) q_108 dX2_codeOn_1 hF rfl rfl ?_
  refine lv_iload_n hx hb dX2_codeOn_4 rfl (lv_at hl 1 rfl) ?_
  refine kql (f := φ.2.2 0) S hK dX2_codeOn_5 1 2 hF rfl rfl (by decide) rfl (by omega) ?_
  rw [show φ.2.2 0 k = some a from ha1]
  dsimp only [va_rf]
  refine lv_astore (lv' := [(4, .ref a), (0, .ref fl), (1, .int (nI k)), (2, .int x), (3, .int y)]) hx hb dX2_codeOn_6 hl (by decide) rfl (fun ls hl => ?_)
  refine lv_aload hx hb dX2_codeOn_8 (lv_at hl 0 rfl) ?_
  refine lv_ifnonnull (tgt := 17) hx hb dX2_codeOn_10 (by decide) ?_
  refine lv_aload hx hb dX2_codeOn_17 (lv_at hl 0 rfl) ?_
  refine lv_iload_n hx hb dX2_codeOn_19 rfl (lv_at hl 3 rfl) ?_
  refine lv_aload_n hx hb dX2_codeOn_20 rfl (lv_at hl 1 rfl) ?_
  refine kg (C := RX2) (T := TX2) (N := 4) (ci := 1) (k := 1) (v := .ref (fl + 2)) S hK rfl inX2 (by decide) q_109 dX2_codeOn_21 hF rfl rfl ?_
  refine lv_iload_n hx hb dX2_codeOn_24 rfl (lv_at hl 2 rfl) ?_
  refine kil (f := φ.2.1 1) S hK dX2_codeOn_25 2 hF rfl (by decide) rfl (by omega) ?_
  refine lv_isub hx hb dX2_codeOn_26 ?_
  refine lv_iload_n hx hb dX2_codeOn_27 rfl (lv_at hl 4 rfl) ?_
  refine lv_aload_n hx hb dX2_codeOn_28 rfl (lv_at hl 1 rfl) ?_
  refine kg (C := RX2) (T := TX2) (N := 4) (ci := 1) (k := 2) (v := .ref (fl + 3)) S hK rfl inX2 (by decide) q_110 dX2_codeOn_29 hF rfl rfl ?_
  refine lv_iload_n hx hb dX2_codeOn_32 rfl (lv_at hl 2 rfl) ?_
  refine kil (f := φ.2.1 2) S hK dX2_codeOn_33 3 hF rfl (by decide) rfl (by omega) ?_
  refine lv_isub hx hb dX2_codeOn_34 ?_
  refine crV (rest := []) S hK (c_X0_codeAt l G a β (x - (nI (φ.2.1 1 k))) (y - (nI (φ.2.1 2 k))) (by omega) (by omega)) cw_X2_65 rfl ⟨Nat.le_of_ble_eq_true rfl, Nat.le_of_ble_eq_true rfl⟩ ⟨Nat.le_of_ble_eq_true rfl, Nat.le_of_ble_eq_true rfl⟩ (bk.recv hK hB rfl rfl) hl.1 rfl (Nat.le_of_ble_eq_true rfl) dX2_codeOn_35 hB ?_
  refine w_top (v' := .int (nI (onI μ k x y))) (congrArg (fun z => Value.int (nI z)) (show (cAt β (x - (nI (φ.2.1 1 k))) (y - (nI (φ.2.1 2 k)))) = (onI μ k x y) from by rw [hf1, hf2]; exact cAt_on hb0 hl0 hk8 hBG hx9 hy9)) ?_
  exact hE _ _ (kr_i dX2_codeOn_38)

set_option maxHeartbeats 1000000 in
set_option maxRecDepth 100000 in
theorem c_X2_overlaps (l : Launch) (G : Gt) (fl : Nat) (φ : Sx) (μ : Sx) (a : Nat) (b : Nat) (hb0 : MIb μ) (hl0 : MIl μ) (ha8 : a < μ.1 19) (hb8 : b < μ.1 19) : Cr l G yX2_overlaps cX2_overlaps 5 ((some .boolean)) 3 [.ref fl, .int (nI a), .int (nI b)] (fun H => bk G fl (flL G fl φ) H ∧ FB G μ φ H) (some (.int (b2i (ovB μ a b)))) := by
  refine cr_entry [(0, .ref fl), (1, .int (nI a)), (2, .int (nI b))] (by decide) (Nat.le_of_ble_eq_true rfl) rfl ?_
  intro zp ze zs zm za zb zt zc Q S hK hPre hE ls hl
  have hx := S.1
  have hb := S.2.1
  obtain ⟨hF, hNB⟩ := hPre
  have h10 := hl0.1
  refine lv_iconst (v := nI 0) hx hb dX2_overlaps_0 (by decide) ?_
  refine lv_istore_n (lv' := [(3, .int (nI 0)), (0, .ref fl), (1, .int (nI a)), (2, .int (nI b))]) hx hb dX2_overlaps_1 rfl hl (by decide) rfl (fun ls hl => ?_)
  have L2 : ∀ (fu : Nat), ∀ (vy : Nat), (vy ≤ 12) → (∀ y, y < vy → ∀ x, x < 12 → ¬ (¬ (onM μ a x y = 0) ∧ ¬ (onM μ b x y = 0))) → 12 - vy < fu → ∀ ls : Array Slot, lv_has ls 5 [(0, .ref fl), (1, .int (nI a)), (2, .int (nI b)), (3, .int (nI vy))] → W zp l ze (rL 3 0 0) zs zm za zb zt zc zs.heap [] 0 0 Q (F0 zm 2 ls []) := by
    intro fu
    induction fu with
    | zero =>
      intro vy hvy hA hmu ls hl
      exact absurd hmu (Nat.not_lt_zero _)
    | succ fu ih2 =>
      intro vy hvy hA hmu ls hl
      refine lv_iload_n hx hb dX2_overlaps_2 rfl (lv_at hl 3 rfl) ?_
      refine lv_bipush (v := nI 12) hx hb dX2_overlaps_3 (by decide) ?_
      refine n_icmp_ge (tgt := 54) hx hb dX2_overlaps_5 (by decide) (by first | omega | exact Nat.lt_trans (onI_lt hb0 hl0 (by omega) _ _) (by decide)) (by decide) (fun c_5 => ?_) (fun c_5 => ?_)
      ·
        have hr : ovB μ a b = false := fnd_all (fun i hi => by
          have q := hA (i % 12) (by omega) (i / 12) (by omega)
          by_cases z : onM μ a (i / 12) (i % 12) = 0
          · rw [decide_eq_true z]; rfl
          · by_cases z2 : onM μ b (i / 12) (i % 12) = 0
            · rw [decide_eq_true z2, Bool.not_true, Bool.and_false]
            · exact absurd ⟨z, z2⟩ q)
        refine lv_iconst (v := nI 0) hx hb dX2_overlaps_54 (by decide) ?_
        refine w_top (v' := .int (b2i (ovB μ a b))) (bz_f (show (ovB μ a b) = false from hr)) ?_
        exact hE _ _ (kr_z dX2_overlaps_55)
      ·
        refine lv_iconst (v := nI 0) hx hb dX2_overlaps_8 (by decide) ?_
        refine lv_istore (lv' := [(4, .int (nI 0)), (0, .ref fl), (1, .int (nI a)), (2, .int (nI b)), (3, .int (nI vy))]) hx hb dX2_overlaps_9 hl (by decide) rfl (fun ls hl => ?_)
        have L11 : ∀ (fu : Nat), ∀ (vx : Nat), (vx ≤ 12) → (∀ x, x < vx → ¬ (¬ (onM μ a x vy = 0) ∧ ¬ (onM μ b x vy = 0))) → 12 - vx < fu → ∀ ls : Array Slot, lv_has ls 5 [(0, .ref fl), (1, .int (nI a)), (2, .int (nI b)), (3, .int (nI vy)), (4, .int (nI vx))] → W zp l ze (rL 3 0 0) zs zm za zb zt zc zs.heap [] 0 0 Q (F0 zm 11 ls []) := by
          intro fu
          induction fu with
          | zero =>
            intro vx hvx hB2 hmu ls hl
            exact absurd hmu (Nat.not_lt_zero _)
          | succ fu ih11 =>
            intro vx hvx hB2 hmu ls hl
            refine lv_iload hx hb dX2_overlaps_11 (lv_at hl 4 rfl) ?_
            refine lv_bipush (v := nI 12) hx hb dX2_overlaps_13 (by decide) ?_
            refine n_icmp_ge (tgt := 48) hx hb dX2_overlaps_15 (by decide) (by first | omega | exact Nat.lt_trans (onI_lt hb0 hl0 (by omega) _ _) (by decide)) (by decide) (fun c_15 => ?_) (fun c_15 => ?_)
            ·
              refine lv_iinc (v := (nI (vy + 1))) (lv' := [(3, .int (nI (vy + 1))), (0, .ref fl), (1, .int (nI a)), (2, .int (nI b)), (4, .int (nI vx))]) hx hb dX2_overlaps_48 hl (k := 3) rfl (inc1 _) (by decide) rfl (fun ls hl => ?_)
              refine lv_goto (tgt := 2) hx hb dX2_overlaps_51 (by decide) ?_
              exact ih2 (vy + 1) (by omega) (fun y hy x hx => by
                by_cases e : y = vy
                · rw [e]; exact hB2 x (by omega)
                · exact hA y (by omega) x hx) (by omega) ls (lv_sub hl [1, 2, 3, 0] rfl)
            ·
              refine lv_aload_n hx hb dX2_overlaps_18 rfl (lv_at hl 0 rfl) ?_
              refine lv_iload_n hx hb dX2_overlaps_19 rfl (lv_at hl 1 rfl) ?_
              refine lv_iload hx hb dX2_overlaps_20 (lv_at hl 4 rfl) ?_
              refine lv_iload_n hx hb dX2_overlaps_22 rfl (lv_at hl 3 rfl) ?_
              refine crV (rest := []) S hK (c_X2_codeOn l G fl φ μ a (nI vx) (nI vy) (by first | assumption | omega | decide) (by first | assumption | omega | decide) (by omega) (rim_n (by omega)) (rim_n (by omega))) cw_X2_68 rfl ⟨Nat.le_of_ble_eq_true rfl, Nat.le_of_ble_eq_true rfl⟩ ⟨Nat.le_of_ble_eq_true rfl, Nat.le_of_ble_eq_true rfl⟩ (bk.recv hK hF rfl rfl) hl.1 rfl (Nat.le_of_ble_eq_true rfl) dX2_overlaps_23 ⟨hF, hNB⟩ ?_
              refine n_if_eq (tgt := 42) hx hb dX2_overlaps_26 (by decide) (by first | omega | exact Nat.lt_trans (onI_lt hb0 hl0 (by omega) _ _) (by decide)) (fun c_26 => ?_) (fun c_26 => ?_)
              ·
                have hno : ¬ (¬ (onM μ a vx vy = 0) ∧ ¬ (onM μ b vx vy = 0)) := fun q => q.1 (by rw [← onI_n (μ := μ) (k := a) (x := vx) (y := vy) (by omega) (by omega)]; exact c_26)
                refine lv_iinc (v := (nI (vx + 1))) (lv' := [(4, .int (nI (vx + 1))), (0, .ref fl), (1, .int (nI a)), (2, .int (nI b)), (3, .int (nI vy))]) hx hb dX2_overlaps_42 hl (k := 4) rfl (inc1 _) (by decide) rfl (fun ls hl => ?_)
                refine lv_goto (tgt := 11) hx hb dX2_overlaps_45 (by decide) ?_
                exact ih11 (vx + 1) (by omega) (fun x hx => by
                  by_cases e : x = vx
                  · rw [e]; exact hno
                  · exact hB2 x (by omega)) (by omega) ls (lv_sub hl [1, 2, 3, 4, 0] rfl)
              ·
                refine lv_aload_n hx hb dX2_overlaps_29 rfl (lv_at hl 0 rfl) ?_
                refine lv_iload_n hx hb dX2_overlaps_30 rfl (lv_at hl 2 rfl) ?_
                refine lv_iload hx hb dX2_overlaps_31 (lv_at hl 4 rfl) ?_
                refine lv_iload_n hx hb dX2_overlaps_33 rfl (lv_at hl 3 rfl) ?_
                refine crV (rest := []) S hK (c_X2_codeOn l G fl φ μ b (nI vx) (nI vy) (by first | assumption | omega | decide) (by first | assumption | omega | decide) (by omega) (rim_n (by omega)) (rim_n (by omega))) cw_X2_68 rfl ⟨Nat.le_of_ble_eq_true rfl, Nat.le_of_ble_eq_true rfl⟩ ⟨Nat.le_of_ble_eq_true rfl, Nat.le_of_ble_eq_true rfl⟩ (bk.recv hK hF rfl rfl) hl.1 rfl (Nat.le_of_ble_eq_true rfl) dX2_overlaps_34 ⟨hF, hNB⟩ ?_
                refine n_if_eq (tgt := 42) hx hb dX2_overlaps_37 (by decide) (by first | omega | exact Nat.lt_trans (onI_lt hb0 hl0 (by omega) _ _) (by decide)) (fun c_37 => ?_) (fun c_37 => ?_)
                ·
                  have hno : ¬ (¬ (onM μ a vx vy = 0) ∧ ¬ (onM μ b vx vy = 0)) := fun q => q.2 (by rw [← onI_n (μ := μ) (k := b) (x := vx) (y := vy) (by omega) (by omega)]; exact c_37)
                  refine lv_iinc (v := (nI (vx + 1))) (lv' := [(4, .int (nI (vx + 1))), (0, .ref fl), (1, .int (nI a)), (2, .int (nI b)), (3, .int (nI vy))]) hx hb dX2_overlaps_42 hl (k := 4) rfl (inc1 _) (by decide) rfl (fun ls hl => ?_)
                  refine lv_goto (tgt := 11) hx hb dX2_overlaps_45 (by decide) ?_
                  exact ih11 (vx + 1) (by omega) (fun x hx => by
                    by_cases e : x = vx
                    · rw [e]; exact hno
                    · exact hB2 x (by omega)) (by omega) ls (lv_sub hl [1, 2, 3, 4, 0] rfl)
                ·
                  rw [onI_n (by omega) (by omega)] at c_26 c_37
                  have hr : ovB μ a b = true := fnd_y (i := 12 * vx + vy) (by omega) (by
                    rw [show (12 * vx + vy) / 12 = vx from by omega, show (12 * vx + vy) % 12 = vy from by omega, decide_eq_false c_26, decide_eq_false c_37]
                    rfl)
                  refine lv_iconst (v := nI 1) hx hb dX2_overlaps_40 (by decide) ?_
                  refine w_top (v' := .int (b2i (ovB μ a b))) (bz_t (show (ovB μ a b) = true from hr)) ?_
                  exact hE _ _ (kr_z dX2_overlaps_41)
        exact L11 ((12 - 0) + 1) 0 (Nat.zero_le _) (fun x hx => absurd hx (Nat.not_lt_zero x)) (Nat.lt_succ_self _) ls (lv_sub hl [1, 2, 3, 4, 0] rfl)
  exact L2 ((12 - 0) + 1) 0 (Nat.zero_le _) (fun y hy => absurd hy (Nat.not_lt_zero y)) (Nat.lt_succ_self _) ls (lv_sub hl [1, 2, 3, 0] rfl)

set_option maxHeartbeats 1000000 in
set_option maxRecDepth 100000 in
theorem c_X2_firstOverlap (l : Launch) (G : Gt) (fl : Nat) (φ : Sx) (μ : Sx) (hb0 : MIb μ) (hl0 : MIl μ) : Cr l G yX2_firstOverlap cX2_firstOverlap 3 ((some .int)) 4 [.ref fl] (fun H => bk G fl (flL G fl φ) H ∧ FB G μ φ H) (some (.int (overlap_M μ))) := by
  refine cr_entry [(0, .ref fl)] (by decide) (Nat.le_of_ble_eq_true rfl) rfl ?_
  intro zp ze zs zm za zb zt zc Q S hK hPre hE ls hl
  have hx := S.1
  have hb := S.2.1
  obtain ⟨hF, hNB⟩ := hPre
  have h10 := hl0.1
  obtain ⟨hf3, hf1, hf2, hfB⟩ := id hNB
  refine lv_iconst (v := nI 0) hx hb dX2_firstOverlap_0 (by decide) ?_
  refine lv_istore_n (lv' := [(1, .int (nI 0)), (0, .ref fl)]) hx hb dX2_firstOverlap_1 rfl hl (by decide) rfl (fun ls hl => ?_)
  have L2 : ∀ (fu : Nat), ∀ (va : Nat), (va ≤ μ.1 19) → (fnd (fun a => (ovA μ a).isSome) (μ.1 19) 0 = fnd (fun a => (ovA μ a).isSome) (μ.1 19 - va) va) → μ.1 19 - va < fu → ∀ ls : Array Slot, lv_has ls 3 [(0, .ref fl), (1, .int (nI va))] → W zp l ze (rL 4 0 0) zs zm za zb zt zc zs.heap [] 0 0 Q (F0 zm 2 ls []) := by
    intro fu
    induction fu with
    | zero =>
      intro va hva hA hmu ls hl
      exact absurd hmu (Nat.not_lt_zero _)
    | succ fu ih2 =>
      intro va hva hA hmu ls hl
      refine lv_iload_n hx hb dX2_firstOverlap_2 rfl (lv_at hl 1 rfl) ?_
      refine lv_aload_n hx hb dX2_firstOverlap_3 rfl (lv_at hl 0 rfl) ?_
      refine kg (C := RX2) (T := TX2) (N := 4) (ci := 1) (k := 3) (v := .int (nI (φ.1 3))) S hK rfl inX2 (by decide) q_111 dX2_firstOverlap_4 hF rfl rfl ?_
      refine n_icmp_ge (tgt := 50) hx hb dX2_firstOverlap_7 (by decide) (by omega) (by omega) (fun c_7 => ?_) (fun c_7 => ?_)
      ·
        have hr : overlap_M μ = -9 := ovl_n (hA.trans (by rw [show μ.1 19 - va = 0 from by omega]; rfl))
        refine lv_bipush (v := (-9)) hx hb dX2_firstOverlap_50 (by decide) ?_
        refine w_top (v' := .int (overlap_M μ)) (congrArg (fun z => Value.int z) (show (-9) = (overlap_M μ) from hr.symm)) ?_
        exact hE _ _ (kr_i dX2_firstOverlap_52)
      ·
        refine lv_iload_n hx hb dX2_firstOverlap_10 rfl (lv_at hl 1 rfl) ?_
        refine lv_iconst (v := nI 1) hx hb dX2_firstOverlap_11 (by decide) ?_
        refine n_iadd hx hb dX2_firstOverlap_12 ?_
        refine lv_istore_n (lv' := [(2, .int (nI (va + 1))), (0, .ref fl), (1, .int (nI va))]) hx hb dX2_firstOverlap_13 rfl hl (by decide) rfl (fun ls hl => ?_)
        have L14 : ∀ (fu : Nat), ∀ (vb : Nat), (va + 1 ≤ vb ∧ vb ≤ μ.1 19) → (ovA μ va = fnd (fun b => ovB μ va b) (μ.1 19 - vb) vb) → μ.1 19 - vb < fu → ∀ ls : Array Slot, lv_has ls 3 [(0, .ref fl), (1, .int (nI va)), (2, .int (nI vb))] → W zp l ze (rL 4 0 0) zs zm za zb zt zc zs.heap [] 0 0 Q (F0 zm 14 ls []) := by
          intro fu
          induction fu with
          | zero =>
            intro vb hvb hB2 hmu ls hl
            exact absurd hmu (Nat.not_lt_zero _)
          | succ fu ih14 =>
            intro vb hvb hB2 hmu ls hl
            refine lv_iload_n hx hb dX2_firstOverlap_14 rfl (lv_at hl 2 rfl) ?_
            refine lv_aload_n hx hb dX2_firstOverlap_15 rfl (lv_at hl 0 rfl) ?_
            refine kg (C := RX2) (T := TX2) (N := 4) (ci := 1) (k := 3) (v := .int (nI (φ.1 3))) S hK rfl inX2 (by decide) q_111 dX2_firstOverlap_16 hF rfl rfl ?_
            refine n_icmp_ge (tgt := 44) hx hb dX2_firstOverlap_19 (by decide) (by omega) (by omega) (fun c_19 => ?_) (fun c_19 => ?_)
            ·
              refine lv_iinc (v := (nI (va + 1))) (lv' := [(1, .int (nI (va + 1))), (0, .ref fl), (2, .int (nI vb))]) hx hb dX2_firstOverlap_44 hl (k := 1) rfl (inc1 _) (by decide) rfl (fun ls hl => ?_)
              refine lv_goto (tgt := 2) hx hb dX2_firstOverlap_47 (by decide) ?_
              exact ih2 (va + 1) (by omega) (hA.trans (by rw [show μ.1 19 - va = (μ.1 19 - (va + 1)) + 1 from by omega]; exact fnd_f (P := fun a => (ovA μ a).isSome) (by show (ovA μ va).isSome = false; rw [hB2, show μ.1 19 - vb = 0 from by omega]; rfl))) (by omega) ls (lv_sub hl [1, 0] rfl)
            ·
              refine lv_aload_n hx hb dX2_firstOverlap_22 rfl (lv_at hl 0 rfl) ?_
              refine lv_iload_n hx hb dX2_firstOverlap_23 rfl (lv_at hl 1 rfl) ?_
              refine lv_iload_n hx hb dX2_firstOverlap_24 rfl (lv_at hl 2 rfl) ?_
              refine crV (rest := []) S hK (c_X2_overlaps l G fl φ μ va vb (by first | assumption | omega | decide) (by first | assumption | omega | decide) (by omega) (by omega)) cw_X2_32 rfl ⟨Nat.le_of_ble_eq_true rfl, Nat.le_of_ble_eq_true rfl⟩ ⟨Nat.le_of_ble_eq_true rfl, Nat.le_of_ble_eq_true rfl⟩ (bk.recv hK hF rfl rfl) hl.1 rfl (Nat.le_of_ble_eq_true rfl) dX2_firstOverlap_25 ⟨hF, hNB⟩ ?_
              refine z_if_eq (tgt := 38) hx hb dX2_firstOverlap_28 (by decide) (fun c_28 => ?_) (fun c_28 => ?_)
              ·
                refine lv_iinc (v := (nI (vb + 1))) (lv' := [(2, .int (nI (vb + 1))), (0, .ref fl), (1, .int (nI va))]) hx hb dX2_firstOverlap_38 hl (k := 2) rfl (inc1 _) (by decide) rfl (fun ls hl => ?_)
                refine lv_goto (tgt := 14) hx hb dX2_firstOverlap_41 (by decide) ?_
                exact ih14 (vb + 1) (by omega) (hB2.trans (by rw [show μ.1 19 - vb = (μ.1 19 - (vb + 1)) + 1 from by omega]; exact fnd_f (P := fun b => ovB μ va b) c_28)) (by omega) ls (lv_sub hl [1, 2, 0] rfl)
              ·
                have hs : ovA μ va = some vb := hB2.trans (by rw [show μ.1 19 - vb = (μ.1 19 - (vb + 1)) + 1 from by omega]; exact fnd_t (P := fun b => ovB μ va b) c_28)
                have hs2 : fnd (fun a => (ovA μ a).isSome) (μ.1 19) 0 = some va := hA.trans (by rw [show μ.1 19 - va = (μ.1 19 - (va + 1)) + 1 from by omega]; exact fnd_t (P := fun a => (ovA μ a).isSome) (by show (ovA μ va).isSome = true; rw [hs]; rfl))
                have hr := ovl_s hs2 hs
                refine lv_bipush (v := nI 10) hx hb dX2_firstOverlap_31 (by decide) ?_
                refine lv_iload_n hx hb dX2_firstOverlap_33 rfl (lv_at hl 1 rfl) ?_
                refine n_imul hx hb dX2_firstOverlap_34 ?_
                refine lv_iload_n hx hb dX2_firstOverlap_35 rfl (lv_at hl 2 rfl) ?_
                refine n_iadd hx hb dX2_firstOverlap_36 ?_
                refine w_top (v' := .int (overlap_M μ)) (show (.int (nI ((10 * va) + vb)) : Value) = .int (overlap_M μ) from (congrArg (fun z => Value.int z) hr.symm)) ?_
                exact hE _ _ (kr_i dX2_firstOverlap_37)
        exact L14 ((μ.1 19 - (va + 1)) + 1) (va + 1) (by omega) rfl (Nat.lt_succ_self _) ls (lv_sub hl [1, 2, 0] rfl)
  exact L2 ((μ.1 19 - 0) + 1) 0 (Nat.zero_le _) rfl (Nat.lt_succ_self _) ls (lv_sub hl [1, 0] rfl)

set_option maxHeartbeats 1000000 in
set_option maxRecDepth 100000 in
theorem c_X2_faceX (l : Launch) (G : Gt) (fl : Nat) (φ : Sx) (μ : Sx) (k : Nat) (f : Nat) (i : Nat) (hb0 : MIb μ) (hl0 : MIl μ) (hk8 : k < μ.1 19) (hf8 : f < fcL μ k) (hq : plM μ k f = some i) : Cr l G yX2_faceX cX2_faceX 4 ((some .int)) 0 [.ref fl, .int (nI k), .int (nI f)] (fun H => bk G fl (flL G fl φ) H ∧ FB G μ φ H) (some (.int (nI (i / 12)))) := by
  refine cr_entry [(0, .ref fl), (1, .int (nI k)), (2, .int (nI f))] (by decide) (Nat.le_of_ble_eq_true rfl) rfl ?_
  intro zp ze zs zm za zb zt zc Q S hK hPre hE ls hl
  have hx := S.1
  have hb := S.2.1
  obtain ⟨hF, hNB⟩ := hPre
  have h10 := hl0.1
  obtain ⟨hf3, hf1, hf2, hfB⟩ := id hNB
  obtain ⟨a, β, ha1, hB, hBG⟩ := hfB k hk8
  obtain ⟨hp9, hpx, hpy⟩ := hl0.2 k hk8
  have hBS := hb0.2 _ hp9
  obtain ⟨⟨⟨hs1, hs2⟩, ⟨hs3, hs4⟩, hs5⟩, -⟩ := id hBS
  obtain ⟨hg0, hg1, hg2, hg3, hg4, hgF⟩ := id hBG
  obtain ⟨hfp1, hfp2⟩ := hgF.1 f hf8
  obtain ⟨hpe, hpl1, hpl2⟩ := pl_e hb0 hl0 hk8 hfp1 hfp2
  have hi := Option.some.inj (hq.symm.trans hpe)
  refine lv_aload_n hx hb dX2_faceX_0 rfl (lv_at hl 0 rfl) ?_
  refine kg (C := RX2) (T := TX2) (N := 4) (ci := 1) (k := 0) (v := .ref (fl + 1)) S hK rfl inX2 (by decide) q_108 dX2_faceX_1 hF rfl rfl ?_
  refine lv_iload_n hx hb dX2_faceX_4 rfl (lv_at hl 1 rfl) ?_
  refine kql (f := φ.2.2 0) S hK dX2_faceX_5 1 2 hF rfl rfl (by decide) rfl (by omega) ?_
  rw [show φ.2.2 0 k = some a from ha1]
  dsimp only [va_rf]
  refine lv_astore_n (lv' := [(3, .ref a), (0, .ref fl), (1, .int (nI k)), (2, .int (nI f))]) hx hb dX2_faceX_6 rfl hl (by decide) rfl (fun ls hl => ?_)
  refine lv_aload_n hx hb dX2_faceX_7 rfl (lv_at hl 0 rfl) ?_
  refine lv_ifnonnull (tgt := 15) hx hb dX2_faceX_8 (by decide) ?_
  refine lv_aload_n hx hb dX2_faceX_15 rfl (lv_at hl 1 rfl) ?_
  refine kg (C := RX2) (T := TX2) (N := 4) (ci := 1) (k := 1) (v := .ref (fl + 2)) S hK rfl inX2 (by decide) q_109 dX2_faceX_16 hF rfl rfl ?_
  refine lv_iload_n hx hb dX2_faceX_19 rfl (lv_at hl 2 rfl) ?_
  refine kil (f := φ.2.1 1) S hK dX2_faceX_20 2 hF rfl (by decide) rfl (by omega) ?_
  refine lv_aload_n hx hb dX2_faceX_21 rfl (lv_at hl 0 rfl) ?_
  refine kg (C := RX0) (T := TX0) (N := 9) (ci := 0) (k := 5) (v := .ref (a + 2)) S hK rfl inX0 (by decide) q_206 dX2_faceX_22 hB rfl rfl ?_
  refine lv_iload_n hx hb dX2_faceX_25 rfl (lv_at hl 3 rfl) ?_
  refine kil (f := β.2.1 5) S hK dX2_faceX_26 2 hB rfl (by decide) rfl (by have h1 : f < μ.2.1 3 (μ.2.1 12 k) := hf8; omega) ?_
  refine lv_iconst (v := nI 5) hx hb dX2_faceX_27 (by decide) ?_
  refine n_irem hx hb dX2_faceX_28 (by omega) (by decide) (by decide) ?_
  refine n_iadd hx hb dX2_faceX_29 ?_
  refine w_top (v' := .int (nI (i / 12))) (congrArg (fun z => Value.int (nI z)) (show ((φ.2.1 1 k) + ((β.2.1 5 f) % 5)) = (i / 12) from by rw [hf1]; omega)) ?_
  exact hE _ _ (kr_i dX2_faceX_30)

set_option maxHeartbeats 1000000 in
set_option maxRecDepth 100000 in
theorem c_X2_faceY (l : Launch) (G : Gt) (fl : Nat) (φ : Sx) (μ : Sx) (k : Nat) (f : Nat) (i : Nat) (hb0 : MIb μ) (hl0 : MIl μ) (hk8 : k < μ.1 19) (hf8 : f < fcL μ k) (hq : plM μ k f = some i) : Cr l G yX2_faceY cX2_faceY 4 ((some .int)) 0 [.ref fl, .int (nI k), .int (nI f)] (fun H => bk G fl (flL G fl φ) H ∧ FB G μ φ H) (some (.int (nI (i % 12)))) := by
  refine cr_entry [(0, .ref fl), (1, .int (nI k)), (2, .int (nI f))] (by decide) (Nat.le_of_ble_eq_true rfl) rfl ?_
  intro zp ze zs zm za zb zt zc Q S hK hPre hE ls hl
  have hx := S.1
  have hb := S.2.1
  obtain ⟨hF, hNB⟩ := hPre
  have h10 := hl0.1
  obtain ⟨hf3, hf1, hf2, hfB⟩ := id hNB
  obtain ⟨a, β, ha1, hB, hBG⟩ := hfB k hk8
  obtain ⟨hp9, hpx, hpy⟩ := hl0.2 k hk8
  have hBS := hb0.2 _ hp9
  obtain ⟨⟨⟨hs1, hs2⟩, ⟨hs3, hs4⟩, hs5⟩, -⟩ := id hBS
  obtain ⟨hg0, hg1, hg2, hg3, hg4, hgF⟩ := id hBG
  obtain ⟨hfp1, hfp2⟩ := hgF.1 f hf8
  obtain ⟨hpe, hpl1, hpl2⟩ := pl_e hb0 hl0 hk8 hfp1 hfp2
  have hi := Option.some.inj (hq.symm.trans hpe)
  refine lv_aload_n hx hb dX2_faceY_0 rfl (lv_at hl 0 rfl) ?_
  refine kg (C := RX2) (T := TX2) (N := 4) (ci := 1) (k := 0) (v := .ref (fl + 1)) S hK rfl inX2 (by decide) q_108 dX2_faceY_1 hF rfl rfl ?_
  refine lv_iload_n hx hb dX2_faceY_4 rfl (lv_at hl 1 rfl) ?_
  refine kql (f := φ.2.2 0) S hK dX2_faceY_5 1 2 hF rfl rfl (by decide) rfl (by omega) ?_
  rw [show φ.2.2 0 k = some a from ha1]
  dsimp only [va_rf]
  refine lv_astore_n (lv' := [(3, .ref a), (0, .ref fl), (1, .int (nI k)), (2, .int (nI f))]) hx hb dX2_faceY_6 rfl hl (by decide) rfl (fun ls hl => ?_)
  refine lv_aload_n hx hb dX2_faceY_7 rfl (lv_at hl 0 rfl) ?_
  refine lv_ifnonnull (tgt := 15) hx hb dX2_faceY_8 (by decide) ?_
  refine lv_aload_n hx hb dX2_faceY_15 rfl (lv_at hl 1 rfl) ?_
  refine kg (C := RX2) (T := TX2) (N := 4) (ci := 1) (k := 2) (v := .ref (fl + 3)) S hK rfl inX2 (by decide) q_110 dX2_faceY_16 hF rfl rfl ?_
  refine lv_iload_n hx hb dX2_faceY_19 rfl (lv_at hl 2 rfl) ?_
  refine kil (f := φ.2.1 2) S hK dX2_faceY_20 3 hF rfl (by decide) rfl (by omega) ?_
  refine lv_aload_n hx hb dX2_faceY_21 rfl (lv_at hl 0 rfl) ?_
  refine kg (C := RX0) (T := TX0) (N := 9) (ci := 0) (k := 5) (v := .ref (a + 2)) S hK rfl inX0 (by decide) q_206 dX2_faceY_22 hB rfl rfl ?_
  refine lv_iload_n hx hb dX2_faceY_25 rfl (lv_at hl 3 rfl) ?_
  refine kil (f := β.2.1 5) S hK dX2_faceY_26 2 hB rfl (by decide) rfl (by have h1 : f < μ.2.1 3 (μ.2.1 12 k) := hf8; omega) ?_
  refine lv_iconst (v := nI 5) hx hb dX2_faceY_27 (by decide) ?_
  refine n_idiv hx hb dX2_faceY_28 (by omega) (by decide) (by decide) ?_
  refine n_iadd hx hb dX2_faceY_29 ?_
  refine w_top (v' := .int (nI (i % 12))) (congrArg (fun z => Value.int (nI z)) (show ((φ.2.1 2 k) + ((β.2.1 5 f) / 5)) = (i % 12) from by rw [hf2]; omega)) ?_
  exact hE _ _ (kr_i dX2_faceY_30)

section KAB
variable {p : Program} {l : Launch} {e : Env} {R : Room} {s : State} {m : MethodId} {args : Array Value} {below : List Frame} {meth : Method} {c : Code} {H : Heap} {locs : List Loc} {cells slots : Nat} {Q : State → Prop} {cc : ByteArray} {pc nL : Nat} {ls : Array Slot} {rest : List Value} {own : String}
theorem k_abs {idx : Nat} (S : CallFix p m c cc nL s args WT own) (h1 : Cond.methodLink own idx Lib.Math.abs.name ∈ WT) (h2 : Cond.static Lib.Math.abs.name ∈ WT) (h3 : Cond.initialized "java/lang/Math" ∈ WT) (h4 : Cond.code Lib.Math.abs.name Lib.Math.abs.code 1 (some .int) ∈ WT) (hls : ls.size = nL) (hR : 1 ≤ R.frames ∧ 21 ≤ R.locals) (hW : (rest.map fun v => v.category).sum ≤ 8) (hc : cells ≤ R.cells) (hs : slots ≤ R.slots) {x : Int32} (hdg : decode cc pc = .ok (.invokestatic idx, 3))
    (kk : W p l e R s m args below meth c H locs cells slots Q (F0 m (pc + 3) ls (.int (abI x) :: rest))) : W p l e R s m args below meth c H locs cells slots Q (F0 m pc ls (.int x :: rest)) := by
  refine va_mabs S.1 S.2.1 (by rw [S.2.2.1]; exact hls.symm) S.2.2.2.1 (S.2.2.2.2 _ h1) (S.2.2.2.2 _ h2) (S.2.2.2.2 _ h3) (S.2.2.2.2 _ h4) hR.1 (by omega) hc hs hdg ?_
  have e : (if 0 ≤ x then x else 0 - x) = abI x := by
    unfold abI
    by_cases h : x < 0
    · rw [if_pos h, if_neg (Int32.not_le.mpr h), Int32.zero_sub]
    · rw [if_neg h, if_pos (Int32.not_lt.mp h)]
  rw [e]
  exact kk
end KAB

set_option maxHeartbeats 1000000 in
set_option maxRecDepth 100000 in
theorem c_X2_distance (l : Launch) (G : Gt) (fl : Nat) (φ : Sx) (μ : Sx) (k : Nat) (f : Nat) (i : Nat) (o : Nat) (g : Nat) (j : Nat) (hb0 : MIb μ) (hl0 : MIl μ) (hk8 : k < μ.1 19) (hf8 : f < fcL μ k) (hq : plM μ k f = some i) (ho8 : o < μ.1 19) (hg8 : g < fcL μ o) (hq2 : plM μ o g = some j) : Cr l G yX2_distance cX2_distance 5 ((some .int)) 1 [.ref fl, .int (nI k), .int (nI f), .int (nI o), .int (nI g)] (fun H => bk G fl (flL G fl φ) H ∧ FB G μ φ H) (some (.int (nI ((i / 12 - j / 12 + (j / 12 - i / 12)) + (i % 12 - j % 12 + (j % 12 - i % 12)))))) := by
  refine cr_entry [(0, .ref fl), (1, .int (nI k)), (2, .int (nI f)), (3, .int (nI o)), (4, .int (nI g))] (by decide) (Nat.le_of_ble_eq_true rfl) rfl ?_
  intro zp ze zs zm za zb zt zc Q S hK hPre hE ls hl
  have hx := S.1
  have hb := S.2.1
  obtain ⟨hF, hNB⟩ := hPre
  have hi144 := (fnd_lt _ _ hq).2.1
  have hj144 := (fnd_lt _ _ hq2).2.1
  refine lv_aload_n hx hb dX2_distance_0 rfl (lv_at hl 0 rfl) ?_
  refine lv_iload_n hx hb dX2_distance_1 rfl (lv_at hl 1 rfl) ?_
  refine lv_iload_n hx hb dX2_distance_2 rfl (lv_at hl 2 rfl) ?_
  refine crV (rest := []) S hK (c_X2_faceX l G fl φ μ k f i (by first | assumption | omega | decide) (by first | assumption | omega | decide) (by first | assumption | omega | decide) (by first | assumption | omega | decide) hq) cw_X2_71 rfl ⟨Nat.le_of_ble_eq_true rfl, Nat.le_of_ble_eq_true rfl⟩ ⟨Nat.le_of_ble_eq_true rfl, Nat.le_of_ble_eq_true rfl⟩ (bk.recv hK hF rfl rfl) hl.1 rfl (Nat.le_of_ble_eq_true rfl) dX2_distance_3 ⟨hF, hNB⟩ ?_
  refine lv_aload_n hx hb dX2_distance_6 rfl (lv_at hl 0 rfl) ?_
  refine lv_iload_n hx hb dX2_distance_7 rfl (lv_at hl 3 rfl) ?_
  refine lv_iload hx hb dX2_distance_8 (lv_at hl 4 rfl) ?_
  refine crV (rest := [.int (nI (i / 12))]) S hK (c_X2_faceX l G fl φ μ o g j (by first | assumption | omega | decide) (by first | assumption | omega | decide) ho8 hg8 hq2) cw_X2_71 rfl ⟨Nat.le_of_ble_eq_true rfl, Nat.le_of_ble_eq_true rfl⟩ ⟨Nat.le_of_ble_eq_true rfl, Nat.le_of_ble_eq_true rfl⟩ (bk.recv hK hF rfl rfl) hl.1 rfl (Nat.le_of_ble_eq_true rfl) dX2_distance_10 ⟨hF, hNB⟩ ?_
  refine lv_isub hx hb dX2_distance_13 ?_
  refine k_abs S q_672 q_673 q_88 q_674 hl.1 ⟨by decide, by decide⟩ (Nat.le_of_ble_eq_true rfl) (Nat.zero_le _) (Nat.zero_le _) dX2_distance_14 ?_
  refine w_top (v' := .int (nI (i / 12 - j / 12 + (j / 12 - i / 12)))) (congrArg (fun z => Value.int z) (ab_e _ (by omega) _ (by omega))) ?_
  refine lv_aload_n hx hb dX2_distance_17 rfl (lv_at hl 0 rfl) ?_
  refine lv_iload_n hx hb dX2_distance_18 rfl (lv_at hl 1 rfl) ?_
  refine lv_iload_n hx hb dX2_distance_19 rfl (lv_at hl 2 rfl) ?_
  refine crV (rest := [.int (nI (i / 12 - j / 12 + (j / 12 - i / 12)))]) S hK (c_X2_faceY l G fl φ μ k f i (by first | assumption | omega | decide) (by first | assumption | omega | decide) (by first | assumption | omega | decide) (by first | assumption | omega | decide) hq) cw_X2_79 rfl ⟨Nat.le_of_ble_eq_true rfl, Nat.le_of_ble_eq_true rfl⟩ ⟨Nat.le_of_ble_eq_true rfl, Nat.le_of_ble_eq_true rfl⟩ (bk.recv hK hF rfl rfl) hl.1 rfl (Nat.le_of_ble_eq_true rfl) dX2_distance_20 ⟨hF, hNB⟩ ?_
  refine lv_aload_n hx hb dX2_distance_23 rfl (lv_at hl 0 rfl) ?_
  refine lv_iload_n hx hb dX2_distance_24 rfl (lv_at hl 3 rfl) ?_
  refine lv_iload hx hb dX2_distance_25 (lv_at hl 4 rfl) ?_
  refine crV (rest := [.int (nI (i % 12)), .int (nI (i / 12 - j / 12 + (j / 12 - i / 12)))]) S hK (c_X2_faceY l G fl φ μ o g j (by first | assumption | omega | decide) (by first | assumption | omega | decide) ho8 hg8 hq2) cw_X2_79 rfl ⟨Nat.le_of_ble_eq_true rfl, Nat.le_of_ble_eq_true rfl⟩ ⟨Nat.le_of_ble_eq_true rfl, Nat.le_of_ble_eq_true rfl⟩ (bk.recv hK hF rfl rfl) hl.1 rfl (Nat.le_of_ble_eq_true rfl) dX2_distance_27 ⟨hF, hNB⟩ ?_
  refine lv_isub hx hb dX2_distance_30 ?_
  refine k_abs S q_672 q_673 q_88 q_674 hl.1 ⟨by decide, by decide⟩ (Nat.le_of_ble_eq_true rfl) (Nat.zero_le _) (Nat.zero_le _) dX2_distance_31 ?_
  refine w_top (v' := .int (nI (i % 12 - j % 12 + (j % 12 - i % 12)))) (congrArg (fun z => Value.int z) (ab_e _ (by omega) _ (by omega))) ?_
  refine n_iadd hx hb dX2_distance_34 ?_
  exact hE _ _ (kr_i dX2_distance_35)
