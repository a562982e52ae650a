
/-! BOARDS RENAMED, ALIKE -/
def nmL (G : Gt) (_ : Nat) (σ : Sx) : List va_E := [iA G 5 (σ.2.1 0)]
def nm0 : Sx := (fun _ => 0, fun _ _ => 0, fun _ _ => none)
def dgt (dg f j : Nat) : Nat := dg / 10 ^ (f - 1 - j) % 10
def rnC (dg f : Nat) (c : Nat → Nat) (k : Nat) : Nat := if c k < 10 then c k else 10 + dgt dg f (c k - 10)
def PM (dg f : Nat) : Prop := ∀ j, j < f → ∃ i, i < f ∧ dgt dg f i = j
theorem sur_inj : ∀ (f : Nat) (g : Nat → Nat), (∀ j, j < f → ∃ i, i < f ∧ g i = j) → (∀ i, i < f → g i < f) ∧ ∀ i k, i < f → k < f → g i = g k → i = k
  | 0, g, _ => ⟨fun i hi => absurd hi (Nat.not_lt_zero i), fun i _ hi => absurd hi (Nat.not_lt_zero i)⟩
  | f + 1, g, h => by
    obtain ⟨i0, h0, e0⟩ := h f (by omega)
    have hs : ∀ j, j < f → ∃ i, i < f ∧ (if i = i0 then g f else g i) = j := by
      intro j hj
      obtain ⟨i, hi, e⟩ := h j (by omega)
      have hne : ¬ i = i0 := fun q => by rw [q, e0] at e; omega
      by_cases q : i = f
      · refine ⟨i0, by omega, ?_⟩
        rw [if_pos rfl, ← q]
        exact e
      · exact ⟨i, by omega, by rw [if_neg hne]; exact e⟩
    obtain ⟨h1, h2⟩ := sur_inj f (fun i => if i = i0 then g f else g i) hs
    have hlt : ∀ i, i < f + 1 → ¬ i = i0 → g i < f := by
      intro i hi hne
      by_cases q : i = f
      · have := h1 i0 (by omega)
        rw [if_pos rfl] at this
        rw [q]
        exact this
      · have := h1 i (by omega)
        rw [if_neg hne] at this
        exact this
    refine ⟨fun i hi => ?_, fun i k hi hk e => ?_⟩
    · by_cases q : i = i0
      · rw [q, e0]; omega
      · have := hlt i hi q; omega
    · by_cases qi : i = i0
      · by_cases qk : k = i0
        · omega
        · have := hlt k hk qk
          rw [qi, e0] at e
          omega
      · by_cases qk : k = i0
        · have := hlt i hi qi
          rw [qk, e0] at e
          omega
        · by_cases fi : i = f
          · by_cases fk : k = f
            · omega
            · have := h2 i0 k (by omega) (by omega)
              rw [if_pos rfl, if_neg qk, ← fi] at this
              exact absurd (this e).symm qk
          · by_cases fk : k = f
            · have := h2 i i0 (by omega) (by omega)
              rw [if_pos rfl, if_neg qi, ← fk] at this
              exact absurd (this e) qi
            · have := h2 i k (by omega) (by omega)
              rw [if_neg qi, if_neg qk] at this
              exact this e
theorem BS_rn {w h f dg : Nat} {c : Nat → Nat} (q : BS w h f c) (hp : PM dg f) : BS w h f (rnC dg f c) := by
  obtain ⟨a, b, d, e, g⟩ := q
  obtain ⟨p1, p2⟩ := sur_inj f (dgt dg f) hp
  refine ⟨a, fun k hk z => ?_, fun k hk => ?_, fun j hj => ?_, fun k i hk hi h10 he => ?_⟩
  · unfold rnC
    rw [b k hk z]
    rfl
  · unfold rnC
    rcases d k hk with z | z | z
    · rw [z]; exact Or.inl rfl
    · rw [z]; exact Or.inr (Or.inl rfl)
    · rw [if_neg (by omega)]
      have := p1 (c k - 10) (by omega)
      exact Or.inr (Or.inr ⟨by omega, by omega⟩)
  · obtain ⟨i, hi, ei⟩ := hp j hj
    obtain ⟨k, hk, ek⟩ := e i hi
    refine ⟨k, hk, ?_⟩
    unfold rnC
    rw [if_neg (by omega), show c k - 10 = i from by omega, ei]
  · have ck : 10 ≤ c k := by
      by_cases z : c k < 10
      · unfold rnC at h10
        rw [if_pos z] at h10
        exact h10
      · omega
    unfold rnC at he
    rw [if_neg (by omega)] at he
    have ci : 10 ≤ c i := by
      by_cases z : c i < 10
      · rw [if_pos z] at he
        omega
      · omega
    rw [if_neg (by omega)] at he
    have dk := d k hk
    have di := d i hi
    have := p2 (c k - 10) (c i - 10) (by omega) (by omega) (by omega)
    exact g k i hk hi ck (by omega)
theorem im1 : ∀ v, v < 7 → ((nI v - nI 1 < 0) ↔ v = 0) := by decide +kernel
theorem im2 : ∀ v, v < 7 → nI (v + 1) - nI 1 = nI v := by decide +kernel
theorem im3 : ∀ v, v < 7 → nI v + Int32.ofInt (-1) = nI v - nI 1 := by decide +kernel
theorem div_10 (dg n : Nat) : dg / 10 ^ n / 10 = dg / 10 ^ (n + 1) := by rw [Nat.div_div_eq_div_mul, Nat.pow_succ]
/-- whether one is the other turned, mirrored -/
abbrev asC (w1 h1 : Nat) (c1 : Nat → Nat) (w2 h2 : Nat) (c2 : Nat → Nat) (mi q : Nat) : Prop := (w2 = (if q % 2 = 1 then h1 else w1) ∧ h2 = (if q % 2 = 1 then w1 else h1)) ∧ ∀ x, x < w1 → ∀ y, y < h1 → c1 (5 * y + x) = c2 (5 * (trn w1 h1 x y mi q).2 + (trn w1 h1 x y mi q).1)

set_option maxHeartbeats 1000000 in
set_option maxRecDepth 100000 in
theorem c_X0_renamed (l : Launch) (G : Gt) (nb : Nat) (b : Nat) (β : Sx) (w : Nat) (h : Nat) (f : Nat) (c : Nat → Nat) (dg : Nat) (hBS : BS w h f c) (hBG : BG w h f c β) (hpm : PM dg f) (hdg : dg < 2 ^ 31) : Ct l G yX0_renamed cX0_renamed 8 ((some (.object "PuzzleParts$Board"))) 2 5 71 [.ref b, .int (nI dg)] (fun H => bk G b (bdL G b β) H ∧ H.size = nb) (some (.ref nb)) (fun H => bk G b (bdL G b β) H ∧ ∃ σ : Sx, bk G nb (bdL G nb σ) H ∧ PD w h (rnC dg f c) σ) (fun q => nb ≤ q) := by
  refine ct_entry [(0, .ref b), (1, .int (nI dg))] (by decide) (Nat.le_of_ble_eq_true rfl) rfl ?_
  intro zp ze zs zm za zb zt zc Q S hK hPre hin hE ls hl
  have hx := S.1
  have hb := S.2.1
  obtain ⟨hB, hz⟩ := hPre
  have hS : va_S (fun q => nb ≤ q) zs.heap zs.heap [] := va_S.rf
  obtain ⟨⟨⟨hs1, hs2⟩, ⟨hs3, hs4⟩, hs5⟩, hsO, hsC, hsE, hsU⟩ := id hBS
  obtain ⟨hg0, hg1, hg2, hg3, hg4, hgF⟩ := id hBG
  have hb4 : b + 4 ≤ nb := by have q := bk.lt (k := 3) hB (show 3 < 4 by decide); omega
  have hUd := BS_uq (BS_rn hBS hpm)
  refine kn (C := RX0) (T := TX0) (N := 9) (ci := 0) tyX0 tyX0_ok S hK rfl inX0 q_421 q_189 q_83 [.int (nI 0), .int (nI 0), .null, .int (nI 0), .int (nI 0), .null, .null, .long (lN 0), .long (lN 0)] (fun j hj => by first | (rcases (show j = 0 ∨ j = 1 ∨ j = 2 ∨ j = 3 ∨ j = 4 ∨ j = 5 ∨ j = 6 ∨ j = 7 ∨ j = 8 by omega) with rfl | rfl | rfl | rfl | rfl | rfl | rfl | rfl | rfl <;> rfl)) dX0_renamed_0 (by decide) (by decide) (h := nb) hz hS (fun H hT hS hz hk => ?_)
  replace hB := hB.kept (fun q h1 h2 => hk q (by have h3 : q < b + 4 := h2; omega))
  refine lv_dup hx hb dX0_renamed_3 rfl ?_
  refine lv_aload_n hx hb dX0_renamed_4 rfl (lv_at hl 0 rfl) ?_
  refine kg (C := RX0) (T := TX0) (N := 9) (ci := 0) (k := 0) (v := .int (nI (β.1 0))) S hK rfl inX0 (by decide) q_194 dX0_renamed_5 hB rfl rfl ?_
  refine lv_aload_n hx hb dX0_renamed_8 rfl (lv_at hl 0 rfl) ?_
  refine kg (C := RX0) (T := TX0) (N := 9) (ci := 0) (k := 1) (v := .int (nI (β.1 1))) S hK rfl inX0 (by decide) q_196 dX0_renamed_9 hB rfl rfl ?_
  refine ctI (rest := [.ref nb]) S hK (c_X0_init l G nb (β.1 0) (β.1 1)) cw_X0_74 rfl ⟨Nat.le_of_ble_eq_true rfl, Nat.le_of_ble_eq_true rfl⟩ ⟨Nat.le_of_ble_eq_true rfl, Nat.le_of_ble_eq_true rfl⟩ hl.1 rfl (Nat.le_of_ble_eq_true rfl) dX0_renamed_12 ⟨hT, hz⟩ hS (fun _ h => by first | exact h | omega) (fun H locs hPost hz2 hk hS => ?_)
  obtain ⟨hT, hz⟩ := hPost
  replace hB := hB.over hk (fun q h1 h2 => by have h3 : q < b + 4 := h2; intro hA1; omega)
  refine lv_astore_n (lv' := [(2, .ref nb), (0, .ref b), (1, .int (nI dg))]) hx hb dX0_renamed_15 rfl hl (by decide) rfl (fun ls hl => ?_)
  refine lv_iconst (v := nI 5) hx hb dX0_renamed_16 (by decide) ?_
  have hA5 : bk G (nb + 4) [] H := fun k e hk => by simp at hk
  refine kna S hK q_122 dX0_renamed_17 5 rfl (by decide) (by decide) (by decide) hA5 hz hS (fun H hA5 hS hz hk => ?_)
  replace hA5 : bk G (nb + 4) ([iA G 5 (fun _ => 0)]) H := hA5
  replace hz : H.size = nb + 4 + 1 := hz
  replace hB := hB.kept (fun q h1 h2 => hk q (by have h3 : q < b + 4 := h2; omega))
  replace hT := hT.kept (fun q h1 h2 => hk q (by have h3 : q < nb + 4 := h2; omega))
  replace hA5 : bk G (nb + 4) (nmL G (nb + 4) nm0) H := hA5
  refine lv_astore_n (lv' := [(3, .ref (nb + 4 + 0)), (2, .ref nb), (0, .ref b), (1, .int (nI dg))]) hx hb dX0_renamed_19 rfl hl (by decide) rfl (fun ls hl => ?_)
  refine lv_iload_n hx hb dX0_renamed_20 rfl (lv_at hl 3 rfl) ?_
  refine lv_istore (lv' := [(4, .int (nI dg)), (3, .ref (nb + 4 + 0)), (2, .ref nb), (0, .ref b), (1, .int (nI dg))]) hx hb dX0_renamed_21 hl (by decide) rfl (fun ls hl => ?_)
  refine lv_aload_n hx hb dX0_renamed_23 rfl (lv_at hl 3 rfl) ?_
  refine kg (C := RX0) (T := TX0) (N := 9) (ci := 0) (k := 4) (v := .int (nI (β.1 4))) S hK rfl inX0 (by decide) q_201 dX0_renamed_24 hB rfl rfl ?_
  refine lv_iconst (v := nI 1) hx hb dX0_renamed_27 (by decide) ?_
  refine lv_isub hx hb dX0_renamed_28 ?_
  refine lv_istore (lv' := [(5, .int ((nI (β.1 4)) - (nI 1))), (4, .int (nI dg)), (3, .ref (nb + 4 + 0)), (2, .ref nb), (0, .ref b), (1, .int (nI dg))]) hx hb dX0_renamed_29 hl (by decide) rfl (fun ls hl => ?_)
  have L31 : ∀ (fu : Nat), ∀ (vj : Nat) (τ : Sx), (vj ≤ f) → (∀ j, vj ≤ j → j < f → τ.2.1 0 j = dgt dg f j) → vj < fu → ∀ (H : Heap) (locs : List Loc), bk G b (bdL G b β) H → bk G nb (bdL G nb (bd0 (β.1 0) (β.1 1))) H → bk G (nb + 4) (nmL G (nb + 4) τ) H → va_S (fun q => nb ≤ q) zs.heap H locs → H.size = nb + 5 → ∀ ls : Array Slot, lv_has ls 8 [(0, .ref b), (2, .ref nb), (3, .ref (nb + 4 + 0)), (4, .int (nI (dg / 10 ^ (f - vj)))), (5, .int (nI vj - nI 1))] → W zp l ze (rL 2 5 71) zs zm za zb zt zc H locs 5 71 Q (F0 zm 31 ls []) := by
    intro fu
    induction fu with
    | zero =>
      intro vj τ hvj hnm hmu H locs hB hT hA5 hS hz ls hl
      exact absurd hmu (Nat.not_lt_zero _)
    | succ fu ih31 =>
      intro vj τ hvj hnm hmu H locs hB hT hA5 hS hz ls hl
      refine lv_iload hx hb dX0_renamed_31 (lv_at hl 4 rfl) ?_
      refine lv_if_lt (tgt := 58) hx hb dX0_renamed_33 (by decide) (fun c_33 => ?_) (fun c_33 => ?_)
      ·
        have hj0 : vj = 0 := (im1 vj (by omega)).mp c_33
        subst hj0
        refine lv_iconst (v := nI 0) hx hb dX0_renamed_58 (by decide) ?_
        refine lv_istore (lv' := [(5, .int (nI 0)), (0, .ref b), (2, .ref nb), (3, .ref (nb + 4 + 0)), (4, .int (nI (dg / 10 ^ (f - 0))))]) hx hb dX0_renamed_59 hl (by decide) rfl (fun ls hl => ?_)
        have L61 : ∀ (fu : Nat), ∀ (vy : Nat) (ρ : Sx), (vy ≤ h) → (PD w h (pt (dnI w h vy 0) (rnC dg f c)) ρ) → h - vy < fu → ∀ (H : Heap) (locs : List Loc), bk G b (bdL G b β) H → bk G nb (bdL G nb ρ) H → bk G (nb + 4) (nmL G (nb + 4) τ) H → va_S (fun q => nb ≤ q) zs.heap H locs → H.size = nb + 5 → ∀ ls : Array Slot, lv_has ls 8 [(0, .ref b), (2, .ref nb), (3, .ref (nb + 4 + 0)), (5, .int (nI vy))] → W zp l ze (rL 2 5 71) zs zm za zb zt zc H locs 5 71 Q (F0 zm 61 ls []) := by
          intro fu
          induction fu with
          | zero =>
            intro vy ρ hvy hP hmu H locs hB hT hA5 hS hz ls hl
            exact absurd hmu (Nat.not_lt_zero _)
          | succ fu ih61 =>
            intro vy ρ hvy hP hmu H locs hB hT hA5 hS hz ls hl
            refine lv_iload hx hb dX0_renamed_61 (lv_at hl 3 rfl) ?_
            refine lv_aload_n hx hb dX0_renamed_63 rfl (lv_at hl 0 rfl) ?_
            refine kg (C := RX0) (T := TX0) (N := 9) (ci := 0) (k := 1) (v := .int (nI (β.1 1))) S hK rfl inX0 (by decide) q_196 dX0_renamed_64 hB rfl rfl ?_
            refine n_icmp_ge (tgt := 134) hx hb dX0_renamed_67 (by decide) (by first | omega | exact Nat.lt_of_le_of_lt (Nat.div_le_self _ _) hdg) (by first | omega | exact Nat.lt_of_le_of_lt (Nat.div_le_self _ _) hdg) (fun c_67 => ?_) (fun c_67 => ?_)
            ·
              refine lv_aload_n hx hb dX0_renamed_134 rfl (lv_at hl 1 rfl) ?_
              exact hE _ _ _ _ _ _ (kr_a dX0_renamed_135) hS (by decide) (by decide) ⟨hB, _, hT, PD_congr hP (pt_all (fun k hk => by
                by_cases z : k % 5 < w ∧ k / 5 < h
                · exact Or.inl (decide_eq_true (by omega))
                · exact Or.inr (by unfold rnC; rw [hsO k hk z]; rfl)))⟩
            ·
              refine lv_iconst (v := nI 0) hx hb dX0_renamed_70 (by decide) ?_
              refine lv_istore (lv' := [(6, .int (nI 0)), (0, .ref b), (2, .ref nb), (3, .ref (nb + 4 + 0)), (5, .int (nI vy))]) hx hb dX0_renamed_71 hl (by decide) rfl (fun ls hl => ?_)
              have L73 : ∀ (fu : Nat), ∀ (vx : Nat) (ρ2 : Sx), (vx ≤ w) → (PD w h (pt (dnI w h vy vx) (rnC dg f c)) ρ2) → w - vx < fu → ∀ (H : Heap) (locs : List Loc), bk G b (bdL G b β) H → bk G nb (bdL G nb ρ2) H → bk G (nb + 4) (nmL G (nb + 4) τ) H → va_S (fun q => nb ≤ q) zs.heap H locs → H.size = nb + 5 → ∀ ls : Array Slot, lv_has ls 8 [(0, .ref b), (2, .ref nb), (3, .ref (nb + 4 + 0)), (5, .int (nI vy)), (6, .int (nI vx))] → W zp l ze (rL 2 5 71) zs zm za zb zt zc H locs 5 71 Q (F0 zm 73 ls []) := by
                intro fu
                induction fu with
                | zero =>
                  intro vx ρ2 hvx hP2 hmu H locs hB hT hA5 hS hz ls hl
                  exact absurd hmu (Nat.not_lt_zero _)
                | succ fu ih73 =>
                  intro vx ρ2 hvx hP2 hmu H locs hB hT hA5 hS hz ls hl
                  refine lv_iload hx hb dX0_renamed_73 (lv_at hl 4 rfl) ?_
                  refine lv_aload_n hx hb dX0_renamed_75 rfl (lv_at hl 0 rfl) ?_
                  refine kg (C := RX0) (T := TX0) (N := 9) (ci := 0) (k := 0) (v := .int (nI (β.1 0))) S hK rfl inX0 (by decide) q_194 dX0_renamed_76 hB rfl rfl ?_
                  refine n_icmp_ge (tgt := 128) hx hb dX0_renamed_79 (by decide) (by first | omega | exact Nat.lt_of_le_of_lt (Nat.div_le_self _ _) hdg) (by first | omega | exact Nat.lt_of_le_of_lt (Nat.div_le_self _ _) hdg) (fun c_79 => ?_) (fun c_79 => ?_)
                  ·
                    refine lv_iinc (v := (nI (vy + 1))) (lv' := [(5, .int (nI (vy + 1))), (0, .ref b), (2, .ref nb), (3, .ref (nb + 4 + 0)), (6, .int (nI vx))]) hx hb dX0_renamed_128 hl (k := 3) rfl (inc1 _) (by decide) rfl (fun ls hl => ?_)
                    refine lv_goto (tgt := 61) hx hb dX0_renamed_131 (by decide) ?_
                    exact ih61 (vy + 1) ρ2 (by omega) (PD_congr hP2 (pt_c (fun k hk => dec_e (by omega)))) (by omega) _ _ hB hT hA5 hS hz ls (lv_sub hl [1, 2, 3, 0] rfl)
                  ·
                    have hcv := hg2 (5 * vy + vx) (by omega)
                    have hcb := hsC (5 * vy + vx) (by omega)
                    refine lv_aload_n hx hb dX0_renamed_82 rfl (lv_at hl 0 rfl) ?_
                    refine lv_iload hx hb dX0_renamed_83 (lv_at hl 4 rfl) ?_
                    refine lv_iload hx hb dX0_renamed_85 (lv_at hl 3 rfl) ?_
                    refine crV (rest := []) S hK (c_X0_codeAt_n l G b β vx vy (by omega) (by omega) (by omega) (by omega)) cw_X0_65 rfl ⟨Nat.le_of_ble_eq_true rfl, Nat.le_of_ble_eq_true rfl⟩ ⟨Nat.le_of_ble_eq_true rfl, Nat.le_of_ble_eq_true rfl⟩ (bk.recv hK hB rfl rfl) hl.1 rfl (Nat.le_of_ble_eq_true rfl) dX0_renamed_87 hB ?_
                    refine lv_istore (lv' := [(7, .int (nI (β.2.1 2 (5 * vy + vx)))), (0, .ref b), (2, .ref nb), (3, .ref (nb + 4 + 0)), (5, .int (nI vy)), (6, .int (nI vx))]) hx hb dX0_renamed_90 hl (by decide) rfl (fun ls hl => ?_)
                    refine lv_aload_n hx hb dX0_renamed_92 rfl (lv_at hl 2 rfl) ?_
                    refine lv_iload hx hb dX0_renamed_93 (lv_at hl 5 rfl) ?_
                    refine lv_iload hx hb dX0_renamed_95 (lv_at hl 4 rfl) ?_
                    refine lv_iload hx hb dX0_renamed_97 (lv_at hl 0 rfl) ?_
                    refine lv_bipush (v := nI 10) hx hb dX0_renamed_99 (by decide) ?_
                    refine n_icmp_ge (tgt := 109) hx hb dX0_renamed_101 (by decide) (by first | omega | exact Nat.lt_of_le_of_lt (Nat.div_le_self _ _) hdg) (by decide) (fun c_101 => ?_) (fun c_101 => ?_)
                    ·
                      refine lv_bipush (v := nI 10) hx hb dX0_renamed_109 (by decide) ?_
                      refine lv_aload_n hx hb dX0_renamed_111 rfl (lv_at hl 3 rfl) ?_
                      refine lv_iload hx hb dX0_renamed_112 (lv_at hl 0 rfl) ?_
                      refine lv_bipush (v := nI 10) hx hb dX0_renamed_114 (by decide) ?_
                      refine n_isub hx hb dX0_renamed_116 (by omega) ?_
                      refine kil (f := τ.2.1 0) S hK dX0_renamed_117 0 hA5 rfl (by decide) rfl (by omega) ?_
                      refine n_iadd hx hb dX0_renamed_118 ?_
                      have hv9 : 10 + τ.2.1 0 (β.2.1 2 (5 * vy + vx) - 10) = rnC dg f c (5 * vy + vx) := by
                        unfold rnC
                        rw [if_neg (by omega), hnm _ (by omega) (by omega), hcv]
                      refine ctVv (rest := []) S hK (c_X0_set l G (nb + 5) nb ρ2 vx vy (10 + (τ.2.1 0 ((β.2.1 2 (5 * vy + vx)) - 10))) w h (dnI w h vy vx) (dnI w h vy (vx + 1)) (rnC dg f c) hP2 (by omega) (by omega) (by omega) hUd (decide_eq_false (by omega)) (fun i hi => dec_or (by omega)) hv9) cw_X0_77 rfl ⟨Nat.le_of_ble_eq_true rfl, Nat.le_of_ble_eq_true rfl⟩ ⟨Nat.le_of_ble_eq_true rfl, Nat.le_of_ble_eq_true rfl⟩ (bk.recv hK hT rfl rfl) hl.1 rfl (Nat.le_of_ble_eq_true rfl) dX0_renamed_119 ⟨hT, hz⟩ hS (fun _ h => by first | exact h | omega) (fun H locs hPost hz2 hk hS => ?_)
                      obtain ⟨hz, ⟨ρ3, hT, hP3⟩⟩ := hPost
                      replace hB := hB.over hk (fun q h1 h2 => by have h3 : q < b + 4 := h2; intro hA1; omega)
                      replace hA5 := hA5.over hk (fun q h1 h2 => by have h3 : q < nb + 4 + 1 := h2; intro hA1; omega)
                      refine lv_iinc (v := (nI (vx + 1))) (lv' := [(6, .int (nI (vx + 1))), (7, .int (nI (β.2.1 2 (5 * vy + vx)))), (0, .ref b), (2, .ref nb), (3, .ref (nb + 4 + 0)), (5, .int (nI vy))]) hx hb dX0_renamed_122 hl (k := 5) rfl (inc1 _) (by decide) rfl (fun ls hl => ?_)
                      refine lv_goto (tgt := 73) hx hb dX0_renamed_125 (by decide) ?_
                      exact ih73 (vx + 1) ρ3 (by omega) hP3 (by omega) _ _ hB hT hA5 hS hz ls (lv_sub hl [2, 3, 4, 5, 0] rfl)
                    ·
                      refine lv_iload hx hb dX0_renamed_104 (lv_at hl 0 rfl) ?_
                      refine lv_goto (tgt := 119) hx hb dX0_renamed_106 (by decide) ?_
                      have hv9 : β.2.1 2 (5 * vy + vx) = rnC dg f c (5 * vy + vx) := by
                        unfold rnC
                        rw [if_pos (by omega)]
                        exact hcv
                      refine ctVv (rest := []) S hK (c_X0_set l G (nb + 5) nb ρ2 vx vy (β.2.1 2 (5 * vy + vx)) w h (dnI w h vy vx) (dnI w h vy (vx + 1)) (rnC dg f c) hP2 (by omega) (by omega) (by omega) hUd (decide_eq_false (by omega)) (fun i hi => dec_or (by omega)) hv9) cw_X0_77 rfl ⟨Nat.le_of_ble_eq_true rfl, Nat.le_of_ble_eq_true rfl⟩ ⟨Nat.le_of_ble_eq_true rfl, Nat.le_of_ble_eq_true rfl⟩ (bk.recv hK hT rfl rfl) hl.1 rfl (Nat.le_of_ble_eq_true rfl) dX0_renamed_119 ⟨hT, hz⟩ hS (fun _ h => by first | exact h | omega) (fun H locs hPost hz2 hk hS => ?_)
                      obtain ⟨hz, ⟨ρ3, hT, hP3⟩⟩ := hPost
                      replace hB := hB.over hk (fun q h1 h2 => by have h3 : q < b + 4 := h2; intro hA1; omega)
                      replace hA5 := hA5.over hk (fun q h1 h2 => by have h3 : q < nb + 4 + 1 := h2; intro hA1; omega)
                      refine lv_iinc (v := (nI (vx + 1))) (lv' := [(6, .int (nI (vx + 1))), (7, .int (nI (β.2.1 2 (5 * vy + vx)))), (0, .ref b), (2, .ref nb), (3, .ref (nb + 4 + 0)), (5, .int (nI vy))]) hx hb dX0_renamed_122 hl (k := 5) rfl (inc1 _) (by decide) rfl (fun ls hl => ?_)
                      refine lv_goto (tgt := 73) hx hb dX0_renamed_125 (by decide) ?_
                      exact ih73 (vx + 1) ρ3 (by omega) hP3 (by omega) _ _ hB hT hA5 hS hz ls (lv_sub hl [2, 3, 4, 5, 0] rfl)
              exact L73 ((w - 0) + 1) 0 ρ (Nat.zero_le _) hP (Nat.lt_succ_self _) _ _ hB hT hA5 hS hz ls (lv_sub hl [1, 2, 3, 4, 0] rfl)
        exact L61 ((h - 0) + 1) 0 (bd0 (β.1 0) (β.1 1)) (Nat.zero_le _) (by rw [hg0, hg1]; exact PD_new2 (fun k hk => decide_eq_false (by omega))) (Nat.lt_succ_self _) _ _ hB hT hA5 hS hz ls (lv_sub hl [1, 2, 3, 0] rfl)
      ·
        obtain ⟨vi, rfl⟩ : ∃ vi, vj = vi + 1 := by
          cases vj with
          | zero => exact absurd ((im1 0 (by omega)).mpr rfl) c_33
          | succ q => exact ⟨q, rfl⟩
        replace hl := lv_eq 4 hl rfl (v2 := .int (nI vi)) (congrArg (fun z => Value.int z) (im2 vi (by omega)))
        refine lv_aload_n hx hb dX0_renamed_36 rfl (lv_at hl 2 rfl) ?_
        refine lv_iload hx hb dX0_renamed_37 (lv_at hl 4 rfl) ?_
        refine lv_iload hx hb dX0_renamed_39 (lv_at hl 3 rfl) ?_
        refine lv_bipush (v := nI 10) hx hb dX0_renamed_41 (by decide) ?_
        refine n_irem hx hb dX0_renamed_43 (by first | omega | exact Nat.lt_of_le_of_lt (Nat.div_le_self _ _) hdg) (by decide) (by decide) ?_
        refine kis S hK dX0_renamed_44 0 hA5 rfl (by decide) rfl (by first | omega | exact Nat.lt_of_le_of_lt (Nat.div_le_self _ _) hdg) rfl (L1 := nmL G (nb + 4) (uA τ 0 vi ((dg / 10 ^ (f - (vi + 1))) % 10))) rfl hS (by first | exact ⟨by omega, by omega⟩ | omega) (fun H locs hA5 hS hz2 hk => ?_)
        replace hz := hz2.trans hz
        replace hB := hB.kept (fun q h1 h2 => hk q (by have h3 : q < b + 4 := h2; omega))
        replace hT := hT.kept (fun q h1 h2 => hk q (by have h3 : q < nb + 4 := h2; omega))
        refine lv_iload hx hb dX0_renamed_45 (lv_at hl 3 rfl) ?_
        refine lv_bipush (v := nI 10) hx hb dX0_renamed_47 (by decide) ?_
        refine n_idiv hx hb dX0_renamed_49 (by first | omega | exact Nat.lt_of_le_of_lt (Nat.div_le_self _ _) hdg) (by decide) (by decide) ?_
        refine lv_istore (lv' := [(4, .int (nI ((dg / 10 ^ (f - (vi + 1))) / 10))), (0, .ref b), (2, .ref nb), (3, .ref (nb + 4 + 0)), (5, .int (nI vi))]) hx hb dX0_renamed_50 hl (by decide) rfl (fun ls hl => ?_)
        refine lv_iinc (v := nI vi - nI 1) (lv' := [(5, .int (nI vi - nI 1)), (4, .int (nI ((dg / 10 ^ (f - (vi + 1))) / 10))), (0, .ref b), (2, .ref nb), (3, .ref (nb + 4 + 0))]) hx hb dX0_renamed_52 hl (k := 4) rfl (im3 vi (by omega)) (by decide) rfl (fun ls hl => ?_)
        refine lv_goto (tgt := 31) hx hb dX0_renamed_55 (by decide) ?_
        replace hl := lv_eq 1 hl rfl (v2 := .int (nI (dg / 10 ^ (f - vi)))) (congrArg (fun z => Value.int (nI z)) (show ((dg / 10 ^ (f - (vi + 1))) / 10) = (dg / 10 ^ (f - vi)) from by rw [div_10, show f - (vi + 1) + 1 = f - vi from by omega]))
        exact ih31 vi (uA τ 0 vi ((dg / 10 ^ (f - (vi + 1))) % 10)) (by omega) (fun j h1 h2 => by
          show uN (τ.2.1 0) vi _ j = _
          by_cases e : j = vi
          · rw [e, uN_s]
            unfold dgt
            rw [show f - 1 - vi = f - (vi + 1) from by omega]
          · rw [uN_n e]; exact hnm j (by omega) h2) (by omega) _ _ hB hT hA5 hS hz ls (lv_sub hl [2, 3, 4, 1, 0] rfl)
  replace hl := lv_eq 1 hl rfl (v2 := .int (nI (dg / 10 ^ (f - f)))) (congrArg (fun z => Value.int (nI z)) (show dg = (dg / 10 ^ (f - f)) from by rw [Nat.sub_self]; exact (Nat.div_one dg).symm))
  replace hl := lv_eq 0 hl rfl (v2 := .int (nI f - nI 1)) (congrArg (fun z => Value.int z) (show ((nI (β.1 4)) - (nI 1)) = (nI f - nI 1) from by rw [hg4]))
  exact L31 (f + 1) f nm0 (Nat.le_refl _) (fun j h1 h2 => absurd h1 (by omega)) (Nat.lt_succ_self _) _ _ hB hT hA5 hS hz ls (lv_sub hl [4, 3, 2, 1, 0] rfl)

set_option maxHeartbeats 1000000 in
set_option maxRecDepth 100000 in
theorem c_X0_codeAfter (l : Launch) (G : Gt) (a : Nat) (α : Sx) (b : Nat) (β : Sx) (x : Nat) (y : Nat) (q : Nat) (hw1 : α.1 0 ≤ 5) (hh1 : α.1 1 ≤ 4) (hw2 : β.1 0 ≤ 5) (hh2 : β.1 1 ≤ 4) (hd : (q % 2 = 0 ∧ β.1 0 = α.1 0 ∧ β.1 1 = α.1 1) ∨ (q % 2 = 1 ∧ β.1 0 = α.1 1 ∧ β.1 1 = α.1 0)) (hx1 : x < α.1 0) (hy1 : y < α.1 1) (hq4 : q < 4) : Cr l G yX0_codeAfter cX0_codeAfter 10 ((some .int)) 2 [.ref b, .ref a, .int (nI x), .int (nI y), .int (nI q)] (fun H => bk G a (bdL G a α) H ∧ bk G b (bdL G b β) H) (some (.int (nI (β.2.1 2 (5 * (rtt q (α.1 0) (α.1 1) x y).2 + (rtt q (α.1 0) (α.1 1) x y).1))))) := by
  refine cr_entry [(0, .ref b), (1, .ref a), (2, .int (nI x)), (3, .int (nI y)), (4, .int (nI q))] (by decide) (Nat.le_of_ble_eq_true rfl) rfl ?_
  intro zp ze zs zm za zb zt zc Q S hK hPre hE ls hl
  have hx := S.1
  have hb := S.2.1
  obtain ⟨hO, hB⟩ := hPre
  refine lv_iload_n hx hb dX0_codeAfter_0 rfl (lv_at hl 2 rfl) ?_
  refine lv_istore (lv' := [(5, .int (nI x)), (0, .ref b), (1, .ref a), (2, .int (nI x)), (3, .int (nI y)), (4, .int (nI q))]) hx hb dX0_codeAfter_1 hl (by decide) rfl (fun ls hl => ?_)
  refine lv_iload_n hx hb dX0_codeAfter_3 rfl (lv_at hl 4 rfl) ?_
  refine lv_istore (lv' := [(6, .int (nI y)), (5, .int (nI x)), (0, .ref b), (1, .ref a), (2, .int (nI x)), (3, .int (nI y)), (4, .int (nI q))]) hx hb dX0_codeAfter_4 hl (by decide) rfl (fun ls hl => ?_)
  refine lv_iconst (v := nI 0) hx hb dX0_codeAfter_6 (by decide) ?_
  refine lv_istore (lv' := [(7, .int (nI 0)), (6, .int (nI y)), (5, .int (nI x)), (0, .ref b), (1, .ref a), (2, .int (nI x)), (3, .int (nI y)), (4, .int (nI q))]) hx hb dX0_codeAfter_7 hl (by decide) rfl (fun ls hl => ?_)
  have L9 : ∀ (fu : Nat), ∀ (vi : Nat) (va : Nat) (vb : Nat) (vw : Nat) (vh : Nat), (vi ≤ q) → ((vi % 2 = 0 ∧ vw = α.1 0 ∧ vh = α.1 1) ∨ (vi % 2 = 1 ∧ vw = α.1 1 ∧ vh = α.1 0)) → (va < vw) → (vb < vh) → (rtt (q - vi) vw vh va vb = rtt q (α.1 0) (α.1 1) x y) → q - vi < fu → ∀ ls : Array Slot, lv_has ls 10 [(0, .ref b), (1, .ref a), (4, .int (nI q)), (5, .int (nI va)), (6, .int (nI vb)), (7, .int (nI vi))] → W zp l ze (rL 2 0 0) zs zm za zb zt zc zs.heap [] 0 0 Q (F0 zm 9 ls []) := by
    intro fu
    induction fu with
    | zero =>
      intro vi va vb vw vh hvi hdi hva hvb hrt hmu ls hl
      exact absurd hmu (Nat.not_lt_zero _)
    | succ fu ih9 =>
      intro vi va vb vw vh hvi hdi hva hvb hrt hmu ls hl
      refine lv_iload hx hb dX0_codeAfter_9 (lv_at hl 5 rfl) ?_
      refine lv_iload hx hb dX0_codeAfter_11 (lv_at hl 2 rfl) ?_
      refine n_icmp_ge (tgt := 59) hx hb dX0_codeAfter_13 (by decide) (by omega) (by omega) (fun c_13 => ?_) (fun c_13 => ?_)
      ·
        rw [show q - vi = 0 from by omega] at hrt
        replace hrt : (va, vb) = rtt q (α.1 0) (α.1 1) x y := hrt
        refine lv_aload_n hx hb dX0_codeAfter_59 rfl (lv_at hl 0 rfl) ?_
        refine lv_iload hx hb dX0_codeAfter_60 (lv_at hl 3 rfl) ?_
        refine lv_iload hx hb dX0_codeAfter_62 (lv_at hl 4 rfl) ?_
        refine crV (rest := []) S hK (c_X0_codeAt_n l G b β va vb hw2 hh2 (by omega) (by omega)) cw_X0_65 rfl ⟨Nat.le_of_ble_eq_true rfl, Nat.le_of_ble_eq_true rfl⟩ ⟨Nat.le_of_ble_eq_true rfl, Nat.le_of_ble_eq_true rfl⟩ (bk.recv hK hB rfl rfl) hl.1 rfl (Nat.le_of_ble_eq_true rfl) dX0_codeAfter_64 hB ?_
        refine w_top (v' := .int (nI (β.2.1 2 (5 * (rtt q (α.1 0) (α.1 1) x y).2 + (rtt q (α.1 0) (α.1 1) x y).1)))) (congrArg (fun z => Value.int (nI z)) (show (β.2.1 2 (5 * vb + va)) = (β.2.1 2 (5 * (rtt q (α.1 0) (α.1 1) x y).2 + (rtt q (α.1 0) (α.1 1) x y).1)) from by rw [← hrt])) ?_
        exact hE _ _ (kr_i dX0_codeAfter_67)
      ·
        refine lv_iload hx hb dX0_codeAfter_16 (lv_at hl 5 rfl) ?_
        refine lv_iconst (v := nI 2) hx hb dX0_codeAfter_18 (by decide) ?_
        refine n_irem hx hb dX0_codeAfter_19 (by omega) (by decide) (by decide) ?_
        refine n_if_ne (tgt := 30) hx hb dX0_codeAfter_20 (by decide) (Nat.lt_trans (Nat.mod_lt _ (by decide)) (by decide)) (fun c_20 => ?_) (fun c_20 => ?_)
        ·
          refine lv_aload_n hx hb dX0_codeAfter_30 rfl (lv_at hl 1 rfl) ?_
          refine kg (C := RX0) (T := TX0) (N := 9) (ci := 0) (k := 0) (v := .int (nI (α.1 0))) S hK rfl inX0 (by decide) q_194 dX0_codeAfter_31 hO rfl rfl ?_
          refine w_top (v' := .int (nI vh)) (congrArg (fun z => Value.int (nI z)) (show α.1 0 = vh from by omega)) ?_
          refine lv_istore (lv' := [(8, .int (nI vh)), (0, .ref b), (1, .ref a), (4, .int (nI q)), (5, .int (nI va)), (6, .int (nI vb)), (7, .int (nI vi))]) hx hb dX0_codeAfter_34 hl (by decide) rfl (fun ls hl => ?_)
          refine lv_iload hx hb dX0_codeAfter_36 (lv_at hl 4 rfl) ?_
          refine lv_istore (lv' := [(9, .int (nI va)), (8, .int (nI vh)), (0, .ref b), (1, .ref a), (4, .int (nI q)), (5, .int (nI va)), (6, .int (nI vb)), (7, .int (nI vi))]) hx hb dX0_codeAfter_38 hl (by decide) rfl (fun ls hl => ?_)
          refine lv_iload hx hb dX0_codeAfter_40 (lv_at hl 1 rfl) ?_
          refine lv_iconst (v := nI 1) hx hb dX0_codeAfter_42 (by decide) ?_
          refine n_isub hx hb dX0_codeAfter_43 (by omega) ?_
          refine lv_iload hx hb dX0_codeAfter_44 (lv_at hl 6 rfl) ?_
          refine n_isub hx hb dX0_codeAfter_46 (by omega) ?_
          refine lv_istore (lv' := [(5, .int (nI ((vh - 1) - vb))), (9, .int (nI va)), (8, .int (nI vh)), (0, .ref b), (1, .ref a), (4, .int (nI q)), (6, .int (nI vb)), (7, .int (nI vi))]) hx hb dX0_codeAfter_47 hl (by decide) rfl (fun ls hl => ?_)
          refine lv_iload hx hb dX0_codeAfter_49 (lv_at hl 1 rfl) ?_
          refine lv_istore (lv' := [(6, .int (nI va)), (5, .int (nI ((vh - 1) - vb))), (9, .int (nI va)), (8, .int (nI vh)), (0, .ref b), (1, .ref a), (4, .int (nI q)), (7, .int (nI vi))]) hx hb dX0_codeAfter_51 hl (by decide) rfl (fun ls hl => ?_)
          refine lv_iinc (v := (nI (vi + 1))) (lv' := [(7, .int (nI (vi + 1))), (6, .int (nI va)), (5, .int (nI ((vh - 1) - vb))), (9, .int (nI va)), (8, .int (nI vh)), (0, .ref b), (1, .ref a), (4, .int (nI q))]) hx hb dX0_codeAfter_53 hl (k := 7) rfl (inc1 _) (by decide) rfl (fun ls hl => ?_)
          refine lv_goto (tgt := 9) hx hb dX0_codeAfter_56 (by decide) ?_
          exact ih9 (vi + 1) ((vh - 1) - vb) va vh vw (by omega) (by omega) (by omega) (by omega) (by rw [← hrt, show q - vi = (q - (vi + 1)) + 1 from by omega]; rfl) (by omega) ls (lv_sub hl [5, 6, 7, 2, 1, 0] rfl)
        ·
          refine lv_aload_n hx hb dX0_codeAfter_23 rfl (lv_at hl 1 rfl) ?_
          refine kg (C := RX0) (T := TX0) (N := 9) (ci := 0) (k := 1) (v := .int (nI (α.1 1))) S hK rfl inX0 (by decide) q_196 dX0_codeAfter_24 hO rfl rfl ?_
          refine lv_goto (tgt := 34) hx hb dX0_codeAfter_27 (by decide) ?_
          refine w_top (v' := .int (nI vh)) (congrArg (fun z => Value.int (nI z)) (show α.1 1 = vh from by omega)) ?_
          refine lv_istore (lv' := [(8, .int (nI vh)), (0, .ref b), (1, .ref a), (4, .int (nI q)), (5, .int (nI va)), (6, .int (nI vb)), (7, .int (nI vi))]) hx hb dX0_codeAfter_34 hl (by decide) rfl (fun ls hl => ?_)
          refine lv_iload hx hb dX0_codeAfter_36 (lv_at hl 4 rfl) ?_
          refine lv_istore (lv' := [(9, .int (nI va)), (8, .int (nI vh)), (0, .ref b), (1, .ref a), (4, .int (nI q)), (5, .int (nI va)), (6, .int (nI vb)), (7, .int (nI vi))]) hx hb dX0_codeAfter_38 hl (by decide) rfl (fun ls hl => ?_)
          refine lv_iload hx hb dX0_codeAfter_40 (lv_at hl 1 rfl) ?_
          refine lv_iconst (v := nI 1) hx hb dX0_codeAfter_42 (by decide) ?_
          refine n_isub hx hb dX0_codeAfter_43 (by omega) ?_
          refine lv_iload hx hb dX0_codeAfter_44 (lv_at hl 6 rfl) ?_
          refine n_isub hx hb dX0_codeAfter_46 (by omega) ?_
          refine lv_istore (lv' := [(5, .int (nI ((vh - 1) - vb))), (9, .int (nI va)), (8, .int (nI vh)), (0, .ref b), (1, .ref a), (4, .int (nI q)), (6, .int (nI vb)), (7, .int (nI vi))]) hx hb dX0_codeAfter_47 hl (by decide) rfl (fun ls hl => ?_)
          refine lv_iload hx hb dX0_codeAfter_49 (lv_at hl 1 rfl) ?_
          refine lv_istore (lv' := [(6, .int (nI va)), (5, .int (nI ((vh - 1) - vb))), (9, .int (nI va)), (8, .int (nI vh)), (0, .ref b), (1, .ref a), (4, .int (nI q)), (7, .int (nI vi))]) hx hb dX0_codeAfter_51 hl (by decide) rfl (fun ls hl => ?_)
          refine lv_iinc (v := (nI (vi + 1))) (lv' := [(7, .int (nI (vi + 1))), (6, .int (nI va)), (5, .int (nI ((vh - 1) - vb))), (9, .int (nI va)), (8, .int (nI vh)), (0, .ref b), (1, .ref a), (4, .int (nI q))]) hx hb dX0_codeAfter_53 hl (k := 7) rfl (inc1 _) (by decide) rfl (fun ls hl => ?_)
          refine lv_goto (tgt := 9) hx hb dX0_codeAfter_56 (by decide) ?_
          exact ih9 (vi + 1) ((vh - 1) - vb) va vh vw (by omega) (by omega) (by omega) (by omega) (by rw [← hrt, show q - vi = (q - (vi + 1)) + 1 from by omega]; rfl) (by omega) ls (lv_sub hl [5, 6, 7, 2, 1, 0] rfl)
  exact L9 ((q - 0) + 1) 0 x y (α.1 0) (α.1 1) (Nat.zero_le _) (Or.inl ⟨rfl, rfl, rfl⟩) hx1 hy1 rfl (Nat.lt_succ_self _) ls (lv_sub hl [3, 4, 7, 2, 1, 0] rfl)

set_option maxHeartbeats 1000000 in
set_option maxRecDepth 100000 in
theorem c_X0_same (l : Launch) (G : Gt) (a : Nat) (α : Sx) (b : Nat) (β : Sx) (mi : Nat) (q : Nat) (hw1 : α.1 0 ≤ 5) (hh1 : α.1 1 ≤ 4) (hw2 : β.1 0 ≤ 5) (hh2 : β.1 1 ≤ 4) (hmi : mi < 2) (hq4 : q < 4) (hca : ∀ k, k < 20 → α.2.1 2 k < 16) (hcb : ∀ k, k < 20 → β.2.1 2 k < 16) : Cr l G yX0_same cX0_same 7 ((some .boolean)) 3 [.ref a, .ref b, .int (nI mi), .int (nI q)] (fun H => bk G a (bdL G a α) H ∧ bk G b (bdL G b β) H) (some (.int (b2i (decide (asC (α.1 0) (α.1 1) (α.2.1 2) (β.1 0) (β.1 1) (β.2.1 2) mi q))))) := by
  refine cr_entry [(0, .ref a), (1, .ref b), (2, .int (nI mi)), (3, .int (nI q))] (by decide) (Nat.le_of_ble_eq_true rfl) rfl ?_
  intro zp ze zs zm za zb zt zc Q S hK hPre hE ls hl
  have hx := S.1
  have hb := S.2.1
  obtain ⟨hO, hB⟩ := hPre
  refine lv_iload_n hx hb dX0_same_0 rfl (lv_at hl 3 rfl) ?_
  refine lv_iconst (v := nI 2) hx hb dX0_same_1 (by decide) ?_
  refine n_irem hx hb dX0_same_2 (by omega) (by decide) (by decide) ?_
  refine n_if_ne (tgt := 10) hx hb dX0_same_3 (by decide) (Nat.lt_trans (Nat.mod_lt _ (by decide)) (by decide)) (fun c_3 => ?_) (fun c_3 => ?_)
  ·
    have c3 : q % 2 = 1 := by omega
    refine lv_iconst (v := nI 0) hx hb dX0_same_10 (by decide) ?_
    refine lv_istore (lv' := [(4, .int (nI 0)), (0, .ref a), (1, .ref b), (2, .int (nI mi)), (3, .int (nI q))]) hx hb dX0_same_11 hl (by decide) rfl (fun ls hl => ?_)
    refine lv_aload_n hx hb dX0_same_13 rfl (lv_at hl 2 rfl) ?_
    refine kg (C := RX0) (T := TX0) (N := 9) (ci := 0) (k := 0) (v := .int (nI (β.1 0))) S hK rfl inX0 (by decide) q_194 dX0_same_14 hB rfl rfl ?_
    refine lv_iload hx hb dX0_same_17 (lv_at hl 0 rfl) ?_
    refine n_if_eq (tgt := 29) hx hb dX0_same_19 (by decide) (by decide) (fun c_19 => ?_) (fun c_19 => ?_)
    ·
      refine lv_aload_n hx hb dX0_same_29 rfl (lv_at hl 1 rfl) ?_
      refine kg (C := RX0) (T := TX0) (N := 9) (ci := 0) (k := 1) (v := .int (nI (α.1 1))) S hK rfl inX0 (by decide) q_196 dX0_same_30 hO rfl rfl ?_
      refine n_icmp_ne (tgt := 59) hx hb dX0_same_33 (by decide) (by omega) (by omega) (fun c_33 => ?_) (fun c_33 => ?_)
      ·
        have hr : decide (asC (α.1 0) (α.1 1) (α.2.1 2) (β.1 0) (β.1 1) (β.2.1 2) mi q) = false := decide_eq_false (fun z => by
          have z1 := z.1.1
          rw [if_pos c3] at z1
          omega)
        refine lv_iconst (v := nI 0) hx hb dX0_same_59 (by decide) ?_
        refine w_top (v' := .int (b2i (decide (asC (α.1 0) (α.1 1) (α.2.1 2) (β.1 0) (β.1 1) (β.2.1 2) mi q)))) (bz_f (show (decide (asC (α.1 0) (α.1 1) (α.2.1 2) (β.1 0) (β.1 1) (β.2.1 2) mi q)) = false from hr)) ?_
        exact hE _ _ (kr_z dX0_same_60)
      ·
        refine lv_aload_n hx hb dX0_same_36 rfl (lv_at hl 2 rfl) ?_
        refine kg (C := RX0) (T := TX0) (N := 9) (ci := 0) (k := 1) (v := .int (nI (β.1 1))) S hK rfl inX0 (by decide) q_196 dX0_same_37 hB rfl rfl ?_
        refine lv_iload hx hb dX0_same_40 (lv_at hl 0 rfl) ?_
        refine n_if_eq (tgt := 52) hx hb dX0_same_42 (by decide) (by decide) (fun c_42 => ?_) (fun c_42 => ?_)
        ·
          refine lv_aload_n hx hb dX0_same_52 rfl (lv_at hl 1 rfl) ?_
          refine kg (C := RX0) (T := TX0) (N := 9) (ci := 0) (k := 0) (v := .int (nI (α.1 0))) S hK rfl inX0 (by decide) q_194 dX0_same_53 hO rfl rfl ?_
          refine n_icmp_eq (tgt := 61) hx hb dX0_same_56 (by decide) (by omega) (by omega) (fun c_56 => ?_) (fun c_56 => ?_)
          ·
            have hd : (q % 2 = 0 ∧ β.1 0 = α.1 0 ∧ β.1 1 = α.1 1) ∨ (q % 2 = 1 ∧ β.1 0 = α.1 1 ∧ β.1 1 = α.1 0) := by omega
            refine lv_iconst (v := nI 0) hx hb dX0_same_61 (by decide) ?_
            refine lv_istore (lv' := [(5, .int (nI 0)), (4, .int (nI 0)), (0, .ref a), (1, .ref b), (2, .int (nI mi)), (3, .int (nI q))]) hx hb dX0_same_62 hl (by decide) rfl (fun ls hl => ?_)
            have L64 : ∀ (fu : Nat), ∀ (vy : Nat), (vy ≤ α.1 1) → (∀ y, y < vy → ∀ x, x < α.1 0 → α.2.1 2 (5 * y + x) = β.2.1 2 (5 * (trn (α.1 0) (α.1 1) x y mi q).2 + (trn (α.1 0) (α.1 1) x y mi q).1)) → α.1 1 - vy < fu → ∀ ls : Array Slot, lv_has ls 7 [(0, .ref a), (1, .ref b), (2, .int (nI mi)), (3, .int (nI q)), (5, .int (nI vy))] → W zp l ze (rL 3 0 0) zs zm za zb zt zc zs.heap [] 0 0 Q (F0 zm 64 ls []) := by
              intro fu
              induction fu with
              | zero =>
                intro vy hvy hE1 hmu ls hl
                exact absurd hmu (Nat.not_lt_zero _)
              | succ fu ih64 =>
                intro vy hvy hE1 hmu ls hl
                refine lv_iload hx hb dX0_same_64 (lv_at hl 4 rfl) ?_
                refine lv_aload_n hx hb dX0_same_66 rfl (lv_at hl 0 rfl) ?_
                refine kg (C := RX0) (T := TX0) (N := 9) (ci := 0) (k := 1) (v := .int (nI (α.1 1))) S hK rfl inX0 (by decide) q_196 dX0_same_67 hO rfl rfl ?_
                refine n_icmp_ge (tgt := 136) hx hb dX0_same_70 (by decide) (by omega) (by omega) (fun c_70 => ?_) (fun c_70 => ?_)
                ·
                  have hr : decide (asC (α.1 0) (α.1 1) (α.2.1 2) (β.1 0) (β.1 1) (β.2.1 2) mi q) = true := decide_eq_true (by
                    refine ⟨?_, fun x hx y hy => hE1 y (by omega) x hx⟩
                    by_cases z : q % 2 = 1
                    · rw [if_pos z, if_pos z]; omega
                    · rw [if_neg z, if_neg z]; omega)
                  refine lv_iconst (v := nI 1) hx hb dX0_same_136 (by decide) ?_
                  refine w_top (v' := .int (b2i (decide (asC (α.1 0) (α.1 1) (α.2.1 2) (β.1 0) (β.1 1) (β.2.1 2) mi q)))) (bz_t (show (decide (asC (α.1 0) (α.1 1) (α.2.1 2) (β.1 0) (β.1 1) (β.2.1 2) mi q)) = true from hr)) ?_
                  exact hE _ _ (kr_z dX0_same_137)
                ·
                  refine lv_iconst (v := nI 0) hx hb dX0_same_73 (by decide) ?_
                  refine lv_istore (lv' := [(6, .int (nI 0)), (0, .ref a), (1, .ref b), (2, .int (nI mi)), (3, .int (nI q)), (5, .int (nI vy))]) hx hb dX0_same_74 hl (by decide) rfl (fun ls hl => ?_)
                  have L76 : ∀ (fu : Nat), ∀ (vx : Nat), (vx ≤ α.1 0) → (∀ x, x < vx → α.2.1 2 (5 * vy + x) = β.2.1 2 (5 * (trn (α.1 0) (α.1 1) x vy mi q).2 + (trn (α.1 0) (α.1 1) x vy mi q).1)) → α.1 0 - vx < fu → ∀ ls : Array Slot, lv_has ls 7 [(0, .ref a), (1, .ref b), (2, .int (nI mi)), (3, .int (nI q)), (5, .int (nI vy)), (6, .int (nI vx))] → W zp l ze (rL 3 0 0) zs zm za zb zt zc zs.heap [] 0 0 Q (F0 zm 76 ls []) := by
                    intro fu
                    induction fu with
                    | zero =>
                      intro vx hvx hE2 hmu ls hl
                      exact absurd hmu (Nat.not_lt_zero _)
                    | succ fu ih76 =>
                      intro vx hvx hE2 hmu ls hl
                      refine lv_iload hx hb dX0_same_76 (lv_at hl 5 rfl) ?_
                      refine lv_aload_n hx hb dX0_same_78 rfl (lv_at hl 0 rfl) ?_
                      refine kg (C := RX0) (T := TX0) (N := 9) (ci := 0) (k := 0) (v := .int (nI (α.1 0))) S hK rfl inX0 (by decide) q_194 dX0_same_79 hO rfl rfl ?_
                      refine n_icmp_ge (tgt := 130) hx hb dX0_same_82 (by decide) (by omega) (by omega) (fun c_82 => ?_) (fun c_82 => ?_)
                      ·
                        refine lv_iinc (v := (nI (vy + 1))) (lv' := [(5, .int (nI (vy + 1))), (0, .ref a), (1, .ref b), (2, .int (nI mi)), (3, .int (nI q)), (6, .int (nI vx))]) hx hb dX0_same_130 hl (k := 4) rfl (inc1 _) (by decide) rfl (fun ls hl => ?_)
                        refine lv_goto (tgt := 64) hx hb dX0_same_133 (by decide) ?_
                        exact ih64 (vy + 1) (by omega) (fun y hy x hx => by
                          by_cases e : y = vy
                          · rw [e]; exact hE2 x (by omega)
                          · exact hE1 y (by omega) x hx) (by omega) ls (lv_sub hl [1, 2, 3, 4, 0] rfl)
                      ·
                        refine lv_aload_n hx hb dX0_same_85 rfl (lv_at hl 1 rfl) ?_
                        refine lv_aload_n hx hb dX0_same_86 rfl (lv_at hl 0 rfl) ?_
                        refine lv_iload_n hx hb dX0_same_87 rfl (lv_at hl 2 rfl) ?_
                        refine n_if_eq (tgt := 103) hx hb dX0_same_88 (by decide) (by omega) (fun c_88 => ?_) (fun c_88 => ?_)
                        ·
                          have htr : trn (α.1 0) (α.1 1) vx vy mi q = rtt q (α.1 0) (α.1 1) vx vy := by unfold trn; rw [if_pos c_88]
                          refine lv_iload hx hb dX0_same_103 (lv_at hl 5 rfl) ?_
                          have hlt := trn_lt (w := α.1 0) (h := α.1 1) (x := vx) (y := vy) (mi := mi) (q := q) (by omega) (by omega)
                          have hlt2 : (trn (α.1 0) (α.1 1) vx vy mi q).1 < β.1 0 ∧ (trn (α.1 0) (α.1 1) vx vy mi q).2 < β.1 1 := by
                            by_cases z : q % 2 = 1
                            · rw [if_pos z, if_pos z] at hlt; omega
                            · rw [if_neg z, if_neg z] at hlt; omega
                          refine lv_iload hx hb dX0_same_105 (lv_at hl 4 rfl) ?_
                          refine lv_iload_n hx hb dX0_same_107 rfl (lv_at hl 3 rfl) ?_
                          refine crV (rest := []) S hK (c_X0_codeAfter l G a α b β vx vy q (by first | assumption | omega | decide) (by first | assumption | omega | decide) (by first | assumption | omega | decide) (by first | assumption | omega | decide) hd (by omega) (by omega) (by first | assumption | omega | decide)) cw_X0_81 rfl ⟨Nat.le_of_ble_eq_true rfl, Nat.le_of_ble_eq_true rfl⟩ ⟨Nat.le_of_ble_eq_true rfl, Nat.le_of_ble_eq_true rfl⟩ (bk.recv hK hB rfl rfl) hl.1 rfl (Nat.le_of_ble_eq_true rfl) dX0_same_108 ⟨hO, hB⟩ ?_
                          refine lv_aload_n hx hb dX0_same_111 rfl (lv_at hl 0 rfl) ?_
                          refine lv_iload hx hb dX0_same_112 (lv_at hl 5 rfl) ?_
                          refine lv_iload hx hb dX0_same_114 (lv_at hl 4 rfl) ?_
                          refine crV (rest := [.int (nI (β.2.1 2 (5 * (rtt q (α.1 0) (α.1 1) vx vy).2 + (rtt q (α.1 0) (α.1 1) vx vy).1)))]) S hK (c_X0_codeAt_n l G a α vx vy hw1 hh1 (by omega) (by omega)) cw_X0_65 rfl ⟨Nat.le_of_ble_eq_true rfl, Nat.le_of_ble_eq_true rfl⟩ ⟨Nat.le_of_ble_eq_true rfl, Nat.le_of_ble_eq_true rfl⟩ (bk.recv hK hO rfl rfl) hl.1 rfl (Nat.le_of_ble_eq_true rfl) dX0_same_116 hO ?_
                          refine n_icmp_eq (tgt := 124) hx hb dX0_same_119 (by decide) (by rw [← htr]; exact Nat.lt_trans (hcb _ (by omega)) (by decide)) (Nat.lt_trans (hca _ (by omega)) (by decide)) (fun c_119 => ?_) (fun c_119 => ?_)
                          ·
                            have hEq : α.2.1 2 (5 * vy + vx) = β.2.1 2 (5 * (trn (α.1 0) (α.1 1) vx vy mi q).2 + (trn (α.1 0) (α.1 1) vx vy mi q).1) := by rw [htr]; exact c_119.symm
                            refine lv_iinc (v := (nI (vx + 1))) (lv' := [(6, .int (nI (vx + 1))), (0, .ref a), (1, .ref b), (2, .int (nI mi)), (3, .int (nI q)), (5, .int (nI vy))]) hx hb dX0_same_124 hl (k := 5) rfl (inc1 _) (by decide) rfl (fun ls hl => ?_)
                            refine lv_goto (tgt := 76) hx hb dX0_same_127 (by decide) ?_
                            exact ih76 (vx + 1) (by omega) (fun x hx => by
                              by_cases e : x = vx
                              · rw [e]; exact hEq
                              · exact hE2 x (by omega)) (by omega) ls (lv_sub hl [1, 2, 3, 4, 5, 0] rfl)
                          ·
                            have hr : decide (asC (α.1 0) (α.1 1) (α.2.1 2) (β.1 0) (β.1 1) (β.2.1 2) mi q) = false := decide_eq_false (fun z => by
                              have z1 := z.2 vx (by omega) vy (by omega)
                              rw [htr] at z1
                              exact c_119 z1.symm)
                            refine lv_iconst (v := nI 0) hx hb dX0_same_122 (by decide) ?_
                            refine w_top (v' := .int (b2i (decide (asC (α.1 0) (α.1 1) (α.2.1 2) (β.1 0) (β.1 1) (β.2.1 2) mi q)))) (bz_f (show (decide (asC (α.1 0) (α.1 1) (α.2.1 2) (β.1 0) (β.1 1) (β.2.1 2) mi q)) = false from hr)) ?_
                            exact hE _ _ (kr_z dX0_same_123)
                        ·
                          have htr : trn (α.1 0) (α.1 1) vx vy mi q = rtt q (α.1 0) (α.1 1) (α.1 0 - 1 - vx) vy := by unfold trn; rw [if_neg c_88]
                          refine lv_aload_n hx hb dX0_same_91 rfl (lv_at hl 0 rfl) ?_
                          refine kg (C := RX0) (T := TX0) (N := 9) (ci := 0) (k := 0) (v := .int (nI (α.1 0))) S hK rfl inX0 (by decide) q_194 dX0_same_92 hO rfl rfl ?_
                          refine lv_iconst (v := nI 1) hx hb dX0_same_95 (by decide) ?_
                          refine n_isub hx hb dX0_same_96 (by omega) ?_
                          refine lv_iload hx hb dX0_same_97 (lv_at hl 5 rfl) ?_
                          refine n_isub hx hb dX0_same_99 (by omega) ?_
                          refine lv_goto (tgt := 105) hx hb dX0_same_100 (by decide) ?_
                          have hlt := trn_lt (w := α.1 0) (h := α.1 1) (x := vx) (y := vy) (mi := mi) (q := q) (by omega) (by omega)
                          have hlt2 : (trn (α.1 0) (α.1 1) vx vy mi q).1 < β.1 0 ∧ (trn (α.1 0) (α.1 1) vx vy mi q).2 < β.1 1 := by
                            by_cases z : q % 2 = 1
                            · rw [if_pos z, if_pos z] at hlt; omega
                            · rw [if_neg z, if_neg z] at hlt; omega
                          refine lv_iload hx hb dX0_same_105 (lv_at hl 4 rfl) ?_
                          refine lv_iload_n hx hb dX0_same_107 rfl (lv_at hl 3 rfl) ?_
                          refine crV (rest := []) S hK (c_X0_codeAfter l G a α b β (((α.1 0) - 1) - vx) vy q (by first | assumption | omega | decide) (by first | assumption | omega | decide) (by first | assumption | omega | decide) (by first | assumption | omega | decide) hd (by omega) (by omega) (by first | assumption | omega | decide)) cw_X0_81 rfl ⟨Nat.le_of_ble_eq_true rfl, Nat.le_of_ble_eq_true rfl⟩ ⟨Nat.le_of_ble_eq_true rfl, Nat.le_of_ble_eq_true rfl⟩ (bk.recv hK hB rfl rfl) hl.1 rfl (Nat.le_of_ble_eq_true rfl) dX0_same_108 ⟨hO, hB⟩ ?_
                          refine lv_aload_n hx hb dX0_same_111 rfl (lv_at hl 0 rfl) ?_
                          refine lv_iload hx hb dX0_same_112 (lv_at hl 5 rfl) ?_
                          refine lv_iload hx hb dX0_same_114 (lv_at hl 4 rfl) ?_
                          refine crV (rest := [.int (nI (β.2.1 2 (5 * (rtt q (α.1 0) (α.1 1) (((α.1 0) - 1) - vx) vy).2 + (rtt q (α.1 0) (α.1 1) (((α.1 0) - 1) - vx) vy).1)))]) S hK (c_X0_codeAt_n l G a α vx vy hw1 hh1 (by omega) (by omega)) cw_X0_65 rfl ⟨Nat.le_of_ble_eq_true rfl, Nat.le_of_ble_eq_true rfl⟩ ⟨Nat.le_of_ble_eq_true rfl, Nat.le_of_ble_eq_true rfl⟩ (bk.recv hK hO rfl rfl) hl.1 rfl (Nat.le_of_ble_eq_true rfl) dX0_same_116 hO ?_
                          refine n_icmp_eq (tgt := 124) hx hb dX0_same_119 (by decide) (by rw [← htr]; exact Nat.lt_trans (hcb _ (by omega)) (by decide)) (Nat.lt_trans (hca _ (by omega)) (by decide)) (fun c_119 => ?_) (fun c_119 => ?_)
                          ·
                            have hEq : α.2.1 2 (5 * vy + vx) = β.2.1 2 (5 * (trn (α.1 0) (α.1 1) vx vy mi q).2 + (trn (α.1 0) (α.1 1) vx vy mi q).1) := by rw [htr]; exact c_119.symm
                            refine lv_iinc (v := (nI (vx + 1))) (lv' := [(6, .int (nI (vx + 1))), (0, .ref a), (1, .ref b), (2, .int (nI mi)), (3, .int (nI q)), (5, .int (nI vy))]) hx hb dX0_same_124 hl (k := 5) rfl (inc1 _) (by decide) rfl (fun ls hl => ?_)
                            refine lv_goto (tgt := 76) hx hb dX0_same_127 (by decide) ?_
                            exact ih76 (vx + 1) (by omega) (fun x hx => by
                              by_cases e : x = vx
                              · rw [e]; exact hEq
                              · exact hE2 x (by omega)) (by omega) ls (lv_sub hl [1, 2, 3, 4, 5, 0] rfl)
                          ·
                            have hr : decide (asC (α.1 0) (α.1 1) (α.2.1 2) (β.1 0) (β.1 1) (β.2.1 2) mi q) = false := decide_eq_false (fun z => by
                              have z1 := z.2 vx (by omega) vy (by omega)
                              rw [htr] at z1
                              exact c_119 z1.symm)
                            refine lv_iconst (v := nI 0) hx hb dX0_same_122 (by decide) ?_
                            refine w_top (v' := .int (b2i (decide (asC (α.1 0) (α.1 1) (α.2.1 2) (β.1 0) (β.1 1) (β.2.1 2) mi q)))) (bz_f (show (decide (asC (α.1 0) (α.1 1) (α.2.1 2) (β.1 0) (β.1 1) (β.2.1 2) mi q)) = false from hr)) ?_
                            exact hE _ _ (kr_z dX0_same_123)
                  exact L76 ((α.1 0 - 0) + 1) 0 (Nat.zero_le _) (fun x hx => absurd hx (Nat.not_lt_zero x)) (Nat.lt_succ_self _) ls (lv_sub hl [1, 2, 3, 4, 5, 0] rfl)
            exact L64 ((α.1 1 - 0) + 1) 0 (Nat.zero_le _) (fun y hy => absurd hy (Nat.not_lt_zero y)) (Nat.lt_succ_self _) ls (lv_sub hl [2, 3, 4, 5, 0] rfl)
          ·
            have hr : decide (asC (α.1 0) (α.1 1) (α.2.1 2) (β.1 0) (β.1 1) (β.2.1 2) mi q) = false := decide_eq_false (fun z => by
              have z1 := z.1.2
              rw [if_pos c3] at z1
              omega)
            refine lv_iconst (v := nI 0) hx hb dX0_same_59 (by decide) ?_
            refine w_top (v' := .int (b2i (decide (asC (α.1 0) (α.1 1) (α.2.1 2) (β.1 0) (β.1 1) (β.2.1 2) mi q)))) (bz_f (show (decide (asC (α.1 0) (α.1 1) (α.2.1 2) (β.1 0) (β.1 1) (β.2.1 2) mi q)) = false from hr)) ?_
            exact hE _ _ (kr_z dX0_same_60)
        ·
          exact absurd c_42 (by decide)
    ·
      exact absurd c_19 (by decide)
  ·
    have c3 : ¬ q % 2 = 1 := by omega
    refine lv_iconst (v := nI 1) hx hb dX0_same_6 (by decide) ?_
    refine lv_goto (tgt := 11) hx hb dX0_same_7 (by decide) ?_
    refine lv_istore (lv' := [(4, .int (nI 1)), (0, .ref a), (1, .ref b), (2, .int (nI mi)), (3, .int (nI q))]) hx hb dX0_same_11 hl (by decide) rfl (fun ls hl => ?_)
    refine lv_aload_n hx hb dX0_same_13 rfl (lv_at hl 2 rfl) ?_
    refine kg (C := RX0) (T := TX0) (N := 9) (ci := 0) (k := 0) (v := .int (nI (β.1 0))) S hK rfl inX0 (by decide) q_194 dX0_same_14 hB rfl rfl ?_
    refine lv_iload hx hb dX0_same_17 (lv_at hl 0 rfl) ?_
    refine n_if_eq (tgt := 29) hx hb dX0_same_19 (by decide) (by decide) (fun c_19 => ?_) (fun c_19 => ?_)
    ·
      exact absurd c_19 (by decide)
    ·
      refine lv_aload_n hx hb dX0_same_22 rfl (lv_at hl 1 rfl) ?_
      refine kg (C := RX0) (T := TX0) (N := 9) (ci := 0) (k := 0) (v := .int (nI (α.1 0))) S hK rfl inX0 (by decide) q_194 dX0_same_23 hO rfl rfl ?_
      refine lv_goto (tgt := 33) hx hb dX0_same_26 (by decide) ?_
      refine n_icmp_ne (tgt := 59) hx hb dX0_same_33 (by decide) (by omega) (by omega) (fun c_33 => ?_) (fun c_33 => ?_)
      ·
        have hr : decide (asC (α.1 0) (α.1 1) (α.2.1 2) (β.1 0) (β.1 1) (β.2.1 2) mi q) = false := decide_eq_false (fun z => by
          have z1 := z.1.1
          rw [if_neg c3] at z1
          omega)
        refine lv_iconst (v := nI 0) hx hb dX0_same_59 (by decide) ?_
        refine w_top (v' := .int (b2i (decide (asC (α.1 0) (α.1 1) (α.2.1 2) (β.1 0) (β.1 1) (β.2.1 2) mi q)))) (bz_f (show (decide (asC (α.1 0) (α.1 1) (α.2.1 2) (β.1 0) (β.1 1) (β.2.1 2) mi q)) = false from hr)) ?_
        exact hE _ _ (kr_z dX0_same_60)
      ·
        refine lv_aload_n hx hb dX0_same_36 rfl (lv_at hl 2 rfl) ?_
        refine kg (C := RX0) (T := TX0) (N := 9) (ci := 0) (k := 1) (v := .int (nI (β.1 1))) S hK rfl inX0 (by decide) q_196 dX0_same_37 hB rfl rfl ?_
        refine lv_iload hx hb dX0_same_40 (lv_at hl 0 rfl) ?_
        refine n_if_eq (tgt := 52) hx hb dX0_same_42 (by decide) (by decide) (fun c_42 => ?_) (fun c_42 => ?_)
        ·
          exact absurd c_42 (by decide)
        ·
          refine lv_aload_n hx hb dX0_same_45 rfl (lv_at hl 1 rfl) ?_
          refine kg (C := RX0) (T := TX0) (N := 9) (ci := 0) (k := 1) (v := .int (nI (α.1 1))) S hK rfl inX0 (by decide) q_196 dX0_same_46 hO rfl rfl ?_
          refine lv_goto (tgt := 56) hx hb dX0_same_49 (by decide) ?_
          refine n_icmp_eq (tgt := 61) hx hb dX0_same_56 (by decide) (by omega) (by omega) (fun c_56 => ?_) (fun c_56 => ?_)
          ·
            have hd : (q % 2 = 0 ∧ β.1 0 = α.1 0 ∧ β.1 1 = α.1 1) ∨ (q % 2 = 1 ∧ β.1 0 = α.1 1 ∧ β.1 1 = α.1 0) := by omega
            refine lv_iconst (v := nI 0) hx hb dX0_same_61 (by decide) ?_
            refine lv_istore (lv' := [(5, .int (nI 0)), (4, .int (nI 1)), (0, .ref a), (1, .ref b), (2, .int (nI mi)), (3, .int (nI q))]) hx hb dX0_same_62 hl (by decide) rfl (fun ls hl => ?_)
            have L64 : ∀ (fu : Nat), ∀ (vy : Nat), (vy ≤ α.1 1) → (∀ y, y < vy → ∀ x, x < α.1 0 → α.2.1 2 (5 * y + x) = β.2.1 2 (5 * (trn (α.1 0) (α.1 1) x y mi q).2 + (trn (α.1 0) (α.1 1) x y mi q).1)) → α.1 1 - vy < fu → ∀ ls : Array Slot, lv_has ls 7 [(0, .ref a), (1, .ref b), (2, .int (nI mi)), (3, .int (nI q)), (5, .int (nI vy))] → W zp l ze (rL 3 0 0) zs zm za zb zt zc zs.heap [] 0 0 Q (F0 zm 64 ls []) := by
              intro fu
              induction fu with
              | zero =>
                intro vy hvy hE1 hmu ls hl
                exact absurd hmu (Nat.not_lt_zero _)
              | succ fu ih64 =>
                intro vy hvy hE1 hmu ls hl
                refine lv_iload hx hb dX0_same_64 (lv_at hl 4 rfl) ?_
                refine lv_aload_n hx hb dX0_same_66 rfl (lv_at hl 0 rfl) ?_
                refine kg (C := RX0) (T := TX0) (N := 9) (ci := 0) (k := 1) (v := .int (nI (α.1 1))) S hK rfl inX0 (by decide) q_196 dX0_same_67 hO rfl rfl ?_
                refine n_icmp_ge (tgt := 136) hx hb dX0_same_70 (by decide) (by omega) (by omega) (fun c_70 => ?_) (fun c_70 => ?_)
                ·
                  have hr : decide (asC (α.1 0) (α.1 1) (α.2.1 2) (β.1 0) (β.1 1) (β.2.1 2) mi q) = true := decide_eq_true (by
                    refine ⟨?_, fun x hx y hy => hE1 y (by omega) x hx⟩
                    by_cases z : q % 2 = 1
                    · rw [if_pos z, if_pos z]; omega
                    · rw [if_neg z, if_neg z]; omega)
                  refine lv_iconst (v := nI 1) hx hb dX0_same_136 (by decide) ?_
                  refine w_top (v' := .int (b2i (decide (asC (α.1 0) (α.1 1) (α.2.1 2) (β.1 0) (β.1 1) (β.2.1 2) mi q)))) (bz_t (show (decide (asC (α.1 0) (α.1 1) (α.2.1 2) (β.1 0) (β.1 1) (β.2.1 2) mi q)) = true from hr)) ?_
                  exact hE _ _ (kr_z dX0_same_137)
                ·
                  refine lv_iconst (v := nI 0) hx hb dX0_same_73 (by decide) ?_
                  refine lv_istore (lv' := [(6, .int (nI 0)), (0, .ref a), (1, .ref b), (2, .int (nI mi)), (3, .int (nI q)), (5, .int (nI vy))]) hx hb dX0_same_74 hl (by decide) rfl (fun ls hl => ?_)
                  have L76 : ∀ (fu : Nat), ∀ (vx : Nat), (vx ≤ α.1 0) → (∀ x, x < vx → α.2.1 2 (5 * vy + x) = β.2.1 2 (5 * (trn (α.1 0) (α.1 1) x vy mi q).2 + (trn (α.1 0) (α.1 1) x vy mi q).1)) → α.1 0 - vx < fu → ∀ ls : Array Slot, lv_has ls 7 [(0, .ref a), (1, .ref b), (2, .int (nI mi)), (3, .int (nI q)), (5, .int (nI vy)), (6, .int (nI vx))] → W zp l ze (rL 3 0 0) zs zm za zb zt zc zs.heap [] 0 0 Q (F0 zm 76 ls []) := by
                    intro fu
                    induction fu with
                    | zero =>
                      intro vx hvx hE2 hmu ls hl
                      exact absurd hmu (Nat.not_lt_zero _)
                    | succ fu ih76 =>
                      intro vx hvx hE2 hmu ls hl
                      refine lv_iload hx hb dX0_same_76 (lv_at hl 5 rfl) ?_
                      refine lv_aload_n hx hb dX0_same_78 rfl (lv_at hl 0 rfl) ?_
                      refine kg (C := RX0) (T := TX0) (N := 9) (ci := 0) (k := 0) (v := .int (nI (α.1 0))) S hK rfl inX0 (by decide) q_194 dX0_same_79 hO rfl rfl ?_
                      refine n_icmp_ge (tgt := 130) hx hb dX0_same_82 (by decide) (by omega) (by omega) (fun c_82 => ?_) (fun c_82 => ?_)
                      ·
                        refine lv_iinc (v := (nI (vy + 1))) (lv' := [(5, .int (nI (vy + 1))), (0, .ref a), (1, .ref b), (2, .int (nI mi)), (3, .int (nI q)), (6, .int (nI vx))]) hx hb dX0_same_130 hl (k := 4) rfl (inc1 _) (by decide) rfl (fun ls hl => ?_)
                        refine lv_goto (tgt := 64) hx hb dX0_same_133 (by decide) ?_
                        exact ih64 (vy + 1) (by omega) (fun y hy x hx => by
                          by_cases e : y = vy
                          · rw [e]; exact hE2 x (by omega)
                          · exact hE1 y (by omega) x hx) (by omega) ls (lv_sub hl [1, 2, 3, 4, 0] rfl)
                      ·
                        refine lv_aload_n hx hb dX0_same_85 rfl (lv_at hl 1 rfl) ?_
                        refine lv_aload_n hx hb dX0_same_86 rfl (lv_at hl 0 rfl) ?_
                        refine lv_iload_n hx hb dX0_same_87 rfl (lv_at hl 2 rfl) ?_
                        refine n_if_eq (tgt := 103) hx hb dX0_same_88 (by decide) (by omega) (fun c_88 => ?_) (fun c_88 => ?_)
                        ·
                          have htr : trn (α.1 0) (α.1 1) vx vy mi q = rtt q (α.1 0) (α.1 1) vx vy := by unfold trn; rw [if_pos c_88]
                          refine lv_iload hx hb dX0_same_103 (lv_at hl 5 rfl) ?_
                          have hlt := trn_lt (w := α.1 0) (h := α.1 1) (x := vx) (y := vy) (mi := mi) (q := q) (by omega) (by omega)
                          have hlt2 : (trn (α.1 0) (α.1 1) vx vy mi q).1 < β.1 0 ∧ (trn (α.1 0) (α.1 1) vx vy mi q).2 < β.1 1 := by
                            by_cases z : q % 2 = 1
                            · rw [if_pos z, if_pos z] at hlt; omega
                            · rw [if_neg z, if_neg z] at hlt; omega
                          refine lv_iload hx hb dX0_same_105 (lv_at hl 4 rfl) ?_
                          refine lv_iload_n hx hb dX0_same_107 rfl (lv_at hl 3 rfl) ?_
                          refine crV (rest := []) S hK (c_X0_codeAfter l G a α b β vx vy q (by first | assumption | omega | decide) (by first | assumption | omega | decide) (by first | assumption | omega | decide) (by first | assumption | omega | decide) hd (by omega) (by omega) (by first | assumption | omega | decide)) cw_X0_81 rfl ⟨Nat.le_of_ble_eq_true rfl, Nat.le_of_ble_eq_true rfl⟩ ⟨Nat.le_of_ble_eq_true rfl, Nat.le_of_ble_eq_true rfl⟩ (bk.recv hK hB rfl rfl) hl.1 rfl (Nat.le_of_ble_eq_true rfl) dX0_same_108 ⟨hO, hB⟩ ?_
                          refine lv_aload_n hx hb dX0_same_111 rfl (lv_at hl 0 rfl) ?_
                          refine lv_iload hx hb dX0_same_112 (lv_at hl 5 rfl) ?_
                          refine lv_iload hx hb dX0_same_114 (lv_at hl 4 rfl) ?_
                          refine crV (rest := [.int (nI (β.2.1 2 (5 * (rtt q (α.1 0) (α.1 1) vx vy).2 + (rtt q (α.1 0) (α.1 1) vx vy).1)))]) S hK (c_X0_codeAt_n l G a α vx vy hw1 hh1 (by omega) (by omega)) cw_X0_65 rfl ⟨Nat.le_of_ble_eq_true rfl, Nat.le_of_ble_eq_true rfl⟩ ⟨Nat.le_of_ble_eq_true rfl, Nat.le_of_ble_eq_true rfl⟩ (bk.recv hK hO rfl rfl) hl.1 rfl (Nat.le_of_ble_eq_true rfl) dX0_same_116 hO ?_
                          refine n_icmp_eq (tgt := 124) hx hb dX0_same_119 (by decide) (by rw [← htr]; exact Nat.lt_trans (hcb _ (by omega)) (by decide)) (Nat.lt_trans (hca _ (by omega)) (by decide)) (fun c_119 => ?_) (fun c_119 => ?_)
                          ·
                            have hEq : α.2.1 2 (5 * vy + vx) = β.2.1 2 (5 * (trn (α.1 0) (α.1 1) vx vy mi q).2 + (trn (α.1 0) (α.1 1) vx vy mi q).1) := by rw [htr]; exact c_119.symm
                            refine lv_iinc (v := (nI (vx + 1))) (lv' := [(6, .int (nI (vx + 1))), (0, .ref a), (1, .ref b), (2, .int (nI mi)), (3, .int (nI q)), (5, .int (nI vy))]) hx hb dX0_same_124 hl (k := 5) rfl (inc1 _) (by decide) rfl (fun ls hl => ?_)
                            refine lv_goto (tgt := 76) hx hb dX0_same_127 (by decide) ?_
                            exact ih76 (vx + 1) (by omega) (fun x hx => by
                              by_cases e : x = vx
                              · rw [e]; exact hEq
                              · exact hE2 x (by omega)) (by omega) ls (lv_sub hl [1, 2, 3, 4, 5, 0] rfl)
                          ·
                            have hr : decide (asC (α.1 0) (α.1 1) (α.2.1 2) (β.1 0) (β.1 1) (β.2.1 2) mi q) = false := decide_eq_false (fun z => by
                              have z1 := z.2 vx (by omega) vy (by omega)
                              rw [htr] at z1
                              exact c_119 z1.symm)
                            refine lv_iconst (v := nI 0) hx hb dX0_same_122 (by decide) ?_
                            refine w_top (v' := .int (b2i (decide (asC (α.1 0) (α.1 1) (α.2.1 2) (β.1 0) (β.1 1) (β.2.1 2) mi q)))) (bz_f (show (decide (asC (α.1 0) (α.1 1) (α.2.1 2) (β.1 0) (β.1 1) (β.2.1 2) mi q)) = false from hr)) ?_
                            exact hE _ _ (kr_z dX0_same_123)
                        ·
                          have htr : trn (α.1 0) (α.1 1) vx vy mi q = rtt q (α.1 0) (α.1 1) (α.1 0 - 1 - vx) vy := by unfold trn; rw [if_neg c_88]
                          refine lv_aload_n hx hb dX0_same_91 rfl (lv_at hl 0 rfl) ?_
                          refine kg (C := RX0) (T := TX0) (N := 9) (ci := 0) (k := 0) (v := .int (nI (α.1 0))) S hK rfl inX0 (by decide) q_194 dX0_same_92 hO rfl rfl ?_
                          refine lv_iconst (v := nI 1) hx hb dX0_same_95 (by decide) ?_
                          refine n_isub hx hb dX0_same_96 (by omega) ?_
                          refine lv_iload hx hb dX0_same_97 (lv_at hl 5 rfl) ?_
                          refine n_isub hx hb dX0_same_99 (by omega) ?_
                          refine lv_goto (tgt := 105) hx hb dX0_same_100 (by decide) ?_
                          have hlt := trn_lt (w := α.1 0) (h := α.1 1) (x := vx) (y := vy) (mi := mi) (q := q) (by omega) (by omega)
                          have hlt2 : (trn (α.1 0) (α.1 1) vx vy mi q).1 < β.1 0 ∧ (trn (α.1 0) (α.1 1) vx vy mi q).2 < β.1 1 := by
                            by_cases z : q % 2 = 1
                            · rw [if_pos z, if_pos z] at hlt; omega
                            · rw [if_neg z, if_neg z] at hlt; omega
                          refine lv_iload hx hb dX0_same_105 (lv_at hl 4 rfl) ?_
                          refine lv_iload_n hx hb dX0_same_107 rfl (lv_at hl 3 rfl) ?_
                          refine crV (rest := []) S hK (c_X0_codeAfter l G a α b β (((α.1 0) - 1) - vx) vy q (by first | assumption | omega | decide) (by first | assumption | omega | decide) (by first | assumption | omega | decide) (by first | assumption | omega | decide) hd (by omega) (by omega) (by first | assumption | omega | decide)) cw_X0_81 rfl ⟨Nat.le_of_ble_eq_true rfl, Nat.le_of_ble_eq_true rfl⟩ ⟨Nat.le_of_ble_eq_true rfl, Nat.le_of_ble_eq_true rfl⟩ (bk.recv hK hB rfl rfl) hl.1 rfl (Nat.le_of_ble_eq_true rfl) dX0_same_108 ⟨hO, hB⟩ ?_
                          refine lv_aload_n hx hb dX0_same_111 rfl (lv_at hl 0 rfl) ?_
                          refine lv_iload hx hb dX0_same_112 (lv_at hl 5 rfl) ?_
                          refine lv_iload hx hb dX0_same_114 (lv_at hl 4 rfl) ?_
                          refine crV (rest := [.int (nI (β.2.1 2 (5 * (rtt q (α.1 0) (α.1 1) (((α.1 0) - 1) - vx) vy).2 + (rtt q (α.1 0) (α.1 1) (((α.1 0) - 1) - vx) vy).1)))]) S hK (c_X0_codeAt_n l G a α vx vy hw1 hh1 (by omega) (by omega)) cw_X0_65 rfl ⟨Nat.le_of_ble_eq_true rfl, Nat.le_of_ble_eq_true rfl⟩ ⟨Nat.le_of_ble_eq_true rfl, Nat.le_of_ble_eq_true rfl⟩ (bk.recv hK hO rfl rfl) hl.1 rfl (Nat.le_of_ble_eq_true rfl) dX0_same_116 hO ?_
                          refine n_icmp_eq (tgt := 124) hx hb dX0_same_119 (by decide) (by rw [← htr]; exact Nat.lt_trans (hcb _ (by omega)) (by decide)) (Nat.lt_trans (hca _ (by omega)) (by decide)) (fun c_119 => ?_) (fun c_119 => ?_)
                          ·
                            have hEq : α.2.1 2 (5 * vy + vx) = β.2.1 2 (5 * (trn (α.1 0) (α.1 1) vx vy mi q).2 + (trn (α.1 0) (α.1 1) vx vy mi q).1) := by rw [htr]; exact c_119.symm
                            refine lv_iinc (v := (nI (vx + 1))) (lv' := [(6, .int (nI (vx + 1))), (0, .ref a), (1, .ref b), (2, .int (nI mi)), (3, .int (nI q)), (5, .int (nI vy))]) hx hb dX0_same_124 hl (k := 5) rfl (inc1 _) (by decide) rfl (fun ls hl => ?_)
                            refine lv_goto (tgt := 76) hx hb dX0_same_127 (by decide) ?_
                            exact ih76 (vx + 1) (by omega) (fun x hx => by
                              by_cases e : x = vx
                              · rw [e]; exact hEq
                              · exact hE2 x (by omega)) (by omega) ls (lv_sub hl [1, 2, 3, 4, 5, 0] rfl)
                          ·
                            have hr : decide (asC (α.1 0) (α.1 1) (α.2.1 2) (β.1 0) (β.1 1) (β.2.1 2) mi q) = false := decide_eq_false (fun z => by
                              have z1 := z.2 vx (by omega) vy (by omega)
                              rw [htr] at z1
                              exact c_119 z1.symm)
                            refine lv_iconst (v := nI 0) hx hb dX0_same_122 (by decide) ?_
                            refine w_top (v' := .int (b2i (decide (asC (α.1 0) (α.1 1) (α.2.1 2) (β.1 0) (β.1 1) (β.2.1 2) mi q)))) (bz_f (show (decide (asC (α.1 0) (α.1 1) (α.2.1 2) (β.1 0) (β.1 1) (β.2.1 2) mi q)) = false from hr)) ?_
                            exact hE _ _ (kr_z dX0_same_123)
                  exact L76 ((α.1 0 - 0) + 1) 0 (Nat.zero_le _) (fun x hx => absurd hx (Nat.not_lt_zero x)) (Nat.lt_succ_self _) ls (lv_sub hl [1, 2, 3, 4, 5, 0] rfl)
            exact L64 ((α.1 1 - 0) + 1) 0 (Nat.zero_le _) (fun y hy => absurd hy (Nat.not_lt_zero y)) (Nat.lt_succ_self _) ls (lv_sub hl [2, 3, 4, 5, 0] rfl)
          ·
            have hr : decide (asC (α.1 0) (α.1 1) (α.2.1 2) (β.1 0) (β.1 1) (β.2.1 2) mi q) = false := decide_eq_false (fun z => by
              have z1 := z.1.2
              rw [if_neg c3] at z1
              omega)
            refine lv_iconst (v := nI 0) hx hb dX0_same_59 (by decide) ?_
            refine w_top (v' := .int (b2i (decide (asC (α.1 0) (α.1 1) (α.2.1 2) (β.1 0) (β.1 1) (β.2.1 2) mi q)))) (bz_f (show (decide (asC (α.1 0) (α.1 1) (α.2.1 2) (β.1 0) (β.1 1) (β.2.1 2) mi q)) = false from hr)) ?_
            exact hE _ _ (kr_z dX0_same_60)
