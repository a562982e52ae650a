
/-! BOARDS that come of others -/
theorem pt_c {D D2 : Nat → Bool} {d : Nat → Nat} (h : ∀ k, k < 20 → D k = D2 k) : ∀ k, k < 20 → pt D d k = pt D2 d k := fun k hk => by unfold pt; rw [h k hk]
theorem pt_all {D : Nat → Bool} {d : Nat → Nat} (h : ∀ k, k < 20 → D k = true ∨ d k = 0) : ∀ k, k < 20 → pt D d k = d k := fun k hk => by
  rcases h k hk with q | q
  · exact pt_y q
  · unfold pt
    rw [q]
    split <;> rfl
theorem dec_or {p q r : Prop} [Decidable p] [Decidable q] [Decidable r] (h : p ↔ (q ∨ r)) : decide p = (decide q || decide r) := by
  rw [← Bool.decide_or]
  exact decide_eq_decide.mpr h
theorem dec_e {p q : Prop} [Decidable p] [Decidable q] (h : p ↔ q) : decide p = decide q := decide_eq_decide.mpr h
abbrev dnT (w h vy vx : Nat) : Nat → Bool := fun k => decide ((k % 5 < h ∧ k / 5 < w) ∧ (h - 1 - k % 5 < vy ∨ (h - 1 - k % 5 = vy ∧ k / 5 < vx)))
abbrev dnM (w h vy vx : Nat) : Nat → Bool := fun k => decide ((k % 5 < w ∧ k / 5 < h) ∧ (k / 5 < vy ∨ (k / 5 = vy ∧ w - 1 - k % 5 < vx)))
abbrev dnI (w h vy vx : Nat) : Nat → Bool := fun k => decide ((k % 5 < w ∧ k / 5 < h) ∧ (k / 5 < vy ∨ (k / 5 = vy ∧ k % 5 < vx)))
theorem BS_tn {w h f : Nat} {c : Nat → Nat} (q : BS w h f c) (hw : w ≤ 4) : BS h w f (tnC w h c) := by
  obtain ⟨⟨⟨a1, a2⟩, ⟨a3, a4⟩, a5⟩, b, d, e, g⟩ := q
  refine ⟨⟨⟨a3, by omega⟩, ⟨a1, hw⟩, a5⟩, fun k hk z => if_neg z, fun k hk => ?_, fun j hj => ?_, fun k i hk hi h10 he => ?_⟩
  · unfold tnC
    split
    · exact d _ (by omega)
    · exact Or.inl rfl
  · obtain ⟨k, hk, hc⟩ := e j hj
    have hin : k % 5 < w ∧ k / 5 < h := by
      by_cases z : k % 5 < w ∧ k / 5 < h
      · exact z
      · have := b k hk z
        omega
    refine ⟨5 * (k % 5) + (h - 1 - k / 5), by omega, ?_⟩
    unfold tnC
    rw [if_pos (by omega), show 5 * (h - 1 - (5 * (k % 5) + (h - 1 - k / 5)) % 5) + (5 * (k % 5) + (h - 1 - k / 5)) / 5 = k from by omega]
    exact hc
  · unfold tnC at h10 he
    split at h10
    · rename_i z1
      rw [if_pos z1] at he
      split at he
      · rename_i z2
        have := g _ _ (by omega) (by omega) h10 he
        omega
      · omega
    · omega
theorem BS_mi {w h f : Nat} {c : Nat → Nat} (q : BS w h f c) : BS w h f (miC w h c) := by
  obtain ⟨⟨⟨a1, a2⟩, ⟨a3, a4⟩, a5⟩, b, d, e, g⟩ := q
  refine ⟨⟨⟨a1, a2⟩, ⟨a3, a4⟩, a5⟩, fun k hk z => if_neg z, fun k hk => ?_, fun j hj => ?_, fun k i hk hi h10 he => ?_⟩
  · unfold miC
    split
    · exact d _ (by omega)
    · exact Or.inl rfl
  · obtain ⟨k, hk, hc⟩ := e j hj
    have hin : k % 5 < w ∧ k / 5 < h := by
      by_cases z : k % 5 < w ∧ k / 5 < h
      · exact z
      · have := b k hk z
        omega
    refine ⟨5 * (k / 5) + (w - 1 - k % 5), by omega, ?_⟩
    unfold miC
    rw [if_pos (by omega), show 5 * ((5 * (k / 5) + (w - 1 - k % 5)) / 5) + (w - 1 - (5 * (k / 5) + (w - 1 - k % 5)) % 5) = k from by omega]
    exact hc
  · unfold miC at h10 he
    split at h10
    · rename_i z1
      rw [if_pos z1] at he
      split at he
      · rename_i z2
        have := g _ _ (by omega) (by omega) h10 he
        omega
      · omega
    · omega
/-- without some OPEN CELLS -/
def wiC (bl : Nat) (c : Nat → Nat) (k : Nat) : Nat := if bl.testBit k then 0 else c k
theorem BS_wi {w h f bl : Nat} {c : Nat → Nat} (q : BS w h f c) (hbl : ∀ k, k < 20 → bl.testBit k = true → c k = 1) : BS w h f (wiC bl c) := by
  obtain ⟨a, b, d, e, g⟩ := q
  refine ⟨a, fun k hk z => ?_, fun k hk => ?_, fun j hj => ?_, fun k i hk hi h10 he => ?_⟩
  · unfold wiC
    rw [b k hk z]
    split <;> rfl
  · unfold wiC
    split
    · exact Or.inl rfl
    · exact d k hk
  · obtain ⟨k, hk, hc⟩ := e j hj
    refine ⟨k, hk, ?_⟩
    unfold wiC
    rw [if_neg (fun z => by have := hbl k hk z; omega)]
    exact hc
  · unfold wiC at h10 he
    split at h10
    · omega
    · rename_i z1
      rw [if_neg z1] at he
      split at he
      · omega
      · exact g k i hk hi h10 he

set_option maxHeartbeats 1000000 in
set_option maxRecDepth 100000 in
theorem c_X0_turned (l : Launch) (G : Gt) (nb : Nat) (b : Nat) (β : Sx) (w : Nat) (h : Nat) (f : Nat) (c : Nat → Nat) (hBS : BS w h f c) (hBG : BG w h f c β) (hw4 : w ≤ 4) : Ct l G yX0_turned cX0_turned 4 ((some (.object "PuzzleParts$Board"))) 2 4 66 [.ref b] (fun H => bk G b (bdL G b β) H ∧ H.size = nb) (some (.ref nb)) (fun H => bk G b (bdL G b β) H ∧ ∃ σ : Sx, bk G nb (bdL G nb σ) H ∧ PD h w (tnC w h c) σ) (fun q => nb ≤ q) := by
  refine ct_entry [(0, .ref b)] (by decide) (Nat.le_of_ble_eq_true rfl) rfl ?_
  intro zp ze zs zm za zb zt zc Q S hK hPre hin hE ls hl
  have hx := S.1
  have hb := S.2.1
  obtain ⟨hB, hz⟩ := hPre
  have hS : va_S (fun q => nb ≤ q) zs.heap zs.heap [] := va_S.rf
  obtain ⟨⟨⟨hs1, hs2⟩, ⟨hs3, hs4⟩, hs5⟩, hsO, hsC, hsE, hsU⟩ := id hBS
  obtain ⟨hg0, hg1, hg2, hg3, hg4, hgF⟩ := id hBG
  have hb4 : b + 4 ≤ nb := by have q := bk.lt (k := 3) hB (show 3 < 4 by decide); omega
  have hUd := BS_uq (BS_tn hBS hw4)
  refine kn (C := RX0) (T := TX0) (N := 9) (ci := 0) tyX0 tyX0_ok S hK rfl inX0 q_421 q_189 q_83 [.int (nI 0), .int (nI 0), .null, .int (nI 0), .int (nI 0), .null, .null, .long (lN 0), .long (lN 0)] (fun j hj => by first | (rcases (show j = 0 ∨ j = 1 ∨ j = 2 ∨ j = 3 ∨ j = 4 ∨ j = 5 ∨ j = 6 ∨ j = 7 ∨ j = 8 by omega) with rfl | rfl | rfl | rfl | rfl | rfl | rfl | rfl | rfl <;> rfl)) dX0_turned_0 (by decide) (by decide) (h := nb) hz hS (fun H hT hS hz hk => ?_)
  replace hB := hB.kept (fun q h1 h2 => hk q (by have h3 : q < b + 4 := h2; omega))
  refine lv_dup hx hb dX0_turned_3 rfl ?_
  refine lv_aload_n hx hb dX0_turned_4 rfl (lv_at hl 0 rfl) ?_
  refine kg (C := RX0) (T := TX0) (N := 9) (ci := 0) (k := 1) (v := .int (nI (β.1 1))) S hK rfl inX0 (by decide) q_196 dX0_turned_5 hB rfl rfl ?_
  refine lv_aload_n hx hb dX0_turned_8 rfl (lv_at hl 0 rfl) ?_
  refine kg (C := RX0) (T := TX0) (N := 9) (ci := 0) (k := 0) (v := .int (nI (β.1 0))) S hK rfl inX0 (by decide) q_194 dX0_turned_9 hB rfl rfl ?_
  refine ctI (rest := [.ref nb]) S hK (c_X0_init l G nb (β.1 1) (β.1 0)) cw_X0_74 rfl ⟨Nat.le_of_ble_eq_true rfl, Nat.le_of_ble_eq_true rfl⟩ ⟨Nat.le_of_ble_eq_true rfl, Nat.le_of_ble_eq_true rfl⟩ hl.1 rfl (Nat.le_of_ble_eq_true rfl) dX0_turned_12 ⟨hT, hz⟩ hS (fun _ h => by first | exact h | omega) (fun H locs hPost hz2 hk hS => ?_)
  obtain ⟨hT, hz⟩ := hPost
  replace hB := hB.over hk (fun q h1 h2 => by have h3 : q < b + 4 := h2; intro hA1; omega)
  refine lv_astore_n (lv' := [(1, .ref nb), (0, .ref b)]) hx hb dX0_turned_15 rfl hl (by decide) rfl (fun ls hl => ?_)
  refine lv_iconst (v := nI 0) hx hb dX0_turned_16 (by decide) ?_
  refine lv_istore_n (lv' := [(2, .int (nI 0)), (1, .ref nb), (0, .ref b)]) hx hb dX0_turned_17 rfl hl (by decide) rfl (fun ls hl => ?_)
  have L18 : ∀ (fu : Nat), ∀ (vy : Nat) (ρ : Sx), (vy ≤ h) → (PD h w (pt (dnT w h vy 0) (tnC w h c)) ρ) → h - vy < fu → ∀ (H : Heap) (locs : List Loc), bk G b (bdL G b β) H → bk G nb (bdL G nb ρ) H → va_S (fun q => nb ≤ q) zs.heap H locs → H.size = nb + 4 → ∀ ls : Array Slot, lv_has ls 4 [(0, .ref b), (1, .ref nb), (2, .int (nI vy))] → W zp l ze (rL 2 4 66) zs zm za zb zt zc H locs 4 66 Q (F0 zm 18 ls []) := by
    intro fu
    induction fu with
    | zero =>
      intro vy ρ hvy hP hmu H locs hB hT hS hz ls hl
      exact absurd hmu (Nat.not_lt_zero _)
    | succ fu ih18 =>
      intro vy ρ hvy hP hmu H locs hB hT hS hz ls hl
      refine lv_iload_n hx hb dX0_turned_18 rfl (lv_at hl 2 rfl) ?_
      refine lv_aload_n hx hb dX0_turned_19 rfl (lv_at hl 0 rfl) ?_
      refine kg (C := RX0) (T := TX0) (N := 9) (ci := 0) (k := 1) (v := .int (nI (β.1 1))) S hK rfl inX0 (by decide) q_196 dX0_turned_20 hB rfl rfl ?_
      refine n_icmp_ge (tgt := 67) hx hb dX0_turned_23 (by decide) (by omega) (by omega) (fun c_23 => ?_) (fun c_23 => ?_)
      ·
        refine lv_aload_n hx hb dX0_turned_67 rfl (lv_at hl 1 rfl) ?_
        exact hE _ _ _ _ _ _ (kr_a dX0_turned_68) hS (by decide) (by decide) ⟨hB, _, hT, PD_congr hP (pt_all (fun k hk => by
          by_cases z : k % 5 < h ∧ k / 5 < w
          · exact Or.inl (decide_eq_true (by omega))
          · exact Or.inr (if_neg z)))⟩
      ·
        refine lv_iconst (v := nI 0) hx hb dX0_turned_26 (by decide) ?_
        refine lv_istore_n (lv' := [(3, .int (nI 0)), (0, .ref b), (1, .ref nb), (2, .int (nI vy))]) hx hb dX0_turned_27 rfl hl (by decide) rfl (fun ls hl => ?_)
        have L28 : ∀ (fu : Nat), ∀ (vx : Nat) (ρ2 : Sx), (vx ≤ w) → (PD h w (pt (dnT w h vy vx) (tnC w h c)) ρ2) → w - vx < fu → ∀ (H : Heap) (locs : List Loc), bk G b (bdL G b β) H → bk G nb (bdL G nb ρ2) H → va_S (fun q => nb ≤ q) zs.heap H locs → H.size = nb + 4 → ∀ ls : Array Slot, lv_has ls 4 [(0, .ref b), (1, .ref nb), (2, .int (nI vy)), (3, .int (nI vx))] → W zp l ze (rL 2 4 66) zs zm za zb zt zc H locs 4 66 Q (F0 zm 28 ls []) := by
          intro fu
          induction fu with
          | zero =>
            intro vx ρ2 hvx hP2 hmu H locs hB hT hS hz ls hl
            exact absurd hmu (Nat.not_lt_zero _)
          | succ fu ih28 =>
            intro vx ρ2 hvx hP2 hmu H locs hB hT hS hz ls hl
            refine lv_iload_n hx hb dX0_turned_28 rfl (lv_at hl 3 rfl) ?_
            refine lv_aload_n hx hb dX0_turned_29 rfl (lv_at hl 0 rfl) ?_
            refine kg (C := RX0) (T := TX0) (N := 9) (ci := 0) (k := 0) (v := .int (nI (β.1 0))) S hK rfl inX0 (by decide) q_194 dX0_turned_30 hB rfl rfl ?_
            refine n_icmp_ge (tgt := 61) hx hb dX0_turned_33 (by decide) (by omega) (by omega) (fun c_33 => ?_) (fun c_33 => ?_)
            ·
              refine lv_iinc (v := (nI (vy + 1))) (lv' := [(2, .int (nI (vy + 1))), (0, .ref b), (1, .ref nb), (3, .int (nI vx))]) hx hb dX0_turned_61 hl (k := 2) rfl (inc1 _) (by decide) rfl (fun ls hl => ?_)
              refine lv_goto (tgt := 18) hx hb dX0_turned_64 (by decide) ?_
              exact ih18 (vy + 1) ρ2 (by omega) (PD_congr hP2 (pt_c (fun k hk => dec_e (by omega)))) (by omega) _ _ hB hT hS hz ls (lv_sub hl [1, 2, 0] rfl)
            ·
              refine lv_aload_n hx hb dX0_turned_36 rfl (lv_at hl 1 rfl) ?_
              refine lv_aload_n hx hb dX0_turned_37 rfl (lv_at hl 0 rfl) ?_
              refine kg (C := RX0) (T := TX0) (N := 9) (ci := 0) (k := 1) (v := .int (nI (β.1 1))) S hK rfl inX0 (by decide) q_196 dX0_turned_38 hB rfl rfl ?_
              refine lv_iconst (v := nI 1) hx hb dX0_turned_41 (by decide) ?_
              refine n_isub hx hb dX0_turned_42 (by omega) ?_
              refine lv_iload_n hx hb dX0_turned_43 rfl (lv_at hl 2 rfl) ?_
              refine n_isub hx hb dX0_turned_44 (by omega) ?_
              refine lv_iload_n hx hb dX0_turned_45 rfl (lv_at hl 3 rfl) ?_
              refine lv_aload_n hx hb dX0_turned_46 rfl (lv_at hl 0 rfl) ?_
              refine lv_iload_n hx hb dX0_turned_47 rfl (lv_at hl 3 rfl) ?_
              refine lv_iload_n hx hb dX0_turned_48 rfl (lv_at hl 2 rfl) ?_
              refine crV (rest := [.int (nI vx), .int (nI (((β.1 1) - 1) - vy)), .ref nb]) S hK (c_X0_codeAt_n l G b β vx vy (by omega) (by omega) (by omega) (by omega)) cw_X0_65 rfl ⟨Nat.le_of_ble_eq_true rfl, Nat.le_of_ble_eq_true rfl⟩ ⟨Nat.le_of_ble_eq_true rfl, Nat.le_of_ble_eq_true rfl⟩ (bk.recv hK hB rfl rfl) hl.1 rfl (Nat.le_of_ble_eq_true rfl) dX0_turned_49 hB ?_
              have hv9 : β.2.1 2 (5 * vy + vx) = tnC w h c (5 * vx + (β.1 1 - 1 - vy)) := by
                rw [hg2 _ (by omega)]
                unfold tnC
                rw [if_pos (by omega), show 5 * (h - 1 - (5 * vx + (β.1 1 - 1 - vy)) % 5) + (5 * vx + (β.1 1 - 1 - vy)) / 5 = 5 * vy + vx from by omega]
              refine ctVv (rest := []) S hK (c_X0_set l G (nb + 4) nb ρ2 (((β.1 1) - 1) - vy) vx (β.2.1 2 (5 * vy + vx)) h w (dnT w h vy vx) (dnT w h vy (vx + 1)) (tnC w h c) hP2 (by omega) (by omega) (by omega) hUd (decide_eq_false (by omega)) (fun i hi => dec_or (by omega)) hv9) cw_X0_77 rfl ⟨Nat.le_of_ble_eq_true rfl, Nat.le_of_ble_eq_true rfl⟩ ⟨Nat.le_of_ble_eq_true rfl, Nat.le_of_ble_eq_true rfl⟩ (bk.recv hK hT rfl rfl) hl.1 rfl (Nat.le_of_ble_eq_true rfl) dX0_turned_52 ⟨hT, hz⟩ hS (fun _ h => by first | exact h | omega) (fun H locs hPost hz2 hk hS => ?_)
              obtain ⟨hz, ⟨ρ3, hT, hP3⟩⟩ := hPost
              replace hB := hB.over hk (fun q h1 h2 => by have h3 : q < b + 4 := h2; intro hA1; omega)
              refine lv_iinc (v := (nI (vx + 1))) (lv' := [(3, .int (nI (vx + 1))), (0, .ref b), (1, .ref nb), (2, .int (nI vy))]) hx hb dX0_turned_55 hl (k := 3) rfl (inc1 _) (by decide) rfl (fun ls hl => ?_)
              refine lv_goto (tgt := 28) hx hb dX0_turned_58 (by decide) ?_
              exact ih28 (vx + 1) ρ3 (by omega) hP3 (by omega) _ _ hB hT hS hz ls (lv_sub hl [1, 2, 3, 0] rfl)
        exact L28 ((w - 0) + 1) 0 ρ (Nat.zero_le _) hP (Nat.lt_succ_self _) _ _ hB hT hS hz ls (lv_sub hl [1, 2, 3, 0] rfl)
  exact L18 ((h - 0) + 1) 0 (bd0 (β.1 1) (β.1 0)) (Nat.zero_le _) (by rw [hg0, hg1]; exact PD_new2 (fun k hk => decide_eq_false (by omega))) (Nat.lt_succ_self _) _ _ hB hT hS hz ls (lv_sub hl [2, 1, 0] rfl)

set_option maxHeartbeats 1000000 in
set_option maxRecDepth 100000 in
theorem c_X0_mirrored (l : Launch) (G : Gt) (nb : Nat) (b : Nat) (β : Sx) (w : Nat) (h : Nat) (f : Nat) (c : Nat → Nat) (hBS : BS w h f c) (hBG : BG w h f c β) : Ct l G yX0_mirrored cX0_mirrored 4 ((some (.object "PuzzleParts$Board"))) 2 4 66 [.ref b] (fun H => bk G b (bdL G b β) H ∧ H.size = nb) (some (.ref nb)) (fun H => bk G b (bdL G b β) H ∧ ∃ σ : Sx, bk G nb (bdL G nb σ) H ∧ PD w h (miC w h c) σ) (fun q => nb ≤ q) := by
  refine ct_entry [(0, .ref b)] (by decide) (Nat.le_of_ble_eq_true rfl) rfl ?_
  intro zp ze zs zm za zb zt zc Q S hK hPre hin hE ls hl
  have hx := S.1
  have hb := S.2.1
  obtain ⟨hB, hz⟩ := hPre
  have hS : va_S (fun q => nb ≤ q) zs.heap zs.heap [] := va_S.rf
  obtain ⟨⟨⟨hs1, hs2⟩, ⟨hs3, hs4⟩, hs5⟩, hsO, hsC, hsE, hsU⟩ := id hBS
  obtain ⟨hg0, hg1, hg2, hg3, hg4, hgF⟩ := id hBG
  have hb4 : b + 4 ≤ nb := by have q := bk.lt (k := 3) hB (show 3 < 4 by decide); omega
  have hUd := BS_uq (BS_mi hBS)
  refine kn (C := RX0) (T := TX0) (N := 9) (ci := 0) tyX0 tyX0_ok S hK rfl inX0 q_421 q_189 q_83 [.int (nI 0), .int (nI 0), .null, .int (nI 0), .int (nI 0), .null, .null, .long (lN 0), .long (lN 0)] (fun j hj => by first | (rcases (show j = 0 ∨ j = 1 ∨ j = 2 ∨ j = 3 ∨ j = 4 ∨ j = 5 ∨ j = 6 ∨ j = 7 ∨ j = 8 by omega) with rfl | rfl | rfl | rfl | rfl | rfl | rfl | rfl | rfl <;> rfl)) dX0_mirrored_0 (by decide) (by decide) (h := nb) hz hS (fun H hT hS hz hk => ?_)
  replace hB := hB.kept (fun q h1 h2 => hk q (by have h3 : q < b + 4 := h2; omega))
  refine lv_dup hx hb dX0_mirrored_3 rfl ?_
  refine lv_aload_n hx hb dX0_mirrored_4 rfl (lv_at hl 0 rfl) ?_
  refine kg (C := RX0) (T := TX0) (N := 9) (ci := 0) (k := 0) (v := .int (nI (β.1 0))) S hK rfl inX0 (by decide) q_194 dX0_mirrored_5 hB rfl rfl ?_
  refine lv_aload_n hx hb dX0_mirrored_8 rfl (lv_at hl 0 rfl) ?_
  refine kg (C := RX0) (T := TX0) (N := 9) (ci := 0) (k := 1) (v := .int (nI (β.1 1))) S hK rfl inX0 (by decide) q_196 dX0_mirrored_9 hB rfl rfl ?_
  refine ctI (rest := [.ref nb]) S hK (c_X0_init l G nb (β.1 0) (β.1 1)) cw_X0_74 rfl ⟨Nat.le_of_ble_eq_true rfl, Nat.le_of_ble_eq_true rfl⟩ ⟨Nat.le_of_ble_eq_true rfl, Nat.le_of_ble_eq_true rfl⟩ hl.1 rfl (Nat.le_of_ble_eq_true rfl) dX0_mirrored_12 ⟨hT, hz⟩ hS (fun _ h => by first | exact h | omega) (fun H locs hPost hz2 hk hS => ?_)
  obtain ⟨hT, hz⟩ := hPost
  replace hB := hB.over hk (fun q h1 h2 => by have h3 : q < b + 4 := h2; intro hA1; omega)
  refine lv_astore_n (lv' := [(1, .ref nb), (0, .ref b)]) hx hb dX0_mirrored_15 rfl hl (by decide) rfl (fun ls hl => ?_)
  refine lv_iconst (v := nI 0) hx hb dX0_mirrored_16 (by decide) ?_
  refine lv_istore_n (lv' := [(2, .int (nI 0)), (1, .ref nb), (0, .ref b)]) hx hb dX0_mirrored_17 rfl hl (by decide) rfl (fun ls hl => ?_)
  have L18 : ∀ (fu : Nat), ∀ (vy : Nat) (ρ : Sx), (vy ≤ h) → (PD w h (pt (dnM w h vy 0) (miC w h c)) ρ) → h - vy < fu → ∀ (H : Heap) (locs : List Loc), bk G b (bdL G b β) H → bk G nb (bdL G nb ρ) H → va_S (fun q => nb ≤ q) zs.heap H locs → H.size = nb + 4 → ∀ ls : Array Slot, lv_has ls 4 [(0, .ref b), (1, .ref nb), (2, .int (nI vy))] → W zp l ze (rL 2 4 66) zs zm za zb zt zc H locs 4 66 Q (F0 zm 18 ls []) := by
    intro fu
    induction fu with
    | zero =>
      intro vy ρ hvy hP hmu H locs hB hT hS hz ls hl
      exact absurd hmu (Nat.not_lt_zero _)
    | succ fu ih18 =>
      intro vy ρ hvy hP hmu H locs hB hT hS hz ls hl
      refine lv_iload_n hx hb dX0_mirrored_18 rfl (lv_at hl 2 rfl) ?_
      refine lv_aload_n hx hb dX0_mirrored_19 rfl (lv_at hl 0 rfl) ?_
      refine kg (C := RX0) (T := TX0) (N := 9) (ci := 0) (k := 1) (v := .int (nI (β.1 1))) S hK rfl inX0 (by decide) q_196 dX0_mirrored_20 hB rfl rfl ?_
      refine n_icmp_ge (tgt := 67) hx hb dX0_mirrored_23 (by decide) (by omega) (by omega) (fun c_23 => ?_) (fun c_23 => ?_)
      ·
        refine lv_aload_n hx hb dX0_mirrored_67 rfl (lv_at hl 1 rfl) ?_
        exact hE _ _ _ _ _ _ (kr_a dX0_mirrored_68) hS (by decide) (by decide) ⟨hB, _, hT, PD_congr hP (pt_all (fun k hk => by
          by_cases z : k % 5 < w ∧ k / 5 < h
          · exact Or.inl (decide_eq_true (by omega))
          · exact Or.inr (if_neg z)))⟩
      ·
        refine lv_iconst (v := nI 0) hx hb dX0_mirrored_26 (by decide) ?_
        refine lv_istore_n (lv' := [(3, .int (nI 0)), (0, .ref b), (1, .ref nb), (2, .int (nI vy))]) hx hb dX0_mirrored_27 rfl hl (by decide) rfl (fun ls hl => ?_)
        have L28 : ∀ (fu : Nat), ∀ (vx : Nat) (ρ2 : Sx), (vx ≤ w) → (PD w h (pt (dnM w h vy vx) (miC w h c)) ρ2) → w - vx < fu → ∀ (H : Heap) (locs : List Loc), bk G b (bdL G b β) H → bk G nb (bdL G nb ρ2) H → va_S (fun q => nb ≤ q) zs.heap H locs → H.size = nb + 4 → ∀ ls : Array Slot, lv_has ls 4 [(0, .ref b), (1, .ref nb), (2, .int (nI vy)), (3, .int (nI vx))] → W zp l ze (rL 2 4 66) zs zm za zb zt zc H locs 4 66 Q (F0 zm 28 ls []) := by
          intro fu
          induction fu with
          | zero =>
            intro vx ρ2 hvx hP2 hmu H locs hB hT hS hz ls hl
            exact absurd hmu (Nat.not_lt_zero _)
          | succ fu ih28 =>
            intro vx ρ2 hvx hP2 hmu H locs hB hT hS hz ls hl
            refine lv_iload_n hx hb dX0_mirrored_28 rfl (lv_at hl 3 rfl) ?_
            refine lv_aload_n hx hb dX0_mirrored_29 rfl (lv_at hl 0 rfl) ?_
            refine kg (C := RX0) (T := TX0) (N := 9) (ci := 0) (k := 0) (v := .int (nI (β.1 0))) S hK rfl inX0 (by decide) q_194 dX0_mirrored_30 hB rfl rfl ?_
            refine n_icmp_ge (tgt := 61) hx hb dX0_mirrored_33 (by decide) (by omega) (by omega) (fun c_33 => ?_) (fun c_33 => ?_)
            ·
              refine lv_iinc (v := (nI (vy + 1))) (lv' := [(2, .int (nI (vy + 1))), (0, .ref b), (1, .ref nb), (3, .int (nI vx))]) hx hb dX0_mirrored_61 hl (k := 2) rfl (inc1 _) (by decide) rfl (fun ls hl => ?_)
              refine lv_goto (tgt := 18) hx hb dX0_mirrored_64 (by decide) ?_
              exact ih18 (vy + 1) ρ2 (by omega) (PD_congr hP2 (pt_c (fun k hk => dec_e (by omega)))) (by omega) _ _ hB hT hS hz ls (lv_sub hl [1, 2, 0] rfl)
            ·
              refine lv_aload_n hx hb dX0_mirrored_36 rfl (lv_at hl 1 rfl) ?_
              refine lv_aload_n hx hb dX0_mirrored_37 rfl (lv_at hl 0 rfl) ?_
              refine kg (C := RX0) (T := TX0) (N := 9) (ci := 0) (k := 0) (v := .int (nI (β.1 0))) S hK rfl inX0 (by decide) q_194 dX0_mirrored_38 hB rfl rfl ?_
              refine lv_iconst (v := nI 1) hx hb dX0_mirrored_41 (by decide) ?_
              refine n_isub hx hb dX0_mirrored_42 (by omega) ?_
              refine lv_iload_n hx hb dX0_mirrored_43 rfl (lv_at hl 3 rfl) ?_
              refine n_isub hx hb dX0_mirrored_44 (by omega) ?_
              refine lv_iload_n hx hb dX0_mirrored_45 rfl (lv_at hl 2 rfl) ?_
              refine lv_aload_n hx hb dX0_mirrored_46 rfl (lv_at hl 0 rfl) ?_
              refine lv_iload_n hx hb dX0_mirrored_47 rfl (lv_at hl 3 rfl) ?_
              refine lv_iload_n hx hb dX0_mirrored_48 rfl (lv_at hl 2 rfl) ?_
              refine crV (rest := [.int (nI vy), .int (nI (((β.1 0) - 1) - vx)), .ref nb]) S hK (c_X0_codeAt_n l G b β vx vy (by omega) (by omega) (by omega) (by omega)) cw_X0_65 rfl ⟨Nat.le_of_ble_eq_true rfl, Nat.le_of_ble_eq_true rfl⟩ ⟨Nat.le_of_ble_eq_true rfl, Nat.le_of_ble_eq_true rfl⟩ (bk.recv hK hB rfl rfl) hl.1 rfl (Nat.le_of_ble_eq_true rfl) dX0_mirrored_49 hB ?_
              have hv9 : β.2.1 2 (5 * vy + vx) = miC w h c (5 * vy + (β.1 0 - 1 - vx)) := by
                rw [hg2 _ (by omega)]
                unfold miC
                rw [if_pos (by omega), show 5 * ((5 * vy + (β.1 0 - 1 - vx)) / 5) + (w - 1 - (5 * vy + (β.1 0 - 1 - vx)) % 5) = 5 * vy + vx from by omega]
              refine ctVv (rest := []) S hK (c_X0_set l G (nb + 4) nb ρ2 (((β.1 0) - 1) - vx) vy (β.2.1 2 (5 * vy + vx)) w h (dnM w h vy vx) (dnM w h vy (vx + 1)) (miC w h c) hP2 (by omega) (by omega) (by omega) hUd (decide_eq_false (by omega)) (fun i hi => dec_or (by omega)) hv9) cw_X0_77 rfl ⟨Nat.le_of_ble_eq_true rfl, Nat.le_of_ble_eq_true rfl⟩ ⟨Nat.le_of_ble_eq_true rfl, Nat.le_of_ble_eq_true rfl⟩ (bk.recv hK hT rfl rfl) hl.1 rfl (Nat.le_of_ble_eq_true rfl) dX0_mirrored_52 ⟨hT, hz⟩ hS (fun _ h => by first | exact h | omega) (fun H locs hPost hz2 hk hS => ?_)
              obtain ⟨hz, ⟨ρ3, hT, hP3⟩⟩ := hPost
              replace hB := hB.over hk (fun q h1 h2 => by have h3 : q < b + 4 := h2; intro hA1; omega)
              refine lv_iinc (v := (nI (vx + 1))) (lv' := [(3, .int (nI (vx + 1))), (0, .ref b), (1, .ref nb), (2, .int (nI vy))]) hx hb dX0_mirrored_55 hl (k := 3) rfl (inc1 _) (by decide) rfl (fun ls hl => ?_)
              refine lv_goto (tgt := 28) hx hb dX0_mirrored_58 (by decide) ?_
              exact ih28 (vx + 1) ρ3 (by omega) hP3 (by omega) _ _ hB hT hS hz ls (lv_sub hl [1, 2, 3, 0] rfl)
        exact L28 ((w - 0) + 1) 0 ρ (Nat.zero_le _) hP (Nat.lt_succ_self _) _ _ hB hT hS hz ls (lv_sub hl [1, 2, 3, 0] rfl)
  exact L18 ((h - 0) + 1) 0 (bd0 (β.1 0) (β.1 1)) (Nat.zero_le _) (by rw [hg0, hg1]; exact PD_new2 (fun k hk => decide_eq_false (by omega))) (Nat.lt_succ_self _) _ _ hB hT hS hz ls (lv_sub hl [2, 1, 0] rfl)

set_option maxHeartbeats 1000000 in
set_option maxRecDepth 100000 in
theorem c_X0_without (l : Launch) (G : Gt) (nb : Nat) (b : Nat) (β : Sx) (w : Nat) (h : Nat) (f : Nat) (c : Nat → Nat) (bl : Nat) (hBS : BS w h f c) (hBG : BG w h f c β) (hbl : ∀ k, k < 20 → bl.testBit k = true → c k = 1) (hbn : bl < 2 ^ 20) : Ct l G yX0_without cX0_without 5 ((some (.object "PuzzleParts$Board"))) 2 4 66 [.ref b, .int (nI bl)] (fun H => bk G b (bdL G b β) H ∧ H.size = nb) (some (.ref nb)) (fun H => bk G b (bdL G b β) H ∧ ∃ σ : Sx, bk G nb (bdL G nb σ) H ∧ PD w h (wiC bl c) σ) (fun q => nb ≤ q) := by
  refine ct_entry [(0, .ref b), (1, .int (nI bl))] (by decide) (Nat.le_of_ble_eq_true rfl) rfl ?_
  intro zp ze zs zm za zb zt zc Q S hK hPre hin hE ls hl
  have hx := S.1
  have hb := S.2.1
  obtain ⟨hB, hz⟩ := hPre
  have hS : va_S (fun q => nb ≤ q) zs.heap zs.heap [] := va_S.rf
  obtain ⟨⟨⟨hs1, hs2⟩, ⟨hs3, hs4⟩, hs5⟩, hsO, hsC, hsE, hsU⟩ := id hBS
  obtain ⟨hg0, hg1, hg2, hg3, hg4, hgF⟩ := id hBG
  have hb4 : b + 4 ≤ nb := by have q := bk.lt (k := 3) hB (show 3 < 4 by decide); omega
  have hUd := BS_uq (BS_wi hBS hbl)
  refine kn (C := RX0) (T := TX0) (N := 9) (ci := 0) tyX0 tyX0_ok S hK rfl inX0 q_421 q_189 q_83 [.int (nI 0), .int (nI 0), .null, .int (nI 0), .int (nI 0), .null, .null, .long (lN 0), .long (lN 0)] (fun j hj => by first | (rcases (show j = 0 ∨ j = 1 ∨ j = 2 ∨ j = 3 ∨ j = 4 ∨ j = 5 ∨ j = 6 ∨ j = 7 ∨ j = 8 by omega) with rfl | rfl | rfl | rfl | rfl | rfl | rfl | rfl | rfl <;> rfl)) dX0_without_0 (by decide) (by decide) (h := nb) hz hS (fun H hT hS hz hk => ?_)
  replace hB := hB.kept (fun q h1 h2 => hk q (by have h3 : q < b + 4 := h2; omega))
  refine lv_dup hx hb dX0_without_3 rfl ?_
  refine lv_aload_n hx hb dX0_without_4 rfl (lv_at hl 0 rfl) ?_
  refine kg (C := RX0) (T := TX0) (N := 9) (ci := 0) (k := 0) (v := .int (nI (β.1 0))) S hK rfl inX0 (by decide) q_194 dX0_without_5 hB rfl rfl ?_
  refine lv_aload_n hx hb dX0_without_8 rfl (lv_at hl 0 rfl) ?_
  refine kg (C := RX0) (T := TX0) (N := 9) (ci := 0) (k := 1) (v := .int (nI (β.1 1))) S hK rfl inX0 (by decide) q_196 dX0_without_9 hB rfl rfl ?_
  refine ctI (rest := [.ref nb]) S hK (c_X0_init l G nb (β.1 0) (β.1 1)) cw_X0_74 rfl ⟨Nat.le_of_ble_eq_true rfl, Nat.le_of_ble_eq_true rfl⟩ ⟨Nat.le_of_ble_eq_true rfl, Nat.le_of_ble_eq_true rfl⟩ hl.1 rfl (Nat.le_of_ble_eq_true rfl) dX0_without_12 ⟨hT, hz⟩ hS (fun _ h => by first | exact h | omega) (fun H locs hPost hz2 hk hS => ?_)
  obtain ⟨hT, hz⟩ := hPost
  replace hB := hB.over hk (fun q h1 h2 => by have h3 : q < b + 4 := h2; intro hA1; omega)
  refine lv_astore_n (lv' := [(2, .ref nb), (0, .ref b), (1, .int (nI bl))]) hx hb dX0_without_15 rfl hl (by decide) rfl (fun ls hl => ?_)
  refine lv_iconst (v := nI 0) hx hb dX0_without_16 (by decide) ?_
  refine lv_istore_n (lv' := [(3, .int (nI 0)), (2, .ref nb), (0, .ref b), (1, .int (nI bl))]) hx hb dX0_without_17 rfl hl (by decide) rfl (fun ls hl => ?_)
  have L18 : ∀ (fu : Nat), ∀ (vy : Nat) (ρ : Sx), (vy ≤ h) → (PD w h (pt (dnI w h vy 0) (wiC bl c)) ρ) → h - vy < fu → ∀ (H : Heap) (locs : List Loc), bk G b (bdL G b β) H → bk G nb (bdL G nb ρ) H → va_S (fun q => nb ≤ q) zs.heap H locs → H.size = nb + 4 → ∀ ls : Array Slot, lv_has ls 5 [(0, .ref b), (1, .int (nI bl)), (2, .ref nb), (3, .int (nI vy))] → W zp l ze (rL 2 4 66) zs zm za zb zt zc H locs 4 66 Q (F0 zm 18 ls []) := by
    intro fu
    induction fu with
    | zero =>
      intro vy ρ hvy hP hmu H locs hB hT hS hz ls hl
      exact absurd hmu (Nat.not_lt_zero _)
    | succ fu ih18 =>
      intro vy ρ hvy hP hmu H locs hB hT hS hz ls hl
      refine lv_iload_n hx hb dX0_without_18 rfl (lv_at hl 3 rfl) ?_
      refine lv_aload_n hx hb dX0_without_19 rfl (lv_at hl 0 rfl) ?_
      refine kg (C := RX0) (T := TX0) (N := 9) (ci := 0) (k := 1) (v := .int (nI (β.1 1))) S hK rfl inX0 (by decide) q_196 dX0_without_20 hB rfl rfl ?_
      refine n_icmp_ge (tgt := 79) hx hb dX0_without_23 (by decide) (by first | omega | exact Nat.lt_of_le_of_lt Nat.and_le_left (by omega)) (by first | omega | exact Nat.lt_of_le_of_lt Nat.and_le_left (by omega)) (fun c_23 => ?_) (fun c_23 => ?_)
      ·
        refine lv_aload_n hx hb dX0_without_79 rfl (lv_at hl 2 rfl) ?_
        exact hE _ _ _ _ _ _ (kr_a dX0_without_80) hS (by decide) (by decide) ⟨hB, _, hT, PD_congr hP (pt_all (fun k hk => by
          by_cases z : k % 5 < w ∧ k / 5 < h
          · exact Or.inl (decide_eq_true (by omega))
          · exact Or.inr (by unfold wiC; rw [hsO k hk z]; split <;> rfl)))⟩
      ·
        refine lv_iconst (v := nI 0) hx hb dX0_without_26 (by decide) ?_
        refine lv_istore (lv' := [(4, .int (nI 0)), (0, .ref b), (1, .int (nI bl)), (2, .ref nb), (3, .int (nI vy))]) hx hb dX0_without_27 hl (by decide) rfl (fun ls hl => ?_)
        have L29 : ∀ (fu : Nat), ∀ (vx : Nat) (ρ2 : Sx), (vx ≤ w) → (PD w h (pt (dnI w h vy vx) (wiC bl c)) ρ2) → w - vx < fu → ∀ (H : Heap) (locs : List Loc), bk G b (bdL G b β) H → bk G nb (bdL G nb ρ2) H → va_S (fun q => nb ≤ q) zs.heap H locs → H.size = nb + 4 → ∀ ls : Array Slot, lv_has ls 5 [(0, .ref b), (1, .int (nI bl)), (2, .ref nb), (3, .int (nI vy)), (4, .int (nI vx))] → W zp l ze (rL 2 4 66) zs zm za zb zt zc H locs 4 66 Q (F0 zm 29 ls []) := by
          intro fu
          induction fu with
          | zero =>
            intro vx ρ2 hvx hP2 hmu H locs hB hT hS hz ls hl
            exact absurd hmu (Nat.not_lt_zero _)
          | succ fu ih29 =>
            intro vx ρ2 hvx hP2 hmu H locs hB hT hS hz ls hl
            refine lv_iload hx hb dX0_without_29 (lv_at hl 4 rfl) ?_
            refine lv_aload_n hx hb dX0_without_31 rfl (lv_at hl 0 rfl) ?_
            refine kg (C := RX0) (T := TX0) (N := 9) (ci := 0) (k := 0) (v := .int (nI (β.1 0))) S hK rfl inX0 (by decide) q_194 dX0_without_32 hB rfl rfl ?_
            refine n_icmp_ge (tgt := 73) hx hb dX0_without_35 (by decide) (by first | omega | exact Nat.lt_of_le_of_lt Nat.and_le_left (by omega)) (by first | omega | exact Nat.lt_of_le_of_lt Nat.and_le_left (by omega)) (fun c_35 => ?_) (fun c_35 => ?_)
            ·
              refine lv_iinc (v := (nI (vy + 1))) (lv' := [(3, .int (nI (vy + 1))), (0, .ref b), (1, .int (nI bl)), (2, .ref nb), (4, .int (nI vx))]) hx hb dX0_without_73 hl (k := 3) rfl (inc1 _) (by decide) rfl (fun ls hl => ?_)
              refine lv_goto (tgt := 18) hx hb dX0_without_76 (by decide) ?_
              exact ih18 (vy + 1) ρ2 (by omega) (PD_congr hP2 (pt_c (fun k hk => dec_e (by omega)))) (by omega) _ _ hB hT hS hz ls (lv_sub hl [1, 2, 3, 0] rfl)
            ·
              refine lv_aload_n hx hb dX0_without_38 rfl (lv_at hl 2 rfl) ?_
              refine lv_iload hx hb dX0_without_39 (lv_at hl 4 rfl) ?_
              refine lv_iload_n hx hb dX0_without_41 rfl (lv_at hl 3 rfl) ?_
              refine lv_iload_n hx hb dX0_without_42 rfl (lv_at hl 1 rfl) ?_
              refine lv_iload hx hb dX0_without_43 (lv_at hl 4 rfl) ?_
              refine lv_iload_n hx hb dX0_without_45 rfl (lv_at hl 3 rfl) ?_
              refine crS (rest := [.int (nI bl), .int (nI vy), .int (nI vx), .ref nb]) S hK (c_X0_bitOf l G vx vy (by omega) (by omega)) cw_X0_68 rfl ⟨Nat.le_of_ble_eq_true rfl, Nat.le_of_ble_eq_true rfl⟩ ⟨Nat.le_of_ble_eq_true rfl, Nat.le_of_ble_eq_true rfl⟩ hl.1 rfl (Nat.le_of_ble_eq_true rfl) dX0_without_46 trivial ?_
              refine n_iand hx hb dX0_without_49 ?_
              refine n_if_ne (tgt := 63) hx hb dX0_without_50 (by decide) (by first | omega | exact Nat.lt_of_le_of_lt Nat.and_le_left (by omega)) (fun c_50 => ?_) (fun c_50 => ?_)
              ·
                refine lv_iconst (v := nI 0) hx hb dX0_without_63 (by decide) ?_
                have hv9 : 0 = wiC bl c (5 * vy + vx) := by
                  unfold wiC
                  rw [if_pos (by have q := mt and_bit0.mpr c_50; simpa using q)]
                refine ctVv (rest := []) S hK (c_X0_set l G (nb + 4) nb ρ2 vx vy 0 w h (dnI w h vy vx) (dnI w h vy (vx + 1)) (wiC bl c) hP2 (by omega) (by omega) (by omega) hUd (decide_eq_false (by omega)) (fun i hi => dec_or (by omega)) hv9) cw_X0_77 rfl ⟨Nat.le_of_ble_eq_true rfl, Nat.le_of_ble_eq_true rfl⟩ ⟨Nat.le_of_ble_eq_true rfl, Nat.le_of_ble_eq_true rfl⟩ (bk.recv hK hT rfl rfl) hl.1 rfl (Nat.le_of_ble_eq_true rfl) dX0_without_64 ⟨hT, hz⟩ hS (fun _ h => by first | exact h | omega) (fun H locs hPost hz2 hk hS => ?_)
                obtain ⟨hz, ⟨ρ3, hT, hP3⟩⟩ := hPost
                replace hB := hB.over hk (fun q h1 h2 => by have h3 : q < b + 4 := h2; intro hA1; omega)
                refine lv_iinc (v := (nI (vx + 1))) (lv' := [(4, .int (nI (vx + 1))), (0, .ref b), (1, .int (nI bl)), (2, .ref nb), (3, .int (nI vy))]) hx hb dX0_without_67 hl (k := 4) rfl (inc1 _) (by decide) rfl (fun ls hl => ?_)
                refine lv_goto (tgt := 29) hx hb dX0_without_70 (by decide) ?_
                exact ih29 (vx + 1) ρ3 (by omega) hP3 (by omega) _ _ hB hT hS hz ls (lv_sub hl [1, 2, 3, 4, 0] rfl)
              ·
                refine lv_aload_n hx hb dX0_without_53 rfl (lv_at hl 0 rfl) ?_
                refine lv_iload hx hb dX0_without_54 (lv_at hl 4 rfl) ?_
                refine lv_iload_n hx hb dX0_without_56 rfl (lv_at hl 3 rfl) ?_
                refine crV (rest := [.int (nI vy), .int (nI vx), .ref nb]) S hK (c_X0_codeAt_n l G b β vx vy (by omega) (by omega) (by omega) (by omega)) cw_X0_65 rfl ⟨Nat.le_of_ble_eq_true rfl, Nat.le_of_ble_eq_true rfl⟩ ⟨Nat.le_of_ble_eq_true rfl, Nat.le_of_ble_eq_true rfl⟩ (bk.recv hK hB rfl rfl) hl.1 rfl (Nat.le_of_ble_eq_true rfl) dX0_without_57 hB ?_
                refine lv_goto (tgt := 64) hx hb dX0_without_60 (by decide) ?_
                have hv9 : β.2.1 2 (5 * vy + vx) = wiC bl c (5 * vy + vx) := by
                  rw [hg2 _ (by omega)]
                  unfold wiC
                  rw [if_neg (by rw [and_bit0.mp c_50]; decide)]
                refine ctVv (rest := []) S hK (c_X0_set l G (nb + 4) nb ρ2 vx vy (β.2.1 2 (5 * vy + vx)) w h (dnI w h vy vx) (dnI w h vy (vx + 1)) (wiC bl c) hP2 (by omega) (by omega) (by omega) hUd (decide_eq_false (by omega)) (fun i hi => dec_or (by omega)) hv9) cw_X0_77 rfl ⟨Nat.le_of_ble_eq_true rfl, Nat.le_of_ble_eq_true rfl⟩ ⟨Nat.le_of_ble_eq_true rfl, Nat.le_of_ble_eq_true rfl⟩ (bk.recv hK hT rfl rfl) hl.1 rfl (Nat.le_of_ble_eq_true rfl) dX0_without_64 ⟨hT, hz⟩ hS (fun _ h => by first | exact h | omega) (fun H locs hPost hz2 hk hS => ?_)
                obtain ⟨hz, ⟨ρ3, hT, hP3⟩⟩ := hPost
                replace hB := hB.over hk (fun q h1 h2 => by have h3 : q < b + 4 := h2; intro hA1; omega)
                refine lv_iinc (v := (nI (vx + 1))) (lv' := [(4, .int (nI (vx + 1))), (0, .ref b), (1, .int (nI bl)), (2, .ref nb), (3, .int (nI vy))]) hx hb dX0_without_67 hl (k := 4) rfl (inc1 _) (by decide) rfl (fun ls hl => ?_)
                refine lv_goto (tgt := 29) hx hb dX0_without_70 (by decide) ?_
                exact ih29 (vx + 1) ρ3 (by omega) hP3 (by omega) _ _ hB hT hS hz ls (lv_sub hl [1, 2, 3, 4, 0] rfl)
        exact L29 ((w - 0) + 1) 0 ρ (Nat.zero_le _) hP (Nat.lt_succ_self _) _ _ hB hT hS hz ls (lv_sub hl [1, 2, 3, 4, 0] rfl)
  exact L18 ((h - 0) + 1) 0 (bd0 (β.1 0) (β.1 1)) (Nat.zero_le _) (by rw [hg0, hg1]; exact PD_new2 (fun k hk => decide_eq_false (by omega))) (Nat.lt_succ_self _) _ _ hB hT hS hz ls (lv_sub hl [2, 3, 1, 0] rfl)
