
/-! a BOARD as it is told: WIDE, HIGH, FACES, codes -/
def FG (f : Nat) (c fp : Nat → Nat) : Prop := (∀ j, j < f → fp j < 20 ∧ c (fp j) = 10 + j) ∧ ∀ k, k < 20 → 10 ≤ c k → c k < 10 + f ∧ fp (c k - 10) = k
abbrev opB (c : Nat → Nat) : Nat := bo (fun k => decide (c k = 1)) 20
def BG (w h f : Nat) (c : Nat → Nat) (β : Sx) : Prop := β.1 0 = w ∧ β.1 1 = h ∧ (∀ k, k < 20 → β.2.1 2 k = c k) ∧ β.1 3 = opB c ∧ β.1 4 = f ∧ FG f c (β.2.1 5)
def BC (f : Nat) (c : Nat → Nat) (β : Sx) : Prop := (∀ s, s < 1 <<< f → β.2.1 6 s = tl 10 (tcM c s)) ∧ β.1 7 = ltM c f ∧ β.1 8 = brM c f
def BS (w h f : Nat) (c : Nat → Nat) : Prop := ((1 ≤ w ∧ w ≤ 5) ∧ (1 ≤ h ∧ h ≤ 4) ∧ f ≤ 5) ∧ (∀ k, k < 20 → ¬ (k % 5 < w ∧ k / 5 < h) → c k = 0) ∧ (∀ k, k < 20 → c k = 0 ∨ c k = 1 ∨ (10 ≤ c k ∧ c k < 10 + f)) ∧ (∀ j, j < f → ∃ k, k < 20 ∧ c k = 10 + j) ∧ ∀ k i, k < 20 → i < 20 → 10 ≤ c k → c k = c i → k = i
/-- codes, each FACE once -/
def UQ (c : Nat → Nat) : Prop := (∀ k, k < 20 → c k = 0 ∨ c k = 1 ∨ (10 ≤ c k ∧ c k < 15)) ∧ ∀ k i, k < 20 → i < 20 → 10 ≤ c k → c k = c i → k = i
theorem BS_uq {w h f : Nat} {c : Nat → Nat} (q : BS w h f c) : UQ c := by
  obtain ⟨⟨-, -, h5⟩, -, h2, -, h4⟩ := q
  refine ⟨fun k hk => ?_, h4⟩
  rcases h2 k hk with e | e | e
  · exact Or.inl e
  · exact Or.inr (Or.inl e)
  · exact Or.inr (Or.inr ⟨e.1, by omega⟩)
theorem opB_congr {c d : Nat → Nat} (h : ∀ k, k < 20 → c k = d k) : opB c = opB d := bo_congr fun k hk => by rw [h k hk]
theorem tcM_congr {c d : Nat → Nat} (h : ∀ k, k < 20 → c k = d k) (s : Nat) : tcM c s = tcM d s := bo_congr fun k hk => by unfold cov; rw [h k hk]
theorem ltM_congr {c d : Nat → Nat} (h : ∀ k, k < 20 → c k = d k) (f : Nat) : ltM c f = ltM d f := bo_congr fun s _ => by rw [tcM_congr h]
theorem brM_congr {c d : Nat → Nat} (h : ∀ k, k < 20 → c k = d k) (f : Nat) : brM c f = brM d f := bo_congr fun s _ => by rw [tcM_congr h]
theorem FG_congr {f : Nat} {c d fp : Nat → Nat} (h : ∀ k, k < 20 → (10 ≤ c k ∨ 10 ≤ d k) → d k = c k) (q : FG f c fp) : FG f d fp := by
  refine ⟨fun j hj => ?_, fun k hk h10 => ?_⟩
  · obtain ⟨h1, h2⟩ := q.1 j hj
    exact ⟨h1, by rw [h _ h1 (Or.inl (by omega))]; exact h2⟩
  · have e := h k hk (Or.inr h10)
    rw [e] at h10 ⊢
    exact q.2 k hk h10
theorem FG_15 {f : Nat} {c fp : Nat → Nat} (q : FG f c fp) (h5 : f ≤ 5) {k : Nat} (hk : k < 20) (h : 10 ≤ c k) : c k < 15 := by
  have := (q.2 k hk h).1
  omega
theorem tcv_tb (fp : Nat → Nat) (st op k : Nat) : ∀ f, (tcv fp st op f).testBit k = true ↔ (op.testBit k = true ∨ ∃ j, j < f ∧ st >>> j &&& 1 = 0 ∧ fp j = k)
  | 0 => by
    show op.testBit k = true ↔ _
    constructor
    · exact Or.inl
    · rintro (h | ⟨j, hj, -⟩)
      · exact h
      · omega
  | f + 1 => by
    have ih := tcv_tb fp st op k f
    show (if st >>> f &&& 1 = 0 then tcv fp st op f ||| 1 <<< fp f else tcv fp st op f).testBit k = true ↔ _
    by_cases hz : st >>> f &&& 1 = 0
    · rw [if_pos hz, Nat.testBit_or, Nat.one_shiftLeft, Nat.testBit_two_pow, Bool.or_eq_true, ih, decide_eq_true_eq]
      constructor
      · rintro ((h | ⟨j, h1, h2, h3⟩) | h)
        · exact Or.inl h
        · exact Or.inr ⟨j, by omega, h2, h3⟩
        · exact Or.inr ⟨f, by omega, hz, h⟩
      · rintro (h | ⟨j, h1, h2, h3⟩)
        · exact Or.inl (Or.inl h)
        · by_cases e : j = f
          · subst e
            exact Or.inr h3
          · exact Or.inl (Or.inr ⟨j, by omega, h2, h3⟩)
    · rw [if_neg hz, ih]
      constructor
      · rintro (h | ⟨j, h1, h2, h3⟩)
        · exact Or.inl h
        · exact Or.inr ⟨j, by omega, h2, h3⟩
      · rintro (h | ⟨j, h1, h2, h3⟩)
        · exact Or.inl h
        · by_cases e : j = f
          · subst e
            exact absurd h2 hz
          · exact Or.inr ⟨j, by omega, h2, h3⟩
theorem tcv_tc {f st : Nat} {c fp : Nat → Nat} (q : FG f c fp) : tcv fp st (opB c) f = tcM c st := by
  apply Nat.eq_of_testBit_eq
  intro k
  rw [Bool.eq_iff_iff, tcv_tb, bo_tb, bo_tb]
  unfold cov
  simp only [Bool.and_eq_true, Bool.or_eq_true, decide_eq_true_eq]
  constructor
  · rintro (⟨h1, h2⟩ | ⟨j, h1, h2, h3⟩)
    · exact ⟨h1, Or.inl h2⟩
    · obtain ⟨e1, e2⟩ := q.1 j h1
      rw [h3] at e1 e2
      exact ⟨e1, Or.inr ⟨by omega, by rw [e2, Nat.add_sub_cancel_left]; exact h2⟩⟩
  · rintro ⟨h1, h2 | ⟨h2, h3⟩⟩
    · exact Or.inl ⟨h1, h2⟩
    · obtain ⟨e1, e2⟩ := q.2 k h1 h2
      exact Or.inr ⟨c k - 10, by omega, h3, e2⟩
theorem opB_less (c : Nat → Nat) (k : Nat) (hk : k < 20) (h1 : c k = 1) : opB (uN c k 0) = andn (opB c) (1 <<< k) := by
  apply Nat.eq_of_testBit_eq
  intro i
  rw [andn_tb, bo_tb, bo_tb, Nat.one_shiftLeft, Nat.testBit_two_pow]
  by_cases e : i = k
  · subst e
    rw [uN_s]
    simp
  · rw [uN_n e, decide_eq_false (p := k = i) (fun q => e q.symm)]
    simp
theorem FG_less {f k : Nat} {c fp : Nat → Nat} (q : FG f c fp) (h1 : c k = 1) : FG f (uN c k 0) fp := FG_congr (fun i _ h => by
  by_cases e : i = k
  · subst e
    rw [uN_s] at h
    omega
  · exact uN_n e) q
def cvA (c : Nat → Nat) (st k : Nat) : Nat := if c k = 0 then 0 else if (tcM c st).testBit k then fcv 10 (tcM c st) k else 5
theorem tc_j {c : Nat → Nat} {st k : Nat} (h10 : 10 ≤ c k) (hb : ¬ (st >>> (c k - 10) &&& 1 = 0)) : (tcM c st).testBit k = false := by
  rw [bo_tb]
  unfold cov
  rw [decide_eq_false (p := c k = 1) (by omega), decide_eq_false hb]
  simp
theorem tc_c {c : Nat → Nat} {st k : Nat} (hk : k < 20) (h : c k = 1 ∨ (10 ≤ c k ∧ st >>> (c k - 10) &&& 1 = 0)) : (tcM c st).testBit k = true := by
  rw [bo_tb]
  unfold cov
  rw [decide_eq_true hk]
  rcases h with h | ⟨h1, h2⟩
  · rw [decide_eq_true h]
    rfl
  · rw [decide_eq_true h1, decide_eq_true h2]
    simp

theorem c_X0_codeAt_n (l : Launch) (G : Gt) (b : Nat) (β : Sx) (x : Nat) (y : Nat) (hw : β.1 0 ≤ 5) (hh : β.1 1 ≤ 4) (hx9 : x < β.1 0) (hy9 : y < β.1 1) : Cr l G yX0_codeAt cX0_codeAt 3 ((some .int)) 1 [.ref b, .int (nI x), .int (nI y)] (fun H => bk G b (bdL G b β) H) (some (.int (nI (β.2.1 2 (5 * y + x))))) := by
  have h := c_X0_codeAt l G b β (nI x) (nI y) hw hh
  rwa [show cAt β (nI x) (nI y) = β.2.1 2 (5 * y + x) from by unfold cAt; rw [inI_n (by omega), inI_n (by omega), decide_eq_true hx9, decide_eq_true hy9, cx_n (by omega), cx_n (by omega)]; rfl] at h

set_option maxHeartbeats 1000000 in
set_option maxRecDepth 100000 in
theorem c_X0_hasCell (l : Launch) (G : Gt) (b : Nat) (β : Sx) (x : Int32) (hw : β.1 0 ≤ 5) (hh : β.1 1 ≤ 4) : Cr l G yX0_hasCell cX0_hasCell 2 ((some .boolean)) 1 [.ref b, .int x] (fun H => bk G b (bdL G b β) H) (some (.int (b2i (isC (β.1 0) (β.1 1) x)))) := by
  refine cr_entry [(0, .ref b), (1, .int x)] (by decide) (Nat.le_of_ble_eq_true rfl) rfl ?_
  intro zp ze zs zm za zb zt zc Q S hK hPre hE ls hl
  have hx := S.1
  have hb := S.2.1
  have hB := hPre
  refine lv_iload_n hx hb dX0_hasCell_0 rfl (lv_at hl 1 rfl) ?_
  refine lv_if_lt (tgt := 23) hx hb dX0_hasCell_1 (by decide) (fun c_1 => ?_) (fun c_1 => ?_)
  ·
    have hr : isC (β.1 0) (β.1 1) x = false := isC_neg c_1
    refine lv_iconst (v := nI 0) hx hb dX0_hasCell_23 (by decide) ?_
    refine w_top (v' := .int (b2i (isC (β.1 0) (β.1 1) x))) (bz_f (show (isC (β.1 0) (β.1 1) x) = false from hr)) ?_
    exact hE _ _ (kr_z dX0_hasCell_24)
  ·
    obtain ⟨j, hj, rfl⟩ := z0 c_1
    have hr : isC (β.1 0) (β.1 1) (nI j) = (inI (nI (j / 10)) (β.1 0) && inI (nI (j % 10)) (β.1 1)) := by rw [isC_n hj, inI_n (by omega), inI_n (by omega)]
    refine lv_aload_n hx hb dX0_hasCell_4 rfl (lv_at hl 0 rfl) ?_
    refine lv_iload_n hx hb dX0_hasCell_5 rfl (lv_at hl 1 rfl) ?_
    refine lv_bipush (v := nI 10) hx hb dX0_hasCell_6 (by decide) ?_
    refine n_idiv hx hb dX0_hasCell_8 (by omega) (by decide) (by decide) ?_
    refine lv_iload_n hx hb dX0_hasCell_9 rfl (lv_at hl 1 rfl) ?_
    refine lv_bipush (v := nI 10) hx hb dX0_hasCell_10 (by decide) ?_
    refine n_irem hx hb dX0_hasCell_12 (by omega) (by decide) (by decide) ?_
    refine crV (rest := []) S hK (c_X0_isWithin l G b β (nI (j / 10)) (nI (j % 10)) (by first | assumption | omega | decide) (by first | assumption | omega | decide)) cw_X0_26 rfl ⟨Nat.le_of_ble_eq_true rfl, Nat.le_of_ble_eq_true rfl⟩ ⟨Nat.le_of_ble_eq_true rfl, Nat.le_of_ble_eq_true rfl⟩ (bk.recv hK hB rfl rfl) hl.1 rfl (Nat.le_of_ble_eq_true rfl) dX0_hasCell_13 hB ?_
    refine z_if_eq (tgt := 23) hx hb dX0_hasCell_16 (by decide) (fun c_16 => ?_) (fun c_16 => ?_)
    ·
      refine lv_iconst (v := nI 0) hx hb dX0_hasCell_23 (by decide) ?_
      refine w_top (v' := .int (b2i (isC (β.1 0) (β.1 1) (nI j)))) (bz_f (show (isC (β.1 0) (β.1 1) (nI j)) = false from hr.trans c_16)) ?_
      exact hE _ _ (kr_z dX0_hasCell_24)
    ·
      refine lv_iconst (v := nI 1) hx hb dX0_hasCell_19 (by decide) ?_
      refine lv_goto (tgt := 24) hx hb dX0_hasCell_20 (by decide) ?_
      refine w_top (v' := .int (b2i (isC (β.1 0) (β.1 1) (nI j)))) (bz_t (show (isC (β.1 0) (β.1 1) (nI j)) = true from hr.trans c_16)) ?_
      exact hE _ _ (kr_z dX0_hasCell_24)

set_option maxHeartbeats 1000000 in
set_option maxRecDepth 100000 in
theorem c_X0_hasState (l : Launch) (G : Gt) (b : Nat) (β : Sx) (st : Int32) (hf : β.1 4 ≤ 5) : Cr l G yX0_hasState cX0_hasState 2 ((some .boolean)) 1 [.ref b, .int st] (fun H => bk G b (bdL G b β) H) (some (.int (b2i (inI st (1 <<< β.1 4))))) := by
  refine cr_entry [(0, .ref b), (1, .int st)] (by decide) (Nat.le_of_ble_eq_true rfl) rfl ?_
  intro zp ze zs zm za zb zt zc Q S hK hPre hE ls hl
  have hx := S.1
  have hb := S.2.1
  have hB := hPre
  have hsh := shl_le hf
  refine lv_iload_n hx hb dX0_hasState_0 rfl (lv_at hl 1 rfl) ?_
  refine lv_if_lt (tgt := 16) hx hb dX0_hasState_1 (by decide) (fun c_1 => ?_) (fun c_1 => ?_)
  ·
    have hr : inI st (1 <<< β.1 4) = false := inI_lt c_1
    refine lv_iconst (v := nI 0) hx hb dX0_hasState_16 (by decide) ?_
    refine w_top (v' := .int (b2i (inI st (1 <<< β.1 4)))) (bz_f (show (inI st (1 <<< β.1 4)) = false from hr)) ?_
    exact hE _ _ (kr_z dX0_hasState_17)
  ·
    refine lv_iload_n hx hb dX0_hasState_4 rfl (lv_at hl 1 rfl) ?_
    refine lv_aload_n hx hb dX0_hasState_5 rfl (lv_at hl 0 rfl) ?_
    refine crV (rest := [.int st]) S hK (c_X0_states l G b β (by first | assumption | omega | decide)) cw_X0_36 rfl ⟨Nat.le_of_ble_eq_true rfl, Nat.le_of_ble_eq_true rfl⟩ ⟨Nat.le_of_ble_eq_true rfl, Nat.le_of_ble_eq_true rfl⟩ (bk.recv hK hB rfl rfl) hl.1 rfl (Nat.le_of_ble_eq_true rfl) dX0_hasState_6 hB ?_
    refine lv_icmp_ge (tgt := 16) hx hb dX0_hasState_9 (by decide) (fun c_9 => ?_) (fun c_9 => ?_)
    ·
      have hr : inI st (1 <<< β.1 4) = false := inI_ge (by omega) c_9
      refine lv_iconst (v := nI 0) hx hb dX0_hasState_16 (by decide) ?_
      refine w_top (v' := .int (b2i (inI st (1 <<< β.1 4)))) (bz_f (show (inI st (1 <<< β.1 4)) = false from hr)) ?_
      exact hE _ _ (kr_z dX0_hasState_17)
    ·
      have hr : inI st (1 <<< β.1 4) = true := inI_of (by omega) c_1 c_9
      refine lv_iconst (v := nI 1) hx hb dX0_hasState_12 (by decide) ?_
      refine lv_goto (tgt := 17) hx hb dX0_hasState_13 (by decide) ?_
      refine w_top (v' := .int (b2i (inI st (1 <<< β.1 4)))) (bz_t (show (inI st (1 <<< β.1 4)) = true from hr)) ?_
      exact hE _ _ (kr_z dX0_hasState_17)

set_option maxHeartbeats 1000000 in
set_option maxRecDepth 100000 in
theorem c_X0_letWith (l : Launch) (G : Gt) (b : Nat) (β : Sx) (c : Nat → Nat) (op : Nat) (hf : β.1 4 ≤ 5) (hF : FG (β.1 4) c (β.2.1 5)) (hop : op = opB c) : Cr l G yX0_letWith cX0_letWith 5 ((some .long)) 13 [.ref b, .int (nI op)] (fun H => bk G b (bdL G b β) H) (some (.long (lN (ltM c (β.1 4))))) := by
  refine cr_entry [(0, .ref b), (1, .int (nI op))] (by decide) (Nat.le_of_ble_eq_true rfl) rfl ?_
  intro zp ze zs zm za zb zt zc Q S hK hPre hE ls hl
  have hx := S.1
  have hb := S.2.1
  have hB := hPre
  subst hop
  have hsh := shl_le hf
  have htb := fun s => Nat.lt_of_le_of_lt (tl_le 10 s) (show 2 ^ 10 < 2 ^ 31 by decide)
  refine lv_lconst (v := lN 0) hx hb dX0_letWith_0 (by decide) ?_
  refine lv_lstore_n (lv' := [(2, .long (lN 0)), (0, .ref b), (1, .int (nI (opB c)))]) hx hb dX0_letWith_1 rfl hl (by decide) rfl (fun ls hl => ?_)
  refine lv_iconst (v := nI 0) hx hb dX0_letWith_2 (by decide) ?_
  refine lv_istore (lv' := [(4, .int (nI 0)), (2, .long (lN 0)), (0, .ref b), (1, .int (nI (opB c)))]) hx hb dX0_letWith_3 hl (by decide) rfl (fun ls hl => ?_)
  have L5 : ∀ (fu : Nat), ∀ (vs : Nat), (vs ≤ 1 <<< β.1 4) → 1 <<< β.1 4 - vs < fu → ∀ ls : Array Slot, lv_has ls 5 [(0, .ref b), (1, .int (nI (opB c))), (2, .long (lN (bo (fun s => tlb 10 (tcM c s)) vs))), (4, .int (nI vs))] → W zp l ze (rL 13 0 0) zs zm za zb zt zc zs.heap [] 0 0 Q (F0 zm 5 ls []) := by
    intro fu
    induction fu with
    | zero =>
      intro vs hvs hmu ls hl
      exact absurd hmu (Nat.not_lt_zero _)
    | succ fu ih5 =>
      intro vs hvs hmu ls hl
      refine lv_iload hx hb dX0_letWith_5 (lv_at hl 3 rfl) ?_
      refine lv_aload_n hx hb dX0_letWith_7 rfl (lv_at hl 0 rfl) ?_
      refine crV (rest := [.int (nI vs)]) S hK (c_X0_states l G b β (by first | assumption | omega | decide)) cw_X0_36 rfl ⟨Nat.le_of_ble_eq_true rfl, Nat.le_of_ble_eq_true rfl⟩ ⟨Nat.le_of_ble_eq_true rfl, Nat.le_of_ble_eq_true rfl⟩ (bk.recv hK hB rfl rfl) hl.1 rfl (Nat.le_of_ble_eq_true rfl) dX0_letWith_8 hB ?_
      refine n_icmp_ge (tgt := 40) hx hb dX0_letWith_11 (by decide) (by first | omega | exact htb _) (by first | omega | exact htb _) (fun c_11 => ?_) (fun c_11 => ?_)
      ·
        have hr : bo (fun s => tlb 10 (tcM c s)) vs = ltM c (β.1 4) := by rw [show vs = 1 <<< β.1 4 from by omega]
        refine lv_lload_n hx hb dX0_letWith_40 rfl (lv_at hl 2 rfl) ?_
        refine w_top (v' := .long (lN (ltM c (β.1 4)))) (congrArg (fun z => Value.long (lN z)) (show (bo (fun s => tlb 10 (tcM c s)) vs) = (ltM c (β.1 4)) from hr)) ?_
        exact hE _ _ (kr_l dX0_letWith_41)
      ·
        refine lv_aload_n hx hb dX0_letWith_14 rfl (lv_at hl 0 rfl) ?_
        refine lv_iload_n hx hb dX0_letWith_15 rfl (lv_at hl 1 rfl) ?_
        refine lv_iload hx hb dX0_letWith_16 (lv_at hl 3 rfl) ?_
        refine crV (rest := []) S hK (c_X0_toCover l G b β (opB c) vs (by first | assumption | omega | decide) (by omega) (fun k hk => (hF.1 k hk).1)) cw_X0_40 rfl ⟨Nat.le_of_ble_eq_true rfl, Nat.le_of_ble_eq_true rfl⟩ ⟨Nat.le_of_ble_eq_true rfl, Nat.le_of_ble_eq_true rfl⟩ (bk.recv hK hB rfl rfl) hl.1 rfl (Nat.le_of_ble_eq_true rfl) dX0_letWith_18 hB ?_
        refine w_top (v' := .int (nI (tcM c vs))) (congrArg (fun z => Value.int (nI z)) (tcv_tc hF)) ?_
        refine crS (rest := []) S hK (c_X5_number l G (tcM c vs) (tcM_lt _ _)) cw_X0_44 rfl ⟨Nat.le_of_ble_eq_true rfl, Nat.le_of_ble_eq_true rfl⟩ ⟨Nat.le_of_ble_eq_true rfl, Nat.le_of_ble_eq_true rfl⟩ hl.1 rfl (Nat.le_of_ble_eq_true rfl) dX0_letWith_21 trivial ?_
        refine n_if_le (tgt := 34) hx hb dX0_letWith_24 (by decide) (by first | omega | exact htb _) (fun c_24 => ?_) (fun c_24 => ?_)
        ·
          have e2 := (bo_f (P := fun s => tlb 10 (tcM c s)) (n := vs) (tlb_z c_24)).symm
          refine lv_iinc (v := nI (vs + 1)) (lv' := [(4, .int (nI (vs + 1))), (0, .ref b), (1, .int (nI (opB c))), (2, .long (lN (bo (fun s => tlb 10 (tcM c s)) vs)))]) hx hb dX0_letWith_34 hl (k := 3) rfl (inc1 _) (by decide) rfl (fun ls hl => ?_)
          refine lv_goto (tgt := 5) hx hb dX0_letWith_37 (by decide) ?_
          replace hl := lv_eq 3 hl rfl (v2 := .long (lN (bo (fun s => tlb 10 (tcM c s)) (vs + 1)))) (congrArg (fun z => Value.long (lN z)) (show (bo (fun s => tlb 10 (tcM c s)) vs) = (bo (fun s => tlb 10 (tcM c s)) (vs + 1)) from e2))
          exact ih5 (vs + 1) (by first | assumption | omega) (by omega) ls (lv_sub hl [1, 2, 3, 0] rfl)
        ·
          have e2 := (bo_t (P := fun s => tlb 10 (tcM c s)) (n := vs) (tlb_p c_24)).symm
          refine lv_lload_n hx hb dX0_letWith_27 rfl (lv_at hl 2 rfl) ?_
          refine lv_lconst (v := lN 1) hx hb dX0_letWith_28 (by decide) ?_
          refine lv_iload hx hb dX0_letWith_29 (lv_at hl 3 rfl) ?_
          refine n_lshl hx hb dX0_letWith_31 (by first | omega | exact htb _) ?_
          refine n_lor hx hb dX0_letWith_32 ?_
          refine lv_lstore_n (lv' := [(2, .long (lN ((bo (fun s => tlb 10 (tcM c s)) vs) ||| (1 <<< vs)))), (0, .ref b), (1, .int (nI (opB c))), (4, .int (nI vs))]) hx hb dX0_letWith_33 rfl hl (by decide) rfl (fun ls hl => ?_)
          refine lv_iinc (v := nI (vs + 1)) (lv' := [(4, .int (nI (vs + 1))), (2, .long (lN ((bo (fun s => tlb 10 (tcM c s)) vs) ||| (1 <<< vs)))), (0, .ref b), (1, .int (nI (opB c)))]) hx hb dX0_letWith_34 hl (k := 3) rfl (inc1 _) (by decide) rfl (fun ls hl => ?_)
          refine lv_goto (tgt := 5) hx hb dX0_letWith_37 (by decide) ?_
          replace hl := lv_eq 1 hl rfl (v2 := .long (lN (bo (fun s => tlb 10 (tcM c s)) (vs + 1)))) (congrArg (fun z => Value.long (lN z)) (show ((bo (fun s => tlb 10 (tcM c s)) vs) ||| (1 <<< vs)) = (bo (fun s => tlb 10 (tcM c s)) (vs + 1)) from e2))
          exact ih5 (vs + 1) (by first | assumption | omega) (by omega) ls (lv_sub hl [2, 3, 1, 0] rfl)
  replace hl := lv_eq 1 hl rfl (v2 := .long (lN (bo (fun s => tlb 10 (tcM c s)) 0))) (congrArg (fun z => Value.long (lN z)) (show 0 = (bo (fun s => tlb 10 (tcM c s)) 0) from by first | rfl | omega))
  exact L5 ((1 <<< β.1 4 - 0) + 1) 0 (Nat.zero_le _) (Nat.lt_succ_self _) ls (lv_sub hl [2, 3, 1, 0] rfl)

set_option maxHeartbeats 1000000 in
set_option maxRecDepth 100000 in
theorem c_X0_needlessCells (l : Launch) (G : Gt) (b : Nat) (β : Sx) (w : Nat) (h : Nat) (f : Nat) (c : Nat → Nat) (hBS : BS w h f c) (hBG : BG w h f c β) (hBC : BC f c β) : Cr l G yX0_needlessCells cX0_needlessCells 3 ((some .int)) 14 [.ref b] (fun H => bk G b (bdL G b β) H) (some (.int (nI (bo (fun k => decide (c k = 1) && decide (ltM (uN c k 0) (β.1 4) = ltM c (β.1 4))) 20)))) := by
  refine cr_entry [(0, .ref b)] (by decide) (Nat.le_of_ble_eq_true rfl) rfl ?_
  intro zp ze zs zm za zb zt zc Q S hK hPre hE ls hl
  have hx := S.1
  have hb := S.2.1
  have hB := hPre
  obtain ⟨⟨⟨hs1, hs2⟩, ⟨hs3, hs4⟩, hs5⟩, hsO, hsC, hsE, hsU⟩ := id hBS
  obtain ⟨hg0, hg1, hg2, hg3, hg4, hgF⟩ := id hBG
  obtain ⟨hc6, hc7, hc8⟩ := hBC
  rw [← hg4] at hgF hc7
  refine lv_iconst (v := nI 0) hx hb dX0_needlessCells_0 (by decide) ?_
  refine lv_istore_n (lv' := [(1, .int (nI 0)), (0, .ref b)]) hx hb dX0_needlessCells_1 rfl hl (by decide) rfl (fun ls hl => ?_)
  refine lv_iconst (v := nI 0) hx hb dX0_needlessCells_2 (by decide) ?_
  refine lv_istore_n (lv' := [(2, .int (nI 0)), (1, .int (nI 0)), (0, .ref b)]) hx hb dX0_needlessCells_3 rfl hl (by decide) rfl (fun ls hl => ?_)
  have L4 : ∀ (fu : Nat), ∀ (vk : Nat), (vk ≤ 20) → 20 - vk < fu → ∀ ls : Array Slot, lv_has ls 3 [(0, .ref b), (1, .int (nI (bo (fun k => decide (c k = 1) && decide (ltM (uN c k 0) (β.1 4) = ltM c (β.1 4))) vk))), (2, .int (nI vk))] → W zp l ze (rL 14 0 0) zs zm za zb zt zc zs.heap [] 0 0 Q (F0 zm 4 ls []) := by
    intro fu
    induction fu with
    | zero =>
      intro vk hvk hmu ls hl
      exact absurd hmu (Nat.not_lt_zero _)
    | succ fu ih4 =>
      intro vk hvk hmu ls hl
      refine lv_iload_n hx hb dX0_needlessCells_4 rfl (lv_at hl 2 rfl) ?_
      refine lv_aload_n hx hb dX0_needlessCells_5 rfl (lv_at hl 0 rfl) ?_
      refine kg (C := RX0) (T := TX0) (N := 9) (ci := 0) (k := 2) (v := .ref (b + 1)) S hK rfl inX0 (by decide) q_198 dX0_needlessCells_6 hB rfl rfl ?_
      refine kal S hK dX0_needlessCells_9 1 0 hB rfl rfl ?_
      refine w_top (v' := .int (nI 20)) rfl ?_
      refine n_icmp_ge (tgt := 57) hx hb dX0_needlessCells_10 (by decide) (by first | omega | exact bo63 (Nat.le_trans (shl_le (n := 5) (by omega)) (by decide))) (by decide) (fun c_10 => ?_) (fun c_10 => ?_)
      ·
        have hr : bo (fun k => decide (c k = 1) && decide (ltM (uN c k 0) (β.1 4) = ltM c (β.1 4))) vk = bo (fun k => decide (c k = 1) && decide (ltM (uN c k 0) (β.1 4) = ltM c (β.1 4))) 20 := by rw [show vk = 20 from by omega]
        refine lv_iload_n hx hb dX0_needlessCells_57 rfl (lv_at hl 1 rfl) ?_
        refine w_top (v' := .int (nI (bo (fun k => decide (c k = 1) && decide (ltM (uN c k 0) (β.1 4) = ltM c (β.1 4))) 20))) (congrArg (fun z => Value.int (nI z)) (show (bo (fun k => decide (c k = 1) && decide (ltM (uN c k 0) (β.1 4) = ltM c (β.1 4))) vk) = (bo (fun k => decide (c k = 1) && decide (ltM (uN c k 0) (β.1 4) = ltM c (β.1 4))) 20) from hr)) ?_
        exact hE _ _ (kr_i dX0_needlessCells_58)
      ·
        have hcv := hg2 vk (by omega)
        have hcb := hsC vk (by omega)
        refine lv_aload_n hx hb dX0_needlessCells_13 rfl (lv_at hl 0 rfl) ?_
        refine kg (C := RX0) (T := TX0) (N := 9) (ci := 0) (k := 2) (v := .ref (b + 1)) S hK rfl inX0 (by decide) q_198 dX0_needlessCells_14 hB rfl rfl ?_
        refine lv_iload_n hx hb dX0_needlessCells_17 rfl (lv_at hl 2 rfl) ?_
        refine kil (f := β.2.1 2) S hK dX0_needlessCells_18 1 hB rfl (by decide) rfl (by first | omega | exact bo63 (Nat.le_trans (shl_le (n := 5) (by omega)) (by decide))) ?_
        refine w_top (v' := .int (nI (c vk))) (congrArg (fun z => Value.int (nI z)) hcv) ?_
        refine lv_iconst (v := nI 1) hx hb dX0_needlessCells_19 (by decide) ?_
        refine n_icmp_ne (tgt := 51) hx hb dX0_needlessCells_20 (by decide) (by first | omega | exact bo63 (Nat.le_trans (shl_le (n := 5) (by omega)) (by decide))) (by decide) (fun c_20 => ?_) (fun c_20 => ?_)
        ·
          have e2 := (bo_f (P := fun k => decide (c k = 1) && decide (ltM (uN c k 0) (β.1 4) = ltM c (β.1 4))) (n := vk) (by rw [decide_eq_false c_20]; rfl)).symm
          refine lv_iinc (v := nI (vk + 1)) (lv' := [(2, .int (nI (vk + 1))), (0, .ref b), (1, .int (nI (bo (fun k => decide (c k = 1) && decide (ltM (uN c k 0) (β.1 4) = ltM c (β.1 4))) vk)))]) hx hb dX0_needlessCells_51 hl (k := 2) rfl (inc1 _) (by decide) rfl (fun ls hl => ?_)
          refine lv_goto (tgt := 4) hx hb dX0_needlessCells_54 (by decide) ?_
          replace hl := lv_eq 2 hl rfl (v2 := .int (nI (bo (fun k => decide (c k = 1) && decide (ltM (uN c k 0) (β.1 4) = ltM c (β.1 4))) (vk + 1)))) (congrArg (fun z => Value.int (nI z)) (show (bo (fun k => decide (c k = 1) && decide (ltM (uN c k 0) (β.1 4) = ltM c (β.1 4))) vk) = (bo (fun k => decide (c k = 1) && decide (ltM (uN c k 0) (β.1 4) = ltM c (β.1 4))) (vk + 1)) from e2))
          exact ih4 (vk + 1) (by first | assumption | omega) (by omega) ls (lv_sub hl [1, 2, 0] rfl)
        ·
          have hc1 : c vk = 1 := by omega
          refine lv_aload_n hx hb dX0_needlessCells_23 rfl (lv_at hl 0 rfl) ?_
          refine lv_aload_n hx hb dX0_needlessCells_24 rfl (lv_at hl 0 rfl) ?_
          refine kg (C := RX0) (T := TX0) (N := 9) (ci := 0) (k := 3) (v := .int (nI (β.1 3))) S hK rfl inX0 (by decide) q_199 dX0_needlessCells_25 hB rfl rfl ?_
          refine w_top (v' := .int (nI (opB c))) (congrArg (fun z => Value.int (nI z)) hg3) ?_
          refine lv_iconst (v := nI 1) hx hb dX0_needlessCells_28 (by decide) ?_
          refine lv_iload_n hx hb dX0_needlessCells_29 rfl (lv_at hl 2 rfl) ?_
          refine n_ishl hx hb dX0_needlessCells_30 (by first | omega | exact bo63 (Nat.le_trans (shl_le (n := 5) (by omega)) (by decide))) ?_
          refine lv_iconst (v := (-1)) hx hb dX0_needlessCells_31 (by decide) ?_
          refine lv_ixor hx hb dX0_needlessCells_32 ?_
          refine n_iandn hx hb dX0_needlessCells_33 ?_
          refine crV (rest := []) S hK (c_X0_letWith l G b β (uN c vk 0) (andn (opB c) (1 <<< vk)) (by omega) (FG_less hgF hc1) (opB_less c vk (by omega) hc1).symm) cw_X0_61 rfl ⟨Nat.le_of_ble_eq_true rfl, Nat.le_of_ble_eq_true rfl⟩ ⟨Nat.le_of_ble_eq_true rfl, Nat.le_of_ble_eq_true rfl⟩ (bk.recv hK hB rfl rfl) hl.1 rfl (Nat.le_of_ble_eq_true rfl) dX0_needlessCells_34 hB ?_
          refine lv_aload_n hx hb dX0_needlessCells_37 rfl (lv_at hl 0 rfl) ?_
          refine kg (C := RX0) (T := TX0) (N := 9) (ci := 0) (k := 7) (v := .long (lN (β.1 7))) S hK rfl inX0 (by decide) q_211 dX0_needlessCells_38 hB rfl rfl ?_
          refine w_top (v' := .long (lN (ltM c (β.1 4)))) (congrArg (fun z => Value.long (lN z)) hc7) ?_
          refine W.lcmp hx hb dX0_needlessCells_41 ?_
          refine nl_if_ne (tgt := 51) hx hb dX0_needlessCells_42 (by decide) (by first | omega | exact bo63 (Nat.le_trans (shl_le (n := 5) (by omega)) (by decide))) (by first | omega | exact bo63 (Nat.le_trans (shl_le (n := 5) (by omega)) (by decide))) (fun c_42 => ?_) (fun c_42 => ?_)
          ·
            have e2 := (bo_f (P := fun k => decide (c k = 1) && decide (ltM (uN c k 0) (β.1 4) = ltM c (β.1 4))) (n := vk) (by rw [decide_eq_false (p := ltM (uN c vk 0) (β.1 4) = ltM c (β.1 4)) c_42, Bool.and_false])).symm
            refine lv_iinc (v := nI (vk + 1)) (lv' := [(2, .int (nI (vk + 1))), (0, .ref b), (1, .int (nI (bo (fun k => decide (c k = 1) && decide (ltM (uN c k 0) (β.1 4) = ltM c (β.1 4))) vk)))]) hx hb dX0_needlessCells_51 hl (k := 2) rfl (inc1 _) (by decide) rfl (fun ls hl => ?_)
            refine lv_goto (tgt := 4) hx hb dX0_needlessCells_54 (by decide) ?_
            replace hl := lv_eq 2 hl rfl (v2 := .int (nI (bo (fun k => decide (c k = 1) && decide (ltM (uN c k 0) (β.1 4) = ltM c (β.1 4))) (vk + 1)))) (congrArg (fun z => Value.int (nI z)) (show (bo (fun k => decide (c k = 1) && decide (ltM (uN c k 0) (β.1 4) = ltM c (β.1 4))) vk) = (bo (fun k => decide (c k = 1) && decide (ltM (uN c k 0) (β.1 4) = ltM c (β.1 4))) (vk + 1)) from e2))
            exact ih4 (vk + 1) (by first | assumption | omega) (by omega) ls (lv_sub hl [1, 2, 0] rfl)
          ·
            have e2 := (bo_t (P := fun k => decide (c k = 1) && decide (ltM (uN c k 0) (β.1 4) = ltM c (β.1 4))) (n := vk) (by rw [decide_eq_true hc1, decide_eq_true (p := ltM (uN c vk 0) (β.1 4) = ltM c (β.1 4)) c_42]; rfl)).symm
            refine lv_iload_n hx hb dX0_needlessCells_45 rfl (lv_at hl 1 rfl) ?_
            refine lv_iconst (v := nI 1) hx hb dX0_needlessCells_46 (by decide) ?_
            refine lv_iload_n hx hb dX0_needlessCells_47 rfl (lv_at hl 2 rfl) ?_
            refine n_ishl hx hb dX0_needlessCells_48 (by first | omega | exact bo63 (Nat.le_trans (shl_le (n := 5) (by omega)) (by decide))) ?_
            refine n_ior hx hb dX0_needlessCells_49 ?_
            refine lv_istore_n (lv' := [(1, .int (nI ((bo (fun k => decide (c k = 1) && decide (ltM (uN c k 0) (β.1 4) = ltM c (β.1 4))) vk) ||| (1 <<< vk)))), (0, .ref b), (2, .int (nI vk))]) hx hb dX0_needlessCells_50 rfl hl (by decide) rfl (fun ls hl => ?_)
            refine lv_iinc (v := nI (vk + 1)) (lv' := [(2, .int (nI (vk + 1))), (1, .int (nI ((bo (fun k => decide (c k = 1) && decide (ltM (uN c k 0) (β.1 4) = ltM c (β.1 4))) vk) ||| (1 <<< vk)))), (0, .ref b)]) hx hb dX0_needlessCells_51 hl (k := 2) rfl (inc1 _) (by decide) rfl (fun ls hl => ?_)
            refine lv_goto (tgt := 4) hx hb dX0_needlessCells_54 (by decide) ?_
            replace hl := lv_eq 1 hl rfl (v2 := .int (nI (bo (fun k => decide (c k = 1) && decide (ltM (uN c k 0) (β.1 4) = ltM c (β.1 4))) (vk + 1)))) (congrArg (fun z => Value.int (nI z)) (show ((bo (fun k => decide (c k = 1) && decide (ltM (uN c k 0) (β.1 4) = ltM c (β.1 4))) vk) ||| (1 <<< vk)) = (bo (fun k => decide (c k = 1) && decide (ltM (uN c k 0) (β.1 4) = ltM c (β.1 4))) (vk + 1)) from e2))
            exact ih4 (vk + 1) (by first | assumption | omega) (by omega) ls (lv_sub hl [2, 1, 0] rfl)
  replace hl := lv_eq 1 hl rfl (v2 := .int (nI (bo (fun k => decide (c k = 1) && decide (ltM (uN c k 0) (β.1 4) = ltM c (β.1 4))) 0))) (congrArg (fun z => Value.int (nI z)) (show 0 = (bo (fun k => decide (c k = 1) && decide (ltM (uN c k 0) (β.1 4) = ltM c (β.1 4))) 0) from by first | rfl | omega))
  exact L4 ((20 - 0) + 1) 0 (Nat.zero_le _) (Nat.lt_succ_self _) ls (lv_sub hl [2, 1, 0] rfl)

set_option maxHeartbeats 1000000 in
set_option maxRecDepth 100000 in
theorem c_X0_coverAt (l : Launch) (G : Gt) (b : Nat) (β : Sx) (w : Nat) (h : Nat) (f : Nat) (c : Nat → Nat) (st : Nat) (x : Nat) (y : Nat) (hBS : BS w h f c) (hBG : BG w h f c β) (hst : st < 2 ^ 31) (hx9 : x < w) (hy9 : y < h) (ht : tlb 10 (tcM c st) = true) : Cr l G yX0_coverAt cX0_coverAt 5 ((some .int)) 14 [.ref b, .int (nI st), .int (nI x), .int (nI y)] (fun H => bk G b (bdL G b β) H) (some (.int (nI (cvA c st (5 * y + x))))) := by
  refine cr_entry [(0, .ref b), (1, .int (nI st)), (2, .int (nI x)), (3, .int (nI y))] (by decide) (Nat.le_of_ble_eq_true rfl) rfl ?_
  intro zp ze zs zm za zb zt zc Q S hK hPre hE ls hl
  have hx := S.1
  have hb := S.2.1
  have hB := hPre
  obtain ⟨⟨⟨hs1, hs2⟩, ⟨hs3, hs4⟩, hs5⟩, hsO, hsC, hsE, hsU⟩ := id hBS
  obtain ⟨hg0, hg1, hg2, hg3, hg4, hgF⟩ := id hBG
  have hk20 : 5 * y + x < 20 := by omega
  have hcv := hg2 _ hk20
  have hcb := hsC _ hk20
  rw [← hg4] at hgF
  refine lv_aload_n hx hb dX0_coverAt_0 rfl (lv_at hl 0 rfl) ?_
  refine lv_iload_n hx hb dX0_coverAt_1 rfl (lv_at hl 2 rfl) ?_
  refine lv_iload_n hx hb dX0_coverAt_2 rfl (lv_at hl 3 rfl) ?_
  refine crV (rest := []) S hK (c_X0_codeAt_n l G b β x y (by omega) (by omega) (by omega) (by omega)) cw_X0_65 rfl ⟨Nat.le_of_ble_eq_true rfl, Nat.le_of_ble_eq_true rfl⟩ ⟨Nat.le_of_ble_eq_true rfl, Nat.le_of_ble_eq_true rfl⟩ (bk.recv hK hB rfl rfl) hl.1 rfl (Nat.le_of_ble_eq_true rfl) dX0_coverAt_3 hB ?_
  refine w_top (v' := .int (nI (c (5 * y + x)))) (congrArg (fun z => Value.int (nI z)) hcv) ?_
  refine lv_istore (lv' := [(4, .int (nI (c (5 * y + x)))), (0, .ref b), (1, .int (nI st)), (2, .int (nI x)), (3, .int (nI y))]) hx hb dX0_coverAt_6 hl (by decide) rfl (fun ls hl => ?_)
  refine lv_iload hx hb dX0_coverAt_8 (lv_at hl 0 rfl) ?_
  refine lv_bipush (v := nI 10) hx hb dX0_coverAt_10 (by decide) ?_
  refine n_icmp_lt (tgt := 29) hx hb dX0_coverAt_12 (by decide) (by omega) (by decide) (fun c_12 => ?_) (fun c_12 => ?_)
  ·
    refine lv_iload hx hb dX0_coverAt_29 (lv_at hl 0 rfl) ?_
    refine n_if_ne (tgt := 38) hx hb dX0_coverAt_31 (by decide) (by omega) (fun c_31 => ?_) (fun c_31 => ?_)
    ·
      have htk : (tcM c st).testBit (5 * y + x) = true := tc_c hk20 (Or.inl (by omega))
      refine lv_aload_n hx hb dX0_coverAt_38 rfl (lv_at hl 1 rfl) ?_
      refine lv_aload_n hx hb dX0_coverAt_39 rfl (lv_at hl 1 rfl) ?_
      refine kg (C := RX0) (T := TX0) (N := 9) (ci := 0) (k := 3) (v := .int (nI (β.1 3))) S hK rfl inX0 (by decide) q_199 dX0_coverAt_40 hB rfl rfl ?_
      refine w_top (v' := .int (nI (opB c))) (congrArg (fun z => Value.int (nI z)) hg3) ?_
      refine lv_iload_n hx hb dX0_coverAt_43 rfl (lv_at hl 2 rfl) ?_
      refine crV (rest := []) S hK (c_X0_toCover l G b β (opB c) st (by omega) (by first | assumption | omega | decide) (fun k hk => (hgF.1 k hk).1)) cw_X0_40 rfl ⟨Nat.le_of_ble_eq_true rfl, Nat.le_of_ble_eq_true rfl⟩ ⟨Nat.le_of_ble_eq_true rfl, Nat.le_of_ble_eq_true rfl⟩ (bk.recv hK hB rfl rfl) hl.1 rfl (Nat.le_of_ble_eq_true rfl) dX0_coverAt_44 hB ?_
      refine w_top (v' := .int (nI (tcM c st))) (congrArg (fun z => Value.int (nI z)) (tcv_tc hgF)) ?_
      refine lv_iload_n hx hb dX0_coverAt_47 rfl (lv_at hl 3 rfl) ?_
      refine lv_iload_n hx hb dX0_coverAt_48 rfl (lv_at hl 4 rfl) ?_
      refine crS (rest := [.int (nI (tcM c st))]) S hK (c_X0_bitOf l G x y (by omega) (by omega)) cw_X0_68 rfl ⟨Nat.le_of_ble_eq_true rfl, Nat.le_of_ble_eq_true rfl⟩ ⟨Nat.le_of_ble_eq_true rfl, Nat.le_of_ble_eq_true rfl⟩ hl.1 rfl (Nat.le_of_ble_eq_true rfl) dX0_coverAt_49 trivial ?_
      refine crS (rest := []) S hK (c_X5_firstCoverOf l G (tcM c st) (5 * y + x) (tcM_lt _ _) ht htk) cw_X0_71 rfl ⟨Nat.le_of_ble_eq_true rfl, Nat.le_of_ble_eq_true rfl⟩ ⟨Nat.le_of_ble_eq_true rfl, Nat.le_of_ble_eq_true rfl⟩ hl.1 rfl (Nat.le_of_ble_eq_true rfl) dX0_coverAt_52 trivial ?_
      refine w_top (v' := .int (nI (cvA c st (5 * y + x)))) (congrArg (fun z => Value.int (nI z)) (show (fcv 10 (tcM c st) (5 * y + x)) = (cvA c st (5 * y + x)) from by unfold cvA; rw [if_neg c_31, if_pos htk])) ?_
      exact hE _ _ (kr_i dX0_coverAt_55)
    ·
      refine lv_iconst (v := nI 0) hx hb dX0_coverAt_34 (by decide) ?_
      refine lv_goto (tgt := 55) hx hb dX0_coverAt_35 (by decide) ?_
      refine w_top (v' := .int (nI (cvA c st (5 * y + x)))) (congrArg (fun z => Value.int (nI z)) (show 0 = (cvA c st (5 * y + x)) from by unfold cvA; rw [if_pos c_31])) ?_
      exact hE _ _ (kr_i dX0_coverAt_55)
  ·
    refine lv_iload_n hx hb dX0_coverAt_15 rfl (lv_at hl 2 rfl) ?_
    refine lv_iload hx hb dX0_coverAt_16 (lv_at hl 0 rfl) ?_
    refine lv_bipush (v := nI 10) hx hb dX0_coverAt_18 (by decide) ?_
    refine n_isub hx hb dX0_coverAt_20 (by omega) ?_
    refine n_ishr hx hb dX0_coverAt_21 (by omega) (by omega) ?_
    refine lv_iconst (v := nI 1) hx hb dX0_coverAt_22 (by decide) ?_
    refine n_iand hx hb dX0_coverAt_23 ?_
    refine n_if_eq (tgt := 29) hx hb dX0_coverAt_24 (by decide) (Nat.lt_of_le_of_lt Nat.and_le_right (by decide)) (fun c_24 => ?_) (fun c_24 => ?_)
    ·
      refine lv_iload hx hb dX0_coverAt_29 (lv_at hl 0 rfl) ?_
      refine n_if_ne (tgt := 38) hx hb dX0_coverAt_31 (by decide) (by omega) (fun c_31 => ?_) (fun c_31 => ?_)
      ·
        have htk : (tcM c st).testBit (5 * y + x) = true := tc_c hk20 (Or.inr ⟨by omega, c_24⟩)
        refine lv_aload_n hx hb dX0_coverAt_38 rfl (lv_at hl 1 rfl) ?_
        refine lv_aload_n hx hb dX0_coverAt_39 rfl (lv_at hl 1 rfl) ?_
        refine kg (C := RX0) (T := TX0) (N := 9) (ci := 0) (k := 3) (v := .int (nI (β.1 3))) S hK rfl inX0 (by decide) q_199 dX0_coverAt_40 hB rfl rfl ?_
        refine w_top (v' := .int (nI (opB c))) (congrArg (fun z => Value.int (nI z)) hg3) ?_
        refine lv_iload_n hx hb dX0_coverAt_43 rfl (lv_at hl 2 rfl) ?_
        refine crV (rest := []) S hK (c_X0_toCover l G b β (opB c) st (by omega) (by first | assumption | omega | decide) (fun k hk => (hgF.1 k hk).1)) cw_X0_40 rfl ⟨Nat.le_of_ble_eq_true rfl, Nat.le_of_ble_eq_true rfl⟩ ⟨Nat.le_of_ble_eq_true rfl, Nat.le_of_ble_eq_true rfl⟩ (bk.recv hK hB rfl rfl) hl.1 rfl (Nat.le_of_ble_eq_true rfl) dX0_coverAt_44 hB ?_
        refine w_top (v' := .int (nI (tcM c st))) (congrArg (fun z => Value.int (nI z)) (tcv_tc hgF)) ?_
        refine lv_iload_n hx hb dX0_coverAt_47 rfl (lv_at hl 3 rfl) ?_
        refine lv_iload_n hx hb dX0_coverAt_48 rfl (lv_at hl 4 rfl) ?_
        refine crS (rest := [.int (nI (tcM c st))]) S hK (c_X0_bitOf l G x y (by omega) (by omega)) cw_X0_68 rfl ⟨Nat.le_of_ble_eq_true rfl, Nat.le_of_ble_eq_true rfl⟩ ⟨Nat.le_of_ble_eq_true rfl, Nat.le_of_ble_eq_true rfl⟩ hl.1 rfl (Nat.le_of_ble_eq_true rfl) dX0_coverAt_49 trivial ?_
        refine crS (rest := []) S hK (c_X5_firstCoverOf l G (tcM c st) (5 * y + x) (tcM_lt _ _) ht htk) cw_X0_71 rfl ⟨Nat.le_of_ble_eq_true rfl, Nat.le_of_ble_eq_true rfl⟩ ⟨Nat.le_of_ble_eq_true rfl, Nat.le_of_ble_eq_true rfl⟩ hl.1 rfl (Nat.le_of_ble_eq_true rfl) dX0_coverAt_52 trivial ?_
        refine w_top (v' := .int (nI (cvA c st (5 * y + x)))) (congrArg (fun z => Value.int (nI z)) (show (fcv 10 (tcM c st) (5 * y + x)) = (cvA c st (5 * y + x)) from by unfold cvA; rw [if_neg c_31, if_pos htk])) ?_
        exact hE _ _ (kr_i dX0_coverAt_55)
      ·
        refine lv_iconst (v := nI 0) hx hb dX0_coverAt_34 (by decide) ?_
        refine lv_goto (tgt := 55) hx hb dX0_coverAt_35 (by decide) ?_
        refine w_top (v' := .int (nI (cvA c st (5 * y + x)))) (congrArg (fun z => Value.int (nI z)) (show 0 = (cvA c st (5 * y + x)) from by unfold cvA; rw [if_pos c_31])) ?_
        exact hE _ _ (kr_i dX0_coverAt_55)
    ·
      refine lv_iconst (v := nI 5) hx hb dX0_coverAt_27 (by decide) ?_
      refine w_top (v' := .int (nI (cvA c st (5 * y + x)))) (congrArg (fun z => Value.int (nI z)) (show 5 = (cvA c st (5 * y + x)) from by unfold cvA; rw [if_neg (by omega), if_neg (by rw [tc_j (by omega) c_24]; decide)])) ?_
      exact hE _ _ (kr_i dX0_coverAt_28)

set_option maxHeartbeats 1000000 in
set_option maxRecDepth 100000 in
theorem c_X0_countTilings (l : Launch) (G : Gt) (b : Nat) (β : Sx) (w : Nat) (h : Nat) (f : Nat) (c : Nat → Nat) (hBS : BS w h f c) (hBG : BG w h f c β) (hz7 : β.1 7 = 0) (hz8 : β.1 8 = 0) : Ct l G yX0_countTilings cX0_countTilings 3 (none) 13 0 0 [.ref b] (fun H => bk G b (bdL G b β) H) none (fun H => ∃ σ : Sx, bk G b (bdL G b σ) H ∧ (BG w h f c σ ∧ BC f c σ)) (fun q => b ≤ q ∧ q < b + 4) := by
  refine ct_entry [(0, .ref b)] (by decide) (Nat.le_of_ble_eq_true rfl) rfl ?_
  intro zp ze zs zm za zb zt zc Q S hK hPre hin hE ls hl
  have hx := S.1
  have hb := S.2.1
  have hB := hPre
  have hS : va_S (fun q => b ≤ q ∧ q < b + 4) zs.heap zs.heap [] := va_S.rf
  obtain ⟨⟨-, -, hs5⟩, hsO, hsC, hsE, hsU⟩ := id hBS
  have htb := fun s => Nat.lt_of_le_of_lt (tl_le 10 s) (show 2 ^ 10 < 2 ^ 31 by decide)
  have hsh := shl_le hs5
  refine lv_iconst (v := nI 0) hx hb dX0_countTilings_0 (by decide) ?_
  refine lv_istore_n (lv' := [(1, .int (nI 0)), (0, .ref b)]) hx hb dX0_countTilings_1 rfl hl (by decide) rfl (fun ls hl => ?_)
  have L2 : ∀ (fu : Nat), ∀ (vs : Nat) (ρ : Sx), (vs ≤ 1 <<< f) → (BG w h f c ρ) → (∀ s, s < vs → ρ.2.1 6 s = tl 10 (tcM c s)) → (ρ.1 7 = bo (fun s => tlb 10 (tcM c s)) vs) → (ρ.1 8 = bo (fun s => !decide (pcn evP (tcM c s) 20 = pcn odP (tcM c s) 20)) vs) → 1 <<< f - vs < fu → ∀ (H : Heap) (locs : List Loc), bk G b (bdL G b ρ) H → va_S (fun q => b ≤ q ∧ q < b + 4) zs.heap H locs → ∀ ls : Array Slot, lv_has ls 3 [(0, .ref b), (1, .int (nI vs))] → W zp l ze (rL 13 0 0) zs zm za zb zt zc H locs 0 0 Q (F0 zm 2 ls []) := by
    intro fu
    induction fu with
    | zero =>
      intro vs ρ hvs hq h6 h7 h8 hmu H locs hB hS ls hl
      exact absurd hmu (Nat.not_lt_zero _)
    | succ fu ih2 =>
      intro vs ρ hvs hq h6 h7 h8 hmu H locs hB hS ls hl
      obtain ⟨hg0, hg1, hg2, hg3, hg4, hgF⟩ := id hq
      rw [← hg4] at hgF
      have hsh2 : 1 <<< ρ.1 4 = 1 <<< f := by rw [hg4]
      refine lv_iload_n hx hb dX0_countTilings_2 rfl (lv_at hl 1 rfl) ?_
      refine lv_aload_n hx hb dX0_countTilings_3 rfl (lv_at hl 0 rfl) ?_
      refine crV (rest := [.int (nI vs)]) S hK (c_X0_states l G b ρ (by omega)) cw_X0_36 rfl ⟨Nat.le_of_ble_eq_true rfl, Nat.le_of_ble_eq_true rfl⟩ ⟨Nat.le_of_ble_eq_true rfl, Nat.le_of_ble_eq_true rfl⟩ (bk.recv hK hB rfl rfl) hl.1 rfl (Nat.le_of_ble_eq_true rfl) dX0_countTilings_4 hB ?_
      refine n_icmp_ge (tgt := 76) hx hb dX0_countTilings_7 (by decide) (by first | omega | exact htb _) (by first | omega | exact htb _) (fun c_7 => ?_) (fun c_7 => ?_)
      ·
        exact hE _ _ _ _ _ _ (kr_v dX0_countTilings_76) hS (by decide) (by decide) ⟨ρ, hB, ⟨hq, fun s hs => h6 s (by omega), by rw [h7, show vs = 1 <<< f from by omega], by rw [h8, show vs = 1 <<< f from by omega]⟩⟩
      ·
        refine lv_aload_n hx hb dX0_countTilings_10 rfl (lv_at hl 0 rfl) ?_
        refine lv_aload_n hx hb dX0_countTilings_11 rfl (lv_at hl 0 rfl) ?_
        refine kg (C := RX0) (T := TX0) (N := 9) (ci := 0) (k := 3) (v := .int (nI (ρ.1 3))) S hK rfl inX0 (by decide) q_199 dX0_countTilings_12 hB rfl rfl ?_
        refine w_top (v' := .int (nI (opB c))) (congrArg (fun z => Value.int (nI z)) hg3) ?_
        refine lv_iload_n hx hb dX0_countTilings_15 rfl (lv_at hl 1 rfl) ?_
        refine crV (rest := []) S hK (c_X0_toCover l G b ρ (opB c) vs (by omega) (by omega) (fun k hk => (hgF.1 k hk).1)) cw_X0_40 rfl ⟨Nat.le_of_ble_eq_true rfl, Nat.le_of_ble_eq_true rfl⟩ ⟨Nat.le_of_ble_eq_true rfl, Nat.le_of_ble_eq_true rfl⟩ (bk.recv hK hB rfl rfl) hl.1 rfl (Nat.le_of_ble_eq_true rfl) dX0_countTilings_16 hB ?_
        refine w_top (v' := .int (nI (tcM c vs))) (congrArg (fun z => Value.int (nI z)) (tcv_tc hgF)) ?_
        refine lv_istore_n (lv' := [(2, .int (nI (tcM c vs))), (0, .ref b), (1, .int (nI vs))]) hx hb dX0_countTilings_19 rfl hl (by decide) rfl (fun ls hl => ?_)
        refine lv_aload_n hx hb dX0_countTilings_20 rfl (lv_at hl 1 rfl) ?_
        refine kg (C := RX0) (T := TX0) (N := 9) (ci := 0) (k := 6) (v := .ref (b + 3)) S hK rfl inX0 (by decide) q_207 dX0_countTilings_21 hB rfl rfl ?_
        refine lv_iload_n hx hb dX0_countTilings_24 rfl (lv_at hl 2 rfl) ?_
        refine lv_iload_n hx hb dX0_countTilings_25 rfl (lv_at hl 0 rfl) ?_
        refine crS (rest := [.int (nI vs), .ref (b + 3)]) S hK (c_X5_number l G (tcM c vs) (tcM_lt _ _)) cw_X0_44 rfl ⟨Nat.le_of_ble_eq_true rfl, Nat.le_of_ble_eq_true rfl⟩ ⟨Nat.le_of_ble_eq_true rfl, Nat.le_of_ble_eq_true rfl⟩ hl.1 rfl (Nat.le_of_ble_eq_true rfl) dX0_countTilings_26 trivial ?_
        refine kis S hK dX0_countTilings_29 3 hB rfl (by decide) rfl (by first | omega | exact htb _) rfl (L1 := bdL G b (uA ρ 6 vs (tl 10 (tcM c vs)))) rfl hS (by first | exact ⟨by omega, by omega⟩ | omega) (fun H locs hB hS hz2 hk => ?_)
        refine lv_aload_n hx hb dX0_countTilings_30 rfl (lv_at hl 1 rfl) ?_
        refine kg (C := RX0) (T := TX0) (N := 9) (ci := 0) (k := 6) (v := .ref (b + 3)) S hK rfl inX0 (by decide) q_207 dX0_countTilings_31 hB rfl rfl ?_
        refine lv_iload_n hx hb dX0_countTilings_34 rfl (lv_at hl 2 rfl) ?_
        refine kil (f := (uA ρ 6 vs (tl 10 (tcM c vs))).2.1 6) S hK dX0_countTilings_35 3 hB rfl (by decide) rfl (by first | omega | exact htb _) ?_
        refine w_top (v' := .int (nI (tl 10 (tcM c vs)))) (congrArg (fun z => Value.int (nI z)) (aA_s _ _ _ _)) ?_
        refine n_if_le (tgt := 51) hx hb dX0_countTilings_36 (by decide) (by first | omega | exact htb _) (fun c_36 => ?_) (fun c_36 => ?_)
        ·
          refine lv_iload_n hx hb dX0_countTilings_51 rfl (lv_at hl 0 rfl) ?_
          refine crS (rest := []) S hK (c_X5_isBalanced l G (tcM c vs) (tcM_lt _ _)) cw_X0_54 rfl ⟨Nat.le_of_ble_eq_true rfl, Nat.le_of_ble_eq_true rfl⟩ ⟨Nat.le_of_ble_eq_true rfl, Nat.le_of_ble_eq_true rfl⟩ hl.1 rfl (Nat.le_of_ble_eq_true rfl) dX0_countTilings_52 trivial ?_
          refine z_if_ne (tgt := 70) hx hb dX0_countTilings_55 (by decide) (fun c_55 => ?_) (fun c_55 => ?_)
          ·
            refine lv_iinc (v := nI (vs + 1)) (lv' := [(1, .int (nI (vs + 1))), (2, .int (nI (tcM c vs))), (0, .ref b)]) hx hb dX0_countTilings_70 hl (k := 2) rfl (inc1 _) (by decide) rfl (fun ls hl => ?_)
            refine lv_goto (tgt := 2) hx hb dX0_countTilings_73 (by decide) ?_
            exact ih2 (vs + 1) (uA ρ 6 vs (tl 10 (tcM c vs))) (by omega) hq (fun s hs => by
              show uN (ρ.2.1 6) vs (tl 10 (tcM c vs)) s = _
              by_cases e : s = vs
              · rw [e, uN_s]
              · rw [uN_n e]; exact h6 s (by omega)) (h7.trans (bo_f (P := fun s => tlb 10 (tcM c s)) (tlb_z c_36)).symm) (h8.trans (bo_f (P := fun s => !decide (pcn evP (tcM c s) 20 = pcn odP (tcM c s) 20)) (by rw [c_55]; rfl)).symm) (by omega) _ _ hB hS ls (lv_sub hl [2, 0] rfl)
          ·
            refine lv_aload_n hx hb dX0_countTilings_58 rfl (lv_at hl 1 rfl) ?_
            refine lv_dup hx hb dX0_countTilings_59 rfl ?_
            refine kg (C := RX0) (T := TX0) (N := 9) (ci := 0) (k := 8) (v := .long (lN (ρ.1 8))) S hK rfl inX0 (by decide) q_213 dX0_countTilings_60 hB rfl rfl ?_
            refine lv_lconst (v := lN 1) hx hb dX0_countTilings_63 (by decide) ?_
            refine lv_iload_n hx hb dX0_countTilings_64 rfl (lv_at hl 2 rfl) ?_
            refine n_lshl hx hb dX0_countTilings_65 (by first | omega | exact htb _) ?_
            refine n_lor hx hb dX0_countTilings_66 ?_
            refine kp (C := RX0) (T := TX0) (N := 9) (ci := 0) (k := 8) (ty := .long) tyX0 tyX0_ok nmX0 S hK rfl inX0 (by decide) q_213 rfl dX0_countTilings_67 rfl rfl rfl hB rfl (Nat.le_of_ble_eq_true rfl) (L1 := bdL G b (uS (uA ρ 6 vs (tl 10 (tcM c vs))) 8 ((ρ.1 8) ||| (1 <<< vs)))) rfl hS (by first | exact ⟨by omega, by omega⟩ | omega) (fun H locs hB hS hz2 hk => ?_)
            refine lv_iinc (v := nI (vs + 1)) (lv' := [(1, .int (nI (vs + 1))), (2, .int (nI (tcM c vs))), (0, .ref b)]) hx hb dX0_countTilings_70 hl (k := 2) rfl (inc1 _) (by decide) rfl (fun ls hl => ?_)
            refine lv_goto (tgt := 2) hx hb dX0_countTilings_73 (by decide) ?_
            exact ih2 (vs + 1) (uS (uA ρ 6 vs (tl 10 (tcM c vs))) 8 ((ρ.1 8) ||| (1 <<< vs))) (by omega) hq (fun s hs => by
              show uN (ρ.2.1 6) vs (tl 10 (tcM c vs)) s = _
              by_cases e : s = vs
              · rw [e, uN_s]
              · rw [uN_n e]; exact h6 s (by omega)) (h7.trans (bo_f (P := fun s => tlb 10 (tcM c s)) (tlb_z c_36)).symm) (by show ρ.1 8 ||| 1 <<< vs = _; rw [h8, bo_t (P := fun s => !decide (pcn evP (tcM c s) 20 = pcn odP (tcM c s) 20)) (by rw [c_55]; rfl)]) (by omega) _ _ hB hS ls (lv_sub hl [2, 0] rfl)
        ·
          refine lv_aload_n hx hb dX0_countTilings_39 rfl (lv_at hl 1 rfl) ?_
          refine lv_dup hx hb dX0_countTilings_40 rfl ?_
          refine kg (C := RX0) (T := TX0) (N := 9) (ci := 0) (k := 7) (v := .long (lN (ρ.1 7))) S hK rfl inX0 (by decide) q_211 dX0_countTilings_41 hB rfl rfl ?_
          refine lv_lconst (v := lN 1) hx hb dX0_countTilings_44 (by decide) ?_
          refine lv_iload_n hx hb dX0_countTilings_45 rfl (lv_at hl 2 rfl) ?_
          refine n_lshl hx hb dX0_countTilings_46 (by first | omega | exact htb _) ?_
          refine n_lor hx hb dX0_countTilings_47 ?_
          refine kp (C := RX0) (T := TX0) (N := 9) (ci := 0) (k := 7) (ty := .long) tyX0 tyX0_ok nmX0 S hK rfl inX0 (by decide) q_211 rfl dX0_countTilings_48 rfl rfl rfl hB rfl (Nat.le_of_ble_eq_true rfl) (L1 := bdL G b (uS (uA ρ 6 vs (tl 10 (tcM c vs))) 7 ((ρ.1 7) ||| (1 <<< vs)))) rfl hS (by first | exact ⟨by omega, by omega⟩ | omega) (fun H locs hB hS hz2 hk => ?_)
          refine lv_iload_n hx hb dX0_countTilings_51 rfl (lv_at hl 0 rfl) ?_
          refine crS (rest := []) S hK (c_X5_isBalanced l G (tcM c vs) (tcM_lt _ _)) cw_X0_54 rfl ⟨Nat.le_of_ble_eq_true rfl, Nat.le_of_ble_eq_true rfl⟩ ⟨Nat.le_of_ble_eq_true rfl, Nat.le_of_ble_eq_true rfl⟩ hl.1 rfl (Nat.le_of_ble_eq_true rfl) dX0_countTilings_52 trivial ?_
          refine z_if_ne (tgt := 70) hx hb dX0_countTilings_55 (by decide) (fun c_55 => ?_) (fun c_55 => ?_)
          ·
            refine lv_iinc (v := nI (vs + 1)) (lv' := [(1, .int (nI (vs + 1))), (2, .int (nI (tcM c vs))), (0, .ref b)]) hx hb dX0_countTilings_70 hl (k := 2) rfl (inc1 _) (by decide) rfl (fun ls hl => ?_)
            refine lv_goto (tgt := 2) hx hb dX0_countTilings_73 (by decide) ?_
            exact ih2 (vs + 1) (uS (uA ρ 6 vs (tl 10 (tcM c vs))) 7 ((ρ.1 7) ||| (1 <<< vs))) (by omega) hq (fun s hs => by
              show uN (ρ.2.1 6) vs (tl 10 (tcM c vs)) s = _
              by_cases e : s = vs
              · rw [e, uN_s]
              · rw [uN_n e]; exact h6 s (by omega)) (by show ρ.1 7 ||| 1 <<< vs = _; rw [h7, bo_t (P := fun s => tlb 10 (tcM c s)) (tlb_p c_36)]) (h8.trans (bo_f (P := fun s => !decide (pcn evP (tcM c s) 20 = pcn odP (tcM c s) 20)) (by rw [c_55]; rfl)).symm) (by omega) _ _ hB hS ls (lv_sub hl [2, 0] rfl)
          ·
            refine lv_aload_n hx hb dX0_countTilings_58 rfl (lv_at hl 1 rfl) ?_
            refine lv_dup hx hb dX0_countTilings_59 rfl ?_
            refine kg (C := RX0) (T := TX0) (N := 9) (ci := 0) (k := 8) (v := .long (lN (ρ.1 8))) S hK rfl inX0 (by decide) q_213 dX0_countTilings_60 hB rfl rfl ?_
            refine lv_lconst (v := lN 1) hx hb dX0_countTilings_63 (by decide) ?_
            refine lv_iload_n hx hb dX0_countTilings_64 rfl (lv_at hl 2 rfl) ?_
            refine n_lshl hx hb dX0_countTilings_65 (by first | omega | exact htb _) ?_
            refine n_lor hx hb dX0_countTilings_66 ?_
            refine kp (C := RX0) (T := TX0) (N := 9) (ci := 0) (k := 8) (ty := .long) tyX0 tyX0_ok nmX0 S hK rfl inX0 (by decide) q_213 rfl dX0_countTilings_67 rfl rfl rfl hB rfl (Nat.le_of_ble_eq_true rfl) (L1 := bdL G b (uS (uS (uA ρ 6 vs (tl 10 (tcM c vs))) 7 ((ρ.1 7) ||| (1 <<< vs))) 8 ((ρ.1 8) ||| (1 <<< vs)))) rfl hS (by first | exact ⟨by omega, by omega⟩ | omega) (fun H locs hB hS hz2 hk => ?_)
            refine lv_iinc (v := nI (vs + 1)) (lv' := [(1, .int (nI (vs + 1))), (2, .int (nI (tcM c vs))), (0, .ref b)]) hx hb dX0_countTilings_70 hl (k := 2) rfl (inc1 _) (by decide) rfl (fun ls hl => ?_)
            refine lv_goto (tgt := 2) hx hb dX0_countTilings_73 (by decide) ?_
            exact ih2 (vs + 1) (uS (uS (uA ρ 6 vs (tl 10 (tcM c vs))) 7 ((ρ.1 7) ||| (1 <<< vs))) 8 ((ρ.1 8) ||| (1 <<< vs))) (by omega) hq (fun s hs => by
              show uN (ρ.2.1 6) vs (tl 10 (tcM c vs)) s = _
              by_cases e : s = vs
              · rw [e, uN_s]
              · rw [uN_n e]; exact h6 s (by omega)) (by show ρ.1 7 ||| 1 <<< vs = _; rw [h7, bo_t (P := fun s => tlb 10 (tcM c s)) (tlb_p c_36)]) (by show ρ.1 8 ||| 1 <<< vs = _; rw [h8, bo_t (P := fun s => !decide (pcn evP (tcM c s) 20 = pcn odP (tcM c s) 20)) (by rw [c_55]; rfl)]) (by omega) _ _ hB hS ls (lv_sub hl [2, 0] rfl)
  exact L2 ((1 <<< f - 0) + 1) 0 β (Nat.zero_le _) hBG (fun s hs => absurd hs (Nat.not_lt_zero s)) hz7 hz8 (Nat.lt_succ_self _) _ _ hB hS ls (lv_sub hl [1, 0] rfl)
