
/-! a BOARD that is being made -/
def cF (c : Nat → Nat) : Nat → Nat
  | 0 => 0
  | n + 1 => cF c n + (if 10 ≤ c n then 1 else 0)
theorem cF_congr {c d : Nat → Nat} : ∀ n, (∀ k, k < n → c k = d k) → cF c n = cF d n
  | 0, _ => rfl
  | n + 1, h => by
    show cF c n + (if 10 ≤ c n then 1 else 0) = cF d n + (if 10 ≤ d n then 1 else 0)
    rw [cF_congr n (fun k hk => h k (by omega)), h n (by omega)]
theorem cF_put (c : Nat → Nat) (k v : Nat) (hc : c k < 10) : ∀ n, cF (uN c k v) n = cF c n + (if k < n ∧ 10 ≤ v then 1 else 0)
  | 0 => rfl
  | n + 1 => by
    show cF (uN c k v) n + (if 10 ≤ uN c k v n then 1 else 0) = cF c n + (if 10 ≤ c n then 1 else 0) + _
    rw [cF_put c k v hc n]
    by_cases e : n = k
    · subst e
      rw [uN_s, if_neg (show ¬ (n < n ∧ 10 ≤ v) by omega), if_neg (show ¬ 10 ≤ c n by omega)]
      by_cases h : 10 ≤ v
      · rw [if_pos h, if_pos ⟨by omega, h⟩]
      · rw [if_neg h, if_neg (fun q => h q.2)]
    · rw [uN_n e]
      by_cases h : k < n ∧ 10 ≤ v
      · rw [if_pos h, if_pos (show k < n + 1 ∧ 10 ≤ v from ⟨by omega, h.2⟩)]
        omega
      · rw [if_neg h, if_neg (show ¬ (k < n + 1 ∧ 10 ≤ v) from fun q => h ⟨by omega, q.2⟩)]
        omega
/-- how many FACES below some number -/
def cG (c : Nat → Nat) (f : Nat) : Nat → Nat
  | 0 => 0
  | n + 1 => cG c f n + (if 10 ≤ c n ∧ c n < 10 + f then 1 else 0)
theorem cG_0 (c : Nat → Nat) : ∀ n, cG c 0 n = 0
  | 0 => rfl
  | n + 1 => by
    show cG c 0 n + _ = 0
    rw [cG_0 c n, if_neg (by omega)]
theorem cG_s {c : Nat → Nat} {f k0 : Nat} (h : c k0 = 10 + f) (hu : ∀ k, k < 20 → c k = 10 + f → k = k0) : ∀ n, n ≤ 20 → cG c (f + 1) n = cG c f n + (if k0 < n then 1 else 0)
  | 0, _ => rfl
  | n + 1, hn => by
    show cG c (f + 1) n + (if 10 ≤ c n ∧ c n < 10 + (f + 1) then 1 else 0) = cG c f n + (if 10 ≤ c n ∧ c n < 10 + f then 1 else 0) + _
    rw [cG_s h hu n (by omega)]
    by_cases e : n = k0
    · subst e
      rw [if_neg (show ¬ n < n by omega), if_pos (show 10 ≤ c n ∧ c n < 10 + (f + 1) by omega), if_neg (show ¬ (10 ≤ c n ∧ c n < 10 + f) by omega), if_pos (show n < n + 1 by omega)]
    · have hne : ¬ c n = 10 + f := fun q => e (hu n (by omega) q)
      by_cases g : 10 ≤ c n ∧ c n < 10 + f
      · rw [if_pos g, if_pos (show 10 ≤ c n ∧ c n < 10 + (f + 1) by omega)]
        by_cases k : k0 < n
        · rw [if_pos k, if_pos (by omega)]; try omega
        · rw [if_neg k, if_neg (by omega)]
      · rw [if_neg g, if_neg (show ¬ (10 ≤ c n ∧ c n < 10 + (f + 1)) by omega)]
        by_cases k : k0 < n
        · rw [if_pos k, if_pos (by omega)]
        · rw [if_neg k, if_neg (by omega)]
theorem cG_f {c : Nat → Nat} : ∀ f, (∀ j, j < f → ∃ k, k < 20 ∧ c k = 10 + j) → (∀ k i, k < 20 → i < 20 → 10 ≤ c k → c k = c i → k = i) → cG c f 20 = f
  | 0, _, _ => cG_0 c 20
  | f + 1, h, hu => by
    obtain ⟨k0, h1, h2⟩ := h f (by omega)
    rw [cG_s h2 (fun k hk e => hu k k0 hk h1 (by omega) (by omega)) 20 (by omega), cG_f f (fun j hj => h j (by omega)) hu, if_pos h1]
theorem cF_G {c : Nat → Nat} {f : Nat} : ∀ n, (∀ k, k < n → 10 ≤ c k → c k < 10 + f) → cF c n = cG c f n
  | 0, _ => rfl
  | n + 1, h => by
    show cF c n + (if 10 ≤ c n then 1 else 0) = cG c f n + (if 10 ≤ c n ∧ c n < 10 + f then 1 else 0)
    rw [cF_G n (fun k hk => h k (by omega))]
    by_cases g : 10 ≤ c n
    · rw [if_pos g, if_pos ⟨g, h n (by omega) g⟩]
    · rw [if_neg g, if_neg (fun q => g q.1)]
theorem cF_f {w h f : Nat} {c : Nat → Nat} (q : BS w h f c) : cF c 20 = f := by
  obtain ⟨-, -, h2, h3, h4⟩ := q
  rw [cF_G 20 (f := f) (fun k hk g => by rcases h2 k hk with e | e | e <;> omega), cG_f f h3 h4]
/-- a part of a board -/
def pt (D : Nat → Bool) (d : Nat → Nat) (k : Nat) : Nat := if D k then d k else 0
theorem pt_y {D : Nat → Bool} {d : Nat → Nat} {k : Nat} (h : D k = true) : pt D d k = d k := if_pos h
theorem pt_n {D : Nat → Bool} {d : Nat → Nat} {k : Nat} (h : D k = false) : pt D d k = 0 := if_neg (by rw [h]; decide)
def PD (w h : Nat) (c : Nat → Nat) (β : Sx) : Prop := β.1 0 = w ∧ β.1 1 = h ∧ (∀ k, k < 20 → β.2.1 2 k = c k) ∧ β.1 3 = opB c ∧ β.1 4 = cF c 20 ∧ (∀ k, k < 20 → 10 ≤ c k → c k < 15 ∧ β.2.1 5 (c k - 10) = k) ∧ β.1 7 = 0 ∧ β.1 8 = 0
theorem PD_congr {w h : Nat} {c d : Nat → Nat} {β : Sx} (q : PD w h c β) (e : ∀ k, k < 20 → c k = d k) : PD w h d β := by
  obtain ⟨h1, h2, h3, h4, h5, h6, h7, h8⟩ := q
  exact ⟨h1, h2, fun k hk => (h3 k hk).trans (e k hk), h4.trans (opB_congr e), h5.trans (cF_congr 20 e), fun k hk g => by rw [← e k hk] at g ⊢; exact h6 k hk g, h7, h8⟩
theorem PD_BG {w h f : Nat} {c : Nat → Nat} {β : Sx} (q : PD w h c β) (s : BS w h f c) : BG w h f c β := by
  obtain ⟨h1, h2, h3, h4, h5, h6, h7, h8⟩ := q
  refine ⟨h1, h2, h3, h4, h5.trans (cF_f s), ?_, ?_⟩
  · intro j hj
    obtain ⟨k, hk, e⟩ := s.2.2.2.1 j hj
    have g := h6 k hk (by omega)
    rw [show c k - 10 = j from by omega] at g
    rw [g.2]
    exact ⟨hk, e⟩
  · intro k hk g
    refine ⟨?_, (h6 k hk g).2⟩
    rcases s.2.2.1 k hk with e | e | e <;> omega
theorem opB_put (c : Nat → Nat) (k : Nat) (hk : k < 20) : opB (uN c k 1) = opB c ||| 1 <<< k := by
  apply Nat.eq_of_testBit_eq
  intro i
  rw [Nat.testBit_or, bo_tb, bo_tb, Nat.one_shiftLeft, Nat.testBit_two_pow]
  by_cases e : i = k
  · subst e
    rw [uN_s]
    simp [hk]
  · rw [uN_n e, decide_eq_false (p := k = i) (fun q => e q.symm)]
    simp
theorem opB_oth (c : Nat → Nat) (k v : Nat) (h1 : ¬ v = 1) (h2 : ¬ c k = 1) : opB (uN c k v) = opB c := bo_congr fun i _ => by
  by_cases e : i = k
  · subst e
    rw [uN_s, decide_eq_false h1, decide_eq_false h2]
  · rw [uN_n e]
theorem PD_0 {w h k : Nat} {c : Nat → Nat} {β : Sx} (q : PD w h c β) (hc : c k = 0) : PD w h (uN c k 0) (uA β 2 k 0) := by
  obtain ⟨h1, h2, h3, h4, h5, h6, h7, h8⟩ := q
  refine ⟨h1, h2, fun i hi => ?_, h4.trans (opB_oth c k 0 (by decide) (by omega)).symm, h5.trans ?_, fun i hi g => ?_, h7, h8⟩
  · show uN (β.2.1 2) k 0 i = uN c k 0 i
    by_cases e : i = k
    · subst e; rw [uN_s, uN_s]
    · rw [uN_n e, uN_n e]; exact h3 i hi
  · rw [cF_put c k 0 (by omega), if_neg (by omega)]; rfl
  · by_cases e : i = k
    · subst e; rw [uN_s] at g; omega
    · rw [uN_n e] at g ⊢; exact h6 i hi g
theorem PD_1 {w h k : Nat} {c : Nat → Nat} {β : Sx} (q : PD w h c β) (hk : k < 20) (hc : c k = 0) : PD w h (uN c k 1) (uS (uA β 2 k 1) 3 (β.1 3 ||| 1 <<< k)) := by
  obtain ⟨h1, h2, h3, h4, h5, h6, h7, h8⟩ := q
  refine ⟨h1, h2, fun i hi => ?_, ?_, h5.trans ?_, fun i hi g => ?_, h7, h8⟩
  · show uN (β.2.1 2) k 1 i = uN c k 1 i
    by_cases e : i = k
    · subst e; rw [uN_s, uN_s]
    · rw [uN_n e, uN_n e]; exact h3 i hi
  · show β.1 3 ||| 1 <<< k = _
    rw [opB_put c k hk, h4]
  · rw [cF_put c k 1 (by omega), if_neg (by omega)]; rfl
  · by_cases e : i = k
    · subst e; rw [uN_s] at g; omega
    · rw [uN_n e] at g ⊢; exact h6 i hi g
theorem PD_f {w h k j : Nat} {c : Nat → Nat} {β : Sx} (q : PD w h c β) (hk : k < 20) (hc : c k = 0) (hj : j < 5) (hu : ∀ i, i < 20 → ¬ c i = 10 + j) : PD w h (uN c k (10 + j)) (uS (uA (uA β 2 k (10 + j)) 5 j k) 4 (β.1 4 + 1)) := by
  obtain ⟨h1, h2, h3, h4, h5, h6, h7, h8⟩ := q
  refine ⟨h1, h2, fun i hi => ?_, h4.trans (opB_oth c k (10 + j) (by omega) (by omega)).symm, ?_, fun i hi g => ?_, h7, h8⟩
  · show uN (β.2.1 2) k (10 + j) i = uN c k (10 + j) i
    by_cases e : i = k
    · subst e; rw [uN_s, uN_s]
    · rw [uN_n e, uN_n e]; exact h3 i hi
  · show β.1 4 + 1 = _
    rw [cF_put c k (10 + j) (by omega), if_pos ⟨hk, by omega⟩, h5]
  · show _ ∧ uN (β.2.1 5) j k _ = i
    by_cases e : i = k
    · subst e
      rw [uN_s, Nat.add_sub_cancel_left, uN_s]
      exact ⟨by omega, rfl⟩
    · rw [uN_n e] at g ⊢
      obtain ⟨g1, g2⟩ := h6 i hi g
      have hne := hu i hi
      rw [uN_n (by omega)]
      exact ⟨g1, g2⟩
/-- one CELL more is set -/
theorem pt_put {D D' : Nat → Bool} {d : Nat → Nat} {k : Nat} (hD' : ∀ i, i < 20 → D' i = (D i || decide (i = k))) : ∀ i, i < 20 → uN (pt D d) k (d k) i = pt D' d i := by
  intro i hi
  have h := hD' i hi
  by_cases e : i = k
  · subst e
    rw [uN_s, pt_y (by rw [h]; simp)]
  · rw [uN_n e]
    unfold pt
    rw [h, decide_eq_false e, Bool.or_false]
theorem pt_u {D : Nat → Bool} {d : Nat → Nat} {k j : Nat} (hU : UQ d) (hk : k < 20) (hD : D k = false) (hv : d k = 10 + j) : ∀ i, i < 20 → ¬ pt D d i = 10 + j := by
  intro i hi e
  by_cases h : D i = true
  · rw [pt_y h] at e
    have := hU.2 i k hi hk (by omega) (by omega)
    rw [this, hD] at h
    cases h
  · rw [pt_n (by simpa using h)] at e
    omega
def bd0 (w h : Nat) : Sx := (fun k => if k = 0 then w else if k = 1 then h else 0, fun _ _ => 0, fun _ _ => none)
theorem PD_new (w h : Nat) : PD w h (fun _ => 0) (bd0 w h) := ⟨rfl, rfl, fun _ _ => rfl, show (0 : Nat) = opB (fun _ => 0) by decide +kernel, show (0 : Nat) = cF (fun _ => 0) 20 by decide +kernel, fun k _ g => absurd g (show ¬ 10 ≤ 0 by decide), rfl, rfl⟩
theorem PD_new2 {w h : Nat} {D : Nat → Bool} {d : Nat → Nat} (hD : ∀ k, k < 20 → D k = false) : PD w h (pt D d) (bd0 w h) := PD_congr (PD_new w h) (fun k hk => (pt_n (hD k hk)).symm)

set_option maxHeartbeats 1000000 in
set_option maxRecDepth 100000 in
theorem c_X0_set_0 (l : Launch) (G : Gt) (n1 : Nat) (b : Nat) (β : Sx) (x : Nat) (y : Nat) (hw : β.1 0 ≤ 5) (hh : β.1 1 ≤ 4) (hx9 : x < β.1 0) (hy9 : y < β.1 1) : Ct l G yX0_set cX0_set 6 (none) 1 0 0 [.ref b, .int (nI x), .int (nI y), .int (nI 0)] (fun H => bk G b (bdL G b β) H ∧ H.size = n1) none (fun H => bk G b (bdL G b (uA β 2 (5 * y + x) 0)) H ∧ H.size = n1) (fun q => b ≤ q ∧ q < b + 4) := by
  refine ct_entry [(0, .ref b), (1, .int (nI x)), (2, .int (nI y)), (3, .int (nI 0))] (by decide) (Nat.le_of_ble_eq_true rfl) rfl ?_
  intro zp ze zs zm za zb zt zc Q S hK hPre hin hE ls hl
  have hx := S.1
  have hb := S.2.1
  obtain ⟨hB, hz⟩ := hPre
  have hS : va_S (fun q => b ≤ q ∧ q < b + 4) zs.heap zs.heap [] := va_S.rf
  refine lv_aload_n hx hb dX0_set_0 rfl (lv_at hl 0 rfl) ?_
  refine lv_iload_n hx hb dX0_set_1 rfl (lv_at hl 1 rfl) ?_
  refine lv_iload_n hx hb dX0_set_2 rfl (lv_at hl 2 rfl) ?_
  refine crV (rest := []) S hK (c_X0_isWithin l G b β (nI x) (nI y) (by first | assumption | omega | decide) (by first | assumption | omega | decide)) cw_X0_26 rfl ⟨Nat.le_of_ble_eq_true rfl, Nat.le_of_ble_eq_true rfl⟩ ⟨Nat.le_of_ble_eq_true rfl, Nat.le_of_ble_eq_true rfl⟩ (bk.recv hK hB rfl rfl) hl.1 rfl (Nat.le_of_ble_eq_true rfl) dX0_set_3 hB ?_
  refine z_if_ne (tgt := 10) hx hb dX0_set_6 (by decide) (fun c_6 => ?_) (fun c_6 => ?_)
  ·
    refine lv_iconst (v := nI 5) hx hb dX0_set_10 (by decide) ?_
    refine lv_iload_n hx hb dX0_set_11 rfl (lv_at hl 2 rfl) ?_
    refine n_imul hx hb dX0_set_12 ?_
    refine lv_iload_n hx hb dX0_set_13 rfl (lv_at hl 1 rfl) ?_
    refine n_iadd hx hb dX0_set_14 ?_
    refine lv_istore (lv' := [(4, .int (nI ((5 * y) + x))), (0, .ref b), (1, .int (nI x)), (2, .int (nI y)), (3, .int (nI 0))]) hx hb dX0_set_15 hl (by decide) rfl (fun ls hl => ?_)
    refine lv_aload_n hx hb dX0_set_17 rfl (lv_at hl 1 rfl) ?_
    refine kg (C := RX0) (T := TX0) (N := 9) (ci := 0) (k := 2) (v := .ref (b + 1)) S hK rfl inX0 (by decide) q_198 dX0_set_18 hB rfl rfl ?_
    refine lv_iload hx hb dX0_set_21 (lv_at hl 0 rfl) ?_
    refine lv_iload_n hx hb dX0_set_23 rfl (lv_at hl 4 rfl) ?_
    refine kis S hK dX0_set_24 1 hB rfl (by decide) rfl (by omega) rfl (L1 := bdL G b (uA β 2 ((5 * y) + x) 0)) rfl hS (by first | exact ⟨by omega, by omega⟩ | omega) (fun H locs hB hS hz2 hk => ?_)
    replace hz := hz2.trans hz
    refine lv_iload_n hx hb dX0_set_25 rfl (lv_at hl 4 rfl) ?_
    refine lv_iconst (v := nI 1) hx hb dX0_set_26 (by decide) ?_
    refine n_icmp_ne (tgt := 43) hx hb dX0_set_27 (by decide) (by decide) (by decide) (fun c_27 => ?_) (fun c_27 => ?_)
    ·
      refine lv_iload_n hx hb dX0_set_43 rfl (lv_at hl 4 rfl) ?_
      refine lv_bipush (v := nI 10) hx hb dX0_set_44 (by decide) ?_
      refine lv_isub hx hb dX0_set_46 ?_
      refine w_top (v' := .int (-10)) rfl ?_
      refine lv_istore (lv' := [(5, .int (-10)), (4, .int (nI ((5 * y) + x))), (0, .ref b), (1, .int (nI x)), (2, .int (nI y)), (3, .int (nI 0))]) hx hb dX0_set_47 hl (by decide) rfl (fun ls hl => ?_)
      refine lv_iload hx hb dX0_set_49 (lv_at hl 0 rfl) ?_
      refine lv_if_lt (tgt := 79) hx hb dX0_set_51 (by decide) (fun c_51 => ?_) (fun c_51 => ?_)
      ·
        replace hB := bk_eq hB (show bdL G b (uA β 2 ((5 * y) + x) 0) = bdL G b (uA β 2 (5 * y + x) 0) from rfl)
        exact hE _ _ _ _ _ _ (kr_v dX0_set_79) hS (by decide) (by decide) ⟨hB, hz⟩
      ·
        exact absurd c_51 (by decide)
    ·
      exact absurd c_27 (by decide)
  ·
    rw [inI_n (by omega), inI_n (by omega), decide_eq_true hx9, decide_eq_true hy9] at c_6
    exact absurd c_6 (by decide)

set_option maxHeartbeats 1000000 in
set_option maxRecDepth 100000 in
theorem c_X0_set_1 (l : Launch) (G : Gt) (n1 : Nat) (b : Nat) (β : Sx) (x : Nat) (y : Nat) (hw : β.1 0 ≤ 5) (hh : β.1 1 ≤ 4) (hx9 : x < β.1 0) (hy9 : y < β.1 1) : Ct l G yX0_set cX0_set 6 (none) 1 0 0 [.ref b, .int (nI x), .int (nI y), .int (nI 1)] (fun H => bk G b (bdL G b β) H ∧ H.size = n1) none (fun H => bk G b (bdL G b (uS (uA β 2 (5 * y + x) 1) 3 (β.1 3 ||| 1 <<< (5 * y + x)))) H ∧ H.size = n1) (fun q => b ≤ q ∧ q < b + 4) := by
  refine ct_entry [(0, .ref b), (1, .int (nI x)), (2, .int (nI y)), (3, .int (nI 1))] (by decide) (Nat.le_of_ble_eq_true rfl) rfl ?_
  intro zp ze zs zm za zb zt zc Q S hK hPre hin hE ls hl
  have hx := S.1
  have hb := S.2.1
  obtain ⟨hB, hz⟩ := hPre
  have hS : va_S (fun q => b ≤ q ∧ q < b + 4) zs.heap zs.heap [] := va_S.rf
  refine lv_aload_n hx hb dX0_set_0 rfl (lv_at hl 0 rfl) ?_
  refine lv_iload_n hx hb dX0_set_1 rfl (lv_at hl 1 rfl) ?_
  refine lv_iload_n hx hb dX0_set_2 rfl (lv_at hl 2 rfl) ?_
  refine crV (rest := []) S hK (c_X0_isWithin l G b β (nI x) (nI y) (by first | assumption | omega | decide) (by first | assumption | omega | decide)) cw_X0_26 rfl ⟨Nat.le_of_ble_eq_true rfl, Nat.le_of_ble_eq_true rfl⟩ ⟨Nat.le_of_ble_eq_true rfl, Nat.le_of_ble_eq_true rfl⟩ (bk.recv hK hB rfl rfl) hl.1 rfl (Nat.le_of_ble_eq_true rfl) dX0_set_3 hB ?_
  refine z_if_ne (tgt := 10) hx hb dX0_set_6 (by decide) (fun c_6 => ?_) (fun c_6 => ?_)
  ·
    refine lv_iconst (v := nI 5) hx hb dX0_set_10 (by decide) ?_
    refine lv_iload_n hx hb dX0_set_11 rfl (lv_at hl 2 rfl) ?_
    refine n_imul hx hb dX0_set_12 ?_
    refine lv_iload_n hx hb dX0_set_13 rfl (lv_at hl 1 rfl) ?_
    refine n_iadd hx hb dX0_set_14 ?_
    refine lv_istore (lv' := [(4, .int (nI ((5 * y) + x))), (0, .ref b), (1, .int (nI x)), (2, .int (nI y)), (3, .int (nI 1))]) hx hb dX0_set_15 hl (by decide) rfl (fun ls hl => ?_)
    refine lv_aload_n hx hb dX0_set_17 rfl (lv_at hl 1 rfl) ?_
    refine kg (C := RX0) (T := TX0) (N := 9) (ci := 0) (k := 2) (v := .ref (b + 1)) S hK rfl inX0 (by decide) q_198 dX0_set_18 hB rfl rfl ?_
    refine lv_iload hx hb dX0_set_21 (lv_at hl 0 rfl) ?_
    refine lv_iload_n hx hb dX0_set_23 rfl (lv_at hl 4 rfl) ?_
    refine kis S hK dX0_set_24 1 hB rfl (by decide) rfl (by omega) rfl (L1 := bdL G b (uA β 2 ((5 * y) + x) 1)) rfl hS (by first | exact ⟨by omega, by omega⟩ | omega) (fun H locs hB hS hz2 hk => ?_)
    replace hz := hz2.trans hz
    refine lv_iload_n hx hb dX0_set_25 rfl (lv_at hl 4 rfl) ?_
    refine lv_iconst (v := nI 1) hx hb dX0_set_26 (by decide) ?_
    refine n_icmp_ne (tgt := 43) hx hb dX0_set_27 (by decide) (by decide) (by decide) (fun c_27 => ?_) (fun c_27 => ?_)
    ·
      exact absurd c_27 (by decide)
    ·
      refine lv_aload_n hx hb dX0_set_30 rfl (lv_at hl 1 rfl) ?_
      refine lv_dup hx hb dX0_set_31 rfl ?_
      refine kg (C := RX0) (T := TX0) (N := 9) (ci := 0) (k := 3) (v := .int (nI (β.1 3))) S hK rfl inX0 (by decide) q_199 dX0_set_32 hB rfl rfl ?_
      refine lv_iconst (v := nI 1) hx hb dX0_set_35 (by decide) ?_
      refine lv_iload hx hb dX0_set_36 (lv_at hl 0 rfl) ?_
      refine n_ishl hx hb dX0_set_38 (by omega) ?_
      refine n_ior hx hb dX0_set_39 ?_
      refine kp (C := RX0) (T := TX0) (N := 9) (ci := 0) (k := 3) (ty := .int) tyX0 tyX0_ok nmX0 S hK rfl inX0 (by decide) q_199 rfl dX0_set_40 rfl rfl rfl hB rfl (Nat.le_of_ble_eq_true rfl) (L1 := bdL G b (uS (uA β 2 ((5 * y) + x) 1) 3 ((β.1 3) ||| (1 <<< ((5 * y) + x))))) rfl hS (by first | exact ⟨by omega, by omega⟩ | omega) (fun H locs hB hS hz2 hk => ?_)
      replace hz := hz2.trans hz
      refine lv_iload_n hx hb dX0_set_43 rfl (lv_at hl 4 rfl) ?_
      refine lv_bipush (v := nI 10) hx hb dX0_set_44 (by decide) ?_
      refine lv_isub hx hb dX0_set_46 ?_
      refine w_top (v' := .int (-9)) rfl ?_
      refine lv_istore (lv' := [(5, .int (-9)), (4, .int (nI ((5 * y) + x))), (0, .ref b), (1, .int (nI x)), (2, .int (nI y)), (3, .int (nI 1))]) hx hb dX0_set_47 hl (by decide) rfl (fun ls hl => ?_)
      refine lv_iload hx hb dX0_set_49 (lv_at hl 0 rfl) ?_
      refine lv_if_lt (tgt := 79) hx hb dX0_set_51 (by decide) (fun c_51 => ?_) (fun c_51 => ?_)
      ·
        replace hB := bk_eq hB (show bdL G b (uS (uA β 2 ((5 * y) + x) 1) 3 ((β.1 3) ||| (1 <<< ((5 * y) + x)))) = bdL G b (uS (uA β 2 (5 * y + x) 1) 3 (β.1 3 ||| 1 <<< (5 * y + x))) from rfl)
        exact hE _ _ _ _ _ _ (kr_v dX0_set_79) hS (by decide) (by decide) ⟨hB, hz⟩
      ·
        exact absurd c_51 (by decide)
  ·
    rw [inI_n (by omega), inI_n (by omega), decide_eq_true hx9, decide_eq_true hy9] at c_6
    exact absurd c_6 (by decide)

set_option maxHeartbeats 1000000 in
set_option maxRecDepth 100000 in
theorem c_X0_set_f (l : Launch) (G : Gt) (n1 : Nat) (b : Nat) (β : Sx) (x : Nat) (y : Nat) (j : Nat) (hw : β.1 0 ≤ 5) (hh : β.1 1 ≤ 4) (hx9 : x < β.1 0) (hy9 : y < β.1 1) (hj : j < 5) : Ct l G yX0_set cX0_set 6 (none) 1 0 0 [.ref b, .int (nI x), .int (nI y), .int (nI (10 + j))] (fun H => bk G b (bdL G b β) H ∧ H.size = n1) none (fun H => bk G b (bdL G b (uS (uA (uA β 2 (5 * y + x) (10 + j)) 5 j (5 * y + x)) 4 (β.1 4 + 1))) H ∧ H.size = n1) (fun q => b ≤ q ∧ q < b + 4) := by
  refine ct_entry [(0, .ref b), (1, .int (nI x)), (2, .int (nI y)), (3, .int (nI (10 + j)))] (by decide) (Nat.le_of_ble_eq_true rfl) rfl ?_
  intro zp ze zs zm za zb zt zc Q S hK hPre hin hE ls hl
  have hx := S.1
  have hb := S.2.1
  obtain ⟨hB, hz⟩ := hPre
  have hS : va_S (fun q => b ≤ q ∧ q < b + 4) zs.heap zs.heap [] := va_S.rf
  refine lv_aload_n hx hb dX0_set_0 rfl (lv_at hl 0 rfl) ?_
  refine lv_iload_n hx hb dX0_set_1 rfl (lv_at hl 1 rfl) ?_
  refine lv_iload_n hx hb dX0_set_2 rfl (lv_at hl 2 rfl) ?_
  refine crV (rest := []) S hK (c_X0_isWithin l G b β (nI x) (nI y) (by first | assumption | omega | decide) (by first | assumption | omega | decide)) cw_X0_26 rfl ⟨Nat.le_of_ble_eq_true rfl, Nat.le_of_ble_eq_true rfl⟩ ⟨Nat.le_of_ble_eq_true rfl, Nat.le_of_ble_eq_true rfl⟩ (bk.recv hK hB rfl rfl) hl.1 rfl (Nat.le_of_ble_eq_true rfl) dX0_set_3 hB ?_
  refine z_if_ne (tgt := 10) hx hb dX0_set_6 (by decide) (fun c_6 => ?_) (fun c_6 => ?_)
  ·
    refine lv_iconst (v := nI 5) hx hb dX0_set_10 (by decide) ?_
    refine lv_iload_n hx hb dX0_set_11 rfl (lv_at hl 2 rfl) ?_
    refine n_imul hx hb dX0_set_12 ?_
    refine lv_iload_n hx hb dX0_set_13 rfl (lv_at hl 1 rfl) ?_
    refine n_iadd hx hb dX0_set_14 ?_
    refine lv_istore (lv' := [(4, .int (nI ((5 * y) + x))), (0, .ref b), (1, .int (nI x)), (2, .int (nI y)), (3, .int (nI (10 + j)))]) hx hb dX0_set_15 hl (by decide) rfl (fun ls hl => ?_)
    refine lv_aload_n hx hb dX0_set_17 rfl (lv_at hl 1 rfl) ?_
    refine kg (C := RX0) (T := TX0) (N := 9) (ci := 0) (k := 2) (v := .ref (b + 1)) S hK rfl inX0 (by decide) q_198 dX0_set_18 hB rfl rfl ?_
    refine lv_iload hx hb dX0_set_21 (lv_at hl 0 rfl) ?_
    refine lv_iload_n hx hb dX0_set_23 rfl (lv_at hl 4 rfl) ?_
    refine kis S hK dX0_set_24 1 hB rfl (by decide) rfl (by omega) rfl (L1 := bdL G b (uA β 2 ((5 * y) + x) (10 + j))) rfl hS (by first | exact ⟨by omega, by omega⟩ | omega) (fun H locs hB hS hz2 hk => ?_)
    replace hz := hz2.trans hz
    refine lv_iload_n hx hb dX0_set_25 rfl (lv_at hl 4 rfl) ?_
    refine lv_iconst (v := nI 1) hx hb dX0_set_26 (by decide) ?_
    refine n_icmp_ne (tgt := 43) hx hb dX0_set_27 (by decide) (by omega) (by decide) (fun c_27 => ?_) (fun c_27 => ?_)
    ·
      refine lv_iload_n hx hb dX0_set_43 rfl (lv_at hl 4 rfl) ?_
      refine lv_bipush (v := nI 10) hx hb dX0_set_44 (by decide) ?_
      refine n_isub hx hb dX0_set_46 (by omega) ?_
      refine w_top (v' := .int (nI j)) (congrArg (fun z => Value.int (nI z)) (Nat.add_sub_cancel_left 10 j)) ?_
      refine lv_istore (lv' := [(5, .int (nI j)), (4, .int (nI ((5 * y) + x))), (0, .ref b), (1, .int (nI x)), (2, .int (nI y)), (3, .int (nI (10 + j)))]) hx hb dX0_set_47 hl (by decide) rfl (fun ls hl => ?_)
      refine lv_iload hx hb dX0_set_49 (lv_at hl 0 rfl) ?_
      refine n_if_lt (tgt := 79) hx hb dX0_set_51 (by decide) (by omega) (fun c_51 => ?_)
      refine lv_iload hx hb dX0_set_54 (lv_at hl 0 rfl) ?_
      refine lv_iconst (v := nI 5) hx hb dX0_set_56 (by decide) ?_
      refine n_icmp_ge (tgt := 79) hx hb dX0_set_57 (by decide) (by omega) (by decide) (fun c_57 => ?_) (fun c_57 => ?_)
      ·
        omega
      ·
        refine lv_aload_n hx hb dX0_set_60 rfl (lv_at hl 2 rfl) ?_
        refine kg (C := RX0) (T := TX0) (N := 9) (ci := 0) (k := 5) (v := .ref (b + 2)) S hK rfl inX0 (by decide) q_205 dX0_set_61 hB rfl rfl ?_
        refine lv_iload hx hb dX0_set_64 (lv_at hl 0 rfl) ?_
        refine lv_iload hx hb dX0_set_66 (lv_at hl 1 rfl) ?_
        refine kis S hK dX0_set_68 2 hB rfl (by decide) rfl (by omega) rfl (L1 := bdL G b (uA (uA β 2 ((5 * y) + x) (10 + j)) 5 j ((5 * y) + x))) rfl hS (by first | exact ⟨by omega, by omega⟩ | omega) (fun H locs hB hS hz2 hk => ?_)
        replace hz := hz2.trans hz
        refine lv_aload_n hx hb dX0_set_69 rfl (lv_at hl 2 rfl) ?_
        refine lv_dup hx hb dX0_set_70 rfl ?_
        refine kg (C := RX0) (T := TX0) (N := 9) (ci := 0) (k := 4) (v := .int (nI (β.1 4))) S hK rfl inX0 (by decide) q_201 dX0_set_71 hB rfl rfl ?_
        refine lv_iconst (v := nI 1) hx hb dX0_set_74 (by decide) ?_
        refine n_iadd hx hb dX0_set_75 ?_
        refine kp (C := RX0) (T := TX0) (N := 9) (ci := 0) (k := 4) (ty := .int) tyX0 tyX0_ok nmX0 S hK rfl inX0 (by decide) q_201 rfl dX0_set_76 rfl rfl rfl hB rfl (Nat.le_of_ble_eq_true rfl) (L1 := bdL G b (uS (uA (uA β 2 ((5 * y) + x) (10 + j)) 5 j ((5 * y) + x)) 4 ((β.1 4) + 1))) rfl hS (by first | exact ⟨by omega, by omega⟩ | omega) (fun H locs hB hS hz2 hk => ?_)
        replace hz := hz2.trans hz
        replace hB := bk_eq hB (show bdL G b (uS (uA (uA β 2 ((5 * y) + x) (10 + j)) 5 j ((5 * y) + x)) 4 ((β.1 4) + 1)) = bdL G b (uS (uA (uA β 2 (5 * y + x) (10 + j)) 5 j (5 * y + x)) 4 (β.1 4 + 1)) from rfl)
        exact hE _ _ _ _ _ _ (kr_v dX0_set_79) hS (by decide) (by decide) ⟨hB, hz⟩
    ·
      omega
  ·
    rw [inI_n (by omega), inI_n (by omega), decide_eq_true hx9, decide_eq_true hy9] at c_6
    exact absurd c_6 (by decide)

/-- a contract with less known before, more said behind -/
theorem ct_w {l : Launch} {G : Gt} {y : MethodName} {cc : ByteArray} {mL : Nat} {ret : Option FieldType} {f mc ms : Nat} {av : List Value} {Pre Pre' : Heap → Prop} {r : Option Value} {Post Post' : Heap → Prop} {A A' : Nat → Prop} (h : Ct l G y cc mL ret f mc ms av Pre r Post A) (hp : ∀ H, Pre' H → Pre H)
    (hq : ∀ H H1 : Heap, Pre' H → Post H1 → H.size ≤ H1.size → (∀ q : Nat, q < H.size → ¬ A q → H1[q]? = H[q]?) → Post' H1) (hA : ∀ H, Pre' H → ∀ q, A q → A' q) : Ct l G y cc mL ret f mc ms av Pre' r Post' A' := by
  intro p e a1 a2 a3 s m args below a4 a5 a6 a7
  obtain ⟨n, o, b1, b2, b3, ⟨⟨c1, c2⟩, c3⟩, L, c4, c5⟩ := h p e a1 a2 a3 s m args below a4 a5 ⟨a6.1, a6.2.1, hp _ a6.2.2⟩ a7
  exact ⟨n, o, b1, b2, b3, ⟨⟨c1, hq _ _ a6.2.2 c2 c3.1 c3.2⟩, c3.1, fun q h1 h2 => c3.2 q h1 (fun z => h2 (hA _ a6.2.2 q z))⟩, L, c4, fun q hq => hA _ a6.2.2 _ (c5 q hq)⟩
theorem ct_ex {ι : Type} {l : Launch} {G : Gt} {y : MethodName} {cc : ByteArray} {mL : Nat} {ret : Option FieldType} {f mc ms : Nat} {av : List Value} {Pre : ι → Heap → Prop} {r : Option Value} {Post : Heap → Prop} {A : Nat → Prop} (h : ∀ i, Ct l G y cc mL ret f mc ms av (Pre i) r Post A) : Ct l G y cc mL ret f mc ms av (fun H => ∃ i, Pre i H) r Post A := by
  intro p e a1 a2 a3 s m args below a4 a5 a6 a7
  obtain ⟨b1, b2, i, b3⟩ := a6
  exact h i p e a1 a2 a3 s m args below a4 a5 ⟨b1, b2, b3⟩ a7

theorem c_X0_set (l : Launch) (G : Gt) (n1 : Nat) (b : Nat) (β : Sx) (x : Nat) (y : Nat) (v : Nat) (w : Nat) (h : Nat) (D : Nat → Bool) (D2 : Nat → Bool) (d : Nat → Nat) (hP : PD w h (pt D d) β) (hwh : w ≤ 5 ∧ h ≤ 4) (hx9 : x < w) (hy9 : y < h) (hU : UQ d) (hD : D (5 * y + x) = false) (hD2 : ∀ i, i < 20 → D2 i = (D i || decide (i = 5 * y + x))) (hv : v = d (5 * y + x)) : Ct l G yX0_set cX0_set 6 (none) 1 0 0 [.ref b, .int (nI x), .int (nI y), .int (nI v)] (fun H => bk G b (bdL G b β) H ∧ H.size = n1) none (fun H => H.size = n1 ∧ ∃ σ : Sx, bk G b (bdL G b σ) H ∧ PD w h (pt D2 d) σ) (fun q => b ≤ q ∧ q < b + 4) := by
  have hk : 5 * y + x < 20 := by omega
  have hc := pt_n (d := d) hD
  have e1 := hP.1
  have e2 := hP.2.1
  have g := fun i hi => (pt_put (d := d) hD2 i hi)
  rw [← hv] at g
  rcases hU.1 _ hk with q | q | q
  · obtain rfl : v = 0 := by omega
    exact ct_w (c_X0_set_0 l G n1 b β x y (by omega) (by omega) (by omega) (by omega)) (fun H h => h) (fun H H1 _ h _ _ => ⟨h.2, _, h.1, PD_congr (PD_0 hP hc) g⟩) (fun H _ q h => h)
  · obtain rfl : v = 1 := by omega
    exact ct_w (c_X0_set_1 l G n1 b β x y (by omega) (by omega) (by omega) (by omega)) (fun H h => h) (fun H H1 _ h _ _ => ⟨h.2, _, h.1, PD_congr (PD_1 hP hk hc) g⟩) (fun H _ q h => h)
  · obtain ⟨j, rfl⟩ : ∃ j, v = 10 + j := ⟨v - 10, by omega⟩
    exact ct_w (c_X0_set_f l G n1 b β x y j (by omega) (by omega) (by omega) (by omega) (by omega)) (fun H h => h) (fun H H1 _ h _ _ => ⟨h.2, _, h.1, PD_congr (PD_f hP hk hc (by omega) (pt_u hU hk hD hv.symm)) g⟩) (fun H _ q h => h)

set_option maxHeartbeats 1000000 in
set_option maxRecDepth 100000 in
theorem c_X0_init (l : Launch) (G : Gt) (b : Nat) (w : Nat) (h : Nat)  : Ct l G yX0_init cX0_init 3 (none) 1 3 57 [.ref b, .int (nI w), .int (nI h)] (fun H => bk G b ([.inr (0, [.int (nI 0), .int (nI 0), .null, .int (nI 0), .int (nI 0), .null, .null, .long (lN 0), .long (lN 0)])]) H ∧ H.size = b + 1) none (fun H => bk G b (bdL G b (bd0 w h)) H ∧ H.size = b + 4) (fun q => b ≤ q) := by
  refine ct_entry [(0, .ref b), (1, .int (nI w)), (2, .int (nI h))] (by decide) (Nat.le_of_ble_eq_true rfl) rfl ?_
  intro zp ze zs zm za zb zt zc Q S hK hPre hin hE ls hl
  have hx := S.1
  have hb := S.2.1
  obtain ⟨hB, hz⟩ := hPre
  have hS : va_S (fun q => b ≤ q) zs.heap zs.heap [] := va_S.rf
  refine lv_aload_n hx hb dX0_init_0 rfl (lv_at hl 0 rfl) ?_
  refine koi S q_193 q_95 q_96 dX0_init_1 hl.1 ⟨by decide, by decide⟩ (by decide) ?_
  refine lv_aload_n hx hb dX0_init_4 rfl (lv_at hl 0 rfl) ?_
  refine lv_bipush (v := nI 20) hx hb dX0_init_5 (by decide) ?_
  refine kna S hK q_122 dX0_init_7 20 rfl (by decide) (by decide) (by decide) hB hz hS (fun H hB hS hz hk => ?_)
  replace hB : bk G b ([.inr (0, [.int (nI 0), .int (nI 0), .null, .int (nI 0), .int (nI 0), .null, .null, .long (lN 0), .long (lN 0)]), iA G 20 (fun _ => 0)]) H := hB
  replace hz : H.size = b + 2 := hz
  refine kpF (C := RX0) (T := TX0) (N := 9) (ci := 0) (k := 2) (ty := .array .int) tyX0 tyX0_ok nmX0 S hK hin rfl inX0 (by decide) q_198 rfl rfl dX0_init_9 rfl rfl rfl hB rfl (Nat.le_of_ble_eq_true rfl) (L1 := [.inr (0, [.int (nI 0), .int (nI 0), .ref (b + 1), .int (nI 0), .int (nI 0), .null, .null, .long (lN 0), .long (lN 0)]), iA G 20 (fun _ => 0)]) rfl hS (by first | exact ⟨by omega, by omega⟩ | omega) (fun H locs hB hS hz2 hk => ?_)
  replace hz := hz2.trans hz
  refine lv_aload_n hx hb dX0_init_12 rfl (lv_at hl 0 rfl) ?_
  refine lv_iconst (v := nI 5) hx hb dX0_init_13 (by decide) ?_
  refine kna S hK q_122 dX0_init_14 5 rfl (by decide) (by decide) (by decide) hB hz hS (fun H hB hS hz hk => ?_)
  replace hB : bk G b ([.inr (0, [.int (nI 0), .int (nI 0), .ref (b + 1), .int (nI 0), .int (nI 0), .null, .null, .long (lN 0), .long (lN 0)]), iA G 20 (fun _ => 0), iA G 5 (fun _ => 0)]) H := hB
  replace hz : H.size = b + 3 := hz
  refine kpF (C := RX0) (T := TX0) (N := 9) (ci := 0) (k := 5) (ty := .array .int) tyX0 tyX0_ok nmX0 S hK hin rfl inX0 (by decide) q_205 rfl rfl dX0_init_16 rfl rfl rfl hB rfl (Nat.le_of_ble_eq_true rfl) (L1 := [.inr (0, [.int (nI 0), .int (nI 0), .ref (b + 1), .int (nI 0), .int (nI 0), .ref (b + 2), .null, .long (lN 0), .long (lN 0)]), iA G 20 (fun _ => 0), iA G 5 (fun _ => 0)]) rfl hS (by first | exact ⟨by omega, by omega⟩ | omega) (fun H locs hB hS hz2 hk => ?_)
  replace hz := hz2.trans hz
  refine lv_aload_n hx hb dX0_init_19 rfl (lv_at hl 0 rfl) ?_
  refine lv_bipush (v := nI 32) hx hb dX0_init_20 (by decide) ?_
  refine kna S hK q_122 dX0_init_22 32 rfl (by decide) (by decide) (by decide) hB hz hS (fun H hB hS hz hk => ?_)
  replace hB : bk G b ([.inr (0, [.int (nI 0), .int (nI 0), .ref (b + 1), .int (nI 0), .int (nI 0), .ref (b + 2), .null, .long (lN 0), .long (lN 0)]), iA G 20 (fun _ => 0), iA G 5 (fun _ => 0), iA G 32 (fun _ => 0)]) H := hB
  replace hz : H.size = b + 4 := hz
  refine kpF (C := RX0) (T := TX0) (N := 9) (ci := 0) (k := 6) (ty := .array .int) tyX0 tyX0_ok nmX0 S hK hin rfl inX0 (by decide) q_207 rfl rfl dX0_init_24 rfl rfl rfl hB rfl (Nat.le_of_ble_eq_true rfl) (L1 := [.inr (0, [.int (nI 0), .int (nI 0), .ref (b + 1), .int (nI 0), .int (nI 0), .ref (b + 2), .ref (b + 3), .long (lN 0), .long (lN 0)]), iA G 20 (fun _ => 0), iA G 5 (fun _ => 0), iA G 32 (fun _ => 0)]) rfl hS (by first | exact ⟨by omega, by omega⟩ | omega) (fun H locs hB hS hz2 hk => ?_)
  replace hz := hz2.trans hz
  refine lv_aload_n hx hb dX0_init_27 rfl (lv_at hl 0 rfl) ?_
  refine lv_iload_n hx hb dX0_init_28 rfl (lv_at hl 1 rfl) ?_
  refine kpF (C := RX0) (T := TX0) (N := 9) (ci := 0) (k := 0) (ty := .int) tyX0 tyX0_ok nmX0 S hK hin rfl inX0 (by decide) q_194 rfl rfl dX0_init_29 rfl rfl rfl hB rfl (Nat.le_of_ble_eq_true rfl) (L1 := [.inr (0, [.int (nI w), .int (nI 0), .ref (b + 1), .int (nI 0), .int (nI 0), .ref (b + 2), .ref (b + 3), .long (lN 0), .long (lN 0)]), iA G 20 (fun _ => 0), iA G 5 (fun _ => 0), iA G 32 (fun _ => 0)]) rfl hS (by first | exact ⟨by omega, by omega⟩ | omega) (fun H locs hB hS hz2 hk => ?_)
  replace hz := hz2.trans hz
  refine lv_aload_n hx hb dX0_init_32 rfl (lv_at hl 0 rfl) ?_
  refine lv_iload_n hx hb dX0_init_33 rfl (lv_at hl 2 rfl) ?_
  refine kpF (C := RX0) (T := TX0) (N := 9) (ci := 0) (k := 1) (ty := .int) tyX0 tyX0_ok nmX0 S hK hin rfl inX0 (by decide) q_196 rfl rfl dX0_init_34 rfl rfl rfl hB rfl (Nat.le_of_ble_eq_true rfl) (L1 := [.inr (0, [.int (nI w), .int (nI h), .ref (b + 1), .int (nI 0), .int (nI 0), .ref (b + 2), .ref (b + 3), .long (lN 0), .long (lN 0)]), iA G 20 (fun _ => 0), iA G 5 (fun _ => 0), iA G 32 (fun _ => 0)]) rfl hS (by first | exact ⟨by omega, by omega⟩ | omega) (fun H locs hB hS hz2 hk => ?_)
  replace hz := hz2.trans hz
  exact hE _ _ _ _ _ _ (kr_v dX0_init_37) hS (by decide) (by decide) ⟨hB, hz⟩
