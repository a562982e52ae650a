
/-! walks: the reference's parts that come of others -/
def less_M (μ : Sx) (p xy : Int32) : Int32 × Sx := if inI p (μ.1 16) then (if isC (μ.2.1 1 (cx p)) (μ.2.1 2 (cx p)) xy then (if clM μ (cx p) (5 * (cx xy % 10) + cx xy / 10) = 1 then (if μ.1 16 = 24 then (-6, rfM μ 6) else (nI (μ.1 16), nwP μ (μ.2.1 1 (cx p)) (μ.2.1 2 (cx p)) (μ.2.1 3 (cx p)) (uN (idC (μ.2.1 1 (cx p)) (μ.2.1 2 (cx p)) (clM μ (cx p))) (5 * (cx xy % 10) + cx xy / 10) 0))) else (-3, rfM μ 3)) else (-1, rfM μ 1)) else (-1, rfM μ 1)
theorem NW_put {μ ρ : Sx} {w h f : Nat} {c : Nat → Nat} {k v : Nat} (q : NW μ w h f c ρ) (hk : k < 20) : NW μ w h f (uN c k v) (uA ρ 4 (20 * μ.1 16 + k) v) := by
  obtain ⟨h0, h1, h2, h3, h4⟩ := q
  refine ⟨pth_4 h0 (by omega), by rw [aA_n (by decide)]; exact h1, by rw [aA_n (by decide)]; exact h2, by rw [aA_n (by decide)]; exact h3, fun j hj => ?_⟩
  rw [aA_e]
  by_cases e : j = k
  · rw [if_pos (by omega), e, uN_s]
  · rw [if_neg (by omega), uN_n e]
    exact h4 j hj
theorem rtt_lt : ∀ (q w h a b : Nat), a < w → b < h → (rtt q w h a b).1 < (if q % 2 = 1 then h else w) ∧ (rtt q w h a b).2 < (if q % 2 = 1 then w else h)
  | 0, w, h, a, b, h1, h2 => ⟨h1, h2⟩
  | q + 1, w, h, a, b, h1, h2 => by
    have q1 := rtt_lt q h w (h - 1 - b) a (by omega) h1
    show (rtt q h w (h - 1 - b) a).1 < _ ∧ (rtt q h w (h - 1 - b) a).2 < _
    by_cases e : q % 2 = 1
    · rw [if_pos e, if_pos e] at q1
      rw [if_neg (by omega), if_neg (by omega)]
      exact q1
    · rw [if_neg e, if_neg e] at q1
      rw [if_pos (by omega), if_pos (by omega)]
      exact q1
theorem trn_lt {w h x y mi q : Nat} (h1 : x < w) (h2 : y < h) : (trn w h x y mi q).1 < (if q % 2 = 1 then h else w) ∧ (trn w h x y mi q).2 < (if q % 2 = 1 then w else h) := by
  refine rtt_lt q w h _ y ?_ h2
  by_cases e : mi = 0
  · rw [if_pos e]; exact h1
  · rw [if_neg e]; omega
/-- whether a part is another turned, mirrored -/
abbrev asP (μ : Sx) (a b mi q : Nat) : Prop := (μ.2.1 1 b = (if q % 2 = 1 then μ.2.1 2 a else μ.2.1 1 a) ∧ μ.2.1 2 b = (if q % 2 = 1 then μ.2.1 1 a else μ.2.1 2 a)) ∧ ∀ x, x < μ.2.1 1 a → ∀ y, y < μ.2.1 2 a → clM μ a (5 * y + x) = clM μ b (5 * (trn (μ.2.1 1 a) (μ.2.1 2 a) x y mi q).2 + (trn (μ.2.1 1 a) (μ.2.1 2 a) x y mi q).1)
def alike_M (μ : Sx) (a b : Int32) : Int32 × Sx := if inI a (μ.1 16) && inI b (μ.1 16) then (b2i (fnd (fun q => decide (asP μ (cx a) (cx b) 0 q) || decide (asP μ (cx a) (cx b) 1 q)) 4 0).isSome, μ) else (-1, rfM μ 1)
def needless_M (μ : Sx) (p : Int32) : Int32 × Sx := if inI p (μ.1 16) then (nI (bo (fun k => decide (clM μ (cx p) k = 1) && decide (ltM (uN (clM μ (cx p)) k 0) (μ.2.1 3 (cx p)) = ltM (clM μ (cx p)) (μ.2.1 3 (cx p)))) 20), μ) else (-1, rfM μ 1)
theorem ndl_e {μ : Sx} {i : Nat} (h : μ.2.1 4 i = 1) : uA (uA μ 4 i 0) 4 i 1 = μ := by
  have e : (uA (uA μ 4 i 0) 4 i 1).2.1 = μ.2.1 := by
    funext k j
    by_cases hk : k = 4
    · subst hk
      rw [aA_e, aA_e]
      by_cases hj : j = i
      · rw [if_pos hj, hj, h]
      · rw [if_neg hj, if_neg hj]
    · rw [aA_n hk, aA_n hk]
  exact Prod.ext rfl (Prod.ext e rfl)
theorem clM_u {μ : Sx} {p k v : Nat} : clM (uA μ 4 (20 * p + k) v) p = uN (clM μ p) k v := by
  funext j
  show (uA μ 4 (20 * p + k) v).2.1 4 (20 * p + j) = (if j = k then v else μ.2.1 4 (20 * p + j))
  rw [aA_e]
  by_cases e : j = k
  · rw [if_pos e, if_pos (by omega)]
  · rw [if_neg e, if_neg (by omega)]

set_option maxHeartbeats 1000000 in
set_option maxRecDepth 100000 in
theorem c_X7_turn (l : Launch) (G : Gt) (om : Nat) (μ : Sx) (p : Int32) (h0 : MI0 μ) : Ct l G yX7_turn cX7_turn 3 ((some .int)) 5 0 0 [.ref om, .int p] (fun H => bk G om (mL G om μ) H) (some (.int ((turn_M μ p).1))) (fun H => ∃ σ : Sx, bk G om (mL G om σ) H ∧ vis σ (turn_M μ p).2) (fun q => om ≤ q ∧ q < om + 20) := by
  refine ct_entry [(0, .ref om), (1, .int p)] (by decide) (Nat.le_of_ble_eq_true rfl) rfl ?_
  intro zp ze zs zm za zb zt zc Q S hK hPre hin hE ls hl
  have hx := S.1
  have hb := S.2.1
  have hM := hPre
  have hS : va_S (fun q => om ≤ q ∧ q < om + 20) zs.heap zs.heap [] := va_S.rf
  have hp24 := h0.1
  refine lv_aload_n hx hb dX7_turn_0 rfl (lv_at hl 0 rfl) ?_
  refine lv_iload_n hx hb dX7_turn_1 rfl (lv_at hl 1 rfl) ?_
  refine crV (rest := []) S hK (c_X7_isPart l G om μ p (by first | assumption | omega | decide)) cw_X7_103 rfl ⟨Nat.le_of_ble_eq_true rfl, Nat.le_of_ble_eq_true rfl⟩ ⟨Nat.le_of_ble_eq_true rfl, Nat.le_of_ble_eq_true rfl⟩ (bk.recv hK hM rfl rfl) hl.1 rfl (Nat.le_of_ble_eq_true rfl) dX7_turn_2 hM ?_
  refine z_if_ne (tgt := 12) hx hb dX7_turn_5 (by decide) (fun c_5 => ?_) (fun c_5 => ?_)
  ·
    obtain ⟨vp, hvp, rfl⟩ := inI_x c_5
    obtain ⟨hw1, hw5, hh1, hh4, hf5, hcl⟩ := h0.2 vp hvp
    have hcp := cx_n (j := vp) (by omega)
    refine lv_aload_n hx hb dX7_turn_12 rfl (lv_at hl 0 rfl) ?_
    refine kg (C := RX7) (T := TX7) (N := 32) (ci := 5) (k := 16) (v := .int (nI (μ.1 16))) S hK rfl inX7 (by decide) q_746 dX7_turn_13 hM rfl rfl ?_
    refine lv_bipush (v := nI 24) hx hb dX7_turn_16 (by decide) ?_
    refine n_icmp_ne (tgt := 26) hx hb dX7_turn_18 (by decide) (by omega) (by decide) (fun c_18 => ?_) (fun c_18 => ?_)
    ·
      refine lv_aload_n hx hb dX7_turn_26 rfl (lv_at hl 0 rfl) ?_
      refine kg (C := RX7) (T := TX7) (N := 32) (ci := 5) (k := 1) (v := .ref (om + 2)) S hK rfl inX7 (by decide) q_731 dX7_turn_27 hM rfl rfl ?_
      refine lv_iload_n hx hb dX7_turn_30 rfl (lv_at hl 1 rfl) ?_
      refine kil (f := μ.2.1 1) S hK dX7_turn_31 2 hM rfl (by decide) rfl (by omega) ?_
      refine lv_iconst (v := nI 5) hx hb dX7_turn_32 (by decide) ?_
      refine n_icmp_ne (tgt := 41) hx hb dX7_turn_33 (by decide) (by omega) (by decide) (fun c_33 => ?_) (fun c_33 => ?_)
      ·
        refine lv_iconst (v := nI 0) hx hb dX7_turn_41 (by decide) ?_
        refine lv_istore_n (lv' := [(2, .int (nI 0)), (0, .ref om), (1, .int (nI vp))]) hx hb dX7_turn_42 rfl hl (by decide) rfl (fun ls hl => ?_)
        refine lv_iload_n hx hb dX7_turn_43 rfl (lv_at hl 0 rfl) ?_
        refine n_if_eq (tgt := 55) hx hb dX7_turn_44 (by decide) (by decide) (fun c_44 => ?_) (fun c_44 => ?_)
        ·
          refine lv_aload_n hx hb dX7_turn_55 rfl (lv_at hl 1 rfl) ?_
          refine lv_iload_n hx hb dX7_turn_56 rfl (lv_at hl 2 rfl) ?_
          refine lv_iconst (v := nI 0) hx hb dX7_turn_57 (by decide) ?_
          refine lv_iconst (v := nI 1) hx hb dX7_turn_58 (by decide) ?_
          refine ctV (rest := []) S hK (c_X7_copies_t l G om μ vp (by first | assumption | omega | decide) (by first | assumption | omega | decide) (by first | assumption | omega | decide) (by first | assumption | omega | decide)) cw_X7_205 rfl ⟨Nat.le_of_ble_eq_true rfl, Nat.le_of_ble_eq_true rfl⟩ ⟨Nat.le_of_ble_eq_true rfl, Nat.le_of_ble_eq_true rfl⟩ (bk.recv hK hM rfl rfl) hl.1 rfl (Nat.le_of_ble_eq_true rfl) dX7_turn_59 hM hS (fun _ h => h) (fun H locs hPost hz hk hS => ?_)
          obtain ⟨g59, hM, hq59⟩ := hPost
          have hr : turn_M μ (nI vp) = (nI (μ.1 16), nwP μ (μ.2.1 2 vp) (μ.2.1 1 vp) (μ.2.1 3 vp) (tnC (μ.2.1 1 vp) (μ.2.1 2 vp) (clM μ vp))) := by unfold turn_M; rw [c_5, if_pos rfl, if_neg (by omega), hcp, if_neg (by omega)]
          refine w_top (v' := .int ((turn_M μ (nI vp)).1)) (show (.int (nI (μ.1 16)) : Value) = .int ((turn_M μ (nI vp)).1) from (congrArg (fun z => Value.int z) (congrArg Prod.fst hr).symm)) ?_
          exact hE _ _ _ _ _ _ (kr_i dX7_turn_62) hS (by decide) (by decide) ⟨(uS g59 16 (μ.1 16 + 1)), hM, (by rw [hr]; exact vis_nw hq59)⟩
        ·
          exact absurd c_44 (by decide)
      ·
        refine lv_bipush (v := (-3)) hx hb dX7_turn_36 (by decide) ?_
        refine lv_goto (tgt := 42) hx hb dX7_turn_38 (by decide) ?_
        refine lv_istore_n (lv' := [(2, .int (-3)), (0, .ref om), (1, .int (nI vp))]) hx hb dX7_turn_42 rfl hl (by decide) rfl (fun ls hl => ?_)
        refine lv_iload_n hx hb dX7_turn_43 rfl (lv_at hl 0 rfl) ?_
        refine lv_if_eq (tgt := 55) hx hb dX7_turn_44 (by decide) (fun c_44 => ?_) (fun c_44 => ?_)
        ·
          exact absurd c_44 (by decide)
        ·
          refine lv_aload_n hx hb dX7_turn_47 rfl (lv_at hl 1 rfl) ?_
          refine lv_iload_n hx hb dX7_turn_48 rfl (lv_at hl 0 rfl) ?_
          refine ctV (rest := []) S hK (c_X7_refuse l G om μ (-3) 3 (by first | assumption | omega | decide) (by first | assumption | omega | decide)) cw_X7_72 rfl ⟨Nat.le_of_ble_eq_true rfl, Nat.le_of_ble_eq_true rfl⟩ ⟨Nat.le_of_ble_eq_true rfl, Nat.le_of_ble_eq_true rfl⟩ (bk.recv hK hM rfl rfl) hl.1 rfl (Nat.le_of_ble_eq_true rfl) dX7_turn_49 hM hS (fun _ h => h) (fun H locs hPost hz hk hS => ?_)
          have hM := hPost
          refine lv_goto (tgt := 62) hx hb dX7_turn_52 (by decide) ?_
          have hr : turn_M μ (nI vp) = ((-3), uA μ 0 3 (μ.2.1 0 3 + 1)) := by unfold turn_M; first | rw [c_5, if_pos rfl, if_pos c_18] | rw [c_5, if_pos rfl, hcp, if_neg c_18, if_pos c_33] | (rw [c_5]; rfl)
          refine w_top (v' := .int ((turn_M μ (nI vp)).1)) (congrArg (fun z => Value.int z) (congrArg Prod.fst hr).symm) ?_
          exact hE _ _ _ _ _ _ (kr_i dX7_turn_62) hS (by decide) (by decide) ⟨(uA μ 0 3 (μ.2.1 0 3 + 1)), hM, (by rw [hr]; exact vis_rf _)⟩
    ·
      refine lv_bipush (v := (-6)) hx hb dX7_turn_21 (by decide) ?_
      refine lv_goto (tgt := 42) hx hb dX7_turn_23 (by decide) ?_
      refine lv_istore_n (lv' := [(2, .int (-6)), (0, .ref om), (1, .int (nI vp))]) hx hb dX7_turn_42 rfl hl (by decide) rfl (fun ls hl => ?_)
      refine lv_iload_n hx hb dX7_turn_43 rfl (lv_at hl 0 rfl) ?_
      refine lv_if_eq (tgt := 55) hx hb dX7_turn_44 (by decide) (fun c_44 => ?_) (fun c_44 => ?_)
      ·
        exact absurd c_44 (by decide)
      ·
        refine lv_aload_n hx hb dX7_turn_47 rfl (lv_at hl 1 rfl) ?_
        refine lv_iload_n hx hb dX7_turn_48 rfl (lv_at hl 0 rfl) ?_
        refine ctV (rest := []) S hK (c_X7_refuse l G om μ (-6) 6 (by first | assumption | omega | decide) (by first | assumption | omega | decide)) cw_X7_72 rfl ⟨Nat.le_of_ble_eq_true rfl, Nat.le_of_ble_eq_true rfl⟩ ⟨Nat.le_of_ble_eq_true rfl, Nat.le_of_ble_eq_true rfl⟩ (bk.recv hK hM rfl rfl) hl.1 rfl (Nat.le_of_ble_eq_true rfl) dX7_turn_49 hM hS (fun _ h => h) (fun H locs hPost hz hk hS => ?_)
        have hM := hPost
        refine lv_goto (tgt := 62) hx hb dX7_turn_52 (by decide) ?_
        have hr : turn_M μ (nI vp) = ((-6), uA μ 0 6 (μ.2.1 0 6 + 1)) := by unfold turn_M; first | rw [c_5, if_pos rfl, if_pos c_18] | rw [c_5, if_pos rfl, hcp, if_neg c_18, if_pos c_33] | (rw [c_5]; rfl)
        refine w_top (v' := .int ((turn_M μ (nI vp)).1)) (congrArg (fun z => Value.int z) (congrArg Prod.fst hr).symm) ?_
        exact hE _ _ _ _ _ _ (kr_i dX7_turn_62) hS (by decide) (by decide) ⟨(uA μ 0 6 (μ.2.1 0 6 + 1)), hM, (by rw [hr]; exact vis_rf _)⟩
  ·
    refine lv_iconst (v := (-1)) hx hb dX7_turn_8 (by decide) ?_
    refine lv_goto (tgt := 42) hx hb dX7_turn_9 (by decide) ?_
    refine lv_istore_n (lv' := [(2, .int (-1)), (0, .ref om), (1, .int p)]) hx hb dX7_turn_42 rfl hl (by decide) rfl (fun ls hl => ?_)
    refine lv_iload_n hx hb dX7_turn_43 rfl (lv_at hl 0 rfl) ?_
    refine lv_if_eq (tgt := 55) hx hb dX7_turn_44 (by decide) (fun c_44 => ?_) (fun c_44 => ?_)
    ·
      exact absurd c_44 (by decide)
    ·
      refine lv_aload_n hx hb dX7_turn_47 rfl (lv_at hl 1 rfl) ?_
      refine lv_iload_n hx hb dX7_turn_48 rfl (lv_at hl 0 rfl) ?_
      refine ctV (rest := []) S hK (c_X7_refuse l G om μ (-1) 1 (by first | assumption | omega | decide) (by first | assumption | omega | decide)) cw_X7_72 rfl ⟨Nat.le_of_ble_eq_true rfl, Nat.le_of_ble_eq_true rfl⟩ ⟨Nat.le_of_ble_eq_true rfl, Nat.le_of_ble_eq_true rfl⟩ (bk.recv hK hM rfl rfl) hl.1 rfl (Nat.le_of_ble_eq_true rfl) dX7_turn_49 hM hS (fun _ h => h) (fun H locs hPost hz hk hS => ?_)
      have hM := hPost
      refine lv_goto (tgt := 62) hx hb dX7_turn_52 (by decide) ?_
      have hr : turn_M μ p = ((-1), uA μ 0 1 (μ.2.1 0 1 + 1)) := by unfold turn_M; first | rw [c_5, if_pos rfl, if_pos c_18] | rw [c_5, if_pos rfl, hcp, if_neg c_18, if_pos c_33] | (rw [c_5]; rfl)
      refine w_top (v' := .int ((turn_M μ p).1)) (congrArg (fun z => Value.int z) (congrArg Prod.fst hr).symm) ?_
      exact hE _ _ _ _ _ _ (kr_i dX7_turn_62) hS (by decide) (by decide) ⟨(uA μ 0 1 (μ.2.1 0 1 + 1)), hM, (by rw [hr]; exact vis_rf _)⟩

set_option maxHeartbeats 1000000 in
set_option maxRecDepth 100000 in
theorem c_X7_mirror (l : Launch) (G : Gt) (om : Nat) (μ : Sx) (p : Int32) (h0 : MI0 μ) : Ct l G yX7_mirror cX7_mirror 3 ((some .int)) 5 0 0 [.ref om, .int p] (fun H => bk G om (mL G om μ) H) (some (.int ((mirror_M μ p).1))) (fun H => ∃ σ : Sx, bk G om (mL G om σ) H ∧ vis σ (mirror_M μ p).2) (fun q => om ≤ q ∧ q < om + 20) := by
  refine ct_entry [(0, .ref om), (1, .int p)] (by decide) (Nat.le_of_ble_eq_true rfl) rfl ?_
  intro zp ze zs zm za zb zt zc Q S hK hPre hin hE ls hl
  have hx := S.1
  have hb := S.2.1
  have hM := hPre
  have hS : va_S (fun q => om ≤ q ∧ q < om + 20) zs.heap zs.heap [] := va_S.rf
  have hp24 := h0.1
  refine lv_aload_n hx hb dX7_mirror_0 rfl (lv_at hl 0 rfl) ?_
  refine lv_iload_n hx hb dX7_mirror_1 rfl (lv_at hl 1 rfl) ?_
  refine crV (rest := []) S hK (c_X7_isPart l G om μ p (by first | assumption | omega | decide)) cw_X7_103 rfl ⟨Nat.le_of_ble_eq_true rfl, Nat.le_of_ble_eq_true rfl⟩ ⟨Nat.le_of_ble_eq_true rfl, Nat.le_of_ble_eq_true rfl⟩ (bk.recv hK hM rfl rfl) hl.1 rfl (Nat.le_of_ble_eq_true rfl) dX7_mirror_2 hM ?_
  refine z_if_ne (tgt := 12) hx hb dX7_mirror_5 (by decide) (fun c_5 => ?_) (fun c_5 => ?_)
  ·
    obtain ⟨vp, hvp, rfl⟩ := inI_x c_5
    obtain ⟨hw1, hw5, hh1, hh4, hf5, hcl⟩ := h0.2 vp hvp
    have hcp := cx_n (j := vp) (by omega)
    refine lv_aload_n hx hb dX7_mirror_12 rfl (lv_at hl 0 rfl) ?_
    refine kg (C := RX7) (T := TX7) (N := 32) (ci := 5) (k := 16) (v := .int (nI (μ.1 16))) S hK rfl inX7 (by decide) q_746 dX7_mirror_13 hM rfl rfl ?_
    refine lv_bipush (v := nI 24) hx hb dX7_mirror_16 (by decide) ?_
    refine n_icmp_ne (tgt := 26) hx hb dX7_mirror_18 (by decide) (by omega) (by decide) (fun c_18 => ?_) (fun c_18 => ?_)
    ·
      refine lv_iconst (v := nI 0) hx hb dX7_mirror_26 (by decide) ?_
      refine lv_istore_n (lv' := [(2, .int (nI 0)), (0, .ref om), (1, .int (nI vp))]) hx hb dX7_mirror_27 rfl hl (by decide) rfl (fun ls hl => ?_)
      refine lv_iload_n hx hb dX7_mirror_28 rfl (lv_at hl 0 rfl) ?_
      refine n_if_eq (tgt := 40) hx hb dX7_mirror_29 (by decide) (by decide) (fun c_29 => ?_) (fun c_29 => ?_)
      ·
        refine lv_aload_n hx hb dX7_mirror_40 rfl (lv_at hl 1 rfl) ?_
        refine lv_iload_n hx hb dX7_mirror_41 rfl (lv_at hl 2 rfl) ?_
        refine lv_iconst (v := nI 1) hx hb dX7_mirror_42 (by decide) ?_
        refine lv_iconst (v := nI 0) hx hb dX7_mirror_43 (by decide) ?_
        refine ctV (rest := []) S hK (c_X7_copies_m l G om μ vp (by first | assumption | omega | decide) (by first | assumption | omega | decide) (by first | assumption | omega | decide)) cw_X7_205 rfl ⟨Nat.le_of_ble_eq_true rfl, Nat.le_of_ble_eq_true rfl⟩ ⟨Nat.le_of_ble_eq_true rfl, Nat.le_of_ble_eq_true rfl⟩ (bk.recv hK hM rfl rfl) hl.1 rfl (Nat.le_of_ble_eq_true rfl) dX7_mirror_44 hM hS (fun _ h => h) (fun H locs hPost hz hk hS => ?_)
        obtain ⟨g44, hM, hq44⟩ := hPost
        have hr : mirror_M μ (nI vp) = (nI (μ.1 16), nwP μ (μ.2.1 1 vp) (μ.2.1 2 vp) (μ.2.1 3 vp) (miC (μ.2.1 1 vp) (μ.2.1 2 vp) (clM μ vp))) := by unfold mirror_M; rw [c_5, if_pos rfl, if_neg (by omega), hcp]
        refine w_top (v' := .int ((mirror_M μ (nI vp)).1)) (show (.int (nI (μ.1 16)) : Value) = .int ((mirror_M μ (nI vp)).1) from (congrArg (fun z => Value.int z) (congrArg Prod.fst hr).symm)) ?_
        exact hE _ _ _ _ _ _ (kr_i dX7_mirror_47) hS (by decide) (by decide) ⟨(uS g44 16 (μ.1 16 + 1)), hM, (by rw [hr]; exact vis_nw hq44)⟩
      ·
        exact absurd c_29 (by decide)
    ·
      refine lv_bipush (v := (-6)) hx hb dX7_mirror_21 (by decide) ?_
      refine lv_goto (tgt := 27) hx hb dX7_mirror_23 (by decide) ?_
      refine lv_istore_n (lv' := [(2, .int (-6)), (0, .ref om), (1, .int (nI vp))]) hx hb dX7_mirror_27 rfl hl (by decide) rfl (fun ls hl => ?_)
      refine lv_iload_n hx hb dX7_mirror_28 rfl (lv_at hl 0 rfl) ?_
      refine lv_if_eq (tgt := 40) hx hb dX7_mirror_29 (by decide) (fun c_29 => ?_) (fun c_29 => ?_)
      ·
        exact absurd c_29 (by decide)
      ·
        refine lv_aload_n hx hb dX7_mirror_32 rfl (lv_at hl 1 rfl) ?_
        refine lv_iload_n hx hb dX7_mirror_33 rfl (lv_at hl 0 rfl) ?_
        refine ctV (rest := []) S hK (c_X7_refuse l G om μ (-6) 6 (by first | assumption | omega | decide) (by first | assumption | omega | decide)) cw_X7_72 rfl ⟨Nat.le_of_ble_eq_true rfl, Nat.le_of_ble_eq_true rfl⟩ ⟨Nat.le_of_ble_eq_true rfl, Nat.le_of_ble_eq_true rfl⟩ (bk.recv hK hM rfl rfl) hl.1 rfl (Nat.le_of_ble_eq_true rfl) dX7_mirror_34 hM hS (fun _ h => h) (fun H locs hPost hz hk hS => ?_)
        have hM := hPost
        refine lv_goto (tgt := 47) hx hb dX7_mirror_37 (by decide) ?_
        have hr : mirror_M μ (nI vp) = ((-6), uA μ 0 6 (μ.2.1 0 6 + 1)) := by unfold mirror_M; first | rw [c_5, if_pos rfl, if_pos c_18] | rw [c_5, if_pos rfl, hcp, if_neg c_18, if_pos c_33] | (rw [c_5]; rfl)
        refine w_top (v' := .int ((mirror_M μ (nI vp)).1)) (congrArg (fun z => Value.int z) (congrArg Prod.fst hr).symm) ?_
        exact hE _ _ _ _ _ _ (kr_i dX7_mirror_47) hS (by decide) (by decide) ⟨(uA μ 0 6 (μ.2.1 0 6 + 1)), hM, (by rw [hr]; exact vis_rf _)⟩
  ·
    refine lv_iconst (v := (-1)) hx hb dX7_mirror_8 (by decide) ?_
    refine lv_goto (tgt := 27) hx hb dX7_mirror_9 (by decide) ?_
    refine lv_istore_n (lv' := [(2, .int (-1)), (0, .ref om), (1, .int p)]) hx hb dX7_mirror_27 rfl hl (by decide) rfl (fun ls hl => ?_)
    refine lv_iload_n hx hb dX7_mirror_28 rfl (lv_at hl 0 rfl) ?_
    refine lv_if_eq (tgt := 40) hx hb dX7_mirror_29 (by decide) (fun c_29 => ?_) (fun c_29 => ?_)
    ·
      exact absurd c_29 (by decide)
    ·
      refine lv_aload_n hx hb dX7_mirror_32 rfl (lv_at hl 1 rfl) ?_
      refine lv_iload_n hx hb dX7_mirror_33 rfl (lv_at hl 0 rfl) ?_
      refine ctV (rest := []) S hK (c_X7_refuse l G om μ (-1) 1 (by first | assumption | omega | decide) (by first | assumption | omega | decide)) cw_X7_72 rfl ⟨Nat.le_of_ble_eq_true rfl, Nat.le_of_ble_eq_true rfl⟩ ⟨Nat.le_of_ble_eq_true rfl, Nat.le_of_ble_eq_true rfl⟩ (bk.recv hK hM rfl rfl) hl.1 rfl (Nat.le_of_ble_eq_true rfl) dX7_mirror_34 hM hS (fun _ h => h) (fun H locs hPost hz hk hS => ?_)
      have hM := hPost
      refine lv_goto (tgt := 47) hx hb dX7_mirror_37 (by decide) ?_
      have hr : mirror_M μ p = ((-1), uA μ 0 1 (μ.2.1 0 1 + 1)) := by unfold mirror_M; first | rw [c_5, if_pos rfl, if_pos c_18] | rw [c_5, if_pos rfl, hcp, if_neg c_18, if_pos c_33] | (rw [c_5]; rfl)
      refine w_top (v' := .int ((mirror_M μ p).1)) (congrArg (fun z => Value.int z) (congrArg Prod.fst hr).symm) ?_
      exact hE _ _ _ _ _ _ (kr_i dX7_mirror_47) hS (by decide) (by decide) ⟨(uA μ 0 1 (μ.2.1 0 1 + 1)), hM, (by rw [hr]; exact vis_rf _)⟩

set_option maxHeartbeats 1000000 in
set_option maxRecDepth 100000 in
theorem c_X7_less (l : Launch) (G : Gt) (om : Nat) (μ : Sx) (p : Int32) (xy : Int32) (h0 : MI0 μ) : Ct l G yX7_less cX7_less 5 ((some .int)) 5 0 0 [.ref om, .int p, .int xy] (fun H => bk G om (mL G om μ) H) (some (.int ((less_M μ p xy).1))) (fun H => ∃ σ : Sx, bk G om (mL G om σ) H ∧ vis σ (less_M μ p xy).2) (fun q => om ≤ q ∧ q < om + 20) := by
  refine ct_entry [(0, .ref om), (1, .int p), (2, .int xy)] (by decide) (Nat.le_of_ble_eq_true rfl) rfl ?_
  intro zp ze zs zm za zb zt zc Q S hK hPre hin hE ls hl
  have hx := S.1
  have hb := S.2.1
  have hM := hPre
  have hS : va_S (fun q => om ≤ q ∧ q < om + 20) zs.heap zs.heap [] := va_S.rf
  have hp24 := h0.1
  refine lv_aload_n hx hb dX7_less_0 rfl (lv_at hl 0 rfl) ?_
  refine lv_iload_n hx hb dX7_less_1 rfl (lv_at hl 1 rfl) ?_
  refine crV (rest := []) S hK (c_X7_isPart l G om μ p (by first | assumption | omega | decide)) cw_X7_103 rfl ⟨Nat.le_of_ble_eq_true rfl, Nat.le_of_ble_eq_true rfl⟩ ⟨Nat.le_of_ble_eq_true rfl, Nat.le_of_ble_eq_true rfl⟩ (bk.recv hK hM rfl rfl) hl.1 rfl (Nat.le_of_ble_eq_true rfl) dX7_less_2 hM ?_
  refine z_if_eq (tgt := 17) hx hb dX7_less_5 (by decide) (fun c_5 => ?_) (fun c_5 => ?_)
  ·
    refine lv_iconst (v := (-1)) hx hb dX7_less_17 (by decide) ?_
    refine lv_goto (tgt := 58) hx hb dX7_less_18 (by decide) ?_
    refine lv_istore_n (lv' := [(3, .int (-1)), (0, .ref om), (1, .int p), (2, .int xy)]) hx hb dX7_less_58 rfl hl (by decide) rfl (fun ls hl => ?_)
    refine lv_iload_n hx hb dX7_less_59 rfl (lv_at hl 0 rfl) ?_
    refine lv_if_eq (tgt := 69) hx hb dX7_less_60 (by decide) (fun c_60 => ?_) (fun c_60 => ?_)
    ·
      exact absurd c_60 (by decide)
    ·
      refine lv_aload_n hx hb dX7_less_63 rfl (lv_at hl 1 rfl) ?_
      refine lv_iload_n hx hb dX7_less_64 rfl (lv_at hl 0 rfl) ?_
      refine ctV (rest := []) S hK (c_X7_refuse l G om μ (-1) 1 (by first | assumption | omega | decide) (by first | assumption | omega | decide)) cw_X7_72 rfl ⟨Nat.le_of_ble_eq_true rfl, Nat.le_of_ble_eq_true rfl⟩ ⟨Nat.le_of_ble_eq_true rfl, Nat.le_of_ble_eq_true rfl⟩ (bk.recv hK hM rfl rfl) hl.1 rfl (Nat.le_of_ble_eq_true rfl) dX7_less_65 hM hS (fun _ h => h) (fun H locs hPost hz hk hS => ?_)
      have hM := hPost
      have hr : less_M μ p xy = ((-1), uA μ 0 1 (μ.2.1 0 1 + 1)) := by unfold less_M; first | rw [c_5, if_pos rfl, hcp, c_14, if_pos rfl, hcy, if_pos hcl1, if_pos c_49] | rw [c_5, if_pos rfl, hcp, c_14, if_pos rfl, hcy, if_neg c_35] | (rw [c_5, if_pos rfl, hcp, c_14]; rfl) | (rw [c_5]; rfl)
      refine w_top (v' := .int ((less_M μ p xy).1)) (congrArg (fun z => Value.int z) (congrArg Prod.fst hr).symm) ?_
      exact hE _ _ _ _ _ _ (kr_i dX7_less_68) hS (by decide) (by decide) ⟨(uA μ 0 1 (μ.2.1 0 1 + 1)), hM, (by rw [hr]; exact vis_rf _)⟩
  ·
    obtain ⟨vp, hvp, rfl⟩ := inI_x c_5
    obtain ⟨hw1, hw5, hh1, hh4, hf5, hcl⟩ := h0.2 vp hvp
    have hcp := cx_n (j := vp) (by omega)
    refine lv_aload_n hx hb dX7_less_8 rfl (lv_at hl 0 rfl) ?_
    refine lv_iload_n hx hb dX7_less_9 rfl (lv_at hl 1 rfl) ?_
    refine lv_iload_n hx hb dX7_less_10 rfl (lv_at hl 2 rfl) ?_
    refine crV (rest := []) S hK (c_X7_isCell l G om μ vp xy (by first | assumption | omega | decide) (by first | assumption | omega | decide) (by first | assumption | omega | decide)) cw_X7_109 rfl ⟨Nat.le_of_ble_eq_true rfl, Nat.le_of_ble_eq_true rfl⟩ ⟨Nat.le_of_ble_eq_true rfl, Nat.le_of_ble_eq_true rfl⟩ (bk.recv hK hM rfl rfl) hl.1 rfl (Nat.le_of_ble_eq_true rfl) dX7_less_11 hM ?_
    refine z_if_ne (tgt := 21) hx hb dX7_less_14 (by decide) (fun c_14 => ?_) (fun c_14 => ?_)
    ·
      obtain ⟨vxy, hvxy, rfl, hvx, hvy⟩ := isC_x c_14
      have hcy := cx_n (j := vxy) (by omega)
      have hlb : clM μ vp (5 * (vxy % 10) + vxy / 10) < 16 := hcl _ (by omega)
      refine lv_aload_n hx hb dX7_less_21 rfl (lv_at hl 0 rfl) ?_
      refine lv_iload_n hx hb dX7_less_22 rfl (lv_at hl 1 rfl) ?_
      refine lv_iload_n hx hb dX7_less_23 rfl (lv_at hl 2 rfl) ?_
      refine lv_bipush (v := nI 10) hx hb dX7_less_24 (by decide) ?_
      refine n_idiv hx hb dX7_less_26 (by omega) (by decide) (by decide) ?_
      refine lv_iload_n hx hb dX7_less_27 rfl (lv_at hl 2 rfl) ?_
      refine lv_bipush (v := nI 10) hx hb dX7_less_28 (by decide) ?_
      refine n_irem hx hb dX7_less_30 (by omega) (by decide) (by decide) ?_
      refine crV (rest := []) S hK (c_X7_at l G om μ vp (vxy / 10) (vxy % 10) (by first | assumption | omega | decide)) cw_X7_112 rfl ⟨Nat.le_of_ble_eq_true rfl, Nat.le_of_ble_eq_true rfl⟩ ⟨Nat.le_of_ble_eq_true rfl, Nat.le_of_ble_eq_true rfl⟩ (bk.recv hK hM rfl rfl) hl.1 rfl (Nat.le_of_ble_eq_true rfl) dX7_less_31 hM ?_
      refine lv_iconst (v := nI 1) hx hb dX7_less_34 (by decide) ?_
      refine n_icmp_eq (tgt := 43) hx hb dX7_less_35 (by decide) (by omega) (by decide) (fun c_35 => ?_) (fun c_35 => ?_)
      ·
        have hcl1 : clM μ vp (5 * (vxy % 10) + vxy / 10) = 1 := c_35
        refine lv_aload_n hx hb dX7_less_43 rfl (lv_at hl 0 rfl) ?_
        refine kg (C := RX7) (T := TX7) (N := 32) (ci := 5) (k := 16) (v := .int (nI (μ.1 16))) S hK rfl inX7 (by decide) q_746 dX7_less_44 hM rfl rfl ?_
        refine lv_bipush (v := nI 24) hx hb dX7_less_47 (by decide) ?_
        refine n_icmp_ne (tgt := 57) hx hb dX7_less_49 (by decide) (by omega) (by decide) (fun c_49 => ?_) (fun c_49 => ?_)
        ·
          refine lv_iconst (v := nI 0) hx hb dX7_less_57 (by decide) ?_
          refine lv_istore_n (lv' := [(3, .int (nI 0)), (0, .ref om), (1, .int (nI vp)), (2, .int (nI vxy))]) hx hb dX7_less_58 rfl hl (by decide) rfl (fun ls hl => ?_)
          refine lv_iload_n hx hb dX7_less_59 rfl (lv_at hl 0 rfl) ?_
          refine n_if_eq (tgt := 69) hx hb dX7_less_60 (by decide) (by decide) (fun c_60 => ?_) (fun c_60 => ?_)
          ·
            refine lv_aload_n hx hb dX7_less_69 rfl (lv_at hl 1 rfl) ?_
            refine lv_iload_n hx hb dX7_less_70 rfl (lv_at hl 2 rfl) ?_
            refine lv_iconst (v := nI 0) hx hb dX7_less_71 (by decide) ?_
            refine lv_iconst (v := nI 0) hx hb dX7_less_72 (by decide) ?_
            refine ctV (rest := []) S hK (c_X7_copies_i l G om μ vp (by first | assumption | omega | decide) (by first | assumption | omega | decide) (by first | assumption | omega | decide)) cw_X7_205 rfl ⟨Nat.le_of_ble_eq_true rfl, Nat.le_of_ble_eq_true rfl⟩ ⟨Nat.le_of_ble_eq_true rfl, Nat.le_of_ble_eq_true rfl⟩ (bk.recv hK hM rfl rfl) hl.1 rfl (Nat.le_of_ble_eq_true rfl) dX7_less_73 hM hS (fun _ h => h) (fun H locs hPost hz hk hS => ?_)
            obtain ⟨g73, hM, hq73⟩ := hPost
            refine lv_istore (lv' := [(4, .int (nI (μ.1 16))), (3, .int (nI 0)), (0, .ref om), (1, .int (nI vp)), (2, .int (nI vxy))]) hx hb dX7_less_76 hl (by decide) rfl (fun ls hl => ?_)
            refine lv_aload_n hx hb dX7_less_78 rfl (lv_at hl 2 rfl) ?_
            refine lv_iload hx hb dX7_less_79 (lv_at hl 0 rfl) ?_
            refine lv_iload_n hx hb dX7_less_81 rfl (lv_at hl 4 rfl) ?_
            refine lv_bipush (v := nI 10) hx hb dX7_less_82 (by decide) ?_
            refine n_idiv hx hb dX7_less_84 (by omega) (by decide) (by decide) ?_
            refine lv_iload_n hx hb dX7_less_85 rfl (lv_at hl 4 rfl) ?_
            refine lv_bipush (v := nI 10) hx hb dX7_less_86 (by decide) ?_
            refine n_irem hx hb dX7_less_88 (by omega) (by decide) (by decide) ?_
            refine lv_iconst (v := nI 0) hx hb dX7_less_89 (by decide) ?_
            refine ctVv (rest := []) S hK (c_X7_puts l G om (uS g73 16 (μ.1 16 + 1)) (μ.1 16) (vxy / 10) (vxy % 10) 0 (by first | assumption | omega | decide)) cw_X7_96 rfl ⟨Nat.le_of_ble_eq_true rfl, Nat.le_of_ble_eq_true rfl⟩ ⟨Nat.le_of_ble_eq_true rfl, Nat.le_of_ble_eq_true rfl⟩ (bk.recv hK hM rfl rfl) hl.1 rfl (Nat.le_of_ble_eq_true rfl) dX7_less_90 hM hS (fun _ h => h) (fun H locs hPost hz hk hS => ?_)
            have hM := hPost
            refine lv_iload hx hb dX7_less_93 (lv_at hl 0 rfl) ?_
            have hr : less_M μ (nI vp) (nI vxy) = (nI (μ.1 16), nwP μ (μ.2.1 1 vp) (μ.2.1 2 vp) (μ.2.1 3 vp) (uN (idC (μ.2.1 1 vp) (μ.2.1 2 vp) (clM μ vp)) (5 * (vxy % 10) + vxy / 10) 0)) := by unfold less_M; rw [c_5, if_pos rfl, hcp, c_14, if_pos rfl, hcy, if_pos hcl1, if_neg (by omega)]
            refine w_top (v' := .int ((less_M μ (nI vp) (nI vxy)).1)) (show (.int (nI (μ.1 16)) : Value) = .int ((less_M μ (nI vp) (nI vxy)).1) from (congrArg (fun z => Value.int z) (congrArg Prod.fst hr).symm)) ?_
            exact hE _ _ _ _ _ _ (kr_i dX7_less_95) hS (by decide) (by decide) ⟨(uA (uS g73 16 (μ.1 16 + 1)) 4 (20 * (μ.1 16) + 5 * (vxy % 10) + (vxy / 10)) 0), hM, (by
              rw [hr]
              have q := NW_put (k := 5 * (vxy % 10) + vxy / 10) (v := 0) hq73 (by omega)
              rw [← Nat.add_assoc] at q
              exact vis_nw q)⟩
          ·
            exact absurd c_60 (by decide)
        ·
          refine lv_bipush (v := (-6)) hx hb dX7_less_52 (by decide) ?_
          refine lv_goto (tgt := 58) hx hb dX7_less_54 (by decide) ?_
          refine lv_istore_n (lv' := [(3, .int (-6)), (0, .ref om), (1, .int (nI vp)), (2, .int (nI vxy))]) hx hb dX7_less_58 rfl hl (by decide) rfl (fun ls hl => ?_)
          refine lv_iload_n hx hb dX7_less_59 rfl (lv_at hl 0 rfl) ?_
          refine lv_if_eq (tgt := 69) hx hb dX7_less_60 (by decide) (fun c_60 => ?_) (fun c_60 => ?_)
          ·
            exact absurd c_60 (by decide)
          ·
            refine lv_aload_n hx hb dX7_less_63 rfl (lv_at hl 1 rfl) ?_
            refine lv_iload_n hx hb dX7_less_64 rfl (lv_at hl 0 rfl) ?_
            refine ctV (rest := []) S hK (c_X7_refuse l G om μ (-6) 6 (by first | assumption | omega | decide) (by first | assumption | omega | decide)) cw_X7_72 rfl ⟨Nat.le_of_ble_eq_true rfl, Nat.le_of_ble_eq_true rfl⟩ ⟨Nat.le_of_ble_eq_true rfl, Nat.le_of_ble_eq_true rfl⟩ (bk.recv hK hM rfl rfl) hl.1 rfl (Nat.le_of_ble_eq_true rfl) dX7_less_65 hM hS (fun _ h => h) (fun H locs hPost hz hk hS => ?_)
            have hM := hPost
            have hr : less_M μ (nI vp) (nI vxy) = ((-6), uA μ 0 6 (μ.2.1 0 6 + 1)) := by unfold less_M; first | rw [c_5, if_pos rfl, hcp, c_14, if_pos rfl, hcy, if_pos hcl1, if_pos c_49] | rw [c_5, if_pos rfl, hcp, c_14, if_pos rfl, hcy, if_neg c_35] | (rw [c_5, if_pos rfl, hcp, c_14]; rfl) | (rw [c_5]; rfl)
            refine w_top (v' := .int ((less_M μ (nI vp) (nI vxy)).1)) (congrArg (fun z => Value.int z) (congrArg Prod.fst hr).symm) ?_
            exact hE _ _ _ _ _ _ (kr_i dX7_less_68) hS (by decide) (by decide) ⟨(uA μ 0 6 (μ.2.1 0 6 + 1)), hM, (by rw [hr]; exact vis_rf _)⟩
      ·
        refine lv_bipush (v := (-3)) hx hb dX7_less_38 (by decide) ?_
        refine lv_goto (tgt := 58) hx hb dX7_less_40 (by decide) ?_
        refine lv_istore_n (lv' := [(3, .int (-3)), (0, .ref om), (1, .int (nI vp)), (2, .int (nI vxy))]) hx hb dX7_less_58 rfl hl (by decide) rfl (fun ls hl => ?_)
        refine lv_iload_n hx hb dX7_less_59 rfl (lv_at hl 0 rfl) ?_
        refine lv_if_eq (tgt := 69) hx hb dX7_less_60 (by decide) (fun c_60 => ?_) (fun c_60 => ?_)
        ·
          exact absurd c_60 (by decide)
        ·
          refine lv_aload_n hx hb dX7_less_63 rfl (lv_at hl 1 rfl) ?_
          refine lv_iload_n hx hb dX7_less_64 rfl (lv_at hl 0 rfl) ?_
          refine ctV (rest := []) S hK (c_X7_refuse l G om μ (-3) 3 (by first | assumption | omega | decide) (by first | assumption | omega | decide)) cw_X7_72 rfl ⟨Nat.le_of_ble_eq_true rfl, Nat.le_of_ble_eq_true rfl⟩ ⟨Nat.le_of_ble_eq_true rfl, Nat.le_of_ble_eq_true rfl⟩ (bk.recv hK hM rfl rfl) hl.1 rfl (Nat.le_of_ble_eq_true rfl) dX7_less_65 hM hS (fun _ h => h) (fun H locs hPost hz hk hS => ?_)
          have hM := hPost
          have hr : less_M μ (nI vp) (nI vxy) = ((-3), uA μ 0 3 (μ.2.1 0 3 + 1)) := by unfold less_M; first | rw [c_5, if_pos rfl, hcp, c_14, if_pos rfl, hcy, if_pos hcl1, if_pos c_49] | rw [c_5, if_pos rfl, hcp, c_14, if_pos rfl, hcy, if_neg c_35] | (rw [c_5, if_pos rfl, hcp, c_14]; rfl) | (rw [c_5]; rfl)
          refine w_top (v' := .int ((less_M μ (nI vp) (nI vxy)).1)) (congrArg (fun z => Value.int z) (congrArg Prod.fst hr).symm) ?_
          exact hE _ _ _ _ _ _ (kr_i dX7_less_68) hS (by decide) (by decide) ⟨(uA μ 0 3 (μ.2.1 0 3 + 1)), hM, (by rw [hr]; exact vis_rf _)⟩
    ·
      refine lv_iconst (v := (-1)) hx hb dX7_less_17 (by decide) ?_
      refine lv_goto (tgt := 58) hx hb dX7_less_18 (by decide) ?_
      refine lv_istore_n (lv' := [(3, .int (-1)), (0, .ref om), (1, .int (nI vp)), (2, .int xy)]) hx hb dX7_less_58 rfl hl (by decide) rfl (fun ls hl => ?_)
      refine lv_iload_n hx hb dX7_less_59 rfl (lv_at hl 0 rfl) ?_
      refine lv_if_eq (tgt := 69) hx hb dX7_less_60 (by decide) (fun c_60 => ?_) (fun c_60 => ?_)
      ·
        exact absurd c_60 (by decide)
      ·
        refine lv_aload_n hx hb dX7_less_63 rfl (lv_at hl 1 rfl) ?_
        refine lv_iload_n hx hb dX7_less_64 rfl (lv_at hl 0 rfl) ?_
        refine ctV (rest := []) S hK (c_X7_refuse l G om μ (-1) 1 (by first | assumption | omega | decide) (by first | assumption | omega | decide)) cw_X7_72 rfl ⟨Nat.le_of_ble_eq_true rfl, Nat.le_of_ble_eq_true rfl⟩ ⟨Nat.le_of_ble_eq_true rfl, Nat.le_of_ble_eq_true rfl⟩ (bk.recv hK hM rfl rfl) hl.1 rfl (Nat.le_of_ble_eq_true rfl) dX7_less_65 hM hS (fun _ h => h) (fun H locs hPost hz hk hS => ?_)
        have hM := hPost
        have hr : less_M μ (nI vp) xy = ((-1), uA μ 0 1 (μ.2.1 0 1 + 1)) := by unfold less_M; first | rw [c_5, if_pos rfl, hcp, c_14, if_pos rfl, hcy, if_pos hcl1, if_pos c_49] | rw [c_5, if_pos rfl, hcp, c_14, if_pos rfl, hcy, if_neg c_35] | (rw [c_5, if_pos rfl, hcp, c_14]; rfl) | (rw [c_5]; rfl)
        refine w_top (v' := .int ((less_M μ (nI vp) xy).1)) (congrArg (fun z => Value.int z) (congrArg Prod.fst hr).symm) ?_
        exact hE _ _ _ _ _ _ (kr_i dX7_less_68) hS (by decide) (by decide) ⟨(uA μ 0 1 (μ.2.1 0 1 + 1)), hM, (by rw [hr]; exact vis_rf _)⟩

set_option maxHeartbeats 1000000 in
set_option maxRecDepth 100000 in
theorem c_X7_isAs (l : Launch) (G : Gt) (om : Nat) (μ : Sx) (a : Nat) (b : Nat) (mi : Nat) (q : Nat) (h0 : MI0 μ) (ha : a < μ.1 16) (hb2 : b < μ.1 16) (hmi : mi < 2) (hq4 : q < 4) : Cr l G yX7_isAs cX7_isAs 9 ((some .boolean)) 1 [.ref om, .int (nI a), .int (nI b), .int (nI mi), .int (nI q)] (fun H => bk G om (mL G om μ) H) (some (.int (b2i (decide (asP μ a b mi q))))) := by
  refine cr_entry [(0, .ref om), (1, .int (nI a)), (2, .int (nI b)), (3, .int (nI mi)), (4, .int (nI q))] (by decide) (Nat.le_of_ble_eq_true rfl) rfl ?_
  intro zp ze zs zm za zb zt zc Q S hK hPre hE ls hl
  have hx := S.1
  have hb := S.2.1
  have hM := hPre
  obtain ⟨hw1, hw5, hh1, hh4, hf5, hcl⟩ := h0.2 a ha
  obtain ⟨hv1, hv5, hg1, hg4, he5, hbl⟩ := h0.2 b hb2
  have hp24 := h0.1
  refine lv_iload hx hb dX7_isAs_0 (lv_at hl 4 rfl) ?_
  refine lv_iconst (v := nI 2) hx hb dX7_isAs_2 (by decide) ?_
  refine n_irem hx hb dX7_isAs_3 (by omega) (by decide) (by decide) ?_
  refine lv_iconst (v := nI 1) hx hb dX7_isAs_4 (by decide) ?_
  refine n_icmp_ne (tgt := 12) hx hb dX7_isAs_5 (by decide) (Nat.lt_trans (Nat.mod_lt _ (by decide)) (by decide)) (by decide) (fun c_5 => ?_) (fun c_5 => ?_)
  ·
    refine lv_iconst (v := nI 0) hx hb dX7_isAs_12 (by decide) ?_
    refine lv_istore (lv' := [(5, .int (nI 0)), (0, .ref om), (1, .int (nI a)), (2, .int (nI b)), (3, .int (nI mi)), (4, .int (nI q))]) hx hb dX7_isAs_13 hl (by decide) rfl (fun ls hl => ?_)
    refine lv_aload_n hx hb dX7_isAs_15 rfl (lv_at hl 1 rfl) ?_
    refine kg (C := RX7) (T := TX7) (N := 32) (ci := 5) (k := 1) (v := .ref (om + 2)) S hK rfl inX7 (by decide) q_731 dX7_isAs_16 hM rfl rfl ?_
    refine lv_iload_n hx hb dX7_isAs_19 rfl (lv_at hl 3 rfl) ?_
    refine kil (f := μ.2.1 1) S hK dX7_isAs_20 2 hM rfl (by decide) rfl (by omega) ?_
    refine lv_iload hx hb dX7_isAs_21 (lv_at hl 0 rfl) ?_
    refine n_if_eq (tgt := 35) hx hb dX7_isAs_23 (by decide) (by decide) (fun c_23 => ?_) (fun c_23 => ?_)
    ·
      refine lv_aload_n hx hb dX7_isAs_35 rfl (lv_at hl 1 rfl) ?_
      refine kg (C := RX7) (T := TX7) (N := 32) (ci := 5) (k := 1) (v := .ref (om + 2)) S hK rfl inX7 (by decide) q_731 dX7_isAs_36 hM rfl rfl ?_
      refine lv_iload_n hx hb dX7_isAs_39 rfl (lv_at hl 2 rfl) ?_
      refine kil (f := μ.2.1 1) S hK dX7_isAs_40 2 hM rfl (by decide) rfl (by omega) ?_
      refine n_icmp_ne (tgt := 73) hx hb dX7_isAs_41 (by decide) (by omega) (by omega) (fun c_41 => ?_) (fun c_41 => ?_)
      ·
        have hr : decide (asP μ a b mi q) = false := decide_eq_false (by
          rintro ⟨⟨z1, z2⟩, -⟩
          first | (rw [if_pos (by omega)] at z1; omega) | (rw [if_neg (by omega)] at z1; omega))
        refine lv_iconst (v := nI 0) hx hb dX7_isAs_73 (by decide) ?_
        refine w_top (v' := .int (b2i (decide (asP μ a b mi q)))) (bz_f (show (decide (asP μ a b mi q)) = false from hr)) ?_
        exact hE _ _ (kr_z dX7_isAs_74)
      ·
        refine lv_aload_n hx hb dX7_isAs_44 rfl (lv_at hl 1 rfl) ?_
        refine kg (C := RX7) (T := TX7) (N := 32) (ci := 5) (k := 2) (v := .ref (om + 3)) S hK rfl inX7 (by decide) q_732 dX7_isAs_45 hM rfl rfl ?_
        refine lv_iload_n hx hb dX7_isAs_48 rfl (lv_at hl 3 rfl) ?_
        refine kil (f := μ.2.1 2) S hK dX7_isAs_49 3 hM rfl (by decide) rfl (by omega) ?_
        refine lv_iload hx hb dX7_isAs_50 (lv_at hl 0 rfl) ?_
        refine n_if_eq (tgt := 64) hx hb dX7_isAs_52 (by decide) (by decide) (fun c_52 => ?_) (fun c_52 => ?_)
        ·
          refine lv_aload_n hx hb dX7_isAs_64 rfl (lv_at hl 1 rfl) ?_
          refine kg (C := RX7) (T := TX7) (N := 32) (ci := 5) (k := 2) (v := .ref (om + 3)) S hK rfl inX7 (by decide) q_732 dX7_isAs_65 hM rfl rfl ?_
          refine lv_iload_n hx hb dX7_isAs_68 rfl (lv_at hl 2 rfl) ?_
          refine kil (f := μ.2.1 2) S hK dX7_isAs_69 3 hM rfl (by decide) rfl (by omega) ?_
          refine n_icmp_eq (tgt := 75) hx hb dX7_isAs_70 (by decide) (by omega) (by omega) (fun c_70 => ?_) (fun c_70 => ?_)
          ·
            refine lv_iconst (v := nI 0) hx hb dX7_isAs_75 (by decide) ?_
            refine lv_istore (lv' := [(6, .int (nI 0)), (5, .int (nI 0)), (0, .ref om), (1, .int (nI a)), (2, .int (nI b)), (3, .int (nI mi)), (4, .int (nI q))]) hx hb dX7_isAs_76 hl (by decide) rfl (fun ls hl => ?_)
            have hdim : μ.2.1 1 b = (if q % 2 = 1 then μ.2.1 2 a else μ.2.1 1 a) ∧ μ.2.1 2 b = (if q % 2 = 1 then μ.2.1 1 a else μ.2.1 2 a) := by
              first | (rw [if_pos (by omega), if_pos (by omega)]; omega) | (rw [if_neg (by omega), if_neg (by omega)]; omega)
            have L78 : ∀ (fu : Nat), ∀ (vx : Nat), (vx ≤ μ.2.1 1 a) → (∀ i, i < μ.2.1 1 a → ∀ j, j < μ.2.1 2 a → (i < vx ∨ (i = vx ∧ j < 0)) → clM μ a (5 * j + i) = clM μ b (5 * (trn (μ.2.1 1 a) (μ.2.1 2 a) i j mi q).2 + (trn (μ.2.1 1 a) (μ.2.1 2 a) i j mi q).1)) → μ.2.1 1 a - vx < fu → ∀ ls : Array Slot, lv_has ls 9 [(0, .ref om), (1, .int (nI a)), (2, .int (nI b)), (3, .int (nI mi)), (4, .int (nI q)), (6, .int (nI vx))] → W zp l ze (rL 1 0 0) zs zm za zb zt zc zs.heap [] 0 0 Q (F0 zm 78 ls []) := by
              intro fu
              induction fu with
              | zero =>
                intro vx hvx hm1 hmu ls hl
                exact absurd hmu (Nat.not_lt_zero _)
              | succ fu ih78 =>
                intro vx hvx hm1 hmu ls hl
                refine lv_iload hx hb dX7_isAs_78 (lv_at hl 5 rfl) ?_
                refine lv_aload_n hx hb dX7_isAs_80 rfl (lv_at hl 0 rfl) ?_
                refine kg (C := RX7) (T := TX7) (N := 32) (ci := 5) (k := 1) (v := .ref (om + 2)) S hK rfl inX7 (by decide) q_731 dX7_isAs_81 hM rfl rfl ?_
                refine lv_iload_n hx hb dX7_isAs_84 rfl (lv_at hl 1 rfl) ?_
                refine kil (f := μ.2.1 1) S hK dX7_isAs_85 2 hM rfl (by decide) rfl (by omega) ?_
                refine n_icmp_ge (tgt := 158) hx hb dX7_isAs_86 (by decide) (by omega) (by omega) (fun c_86 => ?_) (fun c_86 => ?_)
                ·
                  have hr : decide (asP μ a b mi q) = true := decide_eq_true ⟨hdim, fun i hi j hj => hm1 i hi j hj (by omega)⟩
                  refine lv_iconst (v := nI 1) hx hb dX7_isAs_158 (by decide) ?_
                  refine w_top (v' := .int (b2i (decide (asP μ a b mi q)))) (bz_t (show (decide (asP μ a b mi q)) = true from hr)) ?_
                  exact hE _ _ (kr_z dX7_isAs_159)
                ·
                  refine lv_iconst (v := nI 0) hx hb dX7_isAs_89 (by decide) ?_
                  refine lv_istore (lv' := [(7, .int (nI 0)), (0, .ref om), (1, .int (nI a)), (2, .int (nI b)), (3, .int (nI mi)), (4, .int (nI q)), (6, .int (nI vx))]) hx hb dX7_isAs_90 hl (by decide) rfl (fun ls hl => ?_)
                  have L92 : ∀ (fu : Nat), ∀ (vy : Nat), (vy ≤ μ.2.1 2 a) → (∀ i, i < μ.2.1 1 a → ∀ j, j < μ.2.1 2 a → (i < vx ∨ (i = vx ∧ j < vy)) → clM μ a (5 * j + i) = clM μ b (5 * (trn (μ.2.1 1 a) (μ.2.1 2 a) i j mi q).2 + (trn (μ.2.1 1 a) (μ.2.1 2 a) i j mi q).1)) → μ.2.1 2 a - vy < fu → ∀ ls : Array Slot, lv_has ls 9 [(0, .ref om), (1, .int (nI a)), (2, .int (nI b)), (3, .int (nI mi)), (4, .int (nI q)), (6, .int (nI vx)), (7, .int (nI vy))] → W zp l ze (rL 1 0 0) zs zm za zb zt zc zs.heap [] 0 0 Q (F0 zm 92 ls []) := by
                    intro fu
                    induction fu with
                    | zero =>
                      intro vy hvy hm2 hmu ls hl
                      exact absurd hmu (Nat.not_lt_zero _)
                    | succ fu ih92 =>
                      intro vy hvy hm2 hmu ls hl
                      refine lv_iload hx hb dX7_isAs_92 (lv_at hl 6 rfl) ?_
                      refine lv_aload_n hx hb dX7_isAs_94 rfl (lv_at hl 0 rfl) ?_
                      refine kg (C := RX7) (T := TX7) (N := 32) (ci := 5) (k := 2) (v := .ref (om + 3)) S hK rfl inX7 (by decide) q_732 dX7_isAs_95 hM rfl rfl ?_
                      refine lv_iload_n hx hb dX7_isAs_98 rfl (lv_at hl 1 rfl) ?_
                      refine kil (f := μ.2.1 2) S hK dX7_isAs_99 3 hM rfl (by decide) rfl (by omega) ?_
                      refine n_icmp_ge (tgt := 152) hx hb dX7_isAs_100 (by decide) (by omega) (by omega) (fun c_100 => ?_) (fun c_100 => ?_)
                      ·
                        refine lv_iinc (v := nI (vx + 1)) (lv' := [(6, .int (nI (vx + 1))), (0, .ref om), (1, .int (nI a)), (2, .int (nI b)), (3, .int (nI mi)), (4, .int (nI q)), (7, .int (nI vy))]) hx hb dX7_isAs_152 hl (k := 5) rfl (inc1 _) (by decide) rfl (fun ls hl => ?_)
                        refine lv_goto (tgt := 78) hx hb dX7_isAs_155 (by decide) ?_
                        exact ih78 (vx + 1) (by omega) (fun i hi j hj z => hm2 i hi j hj (by omega)) (by omega) ls (lv_sub hl [1, 2, 3, 4, 5, 0] rfl)
                      ·
                        refine lv_aload_n hx hb dX7_isAs_103 rfl (lv_at hl 0 rfl) ?_
                        refine lv_iload_n hx hb dX7_isAs_104 rfl (lv_at hl 1 rfl) ?_
                        refine lv_iload hx hb dX7_isAs_105 (lv_at hl 5 rfl) ?_
                        refine lv_iload hx hb dX7_isAs_107 (lv_at hl 6 rfl) ?_
                        refine lv_iload_n hx hb dX7_isAs_109 rfl (lv_at hl 3 rfl) ?_
                        refine lv_iload hx hb dX7_isAs_110 (lv_at hl 4 rfl) ?_
                        obtain ⟨t1, t2⟩ := trn_lt (w := μ.2.1 1 a) (h := μ.2.1 2 a) (x := vx) (y := vy) (mi := mi) (q := q) (by omega) (by omega)
                        rw [← hdim.1] at t1
                        rw [← hdim.2] at t2
                        refine crV (rest := []) S hK (c_X7_turned l G om μ a vx vy mi q (by first | assumption | omega | decide) (by omega) (by omega) (by first | assumption | omega | decide) (by omega) (by first | assumption | omega | decide) (by first | assumption | omega | decide)) cw_X7_201 rfl ⟨Nat.le_of_ble_eq_true rfl, Nat.le_of_ble_eq_true rfl⟩ ⟨Nat.le_of_ble_eq_true rfl, Nat.le_of_ble_eq_true rfl⟩ (bk.recv hK hM rfl rfl) hl.1 rfl (Nat.le_of_ble_eq_true rfl) dX7_isAs_112 hM ?_
                        refine lv_istore (lv' := [(8, .int (nI (10 * (trn (μ.2.1 1 a) (μ.2.1 2 a) vx vy mi q).1 + (trn (μ.2.1 1 a) (μ.2.1 2 a) vx vy mi q).2))), (0, .ref om), (1, .int (nI a)), (2, .int (nI b)), (3, .int (nI mi)), (4, .int (nI q)), (6, .int (nI vx)), (7, .int (nI vy))]) hx hb dX7_isAs_115 hl (by decide) rfl (fun ls hl => ?_)
                        refine lv_aload_n hx hb dX7_isAs_117 rfl (lv_at hl 1 rfl) ?_
                        refine lv_iload_n hx hb dX7_isAs_118 rfl (lv_at hl 2 rfl) ?_
                        refine lv_iload hx hb dX7_isAs_119 (lv_at hl 6 rfl) ?_
                        refine lv_iload hx hb dX7_isAs_121 (lv_at hl 7 rfl) ?_
                        refine crV (rest := []) S hK (c_X7_at l G om μ a vx vy (by first | assumption | omega | decide)) cw_X7_112 rfl ⟨Nat.le_of_ble_eq_true rfl, Nat.le_of_ble_eq_true rfl⟩ ⟨Nat.le_of_ble_eq_true rfl, Nat.le_of_ble_eq_true rfl⟩ (bk.recv hK hM rfl rfl) hl.1 rfl (Nat.le_of_ble_eq_true rfl) dX7_isAs_123 hM ?_
                        refine lv_aload_n hx hb dX7_isAs_126 rfl (lv_at hl 1 rfl) ?_
                        refine lv_iload_n hx hb dX7_isAs_127 rfl (lv_at hl 3 rfl) ?_
                        refine lv_iload hx hb dX7_isAs_128 (lv_at hl 0 rfl) ?_
                        refine lv_bipush (v := nI 10) hx hb dX7_isAs_130 (by decide) ?_
                        refine n_idiv hx hb dX7_isAs_132 (by omega) (by decide) (by decide) ?_
                        refine lv_iload hx hb dX7_isAs_133 (lv_at hl 0 rfl) ?_
                        refine lv_bipush (v := nI 10) hx hb dX7_isAs_135 (by decide) ?_
                        refine n_irem hx hb dX7_isAs_137 (by omega) (by decide) (by decide) ?_
                        refine crV (rest := [.int (nI (clM μ a (5 * vy + vx)))]) S hK (c_X7_at l G om μ b ((10 * (trn (μ.2.1 1 a) (μ.2.1 2 a) vx vy mi q).1 + (trn (μ.2.1 1 a) (μ.2.1 2 a) vx vy mi q).2) / 10) ((10 * (trn (μ.2.1 1 a) (μ.2.1 2 a) vx vy mi q).1 + (trn (μ.2.1 1 a) (μ.2.1 2 a) vx vy mi q).2) % 10) (by first | assumption | omega | decide)) cw_X7_112 rfl ⟨Nat.le_of_ble_eq_true rfl, Nat.le_of_ble_eq_true rfl⟩ ⟨Nat.le_of_ble_eq_true rfl, Nat.le_of_ble_eq_true rfl⟩ (bk.recv hK hM rfl rfl) hl.1 rfl (Nat.le_of_ble_eq_true rfl) dX7_isAs_138 hM ?_
                        have e7 : 5 * ((10 * (trn (μ.2.1 1 a) (μ.2.1 2 a) vx vy mi q).1 + (trn (μ.2.1 1 a) (μ.2.1 2 a) vx vy mi q).2) % 10) + (10 * (trn (μ.2.1 1 a) (μ.2.1 2 a) vx vy mi q).1 + (trn (μ.2.1 1 a) (μ.2.1 2 a) vx vy mi q).2) / 10 = 5 * (trn (μ.2.1 1 a) (μ.2.1 2 a) vx vy mi q).2 + (trn (μ.2.1 1 a) (μ.2.1 2 a) vx vy mi q).1 := by omega
                        have hlb1 := hcl (5 * vy + vx) (by omega)
                        have hlb2 := hbl (5 * ((10 * (trn (μ.2.1 1 a) (μ.2.1 2 a) vx vy mi q).1 + (trn (μ.2.1 1 a) (μ.2.1 2 a) vx vy mi q).2) % 10) + (10 * (trn (μ.2.1 1 a) (μ.2.1 2 a) vx vy mi q).1 + (trn (μ.2.1 1 a) (μ.2.1 2 a) vx vy mi q).2) / 10) (by omega)
                        refine n_icmp_eq (tgt := 146) hx hb dX7_isAs_141 (by decide) (by omega) (by omega) (fun c_141 => ?_) (fun c_141 => ?_)
                        ·
                          have hsame : clM μ a (5 * vy + vx) = clM μ b (5 * (trn (μ.2.1 1 a) (μ.2.1 2 a) vx vy mi q).2 + (trn (μ.2.1 1 a) (μ.2.1 2 a) vx vy mi q).1) := by rw [← e7]; exact c_141
                          refine lv_iinc (v := nI (vy + 1)) (lv' := [(7, .int (nI (vy + 1))), (8, .int (nI (10 * (trn (μ.2.1 1 a) (μ.2.1 2 a) vx vy mi q).1 + (trn (μ.2.1 1 a) (μ.2.1 2 a) vx vy mi q).2))), (0, .ref om), (1, .int (nI a)), (2, .int (nI b)), (3, .int (nI mi)), (4, .int (nI q)), (6, .int (nI vx))]) hx hb dX7_isAs_146 hl (k := 7) rfl (inc1 _) (by decide) rfl (fun ls hl => ?_)
                          refine lv_goto (tgt := 92) hx hb dX7_isAs_149 (by decide) ?_
                          exact ih92 (vy + 1) (by omega) (fun i hi j hj z => by
                            by_cases e : i = vx ∧ j = vy
                            · rw [e.1, e.2]; exact hsame
                            · exact hm2 i hi j hj (by omega)) (by omega) ls (lv_sub hl [2, 3, 4, 5, 6, 7, 0] rfl)
                        ·
                          have hr : decide (asP μ a b mi q) = false := decide_eq_false (by
                            rintro ⟨-, z⟩
                            have z2 := z vx (by omega) vy (by omega)
                            rw [← e7] at z2
                            exact c_141 z2)
                          refine lv_iconst (v := nI 0) hx hb dX7_isAs_144 (by decide) ?_
                          refine w_top (v' := .int (b2i (decide (asP μ a b mi q)))) (bz_f (show (decide (asP μ a b mi q)) = false from hr)) ?_
                          exact hE _ _ (kr_z dX7_isAs_145)
                  exact L92 ((μ.2.1 2 a - 0) + 1) 0 (Nat.zero_le _) hm1 (Nat.lt_succ_self _) ls (lv_sub hl [1, 2, 3, 4, 5, 6, 0] rfl)
            exact L78 ((μ.2.1 1 a - 0) + 1) 0 (Nat.zero_le _) (fun i _ j _ z => by omega) (Nat.lt_succ_self _) ls (lv_sub hl [2, 3, 4, 5, 6, 0] rfl)
          ·
            have hr : decide (asP μ a b mi q) = false := decide_eq_false (by
              rintro ⟨⟨z1, z2⟩, -⟩
              first | (rw [if_pos (by omega)] at z2; omega) | (rw [if_neg (by omega)] at z2; omega))
            refine lv_iconst (v := nI 0) hx hb dX7_isAs_73 (by decide) ?_
            refine w_top (v' := .int (b2i (decide (asP μ a b mi q)))) (bz_f (show (decide (asP μ a b mi q)) = false from hr)) ?_
            exact hE _ _ (kr_z dX7_isAs_74)
        ·
          exact absurd c_52 (by decide)
    ·
      exact absurd c_23 (by decide)
  ·
    refine lv_iconst (v := nI 1) hx hb dX7_isAs_8 (by decide) ?_
    refine lv_goto (tgt := 13) hx hb dX7_isAs_9 (by decide) ?_
    refine lv_istore (lv' := [(5, .int (nI 1)), (0, .ref om), (1, .int (nI a)), (2, .int (nI b)), (3, .int (nI mi)), (4, .int (nI q))]) hx hb dX7_isAs_13 hl (by decide) rfl (fun ls hl => ?_)
    refine lv_aload_n hx hb dX7_isAs_15 rfl (lv_at hl 1 rfl) ?_
    refine kg (C := RX7) (T := TX7) (N := 32) (ci := 5) (k := 1) (v := .ref (om + 2)) S hK rfl inX7 (by decide) q_731 dX7_isAs_16 hM rfl rfl ?_
    refine lv_iload_n hx hb dX7_isAs_19 rfl (lv_at hl 3 rfl) ?_
    refine kil (f := μ.2.1 1) S hK dX7_isAs_20 2 hM rfl (by decide) rfl (by omega) ?_
    refine lv_iload hx hb dX7_isAs_21 (lv_at hl 0 rfl) ?_
    refine n_if_eq (tgt := 35) hx hb dX7_isAs_23 (by decide) (by decide) (fun c_23 => ?_) (fun c_23 => ?_)
    ·
      exact absurd c_23 (by decide)
    ·
      refine lv_aload_n hx hb dX7_isAs_26 rfl (lv_at hl 1 rfl) ?_
      refine kg (C := RX7) (T := TX7) (N := 32) (ci := 5) (k := 2) (v := .ref (om + 3)) S hK rfl inX7 (by decide) q_732 dX7_isAs_27 hM rfl rfl ?_
      refine lv_iload_n hx hb dX7_isAs_30 rfl (lv_at hl 2 rfl) ?_
      refine kil (f := μ.2.1 2) S hK dX7_isAs_31 3 hM rfl (by decide) rfl (by omega) ?_
      refine lv_goto (tgt := 41) hx hb dX7_isAs_32 (by decide) ?_
      refine n_icmp_ne (tgt := 73) hx hb dX7_isAs_41 (by decide) (by omega) (by omega) (fun c_41 => ?_) (fun c_41 => ?_)
      ·
        have hr : decide (asP μ a b mi q) = false := decide_eq_false (by
          rintro ⟨⟨z1, z2⟩, -⟩
          first | (rw [if_pos (by omega)] at z1; omega) | (rw [if_neg (by omega)] at z1; omega))
        refine lv_iconst (v := nI 0) hx hb dX7_isAs_73 (by decide) ?_
        refine w_top (v' := .int (b2i (decide (asP μ a b mi q)))) (bz_f (show (decide (asP μ a b mi q)) = false from hr)) ?_
        exact hE _ _ (kr_z dX7_isAs_74)
      ·
        refine lv_aload_n hx hb dX7_isAs_44 rfl (lv_at hl 1 rfl) ?_
        refine kg (C := RX7) (T := TX7) (N := 32) (ci := 5) (k := 2) (v := .ref (om + 3)) S hK rfl inX7 (by decide) q_732 dX7_isAs_45 hM rfl rfl ?_
        refine lv_iload_n hx hb dX7_isAs_48 rfl (lv_at hl 3 rfl) ?_
        refine kil (f := μ.2.1 2) S hK dX7_isAs_49 3 hM rfl (by decide) rfl (by omega) ?_
        refine lv_iload hx hb dX7_isAs_50 (lv_at hl 0 rfl) ?_
        refine n_if_eq (tgt := 64) hx hb dX7_isAs_52 (by decide) (by decide) (fun c_52 => ?_) (fun c_52 => ?_)
        ·
          exact absurd c_52 (by decide)
        ·
          refine lv_aload_n hx hb dX7_isAs_55 rfl (lv_at hl 1 rfl) ?_
          refine kg (C := RX7) (T := TX7) (N := 32) (ci := 5) (k := 1) (v := .ref (om + 2)) S hK rfl inX7 (by decide) q_731 dX7_isAs_56 hM rfl rfl ?_
          refine lv_iload_n hx hb dX7_isAs_59 rfl (lv_at hl 2 rfl) ?_
          refine kil (f := μ.2.1 1) S hK dX7_isAs_60 2 hM rfl (by decide) rfl (by omega) ?_
          refine lv_goto (tgt := 70) hx hb dX7_isAs_61 (by decide) ?_
          refine n_icmp_eq (tgt := 75) hx hb dX7_isAs_70 (by decide) (by omega) (by omega) (fun c_70 => ?_) (fun c_70 => ?_)
          ·
            refine lv_iconst (v := nI 0) hx hb dX7_isAs_75 (by decide) ?_
            refine lv_istore (lv' := [(6, .int (nI 0)), (5, .int (nI 1)), (0, .ref om), (1, .int (nI a)), (2, .int (nI b)), (3, .int (nI mi)), (4, .int (nI q))]) hx hb dX7_isAs_76 hl (by decide) rfl (fun ls hl => ?_)
            have hdim : μ.2.1 1 b = (if q % 2 = 1 then μ.2.1 2 a else μ.2.1 1 a) ∧ μ.2.1 2 b = (if q % 2 = 1 then μ.2.1 1 a else μ.2.1 2 a) := by
              first | (rw [if_pos (by omega), if_pos (by omega)]; omega) | (rw [if_neg (by omega), if_neg (by omega)]; omega)
            have L78 : ∀ (fu : Nat), ∀ (vx : Nat), (vx ≤ μ.2.1 1 a) → (∀ i, i < μ.2.1 1 a → ∀ j, j < μ.2.1 2 a → (i < vx ∨ (i = vx ∧ j < 0)) → clM μ a (5 * j + i) = clM μ b (5 * (trn (μ.2.1 1 a) (μ.2.1 2 a) i j mi q).2 + (trn (μ.2.1 1 a) (μ.2.1 2 a) i j mi q).1)) → μ.2.1 1 a - vx < fu → ∀ ls : Array Slot, lv_has ls 9 [(0, .ref om), (1, .int (nI a)), (2, .int (nI b)), (3, .int (nI mi)), (4, .int (nI q)), (6, .int (nI vx))] → W zp l ze (rL 1 0 0) zs zm za zb zt zc zs.heap [] 0 0 Q (F0 zm 78 ls []) := by
              intro fu
              induction fu with
              | zero =>
                intro vx hvx hm1 hmu ls hl
                exact absurd hmu (Nat.not_lt_zero _)
              | succ fu ih78 =>
                intro vx hvx hm1 hmu ls hl
                refine lv_iload hx hb dX7_isAs_78 (lv_at hl 5 rfl) ?_
                refine lv_aload_n hx hb dX7_isAs_80 rfl (lv_at hl 0 rfl) ?_
                refine kg (C := RX7) (T := TX7) (N := 32) (ci := 5) (k := 1) (v := .ref (om + 2)) S hK rfl inX7 (by decide) q_731 dX7_isAs_81 hM rfl rfl ?_
                refine lv_iload_n hx hb dX7_isAs_84 rfl (lv_at hl 1 rfl) ?_
                refine kil (f := μ.2.1 1) S hK dX7_isAs_85 2 hM rfl (by decide) rfl (by omega) ?_
                refine n_icmp_ge (tgt := 158) hx hb dX7_isAs_86 (by decide) (by omega) (by omega) (fun c_86 => ?_) (fun c_86 => ?_)
                ·
                  have hr : decide (asP μ a b mi q) = true := decide_eq_true ⟨hdim, fun i hi j hj => hm1 i hi j hj (by omega)⟩
                  refine lv_iconst (v := nI 1) hx hb dX7_isAs_158 (by decide) ?_
                  refine w_top (v' := .int (b2i (decide (asP μ a b mi q)))) (bz_t (show (decide (asP μ a b mi q)) = true from hr)) ?_
                  exact hE _ _ (kr_z dX7_isAs_159)
                ·
                  refine lv_iconst (v := nI 0) hx hb dX7_isAs_89 (by decide) ?_
                  refine lv_istore (lv' := [(7, .int (nI 0)), (0, .ref om), (1, .int (nI a)), (2, .int (nI b)), (3, .int (nI mi)), (4, .int (nI q)), (6, .int (nI vx))]) hx hb dX7_isAs_90 hl (by decide) rfl (fun ls hl => ?_)
                  have L92 : ∀ (fu : Nat), ∀ (vy : Nat), (vy ≤ μ.2.1 2 a) → (∀ i, i < μ.2.1 1 a → ∀ j, j < μ.2.1 2 a → (i < vx ∨ (i = vx ∧ j < vy)) → clM μ a (5 * j + i) = clM μ b (5 * (trn (μ.2.1 1 a) (μ.2.1 2 a) i j mi q).2 + (trn (μ.2.1 1 a) (μ.2.1 2 a) i j mi q).1)) → μ.2.1 2 a - vy < fu → ∀ ls : Array Slot, lv_has ls 9 [(0, .ref om), (1, .int (nI a)), (2, .int (nI b)), (3, .int (nI mi)), (4, .int (nI q)), (6, .int (nI vx)), (7, .int (nI vy))] → W zp l ze (rL 1 0 0) zs zm za zb zt zc zs.heap [] 0 0 Q (F0 zm 92 ls []) := by
                    intro fu
                    induction fu with
                    | zero =>
                      intro vy hvy hm2 hmu ls hl
                      exact absurd hmu (Nat.not_lt_zero _)
                    | succ fu ih92 =>
                      intro vy hvy hm2 hmu ls hl
                      refine lv_iload hx hb dX7_isAs_92 (lv_at hl 6 rfl) ?_
                      refine lv_aload_n hx hb dX7_isAs_94 rfl (lv_at hl 0 rfl) ?_
                      refine kg (C := RX7) (T := TX7) (N := 32) (ci := 5) (k := 2) (v := .ref (om + 3)) S hK rfl inX7 (by decide) q_732 dX7_isAs_95 hM rfl rfl ?_
                      refine lv_iload_n hx hb dX7_isAs_98 rfl (lv_at hl 1 rfl) ?_
                      refine kil (f := μ.2.1 2) S hK dX7_isAs_99 3 hM rfl (by decide) rfl (by omega) ?_
                      refine n_icmp_ge (tgt := 152) hx hb dX7_isAs_100 (by decide) (by omega) (by omega) (fun c_100 => ?_) (fun c_100 => ?_)
                      ·
                        refine lv_iinc (v := nI (vx + 1)) (lv' := [(6, .int (nI (vx + 1))), (0, .ref om), (1, .int (nI a)), (2, .int (nI b)), (3, .int (nI mi)), (4, .int (nI q)), (7, .int (nI vy))]) hx hb dX7_isAs_152 hl (k := 5) rfl (inc1 _) (by decide) rfl (fun ls hl => ?_)
                        refine lv_goto (tgt := 78) hx hb dX7_isAs_155 (by decide) ?_
                        exact ih78 (vx + 1) (by omega) (fun i hi j hj z => hm2 i hi j hj (by omega)) (by omega) ls (lv_sub hl [1, 2, 3, 4, 5, 0] rfl)
                      ·
                        refine lv_aload_n hx hb dX7_isAs_103 rfl (lv_at hl 0 rfl) ?_
                        refine lv_iload_n hx hb dX7_isAs_104 rfl (lv_at hl 1 rfl) ?_
                        refine lv_iload hx hb dX7_isAs_105 (lv_at hl 5 rfl) ?_
                        refine lv_iload hx hb dX7_isAs_107 (lv_at hl 6 rfl) ?_
                        refine lv_iload_n hx hb dX7_isAs_109 rfl (lv_at hl 3 rfl) ?_
                        refine lv_iload hx hb dX7_isAs_110 (lv_at hl 4 rfl) ?_
                        obtain ⟨t1, t2⟩ := trn_lt (w := μ.2.1 1 a) (h := μ.2.1 2 a) (x := vx) (y := vy) (mi := mi) (q := q) (by omega) (by omega)
                        rw [← hdim.1] at t1
                        rw [← hdim.2] at t2
                        refine crV (rest := []) S hK (c_X7_turned l G om μ a vx vy mi q (by first | assumption | omega | decide) (by omega) (by omega) (by first | assumption | omega | decide) (by omega) (by first | assumption | omega | decide) (by first | assumption | omega | decide)) cw_X7_201 rfl ⟨Nat.le_of_ble_eq_true rfl, Nat.le_of_ble_eq_true rfl⟩ ⟨Nat.le_of_ble_eq_true rfl, Nat.le_of_ble_eq_true rfl⟩ (bk.recv hK hM rfl rfl) hl.1 rfl (Nat.le_of_ble_eq_true rfl) dX7_isAs_112 hM ?_
                        refine lv_istore (lv' := [(8, .int (nI (10 * (trn (μ.2.1 1 a) (μ.2.1 2 a) vx vy mi q).1 + (trn (μ.2.1 1 a) (μ.2.1 2 a) vx vy mi q).2))), (0, .ref om), (1, .int (nI a)), (2, .int (nI b)), (3, .int (nI mi)), (4, .int (nI q)), (6, .int (nI vx)), (7, .int (nI vy))]) hx hb dX7_isAs_115 hl (by decide) rfl (fun ls hl => ?_)
                        refine lv_aload_n hx hb dX7_isAs_117 rfl (lv_at hl 1 rfl) ?_
                        refine lv_iload_n hx hb dX7_isAs_118 rfl (lv_at hl 2 rfl) ?_
                        refine lv_iload hx hb dX7_isAs_119 (lv_at hl 6 rfl) ?_
                        refine lv_iload hx hb dX7_isAs_121 (lv_at hl 7 rfl) ?_
                        refine crV (rest := []) S hK (c_X7_at l G om μ a vx vy (by first | assumption | omega | decide)) cw_X7_112 rfl ⟨Nat.le_of_ble_eq_true rfl, Nat.le_of_ble_eq_true rfl⟩ ⟨Nat.le_of_ble_eq_true rfl, Nat.le_of_ble_eq_true rfl⟩ (bk.recv hK hM rfl rfl) hl.1 rfl (Nat.le_of_ble_eq_true rfl) dX7_isAs_123 hM ?_
                        refine lv_aload_n hx hb dX7_isAs_126 rfl (lv_at hl 1 rfl) ?_
                        refine lv_iload_n hx hb dX7_isAs_127 rfl (lv_at hl 3 rfl) ?_
                        refine lv_iload hx hb dX7_isAs_128 (lv_at hl 0 rfl) ?_
                        refine lv_bipush (v := nI 10) hx hb dX7_isAs_130 (by decide) ?_
                        refine n_idiv hx hb dX7_isAs_132 (by omega) (by decide) (by decide) ?_
                        refine lv_iload hx hb dX7_isAs_133 (lv_at hl 0 rfl) ?_
                        refine lv_bipush (v := nI 10) hx hb dX7_isAs_135 (by decide) ?_
                        refine n_irem hx hb dX7_isAs_137 (by omega) (by decide) (by decide) ?_
                        refine crV (rest := [.int (nI (clM μ a (5 * vy + vx)))]) S hK (c_X7_at l G om μ b ((10 * (trn (μ.2.1 1 a) (μ.2.1 2 a) vx vy mi q).1 + (trn (μ.2.1 1 a) (μ.2.1 2 a) vx vy mi q).2) / 10) ((10 * (trn (μ.2.1 1 a) (μ.2.1 2 a) vx vy mi q).1 + (trn (μ.2.1 1 a) (μ.2.1 2 a) vx vy mi q).2) % 10) (by first | assumption | omega | decide)) cw_X7_112 rfl ⟨Nat.le_of_ble_eq_true rfl, Nat.le_of_ble_eq_true rfl⟩ ⟨Nat.le_of_ble_eq_true rfl, Nat.le_of_ble_eq_true rfl⟩ (bk.recv hK hM rfl rfl) hl.1 rfl (Nat.le_of_ble_eq_true rfl) dX7_isAs_138 hM ?_
                        have e7 : 5 * ((10 * (trn (μ.2.1 1 a) (μ.2.1 2 a) vx vy mi q).1 + (trn (μ.2.1 1 a) (μ.2.1 2 a) vx vy mi q).2) % 10) + (10 * (trn (μ.2.1 1 a) (μ.2.1 2 a) vx vy mi q).1 + (trn (μ.2.1 1 a) (μ.2.1 2 a) vx vy mi q).2) / 10 = 5 * (trn (μ.2.1 1 a) (μ.2.1 2 a) vx vy mi q).2 + (trn (μ.2.1 1 a) (μ.2.1 2 a) vx vy mi q).1 := by omega
                        have hlb1 := hcl (5 * vy + vx) (by omega)
                        have hlb2 := hbl (5 * ((10 * (trn (μ.2.1 1 a) (μ.2.1 2 a) vx vy mi q).1 + (trn (μ.2.1 1 a) (μ.2.1 2 a) vx vy mi q).2) % 10) + (10 * (trn (μ.2.1 1 a) (μ.2.1 2 a) vx vy mi q).1 + (trn (μ.2.1 1 a) (μ.2.1 2 a) vx vy mi q).2) / 10) (by omega)
                        refine n_icmp_eq (tgt := 146) hx hb dX7_isAs_141 (by decide) (by omega) (by omega) (fun c_141 => ?_) (fun c_141 => ?_)
                        ·
                          have hsame : clM μ a (5 * vy + vx) = clM μ b (5 * (trn (μ.2.1 1 a) (μ.2.1 2 a) vx vy mi q).2 + (trn (μ.2.1 1 a) (μ.2.1 2 a) vx vy mi q).1) := by rw [← e7]; exact c_141
                          refine lv_iinc (v := nI (vy + 1)) (lv' := [(7, .int (nI (vy + 1))), (8, .int (nI (10 * (trn (μ.2.1 1 a) (μ.2.1 2 a) vx vy mi q).1 + (trn (μ.2.1 1 a) (μ.2.1 2 a) vx vy mi q).2))), (0, .ref om), (1, .int (nI a)), (2, .int (nI b)), (3, .int (nI mi)), (4, .int (nI q)), (6, .int (nI vx))]) hx hb dX7_isAs_146 hl (k := 7) rfl (inc1 _) (by decide) rfl (fun ls hl => ?_)
                          refine lv_goto (tgt := 92) hx hb dX7_isAs_149 (by decide) ?_
                          exact ih92 (vy + 1) (by omega) (fun i hi j hj z => by
                            by_cases e : i = vx ∧ j = vy
                            · rw [e.1, e.2]; exact hsame
                            · exact hm2 i hi j hj (by omega)) (by omega) ls (lv_sub hl [2, 3, 4, 5, 6, 7, 0] rfl)
                        ·
                          have hr : decide (asP μ a b mi q) = false := decide_eq_false (by
                            rintro ⟨-, z⟩
                            have z2 := z vx (by omega) vy (by omega)
                            rw [← e7] at z2
                            exact c_141 z2)
                          refine lv_iconst (v := nI 0) hx hb dX7_isAs_144 (by decide) ?_
                          refine w_top (v' := .int (b2i (decide (asP μ a b mi q)))) (bz_f (show (decide (asP μ a b mi q)) = false from hr)) ?_
                          exact hE _ _ (kr_z dX7_isAs_145)
                  exact L92 ((μ.2.1 2 a - 0) + 1) 0 (Nat.zero_le _) hm1 (Nat.lt_succ_self _) ls (lv_sub hl [1, 2, 3, 4, 5, 6, 0] rfl)
            exact L78 ((μ.2.1 1 a - 0) + 1) 0 (Nat.zero_le _) (fun i _ j _ z => by omega) (Nat.lt_succ_self _) ls (lv_sub hl [2, 3, 4, 5, 6, 0] rfl)
          ·
            have hr : decide (asP μ a b mi q) = false := decide_eq_false (by
              rintro ⟨⟨z1, z2⟩, -⟩
              first | (rw [if_pos (by omega)] at z2; omega) | (rw [if_neg (by omega)] at z2; omega))
            refine lv_iconst (v := nI 0) hx hb dX7_isAs_73 (by decide) ?_
            refine w_top (v' := .int (b2i (decide (asP μ a b mi q)))) (bz_f (show (decide (asP μ a b mi q)) = false from hr)) ?_
            exact hE _ _ (kr_z dX7_isAs_74)

set_option maxHeartbeats 1000000 in
set_option maxRecDepth 100000 in
theorem c_X7_alike (l : Launch) (G : Gt) (om : Nat) (μ : Sx) (a : Int32) (b : Int32) (h0 : MI0 μ) : Ct l G yX7_alike cX7_alike 4 ((some .int)) 5 0 0 [.ref om, .int a, .int b] (fun H => bk G om (mL G om μ) H) (some (.int ((alike_M μ a b).1))) (fun H => bk G om (mL G om ((alike_M μ a b).2)) H) (fun q => om ≤ q ∧ q < om + 20) := by
  refine ct_entry [(0, .ref om), (1, .int a), (2, .int b)] (by decide) (Nat.le_of_ble_eq_true rfl) rfl ?_
  intro zp ze zs zm za zb zt zc Q S hK hPre hin hE ls hl
  have hx := S.1
  have hb := S.2.1
  have hM := hPre
  have hS : va_S (fun q => om ≤ q ∧ q < om + 20) zs.heap zs.heap [] := va_S.rf
  have hp24 := h0.1
  refine lv_aload_n hx hb dX7_alike_0 rfl (lv_at hl 0 rfl) ?_
  refine lv_iload_n hx hb dX7_alike_1 rfl (lv_at hl 1 rfl) ?_
  refine crV (rest := []) S hK (c_X7_isPart l G om μ a (by first | assumption | omega | decide)) cw_X7_103 rfl ⟨Nat.le_of_ble_eq_true rfl, Nat.le_of_ble_eq_true rfl⟩ ⟨Nat.le_of_ble_eq_true rfl, Nat.le_of_ble_eq_true rfl⟩ (bk.recv hK hM rfl rfl) hl.1 rfl (Nat.le_of_ble_eq_true rfl) dX7_alike_2 hM ?_
  refine z_if_eq (tgt := 16) hx hb dX7_alike_5 (by decide) (fun c_5 => ?_) (fun c_5 => ?_)
  ·
    refine lv_aload_n hx hb dX7_alike_16 rfl (lv_at hl 0 rfl) ?_
    refine lv_iconst (v := (-1)) hx hb dX7_alike_17 (by decide) ?_
    refine ctV (rest := []) S hK (c_X7_refuse l G om μ (-1) 1 (by first | assumption | omega | decide) (by first | assumption | omega | decide)) cw_X7_72 rfl ⟨Nat.le_of_ble_eq_true rfl, Nat.le_of_ble_eq_true rfl⟩ ⟨Nat.le_of_ble_eq_true rfl, Nat.le_of_ble_eq_true rfl⟩ (bk.recv hK hM rfl rfl) hl.1 rfl (Nat.le_of_ble_eq_true rfl) dX7_alike_18 hM hS (fun _ h => h) (fun H locs hPost hz hk hS => ?_)
    have hM := hPost
    have hr : alike_M μ a b = ((-1), uA μ 0 1 (μ.2.1 0 1 + 1)) := by unfold alike_M; simp [c_5]
    refine w_top (v' := .int ((alike_M μ a b).1)) (congrArg (fun z => Value.int z) (congrArg Prod.fst hr).symm) ?_
    replace hM := bk_eq hM (show mL G om (uA μ 0 1 (μ.2.1 0 1 + 1)) = mL G om ((alike_M μ a b).2) from by rw [hr])
    exact hE _ _ _ _ _ _ (kr_i dX7_alike_21) hS (by decide) (by decide) hM
  ·
    obtain ⟨va, hva, rfl⟩ := inI_x c_5
    have hca := cx_n (j := va) (by omega)
    refine lv_aload_n hx hb dX7_alike_8 rfl (lv_at hl 0 rfl) ?_
    refine lv_iload_n hx hb dX7_alike_9 rfl (lv_at hl 2 rfl) ?_
    refine crV (rest := []) S hK (c_X7_isPart l G om μ b (by first | assumption | omega | decide)) cw_X7_103 rfl ⟨Nat.le_of_ble_eq_true rfl, Nat.le_of_ble_eq_true rfl⟩ ⟨Nat.le_of_ble_eq_true rfl, Nat.le_of_ble_eq_true rfl⟩ (bk.recv hK hM rfl rfl) hl.1 rfl (Nat.le_of_ble_eq_true rfl) dX7_alike_10 hM ?_
    refine z_if_ne (tgt := 22) hx hb dX7_alike_13 (by decide) (fun c_13 => ?_) (fun c_13 => ?_)
    ·
      obtain ⟨vb, hvb, rfl⟩ := inI_x c_13
      have hcb := cx_n (j := vb) (by omega)
      refine lv_iconst (v := nI 0) hx hb dX7_alike_22 (by decide) ?_
      refine lv_istore_n (lv' := [(3, .int (nI 0)), (0, .ref om), (1, .int (nI va)), (2, .int (nI vb))]) hx hb dX7_alike_23 rfl hl (by decide) rfl (fun ls hl => ?_)
      have L24 : ∀ (fu : Nat), ∀ (vq : Nat), (vq ≤ 4) → (fnd (fun q => decide (asP μ va vb 0 q) || decide (asP μ va vb 1 q)) 4 0 = fnd (fun q => decide (asP μ va vb 0 q) || decide (asP μ va vb 1 q)) (4 - vq) vq) → 4 - vq < fu → ∀ (H : Heap) (locs : List Loc), bk G om (mL G om μ) H → va_S (fun q => om ≤ q ∧ q < om + 20) zs.heap H locs → ∀ ls : Array Slot, lv_has ls 4 [(0, .ref om), (1, .int (nI va)), (2, .int (nI vb)), (3, .int (nI vq))] → W zp l ze (rL 5 0 0) zs zm za zb zt zc H locs 0 0 Q (F0 zm 24 ls []) := by
        intro fu
        induction fu with
        | zero =>
          intro vq hvq hfd hmu H locs hM hS ls hl
          exact absurd hmu (Nat.not_lt_zero _)
        | succ fu ih24 =>
          intro vq hvq hfd hmu H locs hM hS ls hl
          refine lv_iload_n hx hb dX7_alike_24 rfl (lv_at hl 3 rfl) ?_
          refine lv_iconst (v := nI 4) hx hb dX7_alike_25 (by decide) ?_
          refine n_icmp_ge (tgt := 59) hx hb dX7_alike_26 (by decide) (by omega) (by decide) (fun c_26 => ?_) (fun c_26 => ?_)
          ·
            refine lv_iconst (v := nI 0) hx hb dX7_alike_59 (by decide) ?_
            have hr : alike_M μ (nI va) (nI vb) = (nI 0, μ) := by unfold alike_M; rw [c_5, c_13, if_pos (show (true && true) = true from rfl), hca, hcb, hfd, show 4 - vq = 0 from by omega]; rfl
            refine w_top (v' := .int ((alike_M μ (nI va) (nI vb)).1)) (congrArg (fun z => Value.int z) (congrArg Prod.fst hr).symm) ?_
            replace hM := bk_eq hM (show mL G om μ = mL G om ((alike_M μ (nI va) (nI vb)).2) from by rw [hr])
            exact hE _ _ _ _ _ _ (kr_i dX7_alike_60) hS (by decide) (by decide) hM
          ·
            refine lv_aload_n hx hb dX7_alike_29 rfl (lv_at hl 0 rfl) ?_
            refine lv_iload_n hx hb dX7_alike_30 rfl (lv_at hl 1 rfl) ?_
            refine lv_iload_n hx hb dX7_alike_31 rfl (lv_at hl 2 rfl) ?_
            refine lv_iconst (v := nI 0) hx hb dX7_alike_32 (by decide) ?_
            refine lv_iload_n hx hb dX7_alike_33 rfl (lv_at hl 3 rfl) ?_
            refine crV (rest := []) S hK (c_X7_isAs l G om μ va vb 0 vq (by first | assumption | omega | decide) (by first | assumption | omega | decide) (by first | assumption | omega | decide) (by first | assumption | omega | decide) (by first | assumption | omega | decide)) cw_X7_210 rfl ⟨Nat.le_of_ble_eq_true rfl, Nat.le_of_ble_eq_true rfl⟩ ⟨Nat.le_of_ble_eq_true rfl, Nat.le_of_ble_eq_true rfl⟩ (bk.recv hK hM rfl rfl) hl.1 rfl (Nat.le_of_ble_eq_true rfl) dX7_alike_34 hM ?_
            refine z_if_ne (tgt := 51) hx hb dX7_alike_37 (by decide) (fun c_37 => ?_) (fun c_37 => ?_)
            ·
              refine lv_iconst (v := nI 1) hx hb dX7_alike_51 (by decide) ?_
              have hr : alike_M μ (nI va) (nI vb) = (nI 1, μ) := by unfold alike_M; rw [c_5, c_13, if_pos (show (true && true) = true from rfl), hca, hcb, hfd, show 4 - vq = (4 - (vq + 1)) + 1 from by omega, fnd_t (P := (fun q => decide (asP μ va vb 0 q) || decide (asP μ va vb 1 q))) (by show (decide _ || decide _) = true; rw [c_37, Bool.true_or])]; rfl
              refine w_top (v' := .int ((alike_M μ (nI va) (nI vb)).1)) (congrArg (fun z => Value.int z) (congrArg Prod.fst hr).symm) ?_
              replace hM := bk_eq hM (show mL G om μ = mL G om ((alike_M μ (nI va) (nI vb)).2) from by rw [hr])
              exact hE _ _ _ _ _ _ (kr_i dX7_alike_52) hS (by decide) (by decide) hM
            ·
              refine lv_aload_n hx hb dX7_alike_40 rfl (lv_at hl 0 rfl) ?_
              refine lv_iload_n hx hb dX7_alike_41 rfl (lv_at hl 1 rfl) ?_
              refine lv_iload_n hx hb dX7_alike_42 rfl (lv_at hl 2 rfl) ?_
              refine lv_iconst (v := nI 1) hx hb dX7_alike_43 (by decide) ?_
              refine lv_iload_n hx hb dX7_alike_44 rfl (lv_at hl 3 rfl) ?_
              refine crV (rest := []) S hK (c_X7_isAs l G om μ va vb 1 vq (by first | assumption | omega | decide) (by first | assumption | omega | decide) (by first | assumption | omega | decide) (by first | assumption | omega | decide) (by first | assumption | omega | decide)) cw_X7_210 rfl ⟨Nat.le_of_ble_eq_true rfl, Nat.le_of_ble_eq_true rfl⟩ ⟨Nat.le_of_ble_eq_true rfl, Nat.le_of_ble_eq_true rfl⟩ (bk.recv hK hM rfl rfl) hl.1 rfl (Nat.le_of_ble_eq_true rfl) dX7_alike_45 hM ?_
              refine z_if_eq (tgt := 53) hx hb dX7_alike_48 (by decide) (fun c_48 => ?_) (fun c_48 => ?_)
              ·
                refine lv_iinc (v := nI (vq + 1)) (lv' := [(3, .int (nI (vq + 1))), (0, .ref om), (1, .int (nI va)), (2, .int (nI vb))]) hx hb dX7_alike_53 hl (k := 3) rfl (inc1 _) (by decide) rfl (fun ls hl => ?_)
                refine lv_goto (tgt := 24) hx hb dX7_alike_56 (by decide) ?_
                exact ih24 (vq + 1) (by first | assumption | omega) (by rw [hfd, show 4 - vq = (4 - (vq + 1)) + 1 from by omega]; exact fnd_f (P := (fun q => decide (asP μ va vb 0 q) || decide (asP μ va vb 1 q))) (by show (decide _ || decide _) = false; rw [c_37, c_48]; rfl)) (by omega) _ _ hM hS ls (lv_sub hl [1, 2, 3, 0] rfl)
              ·
                refine lv_iconst (v := nI 1) hx hb dX7_alike_51 (by decide) ?_
                have hr : alike_M μ (nI va) (nI vb) = (nI 1, μ) := by unfold alike_M; rw [c_5, c_13, if_pos (show (true && true) = true from rfl), hca, hcb, hfd, show 4 - vq = (4 - (vq + 1)) + 1 from by omega, fnd_t (P := (fun q => decide (asP μ va vb 0 q) || decide (asP μ va vb 1 q))) (by show (decide _ || decide _) = true; rw [c_48, Bool.or_true])]; rfl
                refine w_top (v' := .int ((alike_M μ (nI va) (nI vb)).1)) (congrArg (fun z => Value.int z) (congrArg Prod.fst hr).symm) ?_
                replace hM := bk_eq hM (show mL G om μ = mL G om ((alike_M μ (nI va) (nI vb)).2) from by rw [hr])
                exact hE _ _ _ _ _ _ (kr_i dX7_alike_52) hS (by decide) (by decide) hM
      exact L24 ((4 - 0) + 1) 0 (Nat.zero_le _) rfl (Nat.lt_succ_self _) _ _ hM hS ls (lv_sub hl [1, 2, 3, 0] rfl)
    ·
      refine lv_aload_n hx hb dX7_alike_16 rfl (lv_at hl 0 rfl) ?_
      refine lv_iconst (v := (-1)) hx hb dX7_alike_17 (by decide) ?_
      refine ctV (rest := []) S hK (c_X7_refuse l G om μ (-1) 1 (by first | assumption | omega | decide) (by first | assumption | omega | decide)) cw_X7_72 rfl ⟨Nat.le_of_ble_eq_true rfl, Nat.le_of_ble_eq_true rfl⟩ ⟨Nat.le_of_ble_eq_true rfl, Nat.le_of_ble_eq_true rfl⟩ (bk.recv hK hM rfl rfl) hl.1 rfl (Nat.le_of_ble_eq_true rfl) dX7_alike_18 hM hS (fun _ h => h) (fun H locs hPost hz hk hS => ?_)
      have hM := hPost
      have hr : alike_M μ (nI va) b = ((-1), uA μ 0 1 (μ.2.1 0 1 + 1)) := by unfold alike_M; simp [c_5, hca, c_13]
      refine w_top (v' := .int ((alike_M μ (nI va) b).1)) (congrArg (fun z => Value.int z) (congrArg Prod.fst hr).symm) ?_
      replace hM := bk_eq hM (show mL G om (uA μ 0 1 (μ.2.1 0 1 + 1)) = mL G om ((alike_M μ (nI va) b).2) from by rw [hr])
      exact hE _ _ _ _ _ _ (kr_i dX7_alike_21) hS (by decide) (by decide) hM

set_option maxHeartbeats 1000000 in
set_option maxRecDepth 100000 in
theorem c_X7_needless (l : Launch) (G : Gt) (om : Nat) (μ : Sx) (p : Int32) (h0 : MI0 μ) : Ct l G yX7_needless cX7_needless 6 ((some .int)) 25 0 0 [.ref om, .int p] (fun H => bk G om (mL G om μ) H) (some (.int ((needless_M μ p).1))) (fun H => bk G om (mL G om ((needless_M μ p).2)) H) (fun q => om ≤ q ∧ q < om + 20) := by
  refine ct_entry [(0, .ref om), (1, .int p)] (by decide) (Nat.le_of_ble_eq_true rfl) rfl ?_
  intro zp ze zs zm za zb zt zc Q S hK hPre hin hE ls hl
  have hx := S.1
  have hb := S.2.1
  have hM := hPre
  have hS : va_S (fun q => om ≤ q ∧ q < om + 20) zs.heap zs.heap [] := va_S.rf
  have hp24 := h0.1
  refine lv_aload_n hx hb dX7_needless_0 rfl (lv_at hl 0 rfl) ?_
  refine lv_iload_n hx hb dX7_needless_1 rfl (lv_at hl 1 rfl) ?_
  refine crV (rest := []) S hK (c_X7_isPart l G om μ p (by first | assumption | omega | decide)) cw_X7_103 rfl ⟨Nat.le_of_ble_eq_true rfl, Nat.le_of_ble_eq_true rfl⟩ ⟨Nat.le_of_ble_eq_true rfl, Nat.le_of_ble_eq_true rfl⟩ (bk.recv hK hM rfl rfl) hl.1 rfl (Nat.le_of_ble_eq_true rfl) dX7_needless_2 hM ?_
  refine z_if_ne (tgt := 14) hx hb dX7_needless_5 (by decide) (fun c_5 => ?_) (fun c_5 => ?_)
  ·
    obtain ⟨vp, hvp, rfl⟩ := inI_x c_5
    obtain ⟨hw1, hw5, hh1, hh4, hf5, hcl⟩ := h0.2 vp hvp
    have hcp := cx_n (j := vp) (by omega)
    refine lv_aload_n hx hb dX7_needless_14 rfl (lv_at hl 0 rfl) ?_
    refine lv_iload_n hx hb dX7_needless_15 rfl (lv_at hl 1 rfl) ?_
    refine crV (rest := []) S hK (c_X7_letsOf l G om μ vp (by first | assumption | omega | decide) (by first | assumption | omega | decide) (by first | assumption | omega | decide)) cw_X7_138 rfl ⟨Nat.le_of_ble_eq_true rfl, Nat.le_of_ble_eq_true rfl⟩ ⟨Nat.le_of_ble_eq_true rfl, Nat.le_of_ble_eq_true rfl⟩ (bk.recv hK hM rfl rfl) hl.1 rfl (Nat.le_of_ble_eq_true rfl) dX7_needless_16 hM ?_
    refine lv_lstore_n (lv' := [(2, .long (lN (ltM (clM μ vp) (μ.2.1 3 vp)))), (0, .ref om), (1, .int (nI vp))]) hx hb dX7_needless_19 rfl hl (by decide) rfl (fun ls hl => ?_)
    refine lv_iconst (v := nI 0) hx hb dX7_needless_20 (by decide) ?_
    refine lv_istore (lv' := [(4, .int (nI 0)), (2, .long (lN (ltM (clM μ vp) (μ.2.1 3 vp)))), (0, .ref om), (1, .int (nI vp))]) hx hb dX7_needless_21 hl (by decide) rfl (fun ls hl => ?_)
    refine lv_iconst (v := nI 0) hx hb dX7_needless_23 (by decide) ?_
    refine lv_istore (lv' := [(5, .int (nI 0)), (4, .int (nI 0)), (2, .long (lN (ltM (clM μ vp) (μ.2.1 3 vp)))), (0, .ref om), (1, .int (nI vp))]) hx hb dX7_needless_24 hl (by decide) rfl (fun ls hl => ?_)
    have L26 : ∀ (fu : Nat), ∀ (vk : Nat), (vk ≤ 20) → 20 - vk < fu → ∀ (H : Heap) (locs : List Loc), bk G om (mL G om μ) H → va_S (fun q => om ≤ q ∧ q < om + 20) zs.heap H locs → ∀ ls : Array Slot, lv_has ls 6 [(0, .ref om), (1, .int (nI vp)), (2, .long (lN (ltM (clM μ vp) (μ.2.1 3 vp)))), (4, .int (nI (bo (fun k => decide (clM μ vp k = 1) && decide (ltM (uN (clM μ vp) k 0) (μ.2.1 3 vp) = ltM (clM μ vp) (μ.2.1 3 vp))) vk))), (5, .int (nI vk))] → W zp l ze (rL 25 0 0) zs zm za zb zt zc H locs 0 0 Q (F0 zm 26 ls []) := by
      intro fu
      induction fu with
      | zero =>
        intro vk hvk hmu H locs hM hS ls hl
        exact absurd hmu (Nat.not_lt_zero _)
      | succ fu ih26 =>
        intro vk hvk hmu H locs hM hS ls hl
        refine lv_iload hx hb dX7_needless_26 (lv_at hl 4 rfl) ?_
        refine lv_bipush (v := nI 20) hx hb dX7_needless_28 (by decide) ?_
        refine n_icmp_ge (tgt := 107) hx hb dX7_needless_30 (by decide) (by omega) (by decide) (fun c_30 => ?_) (fun c_30 => ?_)
        ·
          have hk20 : vk = 20 := by omega
          refine lv_iload hx hb dX7_needless_107 (lv_at hl 3 rfl) ?_
          have hr : needless_M μ (nI vp) = (nI (bo (fun k => decide (clM μ vp k = 1) && decide (ltM (uN (clM μ vp) k 0) (μ.2.1 3 vp) = ltM (clM μ vp) (μ.2.1 3 vp))) vk), μ) := by unfold needless_M; rw [c_5, if_pos rfl, hcp, hk20]
          refine w_top (v' := .int ((needless_M μ (nI vp)).1)) (congrArg (fun z => Value.int z) (congrArg Prod.fst hr).symm) ?_
          replace hM := bk_eq hM (show mL G om μ = mL G om ((needless_M μ (nI vp)).2) from by rw [hr])
          exact hE _ _ _ _ _ _ (kr_i dX7_needless_109) hS (by decide) (by decide) hM
        ·
          have hlk : μ.2.1 4 (20 * vp + vk) < 16 := hcl vk (by omega)
          have hsh := shl_le hf5
          refine lv_aload_n hx hb dX7_needless_33 rfl (lv_at hl 0 rfl) ?_
          refine kg (C := RX7) (T := TX7) (N := 32) (ci := 5) (k := 4) (v := .ref (om + 5)) S hK rfl inX7 (by decide) q_734 dX7_needless_34 hM rfl rfl ?_
          refine lv_bipush (v := nI 20) hx hb dX7_needless_37 (by decide) ?_
          refine lv_iload_n hx hb dX7_needless_39 rfl (lv_at hl 1 rfl) ?_
          refine n_imul hx hb dX7_needless_40 ?_
          refine lv_iload hx hb dX7_needless_41 (lv_at hl 4 rfl) ?_
          refine n_iadd hx hb dX7_needless_43 ?_
          refine kil (f := μ.2.1 4) S hK dX7_needless_44 5 hM rfl (by decide) rfl (by omega) ?_
          refine lv_iconst (v := nI 1) hx hb dX7_needless_45 (by decide) ?_
          refine n_icmp_eq (tgt := 52) hx hb dX7_needless_46 (by decide) (by omega) (by decide) (fun c_46 => ?_) (fun c_46 => ?_)
          ·
            refine lv_aload_n hx hb dX7_needless_52 rfl (lv_at hl 0 rfl) ?_
            refine kg (C := RX7) (T := TX7) (N := 32) (ci := 5) (k := 4) (v := .ref (om + 5)) S hK rfl inX7 (by decide) q_734 dX7_needless_53 hM rfl rfl ?_
            refine lv_bipush (v := nI 20) hx hb dX7_needless_56 (by decide) ?_
            refine lv_iload_n hx hb dX7_needless_58 rfl (lv_at hl 1 rfl) ?_
            refine n_imul hx hb dX7_needless_59 ?_
            refine lv_iload hx hb dX7_needless_60 (lv_at hl 4 rfl) ?_
            refine n_iadd hx hb dX7_needless_62 ?_
            refine lv_iconst (v := nI 0) hx hb dX7_needless_63 (by decide) ?_
            refine kis S hK dX7_needless_64 5 hM rfl (by decide) rfl (by omega) rfl (L1 := mL G om (uA μ 4 ((20 * vp) + vk) 0)) rfl hS (by first | exact ⟨by omega, by omega⟩ | omega) (fun H locs hM hS hz hk => ?_)
            refine lv_iload hx hb dX7_needless_65 (lv_at hl 3 rfl) ?_
            refine lv_aload_n hx hb dX7_needless_67 rfl (lv_at hl 0 rfl) ?_
            refine lv_iload_n hx hb dX7_needless_68 rfl (lv_at hl 1 rfl) ?_
            refine crV (v := .long (lN (ltM (clM (uA μ 4 ((20 * vp) + vk) 0) vp) (μ.2.1 3 vp)))) (rest := [.int (nI (bo (fun k => decide (clM μ vp k = 1) && decide (ltM (uN (clM μ vp) k 0) (μ.2.1 3 vp) = ltM (clM μ vp) (μ.2.1 3 vp))) vk))]) S hK (c_X7_letsOf l G om (uA μ 4 ((20 * vp) + vk) 0) vp (by first | assumption | omega | decide) hf5 (fun j hj => by
              show (uA μ 4 (20 * vp + vk) 0).2.1 4 (20 * vp + j) < 16
              rw [aA_e]
              have := hcl j hj
              by_cases e : 20 * vp + j = 20 * vp + vk
              · rw [if_pos e]; decide
              · rw [if_neg e]; exact this)) cw_X7_138 rfl ⟨Nat.le_of_ble_eq_true rfl, Nat.le_of_ble_eq_true rfl⟩ ⟨Nat.le_of_ble_eq_true rfl, Nat.le_of_ble_eq_true rfl⟩ (bk.recv hK hM rfl rfl) hl.1 rfl (Nat.le_of_ble_eq_true rfl) dX7_needless_69 hM ?_
            refine w_top (v' := .long (lN (ltM (uN (clM μ vp) vk 0) (μ.2.1 3 vp)))) (congrArg (fun c => Value.long (lN (ltM c (μ.2.1 3 vp)))) clM_u) ?_
            refine lv_lload_n hx hb dX7_needless_72 rfl (lv_at hl 2 rfl) ?_
            refine W.lcmp hx hb dX7_needless_73 ?_
            refine nl_if_ne (tgt := 84) hx hb dX7_needless_74 (by decide) (bo63 (by omega)) (bo63 (by omega)) (fun c_74 => ?_) (fun c_74 => ?_)
            ·
              have e2 := bo_or0 (P := (fun k => decide (clM μ vp k = 1) && decide (ltM (uN (clM μ vp) k 0) (μ.2.1 3 vp) = ltM (clM μ vp) (μ.2.1 3 vp)))) (n := vk) (by show (decide _ && decide _) = false; rw [decide_eq_false (p := ltM (uN (clM μ vp) vk 0) (μ.2.1 3 vp) = ltM (clM μ vp) (μ.2.1 3 vp)) c_74, Bool.and_false])
              refine lv_iconst (v := nI 0) hx hb dX7_needless_84 (by decide) ?_
              refine n_ior hx hb dX7_needless_85 ?_
              refine lv_istore (lv' := [(4, .int (nI ((bo (fun k => decide (clM μ vp k = 1) && decide (ltM (uN (clM μ vp) k 0) (μ.2.1 3 vp) = ltM (clM μ vp) (μ.2.1 3 vp))) vk) ||| 0))), (0, .ref om), (1, .int (nI vp)), (2, .long (lN (ltM (clM μ vp) (μ.2.1 3 vp)))), (5, .int (nI vk))]) hx hb dX7_needless_86 hl (by decide) rfl (fun ls hl => ?_)
              refine lv_aload_n hx hb dX7_needless_88 rfl (lv_at hl 1 rfl) ?_
              refine kg (C := RX7) (T := TX7) (N := 32) (ci := 5) (k := 4) (v := .ref (om + 5)) S hK rfl inX7 (by decide) q_734 dX7_needless_89 hM rfl rfl ?_
              refine lv_bipush (v := nI 20) hx hb dX7_needless_92 (by decide) ?_
              refine lv_iload_n hx hb dX7_needless_94 rfl (lv_at hl 2 rfl) ?_
              refine n_imul hx hb dX7_needless_95 ?_
              refine lv_iload hx hb dX7_needless_96 (lv_at hl 4 rfl) ?_
              refine n_iadd hx hb dX7_needless_98 ?_
              refine lv_iconst (v := nI 1) hx hb dX7_needless_99 (by decide) ?_
              refine kis S hK dX7_needless_100 5 hM rfl (by decide) rfl (by omega) rfl (L1 := mL G om (uA (uA μ 4 ((20 * vp) + vk) 0) 4 ((20 * vp) + vk) 1)) rfl hS (by first | exact ⟨by omega, by omega⟩ | omega) (fun H locs hM hS hz hk => ?_)
              refine lv_iinc (v := nI (vk + 1)) (lv' := [(5, .int (nI (vk + 1))), (4, .int (nI ((bo (fun k => decide (clM μ vp k = 1) && decide (ltM (uN (clM μ vp) k 0) (μ.2.1 3 vp) = ltM (clM μ vp) (μ.2.1 3 vp))) vk) ||| 0))), (0, .ref om), (1, .int (nI vp)), (2, .long (lN (ltM (clM μ vp) (μ.2.1 3 vp))))]) hx hb dX7_needless_101 hl (k := 4) rfl (inc1 _) (by decide) rfl (fun ls hl => ?_)
              refine lv_goto (tgt := 26) hx hb dX7_needless_104 (by decide) ?_
              replace hl := lv_eq 1 hl rfl (v2 := .int (nI (bo (fun k => decide (clM μ vp k = 1) && decide (ltM (uN (clM μ vp) k 0) (μ.2.1 3 vp) = ltM (clM μ vp) (μ.2.1 3 vp))) (vk + 1)))) (congrArg (fun z => Value.int (nI z)) (show ((bo (fun k => decide (clM μ vp k = 1) && decide (ltM (uN (clM μ vp) k 0) (μ.2.1 3 vp) = ltM (clM μ vp) (μ.2.1 3 vp))) vk) ||| 0) = (bo (fun k => decide (clM μ vp k = 1) && decide (ltM (uN (clM μ vp) k 0) (μ.2.1 3 vp) = ltM (clM μ vp) (μ.2.1 3 vp))) (vk + 1)) from e2))
              replace hM := bk_eq hM (show mL G om (uA (uA μ 4 ((20 * vp) + vk) 0) 4 ((20 * vp) + vk) 1) = mL G om μ from by rw [ndl_e (show μ.2.1 4 (20 * vp + vk) = 1 from c_46)])
              exact ih26 (vk + 1) (by first | assumption | omega) (by omega) _ _ hM hS ls (lv_sub hl [2, 3, 4, 1, 0] rfl)
            ·
              have e2 := bo_or1 (P := (fun k => decide (clM μ vp k = 1) && decide (ltM (uN (clM μ vp) k 0) (μ.2.1 3 vp) = ltM (clM μ vp) (μ.2.1 3 vp)))) (n := vk) (by show (decide _ && decide _) = true; rw [decide_eq_true (p := ltM (uN (clM μ vp) vk 0) (μ.2.1 3 vp) = ltM (clM μ vp) (μ.2.1 3 vp)) c_74, decide_eq_true (p := clM μ vp vk = 1) c_46]; rfl)
              refine lv_iconst (v := nI 1) hx hb dX7_needless_77 (by decide) ?_
              refine lv_iload hx hb dX7_needless_78 (lv_at hl 4 rfl) ?_
              refine n_ishl hx hb dX7_needless_80 (by omega) ?_
              refine lv_goto (tgt := 85) hx hb dX7_needless_81 (by decide) ?_
              refine n_ior hx hb dX7_needless_85 ?_
              refine lv_istore (lv' := [(4, .int (nI ((bo (fun k => decide (clM μ vp k = 1) && decide (ltM (uN (clM μ vp) k 0) (μ.2.1 3 vp) = ltM (clM μ vp) (μ.2.1 3 vp))) vk) ||| (1 <<< vk)))), (0, .ref om), (1, .int (nI vp)), (2, .long (lN (ltM (clM μ vp) (μ.2.1 3 vp)))), (5, .int (nI vk))]) hx hb dX7_needless_86 hl (by decide) rfl (fun ls hl => ?_)
              refine lv_aload_n hx hb dX7_needless_88 rfl (lv_at hl 1 rfl) ?_
              refine kg (C := RX7) (T := TX7) (N := 32) (ci := 5) (k := 4) (v := .ref (om + 5)) S hK rfl inX7 (by decide) q_734 dX7_needless_89 hM rfl rfl ?_
              refine lv_bipush (v := nI 20) hx hb dX7_needless_92 (by decide) ?_
              refine lv_iload_n hx hb dX7_needless_94 rfl (lv_at hl 2 rfl) ?_
              refine n_imul hx hb dX7_needless_95 ?_
              refine lv_iload hx hb dX7_needless_96 (lv_at hl 4 rfl) ?_
              refine n_iadd hx hb dX7_needless_98 ?_
              refine lv_iconst (v := nI 1) hx hb dX7_needless_99 (by decide) ?_
              refine kis S hK dX7_needless_100 5 hM rfl (by decide) rfl (by omega) rfl (L1 := mL G om (uA (uA μ 4 ((20 * vp) + vk) 0) 4 ((20 * vp) + vk) 1)) rfl hS (by first | exact ⟨by omega, by omega⟩ | omega) (fun H locs hM hS hz hk => ?_)
              refine lv_iinc (v := nI (vk + 1)) (lv' := [(5, .int (nI (vk + 1))), (4, .int (nI ((bo (fun k => decide (clM μ vp k = 1) && decide (ltM (uN (clM μ vp) k 0) (μ.2.1 3 vp) = ltM (clM μ vp) (μ.2.1 3 vp))) vk) ||| (1 <<< vk)))), (0, .ref om), (1, .int (nI vp)), (2, .long (lN (ltM (clM μ vp) (μ.2.1 3 vp))))]) hx hb dX7_needless_101 hl (k := 4) rfl (inc1 _) (by decide) rfl (fun ls hl => ?_)
              refine lv_goto (tgt := 26) hx hb dX7_needless_104 (by decide) ?_
              replace hl := lv_eq 1 hl rfl (v2 := .int (nI (bo (fun k => decide (clM μ vp k = 1) && decide (ltM (uN (clM μ vp) k 0) (μ.2.1 3 vp) = ltM (clM μ vp) (μ.2.1 3 vp))) (vk + 1)))) (congrArg (fun z => Value.int (nI z)) (show ((bo (fun k => decide (clM μ vp k = 1) && decide (ltM (uN (clM μ vp) k 0) (μ.2.1 3 vp) = ltM (clM μ vp) (μ.2.1 3 vp))) vk) ||| (1 <<< vk)) = (bo (fun k => decide (clM μ vp k = 1) && decide (ltM (uN (clM μ vp) k 0) (μ.2.1 3 vp) = ltM (clM μ vp) (μ.2.1 3 vp))) (vk + 1)) from e2))
              replace hM := bk_eq hM (show mL G om (uA (uA μ 4 ((20 * vp) + vk) 0) 4 ((20 * vp) + vk) 1) = mL G om μ from by rw [ndl_e (show μ.2.1 4 (20 * vp + vk) = 1 from c_46)])
              exact ih26 (vk + 1) (by first | assumption | omega) (by omega) _ _ hM hS ls (lv_sub hl [2, 3, 4, 1, 0] rfl)
          ·
            have e2 : bo (fun k => decide (clM μ vp k = 1) && decide (ltM (uN (clM μ vp) k 0) (μ.2.1 3 vp) = ltM (clM μ vp) (μ.2.1 3 vp))) vk = bo (fun k => decide (clM μ vp k = 1) && decide (ltM (uN (clM μ vp) k 0) (μ.2.1 3 vp) = ltM (clM μ vp) (μ.2.1 3 vp))) (vk + 1) := (bo_f (P := (fun k => decide (clM μ vp k = 1) && decide (ltM (uN (clM μ vp) k 0) (μ.2.1 3 vp) = ltM (clM μ vp) (μ.2.1 3 vp)))) (by show (decide _ && decide _) = false; rw [decide_eq_false c_46]; rfl)).symm
            refine lv_goto (tgt := 101) hx hb dX7_needless_49 (by decide) ?_
            refine lv_iinc (v := nI (vk + 1)) (lv' := [(5, .int (nI (vk + 1))), (0, .ref om), (1, .int (nI vp)), (2, .long (lN (ltM (clM μ vp) (μ.2.1 3 vp)))), (4, .int (nI (bo (fun k => decide (clM μ vp k = 1) && decide (ltM (uN (clM μ vp) k 0) (μ.2.1 3 vp) = ltM (clM μ vp) (μ.2.1 3 vp))) vk)))]) hx hb dX7_needless_101 hl (k := 4) rfl (inc1 _) (by decide) rfl (fun ls hl => ?_)
            refine lv_goto (tgt := 26) hx hb dX7_needless_104 (by decide) ?_
            replace hl := lv_eq 4 hl rfl (v2 := .int (nI (bo (fun k => decide (clM μ vp k = 1) && decide (ltM (uN (clM μ vp) k 0) (μ.2.1 3 vp) = ltM (clM μ vp) (μ.2.1 3 vp))) (vk + 1)))) (congrArg (fun z => Value.int (nI z)) (show (bo (fun k => decide (clM μ vp k = 1) && decide (ltM (uN (clM μ vp) k 0) (μ.2.1 3 vp) = ltM (clM μ vp) (μ.2.1 3 vp))) vk) = (bo (fun k => decide (clM μ vp k = 1) && decide (ltM (uN (clM μ vp) k 0) (μ.2.1 3 vp) = ltM (clM μ vp) (μ.2.1 3 vp))) (vk + 1)) from e2))
            exact ih26 (vk + 1) (by first | assumption | omega) (by omega) _ _ hM hS ls (lv_sub hl [1, 2, 3, 4, 0] rfl)
    replace hl := lv_eq 1 hl rfl (v2 := .int (nI (bo (fun k => decide (clM μ vp k = 1) && decide (ltM (uN (clM μ vp) k 0) (μ.2.1 3 vp) = ltM (clM μ vp) (μ.2.1 3 vp))) 0))) (congrArg (fun z => Value.int (nI z)) (show 0 = (bo (fun k => decide (clM μ vp k = 1) && decide (ltM (uN (clM μ vp) k 0) (μ.2.1 3 vp) = ltM (clM μ vp) (μ.2.1 3 vp))) 0) from by first | rfl | omega))
    exact L26 ((20 - 0) + 1) 0 (Nat.zero_le _) (Nat.lt_succ_self _) _ _ hM hS ls (lv_sub hl [3, 4, 2, 1, 0] rfl)
  ·
    refine lv_aload_n hx hb dX7_needless_8 rfl (lv_at hl 0 rfl) ?_
    refine lv_iconst (v := (-1)) hx hb dX7_needless_9 (by decide) ?_
    refine ctV (rest := []) S hK (c_X7_refuse l G om μ (-1) 1 (by first | assumption | omega | decide) (by first | assumption | omega | decide)) cw_X7_72 rfl ⟨Nat.le_of_ble_eq_true rfl, Nat.le_of_ble_eq_true rfl⟩ ⟨Nat.le_of_ble_eq_true rfl, Nat.le_of_ble_eq_true rfl⟩ (bk.recv hK hM rfl rfl) hl.1 rfl (Nat.le_of_ble_eq_true rfl) dX7_needless_10 hM hS (fun _ h => h) (fun H locs hPost hz hk hS => ?_)
    have hM := hPost
    have hr : needless_M μ p = ((-1), uA μ 0 1 (μ.2.1 0 1 + 1)) := by unfold needless_M; simp [c_5]
    refine w_top (v' := .int ((needless_M μ p).1)) (congrArg (fun z => Value.int z) (congrArg Prod.fst hr).symm) ?_
    replace hM := bk_eq hM (show mL G om (uA μ 0 1 (μ.2.1 0 1 + 1)) = mL G om ((needless_M μ p).2) from by rw [hr])
    exact hE _ _ _ _ _ _ (kr_i dX7_needless_13) hS (by decide) (by decide) hM
