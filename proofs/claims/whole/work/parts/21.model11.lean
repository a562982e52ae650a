
/-! walks: the reference makes PARTS -/
/-- equal as far as it can be seen -/
def vis (σ μ : Sx) : Prop := (∀ k, k < 23 → σ.1 k = μ.1 k) ∧ (∀ k, k < 23 → (k = 0 ∨ 4 < k) → σ.2.1 k = μ.2.1 k) ∧ (∀ i, i < μ.1 16 → σ.2.1 1 i = μ.2.1 1 i ∧ σ.2.1 2 i = μ.2.1 2 i ∧ σ.2.1 3 i = μ.2.1 3 i) ∧ ∀ i, i < 20 * μ.1 16 → σ.2.1 4 i = μ.2.1 4 i
theorem vis_rf (μ : Sx) : vis μ μ := ⟨fun _ _ => rfl, fun _ _ _ => rfl, fun _ _ => ⟨rfl, rfl, rfl⟩, fun _ _ => rfl⟩
theorem vis_p {σ μ : Sx} (h : pth (μ.1 16) σ μ) : vis σ μ := ⟨h.1, h.2.1, fun i hi => h.2.2.1 i (by omega), fun i hi => h.2.2.2 i (by omega)⟩
theorem vis_s {σ μ : Sx} (h : scr σ μ) : vis σ μ := ⟨h.1, fun k hk _ => h.2 k hk, fun i _ => ⟨by rw [h.2 1 (by decide)], by rw [h.2 2 (by decide)], by rw [h.2 3 (by decide)]⟩, fun i _ => by rw [h.2 4 (by decide)]⟩
theorem pth_2 {p : Nat} {σ μ : Sx} (h : pth p σ μ) (k v : Nat) : pth p (uS σ k v) (uS μ k v) := ⟨fun j hj => by
  show (if j = k then v else σ.1 j) = (if j = k then v else μ.1 j)
  by_cases e : j = k
  · rw [if_pos e, if_pos e]
  · rw [if_neg e, if_neg e, h.1 j hj], h.2⟩
/-- a state with one part more -/
def nwP (μ : Sx) (w h f : Nat) (c : Nat → Nat) : Sx := uS (uR (uA (uA (uA μ 1 (μ.1 16) w) 2 (μ.1 16) h) 3 (μ.1 16) f) 4 (fun i => if 20 * μ.1 16 ≤ i ∧ i < 20 * μ.1 16 + 20 then c (i - 20 * μ.1 16) else μ.2.1 4 i)) 16 (μ.1 16 + 1)
/-- a part more, as it stands -/
def NW (μ : Sx) (w h f : Nat) (c : Nat → Nat) (ρ : Sx) : Prop := pth (μ.1 16) ρ μ ∧ ρ.2.1 1 (μ.1 16) = w ∧ ρ.2.1 2 (μ.1 16) = h ∧ ρ.2.1 3 (μ.1 16) = f ∧ ∀ k, k < 20 → ρ.2.1 4 (20 * μ.1 16 + k) = c k
theorem vis_nw {ρ μ : Sx} {w h f : Nat} {c : Nat → Nat} (q : NW μ w h f c ρ) : vis (uS ρ 16 (μ.1 16 + 1)) (nwP μ w h f c) := by
  obtain ⟨h0, h1, h2, h3, h4⟩ := q
  refine ⟨fun k hk => ?_, fun k hk hk2 => ?_, fun i hi => ?_, fun i hi => ?_⟩
  · show (if k = 16 then μ.1 16 + 1 else ρ.1 k) = (if k = 16 then μ.1 16 + 1 else μ.1 k)
    by_cases e : k = 16
    · rw [if_pos e, if_pos e]
    · rw [if_neg e, if_neg e]
      exact h0.1 k hk
  · show ρ.2.1 k = (if k = 4 then _ else (uA (uA (uA μ 1 (μ.1 16) w) 2 (μ.1 16) h) 3 (μ.1 16) f).2.1 k)
    rw [if_neg (by omega), aA_n (by omega), aA_n (by omega), aA_n (by omega)]
    exact h0.2.1 k hk hk2
  · have hi2 : i < μ.1 16 + 1 := hi
    show ρ.2.1 1 i = (uA (uA (uA μ 1 (μ.1 16) w) 2 (μ.1 16) h) 3 (μ.1 16) f).2.1 1 i ∧ ρ.2.1 2 i = (uA (uA (uA μ 1 (μ.1 16) w) 2 (μ.1 16) h) 3 (μ.1 16) f).2.1 2 i ∧ ρ.2.1 3 i = (uA (uA (uA μ 1 (μ.1 16) w) 2 (μ.1 16) h) 3 (μ.1 16) f).2.1 3 i
    rw [aA_n (show ¬ (1 : Nat) = 3 from by decide), aA_n (show ¬ (1 : Nat) = 2 from by decide), aA_n (show ¬ (2 : Nat) = 3 from by decide), aA_e, aA_e, aA_e, aA_n (show ¬ (2 : Nat) = 1 from by decide), aA_n (show ¬ (3 : Nat) = 2 from by decide), aA_n (show ¬ (3 : Nat) = 1 from by decide)]
    by_cases e : i = μ.1 16
    · subst e
      rw [if_pos rfl, if_pos rfl, if_pos rfl]
      exact ⟨h1, h2, h3⟩
    · rw [if_neg e, if_neg e, if_neg e]
      exact h0.2.2.1 i e
  · show ρ.2.1 4 i = (if 20 * μ.1 16 ≤ i ∧ i < 20 * μ.1 16 + 20 then c (i - 20 * μ.1 16) else μ.2.1 4 i)
    by_cases e : 20 * μ.1 16 ≤ i ∧ i < 20 * μ.1 16 + 20
    · rw [if_pos e, ← h4 (i - 20 * μ.1 16) (by omega), show 20 * μ.1 16 + (i - 20 * μ.1 16) = i from by omega]
    · rw [if_neg e]
      exact h0.2.2.2 i e
def part_M (μ : Sx) : Int32 × Sx := if μ.1 16 = 24 then (-6, rfM μ 6) else match rdF μ with
  | (q, none) => ((-20) - nI q, uS μ 22 0)
  | (_, some (w, h, f)) => (nI (μ.1 16), nwP (uS μ 22 0) w h f (rdc (μ.2.1 21) w 0 h))
def rtt : Nat → Nat → Nat → Nat → Nat → Nat × Nat
  | 0, _, _, a, b => (a, b)
  | k + 1, w, h, a, b => rtt k h w (h - 1 - b) a
/-- where turning brings a CELL -/
abbrev trn (w h x y mi q : Nat) : Nat × Nat := rtt q w h (if mi = 0 then x else w - 1 - x) y
/-- the codes of the turned, the mirrored, the same -/
def tnC (w h : Nat) (c : Nat → Nat) (k : Nat) : Nat := if k % 5 < h ∧ k / 5 < w then c (5 * (h - 1 - k % 5) + k / 5) else 0
def miC (w h : Nat) (c : Nat → Nat) (k : Nat) : Nat := if k % 5 < w ∧ k / 5 < h then c (5 * (k / 5) + (w - 1 - k % 5)) else 0
def idC (w h : Nat) (c : Nat → Nat) (k : Nat) : Nat := if k % 5 < w ∧ k / 5 < h then c k else 0
def turn_M (μ : Sx) (p : Int32) : Int32 × Sx := if inI p (μ.1 16) then (if μ.1 16 = 24 then (-6, rfM μ 6) else if μ.2.1 1 (cx p) = 5 then (-3, rfM μ 3) else (nI (μ.1 16), nwP μ (μ.2.1 2 (cx p)) (μ.2.1 1 (cx p)) (μ.2.1 3 (cx p)) (tnC (μ.2.1 1 (cx p)) (μ.2.1 2 (cx p)) (clM μ (cx p))))) else (-1, rfM μ 1)
def mirror_M (μ : Sx) (p : Int32) : Int32 × Sx := if inI p (μ.1 16) then (if μ.1 16 = 24 then (-6, rfM μ 6) else (nI (μ.1 16), nwP μ (μ.2.1 1 (cx p)) (μ.2.1 2 (cx p)) (μ.2.1 3 (cx p)) (miC (μ.2.1 1 (cx p)) (μ.2.1 2 (cx p)) (clM μ (cx p))))) else (-1, rfM μ 1)

set_option maxHeartbeats 1000000 in
set_option maxRecDepth 100000 in
theorem c_X7_part (l : Launch) (G : Gt) (om : Nat) (μ : Sx) (h0 : MI0 μ) (hIt : MIt μ) : Ct l G yX7_part cX7_part 2 ((some .int)) 2 0 0 [.ref om] (fun H => bk G om (mL G om μ) H) (some (.int ((part_M μ).1))) (fun H => ∃ σ : Sx, bk G om (mL G om σ) H ∧ vis σ (part_M μ).2) (fun q => om ≤ q ∧ q < om + 20) := by
  refine ct_entry [(0, .ref om)] (by decide) (Nat.le_of_ble_eq_true rfl) rfl ?_
  intro zp ze zs zm za zb zt zc Q S hK hPre hin hE ls hl
  have hx := S.1
  have hb := S.2.1
  have hM := hPre
  have hS : va_S (fun q => om ≤ q ∧ q < om + 20) zs.heap zs.heap [] := va_S.rf
  have hp24 := h0.1
  have ht40 := hIt.1
  refine lv_aload_n hx hb dX7_part_0 rfl (lv_at hl 0 rfl) ?_
  refine kg (C := RX7) (T := TX7) (N := 32) (ci := 5) (k := 16) (v := .int (nI (μ.1 16))) S hK rfl inX7 (by decide) q_746 dX7_part_1 hM rfl rfl ?_
  refine lv_bipush (v := nI 24) hx hb dX7_part_4 (by decide) ?_
  refine n_icmp_ne (tgt := 16) hx hb dX7_part_6 (by decide) (by omega) (by decide) (fun c_6 => ?_) (fun c_6 => ?_)
  ·
    refine lv_aload_n hx hb dX7_part_16 rfl (lv_at hl 0 rfl) ?_
    refine lv_aload_n hx hb dX7_part_17 rfl (lv_at hl 0 rfl) ?_
    refine kg (C := RX7) (T := TX7) (N := 32) (ci := 5) (k := 16) (v := .int (nI (μ.1 16))) S hK rfl inX7 (by decide) q_746 dX7_part_18 hM rfl rfl ?_
    refine ctV (rest := []) S hK (c_X7_readsBoard l G om μ (μ.1 16) (by omega) (by first | assumption | omega | decide)) cw_X7_99 rfl ⟨Nat.le_of_ble_eq_true rfl, Nat.le_of_ble_eq_true rfl⟩ ⟨Nat.le_of_ble_eq_true rfl, Nat.le_of_ble_eq_true rfl⟩ (bk.recv hK hM rfl rfl) hl.1 rfl (Nat.le_of_ble_eq_true rfl) dX7_part_21 hM hS (fun _ h => h) (fun H locs hPost hz hk hS => ?_)
    obtain ⟨g21, hM, hq21⟩ := hPost
    obtain ⟨hP, h23, hok⟩ := hq21
    have h16 : g21.1 16 = μ.1 16 := hP.1 16 (by decide)
    refine lv_istore_n (lv' := [(1, .int (b2i ((rdF μ).2.isSome))), (0, .ref om)]) hx hb dX7_part_24 rfl hl (by decide) rfl (fun ls hl => ?_)
    refine lv_aload_n hx hb dX7_part_25 rfl (lv_at hl 1 rfl) ?_
    refine lv_iconst (v := nI 0) hx hb dX7_part_26 (by decide) ?_
    refine kp (C := RX7) (T := TX7) (N := 32) (ci := 5) (k := 22) (ty := .int) tyX7 tyX7_ok nmX7 S hK rfl inX7 (by decide) q_752 rfl dX7_part_27 rfl rfl rfl hM rfl (Nat.le_of_ble_eq_true rfl) (L1 := mL G om (uS g21 22 0)) rfl hS (by first | exact ⟨by omega, by omega⟩ | omega) (fun H locs hM hS hz hk => ?_)
    refine lv_iload_n hx hb dX7_part_30 rfl (lv_at hl 0 rfl) ?_
    refine z_if_ne (tgt := 42) hx hb dX7_part_31 (by decide) (fun c_31 => ?_) (fun c_31 => ?_)
    ·
      obtain ⟨vw, vh, vf, hrd⟩ : ∃ w h f, rdF μ = ((rdF μ).1, some (w, h, f)) := by
        rcases hq : rdF μ with ⟨q, _ | ⟨w, h, f⟩⟩
        · rw [hq] at c_31; cases c_31
        · exact ⟨w, h, f, rfl⟩
      obtain ⟨k1, k2, k3, k4⟩ := hok vw vh vf (by rw [hrd])
      have hr : part_M μ = (nI (μ.1 16), nwP (uS μ 22 0) vw vh vf (rdc (μ.2.1 21) vw 0 vh)) := by unfold part_M; rw [if_neg (by omega), hrd]
      refine lv_aload_n hx hb dX7_part_42 rfl (lv_at hl 1 rfl) ?_
      refine lv_dup hx hb dX7_part_43 rfl ?_
      refine kg (C := RX7) (T := TX7) (N := 32) (ci := 5) (k := 16) (v := .int (nI (g21.1 16))) S hK rfl inX7 (by decide) q_746 dX7_part_44 hM rfl rfl ?_
      refine lv_iconst (v := nI 1) hx hb dX7_part_47 (by decide) ?_
      refine n_iadd hx hb dX7_part_48 ?_
      refine kp (C := RX7) (T := TX7) (N := 32) (ci := 5) (k := 16) (ty := .int) tyX7 tyX7_ok nmX7 S hK rfl inX7 (by decide) q_746 rfl dX7_part_49 rfl rfl rfl hM rfl (Nat.le_of_ble_eq_true rfl) (L1 := mL G om (uS (uS g21 22 0) 16 ((g21.1 16) + 1))) rfl hS (by first | exact ⟨by omega, by omega⟩ | omega) (fun H locs hM hS hz hk => ?_)
      refine lv_aload_n hx hb dX7_part_52 rfl (lv_at hl 1 rfl) ?_
      refine kg (C := RX7) (T := TX7) (N := 32) (ci := 5) (k := 16) (v := .int (nI ((g21.1 16) + 1))) S hK rfl inX7 (by decide) q_746 dX7_part_53 hM rfl rfl ?_
      refine lv_iconst (v := nI 1) hx hb dX7_part_56 (by decide) ?_
      refine n_isub hx hb dX7_part_57 (by omega) ?_
      refine w_top (v' := .int ((part_M μ).1)) (show (.int (nI (((g21.1 16) + 1) - 1)) : Value) = .int ((part_M μ).1) from (by rw [hr]; show Value.int (nI (g21.1 16 + 1 - 1)) = _; rw [h16]; rfl)) ?_
      exact hE _ _ _ _ _ _ (kr_i dX7_part_58) hS (by decide) (by decide) ⟨(uS (uS g21 22 0) 16 ((g21.1 16) + 1)), hM, (by
        rw [hr]
        show vis (uS (uS g21 22 0) 16 (g21.1 16 + 1)) _
        rw [h16]
        exact vis_nw (μ := uS μ 22 0) ⟨pth_2 hP 22 0, k1, k2, k3, k4⟩)⟩
    ·
      have hrd : rdF μ = ((rdF μ).1, none) := by
        rcases hq : rdF μ with ⟨q, _ | z⟩
        · rfl
        · rw [hq] at c_31; cases c_31
      have hr : part_M μ = ((-20) - nI (rdF μ).1, uS μ 22 0) := by unfold part_M; rw [if_neg (by omega), hrd]
      refine lv_bipush (v := (-20)) hx hb dX7_part_34 (by decide) ?_
      refine lv_aload_n hx hb dX7_part_36 rfl (lv_at hl 1 rfl) ?_
      refine kg (C := RX7) (T := TX7) (N := 32) (ci := 5) (k := 23) (v := .int (nI (g21.1 23))) S hK rfl inX7 (by decide) q_753 dX7_part_37 hM rfl rfl ?_
      refine lv_isub hx hb dX7_part_40 ?_
      refine w_top (v' := .int ((part_M μ).1)) (congrArg (fun z => Value.int z) (show ((-20) - (nI (g21.1 23))) = ((part_M μ).1) from (by rw [hr, h23]))) ?_
      exact hE _ _ _ _ _ _ (kr_i dX7_part_41) hS (by decide) (by decide) ⟨(uS g21 22 0), hM, (by rw [hr]; exact vis_p (pth_2 hP 22 0))⟩
  ·
    refine lv_aload_n hx hb dX7_part_9 rfl (lv_at hl 0 rfl) ?_
    refine lv_bipush (v := (-6)) hx hb dX7_part_10 (by decide) ?_
    refine ctV (rest := []) S hK (c_X7_refuse l G om μ (-6) 6 (by first | assumption | omega | decide) (by first | assumption | omega | decide)) cw_X7_72 rfl ⟨Nat.le_of_ble_eq_true rfl, Nat.le_of_ble_eq_true rfl⟩ ⟨Nat.le_of_ble_eq_true rfl, Nat.le_of_ble_eq_true rfl⟩ (bk.recv hK hM rfl rfl) hl.1 rfl (Nat.le_of_ble_eq_true rfl) dX7_part_12 hM hS (fun _ h => h) (fun H locs hPost hz hk hS => ?_)
    have hM := hPost
    have hr : part_M μ = ((-6), uA μ 0 6 (μ.2.1 0 6 + 1)) := by unfold part_M; rw [if_pos (by omega)]
    refine w_top (v' := .int ((part_M μ).1)) (congrArg (fun z => Value.int z) (congrArg Prod.fst hr).symm) ?_
    exact hE _ _ _ _ _ _ (kr_i dX7_part_15) hS (by decide) (by decide) ⟨(uA μ 0 6 (μ.2.1 0 6 + 1)), hM, (by rw [hr]; exact vis_rf _)⟩

set_option maxHeartbeats 1000000 in
set_option maxRecDepth 100000 in
theorem c_X7_turned (l : Launch) (G : Gt) (om : Nat) (μ : Sx) (p : Nat) (x : Nat) (y : Nat) (mi : Nat) (q : Nat) (hp : p < 25) (hx1 : x < μ.2.1 1 p) (hy1 : y < μ.2.1 2 p) (hw5 : μ.2.1 1 p ≤ 5) (hh5 : μ.2.1 2 p ≤ 5) (hmi : mi < 2) (hq4 : q < 4) : Cr l G yX7_turned cX7_turned 12 ((some .int)) 0 [.ref om, .int (nI p), .int (nI x), .int (nI y), .int (nI mi), .int (nI q)] (fun H => bk G om (mL G om μ) H) (some (.int (nI (10 * (trn (μ.2.1 1 p) (μ.2.1 2 p) x y mi q).1 + (trn (μ.2.1 1 p) (μ.2.1 2 p) x y mi q).2)))) := by
  refine cr_entry [(0, .ref om), (1, .int (nI p)), (2, .int (nI x)), (3, .int (nI y)), (4, .int (nI mi)), (5, .int (nI q))] (by decide) (Nat.le_of_ble_eq_true rfl) rfl ?_
  intro zp ze zs zm za zb zt zc Q S hK hPre hE ls hl
  have hx := S.1
  have hb := S.2.1
  have hM := hPre
  refine lv_aload_n hx hb dX7_turned_0 rfl (lv_at hl 0 rfl) ?_
  refine kg (C := RX7) (T := TX7) (N := 32) (ci := 5) (k := 1) (v := .ref (om + 2)) S hK rfl inX7 (by decide) q_731 dX7_turned_1 hM rfl rfl ?_
  refine lv_iload_n hx hb dX7_turned_4 rfl (lv_at hl 1 rfl) ?_
  refine kil (f := μ.2.1 1) S hK dX7_turned_5 2 hM rfl (by decide) rfl (by omega) ?_
  refine lv_istore (lv' := [(6, .int (nI (μ.2.1 1 p))), (0, .ref om), (1, .int (nI p)), (2, .int (nI x)), (3, .int (nI y)), (4, .int (nI mi)), (5, .int (nI q))]) hx hb dX7_turned_6 hl (by decide) rfl (fun ls hl => ?_)
  refine lv_aload_n hx hb dX7_turned_8 rfl (lv_at hl 1 rfl) ?_
  refine kg (C := RX7) (T := TX7) (N := 32) (ci := 5) (k := 2) (v := .ref (om + 3)) S hK rfl inX7 (by decide) q_732 dX7_turned_9 hM rfl rfl ?_
  refine lv_iload_n hx hb dX7_turned_12 rfl (lv_at hl 2 rfl) ?_
  refine kil (f := μ.2.1 2) S hK dX7_turned_13 3 hM rfl (by decide) rfl (by omega) ?_
  refine lv_istore (lv' := [(7, .int (nI (μ.2.1 2 p))), (6, .int (nI (μ.2.1 1 p))), (0, .ref om), (1, .int (nI p)), (2, .int (nI x)), (3, .int (nI y)), (4, .int (nI mi)), (5, .int (nI q))]) hx hb dX7_turned_14 hl (by decide) rfl (fun ls hl => ?_)
  refine lv_iload hx hb dX7_turned_16 (lv_at hl 6 rfl) ?_
  refine n_if_eq (tgt := 30) hx hb dX7_turned_18 (by decide) (by omega) (fun c_18 => ?_) (fun c_18 => ?_)
  ·
    refine lv_iload_n hx hb dX7_turned_30 rfl (lv_at hl 4 rfl) ?_
    refine lv_istore (lv' := [(8, .int (nI x)), (7, .int (nI (μ.2.1 2 p))), (6, .int (nI (μ.2.1 1 p))), (0, .ref om), (1, .int (nI p)), (2, .int (nI x)), (3, .int (nI y)), (4, .int (nI mi)), (5, .int (nI q))]) hx hb dX7_turned_31 hl (by decide) rfl (fun ls hl => ?_)
    refine lv_iload_n hx hb dX7_turned_33 rfl (lv_at hl 6 rfl) ?_
    refine lv_istore (lv' := [(9, .int (nI y)), (8, .int (nI x)), (7, .int (nI (μ.2.1 2 p))), (6, .int (nI (μ.2.1 1 p))), (0, .ref om), (1, .int (nI p)), (2, .int (nI x)), (3, .int (nI y)), (4, .int (nI mi)), (5, .int (nI q))]) hx hb dX7_turned_34 hl (by decide) rfl (fun ls hl => ?_)
    refine lv_iconst (v := nI 0) hx hb dX7_turned_36 (by decide) ?_
    refine lv_istore (lv' := [(10, .int (nI 0)), (9, .int (nI y)), (8, .int (nI x)), (7, .int (nI (μ.2.1 2 p))), (6, .int (nI (μ.2.1 1 p))), (0, .ref om), (1, .int (nI p)), (2, .int (nI x)), (3, .int (nI y)), (4, .int (nI mi)), (5, .int (nI q))]) hx hb dX7_turned_37 hl (by decide) rfl (fun ls hl => ?_)
    have L39 : ∀ (fu : Nat), ∀ (vw : Nat) (vh : Nat) (va : Nat) (vb : Nat) (vk : Nat), (va < vw) → (vb < vh) → (vw ≤ 5) → (vh ≤ 5) → (vk ≤ q) → (trn (μ.2.1 1 p) (μ.2.1 2 p) x y mi q = rtt (q - vk) vw vh va vb) → q - vk < fu → ∀ ls : Array Slot, lv_has ls 12 [(0, .ref om), (5, .int (nI q)), (6, .int (nI vw)), (7, .int (nI vh)), (8, .int (nI va)), (9, .int (nI vb)), (10, .int (nI vk))] → W zp l ze (rL 0 0 0) zs zm za zb zt zc zs.heap [] 0 0 Q (F0 zm 39 ls []) := by
      intro fu
      induction fu with
      | zero =>
        intro vw vh va vb vk h1 h2 h3 h4 h5 h6 hmu ls hl
        exact absurd hmu (Nat.not_lt_zero _)
      | succ fu ih39 =>
        intro vw vh va vb vk h1 h2 h3 h4 h5 h6 hmu ls hl
        refine lv_iload hx hb dX7_turned_39 (lv_at hl 6 rfl) ?_
        refine lv_iload hx hb dX7_turned_41 (lv_at hl 1 rfl) ?_
        refine n_icmp_ge (tgt := 81) hx hb dX7_turned_43 (by decide) (by omega) (by omega) (fun c_43 => ?_) (fun c_43 => ?_)
        ·
          have hr : trn (μ.2.1 1 p) (μ.2.1 2 p) x y mi q = (va, vb) := by rw [h6, show q - vk = 0 from by omega]; rfl
          refine lv_bipush (v := nI 10) hx hb dX7_turned_81 (by decide) ?_
          refine lv_iload hx hb dX7_turned_83 (lv_at hl 4 rfl) ?_
          refine n_imul hx hb dX7_turned_85 ?_
          refine lv_iload hx hb dX7_turned_86 (lv_at hl 5 rfl) ?_
          refine n_iadd hx hb dX7_turned_88 ?_
          refine w_top (v' := .int (nI (10 * (trn (μ.2.1 1 p) (μ.2.1 2 p) x y mi q).1 + (trn (μ.2.1 1 p) (μ.2.1 2 p) x y mi q).2))) (congrArg (fun z => Value.int (nI z)) (show ((10 * va) + vb) = (10 * (trn (μ.2.1 1 p) (μ.2.1 2 p) x y mi q).1 + (trn (μ.2.1 1 p) (μ.2.1 2 p) x y mi q).2) from (by rw [hr]))) ?_
          exact hE _ _ (kr_i dX7_turned_89)
        ·
          refine lv_iload hx hb dX7_turned_46 (lv_at hl 3 rfl) ?_
          refine lv_iconst (v := nI 1) hx hb dX7_turned_48 (by decide) ?_
          refine n_isub hx hb dX7_turned_49 (by omega) ?_
          refine lv_iload hx hb dX7_turned_50 (lv_at hl 5 rfl) ?_
          refine n_isub hx hb dX7_turned_52 (by omega) ?_
          refine lv_istore (lv' := [(11, .int (nI ((vh - 1) - vb))), (0, .ref om), (5, .int (nI q)), (6, .int (nI vw)), (7, .int (nI vh)), (8, .int (nI va)), (9, .int (nI vb)), (10, .int (nI vk))]) hx hb dX7_turned_53 hl (by decide) rfl (fun ls hl => ?_)
          refine lv_iload hx hb dX7_turned_55 (lv_at hl 5 rfl) ?_
          refine lv_istore (lv' := [(9, .int (nI va)), (11, .int (nI ((vh - 1) - vb))), (0, .ref om), (5, .int (nI q)), (6, .int (nI vw)), (7, .int (nI vh)), (8, .int (nI va)), (10, .int (nI vk))]) hx hb dX7_turned_57 hl (by decide) rfl (fun ls hl => ?_)
          refine lv_iload hx hb dX7_turned_59 (lv_at hl 1 rfl) ?_
          refine lv_istore (lv' := [(8, .int (nI ((vh - 1) - vb))), (9, .int (nI va)), (11, .int (nI ((vh - 1) - vb))), (0, .ref om), (5, .int (nI q)), (6, .int (nI vw)), (7, .int (nI vh)), (10, .int (nI vk))]) hx hb dX7_turned_61 hl (by decide) rfl (fun ls hl => ?_)
          refine lv_iload hx hb dX7_turned_63 (lv_at hl 5 rfl) ?_
          refine lv_istore (lv' := [(11, .int (nI vw)), (8, .int (nI ((vh - 1) - vb))), (9, .int (nI va)), (0, .ref om), (5, .int (nI q)), (6, .int (nI vw)), (7, .int (nI vh)), (10, .int (nI vk))]) hx hb dX7_turned_65 hl (by decide) rfl (fun ls hl => ?_)
          refine lv_iload hx hb dX7_turned_67 (lv_at hl 6 rfl) ?_
          refine lv_istore (lv' := [(6, .int (nI vh)), (11, .int (nI vw)), (8, .int (nI ((vh - 1) - vb))), (9, .int (nI va)), (0, .ref om), (5, .int (nI q)), (7, .int (nI vh)), (10, .int (nI vk))]) hx hb dX7_turned_69 hl (by decide) rfl (fun ls hl => ?_)
          refine lv_iload hx hb dX7_turned_71 (lv_at hl 1 rfl) ?_
          refine lv_istore (lv' := [(7, .int (nI vw)), (6, .int (nI vh)), (11, .int (nI vw)), (8, .int (nI ((vh - 1) - vb))), (9, .int (nI va)), (0, .ref om), (5, .int (nI q)), (10, .int (nI vk))]) hx hb dX7_turned_73 hl (by decide) rfl (fun ls hl => ?_)
          refine lv_iinc (v := nI (vk + 1)) (lv' := [(10, .int (nI (vk + 1))), (7, .int (nI vw)), (6, .int (nI vh)), (11, .int (nI vw)), (8, .int (nI ((vh - 1) - vb))), (9, .int (nI va)), (0, .ref om), (5, .int (nI q))]) hx hb dX7_turned_75 hl (k := 7) rfl (inc1 _) (by decide) rfl (fun ls hl => ?_)
          refine lv_goto (tgt := 39) hx hb dX7_turned_78 (by decide) ?_
          exact ih39 vh vw ((vh - 1) - vb) va (vk + 1) (by omega) (by first | assumption | omega) (by first | assumption | omega) (by first | assumption | omega) (by first | assumption | omega) (by rw [h6, show q - vk = (q - (vk + 1)) + 1 from by omega]; rfl) (by omega) ls (lv_sub hl [6, 7, 2, 1, 4, 5, 0] rfl)
    exact L39 ((q - 0) + 1) (μ.2.1 1 p) (μ.2.1 2 p) x y 0 (by omega) (by first | assumption | omega) (by first | assumption | omega) (by first | assumption | omega) (Nat.zero_le _) (by show rtt q _ _ (if mi = 0 then x else _) y = _; rw [if_pos c_18]; rfl) (Nat.lt_succ_self _) ls (lv_sub hl [5, 10, 4, 3, 2, 1, 0] rfl)
  ·
    refine lv_iload hx hb dX7_turned_21 (lv_at hl 1 rfl) ?_
    refine lv_iconst (v := nI 1) hx hb dX7_turned_23 (by decide) ?_
    refine n_isub hx hb dX7_turned_24 (by omega) ?_
    refine lv_iload_n hx hb dX7_turned_25 rfl (lv_at hl 4 rfl) ?_
    refine n_isub hx hb dX7_turned_26 (by omega) ?_
    refine lv_goto (tgt := 31) hx hb dX7_turned_27 (by decide) ?_
    refine lv_istore (lv' := [(8, .int (nI (((μ.2.1 1 p) - 1) - x))), (7, .int (nI (μ.2.1 2 p))), (6, .int (nI (μ.2.1 1 p))), (0, .ref om), (1, .int (nI p)), (2, .int (nI x)), (3, .int (nI y)), (4, .int (nI mi)), (5, .int (nI q))]) hx hb dX7_turned_31 hl (by decide) rfl (fun ls hl => ?_)
    refine lv_iload_n hx hb dX7_turned_33 rfl (lv_at hl 6 rfl) ?_
    refine lv_istore (lv' := [(9, .int (nI y)), (8, .int (nI (((μ.2.1 1 p) - 1) - x))), (7, .int (nI (μ.2.1 2 p))), (6, .int (nI (μ.2.1 1 p))), (0, .ref om), (1, .int (nI p)), (2, .int (nI x)), (3, .int (nI y)), (4, .int (nI mi)), (5, .int (nI q))]) hx hb dX7_turned_34 hl (by decide) rfl (fun ls hl => ?_)
    refine lv_iconst (v := nI 0) hx hb dX7_turned_36 (by decide) ?_
    refine lv_istore (lv' := [(10, .int (nI 0)), (9, .int (nI y)), (8, .int (nI (((μ.2.1 1 p) - 1) - x))), (7, .int (nI (μ.2.1 2 p))), (6, .int (nI (μ.2.1 1 p))), (0, .ref om), (1, .int (nI p)), (2, .int (nI x)), (3, .int (nI y)), (4, .int (nI mi)), (5, .int (nI q))]) hx hb dX7_turned_37 hl (by decide) rfl (fun ls hl => ?_)
    have L39 : ∀ (fu : Nat), ∀ (vw : Nat) (vh : Nat) (va : Nat) (vb : Nat) (vk : Nat), (va < vw) → (vb < vh) → (vw ≤ 5) → (vh ≤ 5) → (vk ≤ q) → (trn (μ.2.1 1 p) (μ.2.1 2 p) x y mi q = rtt (q - vk) vw vh va vb) → q - vk < fu → ∀ ls : Array Slot, lv_has ls 12 [(0, .ref om), (5, .int (nI q)), (6, .int (nI vw)), (7, .int (nI vh)), (8, .int (nI va)), (9, .int (nI vb)), (10, .int (nI vk))] → W zp l ze (rL 0 0 0) zs zm za zb zt zc zs.heap [] 0 0 Q (F0 zm 39 ls []) := by
      intro fu
      induction fu with
      | zero =>
        intro vw vh va vb vk h1 h2 h3 h4 h5 h6 hmu ls hl
        exact absurd hmu (Nat.not_lt_zero _)
      | succ fu ih39 =>
        intro vw vh va vb vk h1 h2 h3 h4 h5 h6 hmu ls hl
        refine lv_iload hx hb dX7_turned_39 (lv_at hl 6 rfl) ?_
        refine lv_iload hx hb dX7_turned_41 (lv_at hl 1 rfl) ?_
        refine n_icmp_ge (tgt := 81) hx hb dX7_turned_43 (by decide) (by omega) (by omega) (fun c_43 => ?_) (fun c_43 => ?_)
        ·
          have hr : trn (μ.2.1 1 p) (μ.2.1 2 p) x y mi q = (va, vb) := by rw [h6, show q - vk = 0 from by omega]; rfl
          refine lv_bipush (v := nI 10) hx hb dX7_turned_81 (by decide) ?_
          refine lv_iload hx hb dX7_turned_83 (lv_at hl 4 rfl) ?_
          refine n_imul hx hb dX7_turned_85 ?_
          refine lv_iload hx hb dX7_turned_86 (lv_at hl 5 rfl) ?_
          refine n_iadd hx hb dX7_turned_88 ?_
          refine w_top (v' := .int (nI (10 * (trn (μ.2.1 1 p) (μ.2.1 2 p) x y mi q).1 + (trn (μ.2.1 1 p) (μ.2.1 2 p) x y mi q).2))) (congrArg (fun z => Value.int (nI z)) (show ((10 * va) + vb) = (10 * (trn (μ.2.1 1 p) (μ.2.1 2 p) x y mi q).1 + (trn (μ.2.1 1 p) (μ.2.1 2 p) x y mi q).2) from (by rw [hr]))) ?_
          exact hE _ _ (kr_i dX7_turned_89)
        ·
          refine lv_iload hx hb dX7_turned_46 (lv_at hl 3 rfl) ?_
          refine lv_iconst (v := nI 1) hx hb dX7_turned_48 (by decide) ?_
          refine n_isub hx hb dX7_turned_49 (by omega) ?_
          refine lv_iload hx hb dX7_turned_50 (lv_at hl 5 rfl) ?_
          refine n_isub hx hb dX7_turned_52 (by omega) ?_
          refine lv_istore (lv' := [(11, .int (nI ((vh - 1) - vb))), (0, .ref om), (5, .int (nI q)), (6, .int (nI vw)), (7, .int (nI vh)), (8, .int (nI va)), (9, .int (nI vb)), (10, .int (nI vk))]) hx hb dX7_turned_53 hl (by decide) rfl (fun ls hl => ?_)
          refine lv_iload hx hb dX7_turned_55 (lv_at hl 5 rfl) ?_
          refine lv_istore (lv' := [(9, .int (nI va)), (11, .int (nI ((vh - 1) - vb))), (0, .ref om), (5, .int (nI q)), (6, .int (nI vw)), (7, .int (nI vh)), (8, .int (nI va)), (10, .int (nI vk))]) hx hb dX7_turned_57 hl (by decide) rfl (fun ls hl => ?_)
          refine lv_iload hx hb dX7_turned_59 (lv_at hl 1 rfl) ?_
          refine lv_istore (lv' := [(8, .int (nI ((vh - 1) - vb))), (9, .int (nI va)), (11, .int (nI ((vh - 1) - vb))), (0, .ref om), (5, .int (nI q)), (6, .int (nI vw)), (7, .int (nI vh)), (10, .int (nI vk))]) hx hb dX7_turned_61 hl (by decide) rfl (fun ls hl => ?_)
          refine lv_iload hx hb dX7_turned_63 (lv_at hl 5 rfl) ?_
          refine lv_istore (lv' := [(11, .int (nI vw)), (8, .int (nI ((vh - 1) - vb))), (9, .int (nI va)), (0, .ref om), (5, .int (nI q)), (6, .int (nI vw)), (7, .int (nI vh)), (10, .int (nI vk))]) hx hb dX7_turned_65 hl (by decide) rfl (fun ls hl => ?_)
          refine lv_iload hx hb dX7_turned_67 (lv_at hl 6 rfl) ?_
          refine lv_istore (lv' := [(6, .int (nI vh)), (11, .int (nI vw)), (8, .int (nI ((vh - 1) - vb))), (9, .int (nI va)), (0, .ref om), (5, .int (nI q)), (7, .int (nI vh)), (10, .int (nI vk))]) hx hb dX7_turned_69 hl (by decide) rfl (fun ls hl => ?_)
          refine lv_iload hx hb dX7_turned_71 (lv_at hl 1 rfl) ?_
          refine lv_istore (lv' := [(7, .int (nI vw)), (6, .int (nI vh)), (11, .int (nI vw)), (8, .int (nI ((vh - 1) - vb))), (9, .int (nI va)), (0, .ref om), (5, .int (nI q)), (10, .int (nI vk))]) hx hb dX7_turned_73 hl (by decide) rfl (fun ls hl => ?_)
          refine lv_iinc (v := nI (vk + 1)) (lv' := [(10, .int (nI (vk + 1))), (7, .int (nI vw)), (6, .int (nI vh)), (11, .int (nI vw)), (8, .int (nI ((vh - 1) - vb))), (9, .int (nI va)), (0, .ref om), (5, .int (nI q))]) hx hb dX7_turned_75 hl (k := 7) rfl (inc1 _) (by decide) rfl (fun ls hl => ?_)
          refine lv_goto (tgt := 39) hx hb dX7_turned_78 (by decide) ?_
          exact ih39 vh vw ((vh - 1) - vb) va (vk + 1) (by omega) (by first | assumption | omega) (by first | assumption | omega) (by first | assumption | omega) (by first | assumption | omega) (by rw [h6, show q - vk = (q - (vk + 1)) + 1 from by omega]; rfl) (by omega) ls (lv_sub hl [6, 7, 2, 1, 4, 5, 0] rfl)
    exact L39 ((q - 0) + 1) (μ.2.1 1 p) (μ.2.1 2 p) (((μ.2.1 1 p) - 1) - x) y 0 (by omega) (by first | assumption | omega) (by first | assumption | omega) (by first | assumption | omega) (Nat.zero_le _) (by show rtt q _ _ (if mi = 0 then x else _) y = _; rw [if_neg c_18]; rfl) (Nat.lt_succ_self _) ls (lv_sub hl [5, 10, 4, 3, 2, 1, 0] rfl)

set_option maxHeartbeats 1000000 in
set_option maxRecDepth 100000 in
theorem c_X7_copies_t (l : Launch) (G : Gt) (om : Nat) (μ : Sx) (p : Nat) (h0 : MI0 μ) (hvp : p < μ.1 16) (h24 : ¬ μ.1 16 = 24) (hw4 : ¬ μ.2.1 1 p = 5) : Ct l G yX7_copies cX7_copies 8 ((some .int)) 1 0 0 [.ref om, .int (nI p), .int (nI 0), .int (nI 1)] (fun H => bk G om (mL G om μ) H) (some (.int (nI (μ.1 16)))) (fun H => ∃ σ : Sx, bk G om (mL G om (uS σ 16 (μ.1 16 + 1))) H ∧ NW μ (μ.2.1 2 p) (μ.2.1 1 p) (μ.2.1 3 p) (tnC (μ.2.1 1 p) (μ.2.1 2 p) (clM μ p)) σ) (fun q => om ≤ q ∧ q < om + 20) := by
  refine ct_entry [(0, .ref om), (1, .int (nI p)), (2, .int (nI 0)), (3, .int (nI 1))] (by decide) (Nat.le_of_ble_eq_true rfl) rfl ?_
  intro zp ze zs zm za zb zt zc Q S hK hPre hin hE ls hl
  have hx := S.1
  have hb := S.2.1
  have hM := hPre
  have hS : va_S (fun q => om ≤ q ∧ q < om + 20) zs.heap zs.heap [] := va_S.rf
  obtain ⟨hw1, hw5, hh1, hh4, hf5, hcl⟩ := h0.2 p hvp
  have hp24 := h0.1
  refine lv_aload_n hx hb dX7_copies_0 rfl (lv_at hl 0 rfl) ?_
  refine kg (C := RX7) (T := TX7) (N := 32) (ci := 5) (k := 16) (v := .int (nI (μ.1 16))) S hK rfl inX7 (by decide) q_746 dX7_copies_1 hM rfl rfl ?_
  refine lv_istore (lv' := [(4, .int (nI (μ.1 16))), (0, .ref om), (1, .int (nI p)), (2, .int (nI 0)), (3, .int (nI 1))]) hx hb dX7_copies_4 hl (by decide) rfl (fun ls hl => ?_)
  refine lv_aload_n hx hb dX7_copies_6 rfl (lv_at hl 1 rfl) ?_
  refine lv_iload hx hb dX7_copies_7 (lv_at hl 0 rfl) ?_
  refine lv_iload_n hx hb dX7_copies_9 rfl (lv_at hl 4 rfl) ?_
  refine lv_iconst (v := nI 1) hx hb dX7_copies_10 (by decide) ?_
  refine n_icmp_ne (tgt := 23) hx hb dX7_copies_11 (by decide) (by decide) (by decide) (fun c_11 => ?_) (fun c_11 => ?_)
  ·
    exact absurd c_11 (by decide)
  ·
    refine lv_aload_n hx hb dX7_copies_14 rfl (lv_at hl 1 rfl) ?_
    refine kg (C := RX7) (T := TX7) (N := 32) (ci := 5) (k := 2) (v := .ref (om + 3)) S hK rfl inX7 (by decide) q_732 dX7_copies_15 hM rfl rfl ?_
    refine lv_iload_n hx hb dX7_copies_18 rfl (lv_at hl 2 rfl) ?_
    refine kil (f := μ.2.1 2) S hK dX7_copies_19 3 hM rfl (by decide) rfl (by omega) ?_
    refine lv_goto (tgt := 29) hx hb dX7_copies_20 (by decide) ?_
    refine lv_iload_n hx hb dX7_copies_29 rfl (lv_at hl 4 rfl) ?_
    refine lv_iconst (v := nI 1) hx hb dX7_copies_30 (by decide) ?_
    refine n_icmp_ne (tgt := 43) hx hb dX7_copies_31 (by decide) (by decide) (by decide) (fun c_31 => ?_) (fun c_31 => ?_)
    ·
      exact absurd c_31 (by decide)
    ·
      refine lv_aload_n hx hb dX7_copies_34 rfl (lv_at hl 1 rfl) ?_
      refine kg (C := RX7) (T := TX7) (N := 32) (ci := 5) (k := 1) (v := .ref (om + 2)) S hK rfl inX7 (by decide) q_731 dX7_copies_35 hM rfl rfl ?_
      refine lv_iload_n hx hb dX7_copies_38 rfl (lv_at hl 2 rfl) ?_
      refine kil (f := μ.2.1 1) S hK dX7_copies_39 2 hM rfl (by decide) rfl (by omega) ?_
      refine lv_goto (tgt := 49) hx hb dX7_copies_40 (by decide) ?_
      refine lv_aload_n hx hb dX7_copies_49 rfl (lv_at hl 1 rfl) ?_
      refine kg (C := RX7) (T := TX7) (N := 32) (ci := 5) (k := 3) (v := .ref (om + 4)) S hK rfl inX7 (by decide) q_733 dX7_copies_50 hM rfl rfl ?_
      refine lv_iload_n hx hb dX7_copies_53 rfl (lv_at hl 2 rfl) ?_
      refine kil (f := μ.2.1 3) S hK dX7_copies_54 4 hM rfl (by decide) rfl (by omega) ?_
      refine ctVv (rest := []) S hK (c_X7_begins l G om μ (μ.1 16) (μ.2.1 2 p) (μ.2.1 1 p) (μ.2.1 3 p) (by omega)) cw_X7_89 rfl ⟨Nat.le_of_ble_eq_true rfl, Nat.le_of_ble_eq_true rfl⟩ ⟨Nat.le_of_ble_eq_true rfl, Nat.le_of_ble_eq_true rfl⟩ (bk.recv hK hM rfl rfl) hl.1 rfl (Nat.le_of_ble_eq_true rfl) dX7_copies_55 hM hS (fun _ h => h) (fun H locs hPost hz hk hS => ?_)
      have hM := hPost
      refine lv_iconst (v := nI 0) hx hb dX7_copies_58 (by decide) ?_
      refine lv_istore (lv' := [(5, .int (nI 0)), (4, .int (nI (μ.1 16))), (0, .ref om), (1, .int (nI p)), (2, .int (nI 0)), (3, .int (nI 1))]) hx hb dX7_copies_59 hl (by decide) rfl (fun ls hl => ?_)
      have L61 : ∀ (fu : Nat), ∀ (vx : Nat) (ν : Sx), (vx ≤ μ.2.1 1 p) → (pth (μ.1 16) ν μ) → (ν.2.1 1 (μ.1 16) = μ.2.1 2 p) → (ν.2.1 2 (μ.1 16) = μ.2.1 1 p) → (ν.2.1 3 (μ.1 16) = μ.2.1 3 p) → (∀ k, k < 20 → ν.2.1 4 (20 * μ.1 16 + k) = if (k % 5 < μ.2.1 2 p ∧ k / 5 < μ.2.1 1 p) ∧ (k / 5 < vx ∨ (k / 5 = vx ∧ μ.2.1 2 p - 1 - k % 5 < 0)) then tnC (μ.2.1 1 p) (μ.2.1 2 p) (clM μ p) k else 0) → μ.2.1 1 p - vx < fu → ∀ (H : Heap) (locs : List Loc), bk G om (mL G om ν) H → va_S (fun q => om ≤ q ∧ q < om + 20) zs.heap H locs → ∀ ls : Array Slot, lv_has ls 8 [(0, .ref om), (1, .int (nI p)), (2, .int (nI 0)), (3, .int (nI 1)), (4, .int (nI (μ.1 16))), (5, .int (nI vx))] → W zp l ze (rL 1 0 0) zs zm za zb zt zc H locs 0 0 Q (F0 zm 61 ls []) := by
        intro fu
        induction fu with
        | zero =>
          intro vx ν hvx hP hv1 hv2 hv3 hc hmu H locs hM hS ls hl
          exact absurd hmu (Nat.not_lt_zero _)
        | succ fu ih61 =>
          intro vx ν hvx hP hv1 hv2 hv3 hc hmu H locs hM hS ls hl
          have e1 : ν.2.1 1 p = μ.2.1 1 p := (hP.2.2.1 p (by omega)).1
          have e2 : ν.2.1 2 p = μ.2.1 2 p := (hP.2.2.1 p (by omega)).2.1
          have e16 : ν.1 16 = μ.1 16 := hP.1 16 (by decide)
          refine lv_iload hx hb dX7_copies_61 (lv_at hl 5 rfl) ?_
          refine lv_aload_n hx hb dX7_copies_63 rfl (lv_at hl 0 rfl) ?_
          refine kg (C := RX7) (T := TX7) (N := 32) (ci := 5) (k := 1) (v := .ref (om + 2)) S hK rfl inX7 (by decide) q_731 dX7_copies_64 hM rfl rfl ?_
          refine lv_iload_n hx hb dX7_copies_67 rfl (lv_at hl 1 rfl) ?_
          refine kil (f := ν.2.1 1) S hK dX7_copies_68 2 hM rfl (by decide) rfl (by omega) ?_
          refine n_icmp_ge (tgt := 136) hx hb dX7_copies_69 (by decide) (by omega) (by omega) (fun c_69 => ?_) (fun c_69 => ?_)
          ·
            have hvx9 : vx = μ.2.1 1 p := by omega
            refine lv_aload_n hx hb dX7_copies_136 rfl (lv_at hl 0 rfl) ?_
            refine lv_dup hx hb dX7_copies_137 rfl ?_
            refine kg (C := RX7) (T := TX7) (N := 32) (ci := 5) (k := 16) (v := .int (nI (ν.1 16))) S hK rfl inX7 (by decide) q_746 dX7_copies_138 hM rfl rfl ?_
            refine lv_iconst (v := nI 1) hx hb dX7_copies_141 (by decide) ?_
            refine n_iadd hx hb dX7_copies_142 ?_
            refine kp (C := RX7) (T := TX7) (N := 32) (ci := 5) (k := 16) (ty := .int) tyX7 tyX7_ok nmX7 S hK rfl inX7 (by decide) q_746 rfl dX7_copies_143 rfl rfl rfl hM rfl (Nat.le_of_ble_eq_true rfl) (L1 := mL G om (uS ν 16 ((ν.1 16) + 1))) rfl hS (by first | exact ⟨by omega, by omega⟩ | omega) (fun H locs hM hS hz hk => ?_)
            refine lv_iload hx hb dX7_copies_146 (lv_at hl 4 rfl) ?_
            replace hM : bk G om (mL G om (uS ν 16 (μ.1 16 + 1))) H := bk_eq hM (by rw [e16])
            exact hE _ _ _ _ _ _ (kr_i dX7_copies_148) hS (by decide) (by decide) ⟨ν, hM, ⟨hP, hv1, hv2, hv3, fun k hk => by
              rw [hc k hk]
              unfold tnC
              by_cases z : k % 5 < μ.2.1 2 p ∧ k / 5 < μ.2.1 1 p
              · rw [if_pos (by omega), if_pos z]
              · rw [if_neg (by omega), if_neg z]⟩⟩
          ·
            refine lv_iconst (v := nI 0) hx hb dX7_copies_72 (by decide) ?_
            refine lv_istore (lv' := [(6, .int (nI 0)), (0, .ref om), (1, .int (nI p)), (2, .int (nI 0)), (3, .int (nI 1)), (4, .int (nI (μ.1 16))), (5, .int (nI vx))]) hx hb dX7_copies_73 hl (by decide) rfl (fun ls hl => ?_)
            have L75 : ∀ (fu : Nat), ∀ (vy : Nat) (ρ : Sx), (vy ≤ μ.2.1 2 p) → (pth (μ.1 16) ρ μ) → (ρ.2.1 1 (μ.1 16) = μ.2.1 2 p) → (ρ.2.1 2 (μ.1 16) = μ.2.1 1 p) → (ρ.2.1 3 (μ.1 16) = μ.2.1 3 p) → (∀ k, k < 20 → ρ.2.1 4 (20 * μ.1 16 + k) = if (k % 5 < μ.2.1 2 p ∧ k / 5 < μ.2.1 1 p) ∧ (k / 5 < vx ∨ (k / 5 = vx ∧ μ.2.1 2 p - 1 - k % 5 < vy)) then tnC (μ.2.1 1 p) (μ.2.1 2 p) (clM μ p) k else 0) → μ.2.1 2 p - vy < fu → ∀ (H : Heap) (locs : List Loc), bk G om (mL G om ρ) H → va_S (fun q => om ≤ q ∧ q < om + 20) zs.heap H locs → ∀ ls : Array Slot, lv_has ls 8 [(0, .ref om), (1, .int (nI p)), (2, .int (nI 0)), (3, .int (nI 1)), (4, .int (nI (μ.1 16))), (5, .int (nI vx)), (6, .int (nI vy))] → W zp l ze (rL 1 0 0) zs zm za zb zt zc H locs 0 0 Q (F0 zm 75 ls []) := by
              intro fu
              induction fu with
              | zero =>
                intro vy ρ hvy hP2 hw1b hw2b hw3b hcb hmu H locs hM hS ls hl
                exact absurd hmu (Nat.not_lt_zero _)
              | succ fu ih75 =>
                intro vy ρ hvy hP2 hw1b hw2b hw3b hcb hmu H locs hM hS ls hl
                have r1 : ρ.2.1 1 p = μ.2.1 1 p := (hP2.2.2.1 p (by omega)).1
                have r2 : ρ.2.1 2 p = μ.2.1 2 p := (hP2.2.2.1 p (by omega)).2.1
                have r16 : ρ.1 16 = μ.1 16 := hP2.1 16 (by decide)
                refine lv_iload hx hb dX7_copies_75 (lv_at hl 6 rfl) ?_
                refine lv_aload_n hx hb dX7_copies_77 rfl (lv_at hl 0 rfl) ?_
                refine kg (C := RX7) (T := TX7) (N := 32) (ci := 5) (k := 2) (v := .ref (om + 3)) S hK rfl inX7 (by decide) q_732 dX7_copies_78 hM rfl rfl ?_
                refine lv_iload_n hx hb dX7_copies_81 rfl (lv_at hl 1 rfl) ?_
                refine kil (f := ρ.2.1 2) S hK dX7_copies_82 3 hM rfl (by decide) rfl (by omega) ?_
                refine n_icmp_ge (tgt := 130) hx hb dX7_copies_83 (by decide) (by omega) (by omega) (fun c_83 => ?_) (fun c_83 => ?_)
                ·
                  refine lv_iinc (v := nI (vx + 1)) (lv' := [(5, .int (nI (vx + 1))), (0, .ref om), (1, .int (nI p)), (2, .int (nI 0)), (3, .int (nI 1)), (4, .int (nI (μ.1 16))), (6, .int (nI vy))]) hx hb dX7_copies_130 hl (k := 5) rfl (inc1 _) (by decide) rfl (fun ls hl => ?_)
                  refine lv_goto (tgt := 61) hx hb dX7_copies_133 (by decide) ?_
                  exact ih61 (vx + 1) ρ (by omega) hP2 hw1b hw2b hw3b (fun k hk => by
                    rw [hcb k hk]
                    by_cases z : (k % 5 < μ.2.1 2 p ∧ k / 5 < μ.2.1 1 p) ∧ (k / 5 < vx ∨ (k / 5 = vx ∧ μ.2.1 2 p - 1 - k % 5 < vy))
                    · rw [if_pos z, if_pos (by omega)]
                    · rw [if_neg z, if_neg (by omega)]) (by omega) _ _ hM hS ls (lv_sub hl [1, 2, 3, 4, 5, 0] rfl)
                ·
                  refine lv_aload_n hx hb dX7_copies_86 rfl (lv_at hl 0 rfl) ?_
                  refine lv_iload_n hx hb dX7_copies_87 rfl (lv_at hl 1 rfl) ?_
                  refine lv_iload hx hb dX7_copies_88 (lv_at hl 5 rfl) ?_
                  refine lv_iload hx hb dX7_copies_90 (lv_at hl 6 rfl) ?_
                  refine lv_iload_n hx hb dX7_copies_92 rfl (lv_at hl 2 rfl) ?_
                  refine lv_iload_n hx hb dX7_copies_93 rfl (lv_at hl 3 rfl) ?_
                  refine crV (rest := []) S hK (c_X7_turned l G om ρ p vx vy 0 1 (by first | assumption | omega | decide) (by omega) (by omega) (by omega) (by omega) (by first | assumption | omega | decide) (by first | assumption | omega | decide)) cw_X7_201 rfl ⟨Nat.le_of_ble_eq_true rfl, Nat.le_of_ble_eq_true rfl⟩ ⟨Nat.le_of_ble_eq_true rfl, Nat.le_of_ble_eq_true rfl⟩ (bk.recv hK hM rfl rfl) hl.1 rfl (Nat.le_of_ble_eq_true rfl) dX7_copies_94 hM ?_
                  refine w_top (v' := .int (nI (10 * (μ.2.1 2 p - 1 - vy) + vx))) (by show Value.int (nI (10 * (trn (ρ.2.1 1 p) (ρ.2.1 2 p) vx vy 0 1).1 + (trn (ρ.2.1 1 p) (ρ.2.1 2 p) vx vy 0 1).2)) = _; rw [r1, r2]; rfl) ?_
                  refine lv_istore (lv' := [(7, .int (nI (10 * (μ.2.1 2 p - 1 - vy) + vx))), (0, .ref om), (1, .int (nI p)), (2, .int (nI 0)), (3, .int (nI 1)), (4, .int (nI (μ.1 16))), (5, .int (nI vx)), (6, .int (nI vy))]) hx hb dX7_copies_97 hl (by decide) rfl (fun ls hl => ?_)
                  refine lv_aload_n hx hb dX7_copies_99 rfl (lv_at hl 1 rfl) ?_
                  refine lv_iload hx hb dX7_copies_100 (lv_at hl 5 rfl) ?_
                  refine lv_iload hx hb dX7_copies_102 (lv_at hl 0 rfl) ?_
                  refine lv_bipush (v := nI 10) hx hb dX7_copies_104 (by decide) ?_
                  refine n_idiv hx hb dX7_copies_106 (by omega) (by decide) (by decide) ?_
                  refine lv_iload hx hb dX7_copies_107 (lv_at hl 0 rfl) ?_
                  refine lv_bipush (v := nI 10) hx hb dX7_copies_109 (by decide) ?_
                  refine n_irem hx hb dX7_copies_111 (by omega) (by decide) (by decide) ?_
                  refine lv_aload_n hx hb dX7_copies_112 rfl (lv_at hl 1 rfl) ?_
                  refine lv_iload_n hx hb dX7_copies_113 rfl (lv_at hl 2 rfl) ?_
                  refine lv_iload hx hb dX7_copies_114 (lv_at hl 6 rfl) ?_
                  refine lv_iload hx hb dX7_copies_116 (lv_at hl 7 rfl) ?_
                  refine crV (rest := [.int (nI ((10 * (μ.2.1 2 p - 1 - vy) + vx) % 10)), .int (nI ((10 * (μ.2.1 2 p - 1 - vy) + vx) / 10)), .int (nI (μ.1 16)), .ref om]) S hK (c_X7_at l G om ρ p vx vy (by first | assumption | omega | decide)) cw_X7_112 rfl ⟨Nat.le_of_ble_eq_true rfl, Nat.le_of_ble_eq_true rfl⟩ ⟨Nat.le_of_ble_eq_true rfl, Nat.le_of_ble_eq_true rfl⟩ (bk.recv hK hM rfl rfl) hl.1 rfl (Nat.le_of_ble_eq_true rfl) dX7_copies_118 hM ?_
                  refine w_top (v' := .int (nI (clM μ p (5 * vy + vx)))) (congrArg (fun z => Value.int (nI z)) (hP2.2.2.2 (20 * p + (5 * vy + vx)) (by omega))) ?_
                  refine ctVv (rest := []) S hK (c_X7_puts l G om ρ (μ.1 16) ((10 * (μ.2.1 2 p - 1 - vy) + vx) / 10) ((10 * (μ.2.1 2 p - 1 - vy) + vx) % 10) (clM μ p (5 * vy + vx)) (by first | assumption | omega | decide)) cw_X7_96 rfl ⟨Nat.le_of_ble_eq_true rfl, Nat.le_of_ble_eq_true rfl⟩ ⟨Nat.le_of_ble_eq_true rfl, Nat.le_of_ble_eq_true rfl⟩ (bk.recv hK hM rfl rfl) hl.1 rfl (Nat.le_of_ble_eq_true rfl) dX7_copies_121 hM hS (fun _ h => h) (fun H locs hPost hz hk hS => ?_)
                  have hM := hPost
                  refine lv_iinc (v := nI (vy + 1)) (lv' := [(6, .int (nI (vy + 1))), (7, .int (nI (10 * (μ.2.1 2 p - 1 - vy) + vx))), (0, .ref om), (1, .int (nI p)), (2, .int (nI 0)), (3, .int (nI 1)), (4, .int (nI (μ.1 16))), (5, .int (nI vx))]) hx hb dX7_copies_124 hl (k := 7) rfl (inc1 _) (by decide) rfl (fun ls hl => ?_)
                  refine lv_goto (tgt := 75) hx hb dX7_copies_127 (by decide) ?_
                  exact ih75 (vy + 1) (uA ρ 4 (20 * (μ.1 16) + 5 * ((10 * (μ.2.1 2 p - 1 - vy) + vx) % 10) + ((10 * (μ.2.1 2 p - 1 - vy) + vx) / 10)) (clM μ p (5 * vy + vx))) (by first | assumption | omega) (pth_4 hP2 (by omega)) hw1b hw2b hw3b (fun k hk => by
                    rw [aA_e, hcb k hk]
                    by_cases z : k = 5 * vx + (μ.2.1 2 p - 1 - vy)
                    · rw [if_pos (by omega), if_pos (by omega)]
                      unfold tnC
                      rw [if_pos (by omega)]
                      exact congrArg (clM μ p) (by omega)
                    · rw [if_neg (by omega)]
                      by_cases z2 : (k % 5 < μ.2.1 2 p ∧ k / 5 < μ.2.1 1 p) ∧ (k / 5 < vx ∨ (k / 5 = vx ∧ μ.2.1 2 p - 1 - k % 5 < vy))
                      · rw [if_pos z2, if_pos (by omega)]
                      · rw [if_neg z2, if_neg (by omega)]) (by omega) _ _ hM hS ls (lv_sub hl [2, 3, 4, 5, 6, 7, 0] rfl)
            exact L75 ((μ.2.1 2 p - 0) + 1) 0 ν (Nat.zero_le _) hP hv1 hv2 hv3 hc (Nat.lt_succ_self _) _ _ hM hS ls (lv_sub hl [1, 2, 3, 4, 5, 6, 0] rfl)
      exact L61 ((μ.2.1 1 p - 0) + 1) 0 (clZ (uA (uA (uA μ 1 (μ.1 16) (μ.2.1 2 p)) 2 (μ.1 16) (μ.2.1 1 p)) 3 (μ.1 16) (μ.2.1 3 p)) (μ.1 16) 20) (Nat.zero_le _) (bg_pth _ _ _ _ _) (bg_1 _ _ _ _ _) (bg_2 _ _ _ _ _) (bg_3 _ _ _ _ _) (fun k hk => by rw [bg_4 _ _ _ _ _ hk, if_neg (by omega)]) (Nat.lt_succ_self _) _ _ hM hS ls (lv_sub hl [2, 3, 4, 5, 1, 0] rfl)

set_option maxHeartbeats 1000000 in
set_option maxRecDepth 100000 in
theorem c_X7_copies_m (l : Launch) (G : Gt) (om : Nat) (μ : Sx) (p : Nat) (h0 : MI0 μ) (hvp : p < μ.1 16) (h24 : ¬ μ.1 16 = 24) : Ct l G yX7_copies cX7_copies 8 ((some .int)) 1 0 0 [.ref om, .int (nI p), .int (nI 1), .int (nI 0)] (fun H => bk G om (mL G om μ) H) (some (.int (nI (μ.1 16)))) (fun H => ∃ σ : Sx, bk G om (mL G om (uS σ 16 (μ.1 16 + 1))) H ∧ NW μ (μ.2.1 1 p) (μ.2.1 2 p) (μ.2.1 3 p) (miC (μ.2.1 1 p) (μ.2.1 2 p) (clM μ p)) σ) (fun q => om ≤ q ∧ q < om + 20) := by
  refine ct_entry [(0, .ref om), (1, .int (nI p)), (2, .int (nI 1)), (3, .int (nI 0))] (by decide) (Nat.le_of_ble_eq_true rfl) rfl ?_
  intro zp ze zs zm za zb zt zc Q S hK hPre hin hE ls hl
  have hx := S.1
  have hb := S.2.1
  have hM := hPre
  have hS : va_S (fun q => om ≤ q ∧ q < om + 20) zs.heap zs.heap [] := va_S.rf
  obtain ⟨hw1, hw5, hh1, hh4, hf5, hcl⟩ := h0.2 p hvp
  have hp24 := h0.1
  refine lv_aload_n hx hb dX7_copies_0 rfl (lv_at hl 0 rfl) ?_
  refine kg (C := RX7) (T := TX7) (N := 32) (ci := 5) (k := 16) (v := .int (nI (μ.1 16))) S hK rfl inX7 (by decide) q_746 dX7_copies_1 hM rfl rfl ?_
  refine lv_istore (lv' := [(4, .int (nI (μ.1 16))), (0, .ref om), (1, .int (nI p)), (2, .int (nI 1)), (3, .int (nI 0))]) hx hb dX7_copies_4 hl (by decide) rfl (fun ls hl => ?_)
  refine lv_aload_n hx hb dX7_copies_6 rfl (lv_at hl 1 rfl) ?_
  refine lv_iload hx hb dX7_copies_7 (lv_at hl 0 rfl) ?_
  refine lv_iload_n hx hb dX7_copies_9 rfl (lv_at hl 4 rfl) ?_
  refine lv_iconst (v := nI 1) hx hb dX7_copies_10 (by decide) ?_
  refine n_icmp_ne (tgt := 23) hx hb dX7_copies_11 (by decide) (by decide) (by decide) (fun c_11 => ?_) (fun c_11 => ?_)
  ·
    refine lv_aload_n hx hb dX7_copies_23 rfl (lv_at hl 1 rfl) ?_
    refine kg (C := RX7) (T := TX7) (N := 32) (ci := 5) (k := 1) (v := .ref (om + 2)) S hK rfl inX7 (by decide) q_731 dX7_copies_24 hM rfl rfl ?_
    refine lv_iload_n hx hb dX7_copies_27 rfl (lv_at hl 2 rfl) ?_
    refine kil (f := μ.2.1 1) S hK dX7_copies_28 2 hM rfl (by decide) rfl (by omega) ?_
    refine lv_iload_n hx hb dX7_copies_29 rfl (lv_at hl 4 rfl) ?_
    refine lv_iconst (v := nI 1) hx hb dX7_copies_30 (by decide) ?_
    refine n_icmp_ne (tgt := 43) hx hb dX7_copies_31 (by decide) (by decide) (by decide) (fun c_31 => ?_) (fun c_31 => ?_)
    ·
      refine lv_aload_n hx hb dX7_copies_43 rfl (lv_at hl 1 rfl) ?_
      refine kg (C := RX7) (T := TX7) (N := 32) (ci := 5) (k := 2) (v := .ref (om + 3)) S hK rfl inX7 (by decide) q_732 dX7_copies_44 hM rfl rfl ?_
      refine lv_iload_n hx hb dX7_copies_47 rfl (lv_at hl 2 rfl) ?_
      refine kil (f := μ.2.1 2) S hK dX7_copies_48 3 hM rfl (by decide) rfl (by omega) ?_
      refine lv_aload_n hx hb dX7_copies_49 rfl (lv_at hl 1 rfl) ?_
      refine kg (C := RX7) (T := TX7) (N := 32) (ci := 5) (k := 3) (v := .ref (om + 4)) S hK rfl inX7 (by decide) q_733 dX7_copies_50 hM rfl rfl ?_
      refine lv_iload_n hx hb dX7_copies_53 rfl (lv_at hl 2 rfl) ?_
      refine kil (f := μ.2.1 3) S hK dX7_copies_54 4 hM rfl (by decide) rfl (by omega) ?_
      refine ctVv (rest := []) S hK (c_X7_begins l G om μ (μ.1 16) (μ.2.1 1 p) (μ.2.1 2 p) (μ.2.1 3 p) (by omega)) cw_X7_89 rfl ⟨Nat.le_of_ble_eq_true rfl, Nat.le_of_ble_eq_true rfl⟩ ⟨Nat.le_of_ble_eq_true rfl, Nat.le_of_ble_eq_true rfl⟩ (bk.recv hK hM rfl rfl) hl.1 rfl (Nat.le_of_ble_eq_true rfl) dX7_copies_55 hM hS (fun _ h => h) (fun H locs hPost hz hk hS => ?_)
      have hM := hPost
      refine lv_iconst (v := nI 0) hx hb dX7_copies_58 (by decide) ?_
      refine lv_istore (lv' := [(5, .int (nI 0)), (4, .int (nI (μ.1 16))), (0, .ref om), (1, .int (nI p)), (2, .int (nI 1)), (3, .int (nI 0))]) hx hb dX7_copies_59 hl (by decide) rfl (fun ls hl => ?_)
      have L61 : ∀ (fu : Nat), ∀ (vx : Nat) (ν : Sx), (vx ≤ μ.2.1 1 p) → (pth (μ.1 16) ν μ) → (ν.2.1 1 (μ.1 16) = μ.2.1 1 p) → (ν.2.1 2 (μ.1 16) = μ.2.1 2 p) → (ν.2.1 3 (μ.1 16) = μ.2.1 3 p) → (∀ k, k < 20 → ν.2.1 4 (20 * μ.1 16 + k) = if (k % 5 < μ.2.1 1 p ∧ k / 5 < μ.2.1 2 p) ∧ (μ.2.1 1 p - 1 - k % 5 < vx ∨ (μ.2.1 1 p - 1 - k % 5 = vx ∧ k / 5 < 0)) then miC (μ.2.1 1 p) (μ.2.1 2 p) (clM μ p) k else 0) → μ.2.1 1 p - vx < fu → ∀ (H : Heap) (locs : List Loc), bk G om (mL G om ν) H → va_S (fun q => om ≤ q ∧ q < om + 20) zs.heap H locs → ∀ ls : Array Slot, lv_has ls 8 [(0, .ref om), (1, .int (nI p)), (2, .int (nI 1)), (3, .int (nI 0)), (4, .int (nI (μ.1 16))), (5, .int (nI vx))] → W zp l ze (rL 1 0 0) zs zm za zb zt zc H locs 0 0 Q (F0 zm 61 ls []) := by
        intro fu
        induction fu with
        | zero =>
          intro vx ν hvx hP hv1 hv2 hv3 hc hmu H locs hM hS ls hl
          exact absurd hmu (Nat.not_lt_zero _)
        | succ fu ih61 =>
          intro vx ν hvx hP hv1 hv2 hv3 hc hmu H locs hM hS ls hl
          have e1 : ν.2.1 1 p = μ.2.1 1 p := (hP.2.2.1 p (by omega)).1
          have e2 : ν.2.1 2 p = μ.2.1 2 p := (hP.2.2.1 p (by omega)).2.1
          have e16 : ν.1 16 = μ.1 16 := hP.1 16 (by decide)
          refine lv_iload hx hb dX7_copies_61 (lv_at hl 5 rfl) ?_
          refine lv_aload_n hx hb dX7_copies_63 rfl (lv_at hl 0 rfl) ?_
          refine kg (C := RX7) (T := TX7) (N := 32) (ci := 5) (k := 1) (v := .ref (om + 2)) S hK rfl inX7 (by decide) q_731 dX7_copies_64 hM rfl rfl ?_
          refine lv_iload_n hx hb dX7_copies_67 rfl (lv_at hl 1 rfl) ?_
          refine kil (f := ν.2.1 1) S hK dX7_copies_68 2 hM rfl (by decide) rfl (by omega) ?_
          refine n_icmp_ge (tgt := 136) hx hb dX7_copies_69 (by decide) (by omega) (by omega) (fun c_69 => ?_) (fun c_69 => ?_)
          ·
            have hvx9 : vx = μ.2.1 1 p := by omega
            refine lv_aload_n hx hb dX7_copies_136 rfl (lv_at hl 0 rfl) ?_
            refine lv_dup hx hb dX7_copies_137 rfl ?_
            refine kg (C := RX7) (T := TX7) (N := 32) (ci := 5) (k := 16) (v := .int (nI (ν.1 16))) S hK rfl inX7 (by decide) q_746 dX7_copies_138 hM rfl rfl ?_
            refine lv_iconst (v := nI 1) hx hb dX7_copies_141 (by decide) ?_
            refine n_iadd hx hb dX7_copies_142 ?_
            refine kp (C := RX7) (T := TX7) (N := 32) (ci := 5) (k := 16) (ty := .int) tyX7 tyX7_ok nmX7 S hK rfl inX7 (by decide) q_746 rfl dX7_copies_143 rfl rfl rfl hM rfl (Nat.le_of_ble_eq_true rfl) (L1 := mL G om (uS ν 16 ((ν.1 16) + 1))) rfl hS (by first | exact ⟨by omega, by omega⟩ | omega) (fun H locs hM hS hz hk => ?_)
            refine lv_iload hx hb dX7_copies_146 (lv_at hl 4 rfl) ?_
            replace hM : bk G om (mL G om (uS ν 16 (μ.1 16 + 1))) H := bk_eq hM (by rw [e16])
            exact hE _ _ _ _ _ _ (kr_i dX7_copies_148) hS (by decide) (by decide) ⟨ν, hM, ⟨hP, hv1, hv2, hv3, fun k hk => by
              rw [hc k hk]
              unfold miC
              by_cases z : k % 5 < μ.2.1 1 p ∧ k / 5 < μ.2.1 2 p
              · rw [if_pos (by omega), if_pos z]
              · rw [if_neg (by omega), if_neg z]⟩⟩
          ·
            refine lv_iconst (v := nI 0) hx hb dX7_copies_72 (by decide) ?_
            refine lv_istore (lv' := [(6, .int (nI 0)), (0, .ref om), (1, .int (nI p)), (2, .int (nI 1)), (3, .int (nI 0)), (4, .int (nI (μ.1 16))), (5, .int (nI vx))]) hx hb dX7_copies_73 hl (by decide) rfl (fun ls hl => ?_)
            have L75 : ∀ (fu : Nat), ∀ (vy : Nat) (ρ : Sx), (vy ≤ μ.2.1 2 p) → (pth (μ.1 16) ρ μ) → (ρ.2.1 1 (μ.1 16) = μ.2.1 1 p) → (ρ.2.1 2 (μ.1 16) = μ.2.1 2 p) → (ρ.2.1 3 (μ.1 16) = μ.2.1 3 p) → (∀ k, k < 20 → ρ.2.1 4 (20 * μ.1 16 + k) = if (k % 5 < μ.2.1 1 p ∧ k / 5 < μ.2.1 2 p) ∧ (μ.2.1 1 p - 1 - k % 5 < vx ∨ (μ.2.1 1 p - 1 - k % 5 = vx ∧ k / 5 < vy)) then miC (μ.2.1 1 p) (μ.2.1 2 p) (clM μ p) k else 0) → μ.2.1 2 p - vy < fu → ∀ (H : Heap) (locs : List Loc), bk G om (mL G om ρ) H → va_S (fun q => om ≤ q ∧ q < om + 20) zs.heap H locs → ∀ ls : Array Slot, lv_has ls 8 [(0, .ref om), (1, .int (nI p)), (2, .int (nI 1)), (3, .int (nI 0)), (4, .int (nI (μ.1 16))), (5, .int (nI vx)), (6, .int (nI vy))] → W zp l ze (rL 1 0 0) zs zm za zb zt zc H locs 0 0 Q (F0 zm 75 ls []) := by
              intro fu
              induction fu with
              | zero =>
                intro vy ρ hvy hP2 hw1b hw2b hw3b hcb hmu H locs hM hS ls hl
                exact absurd hmu (Nat.not_lt_zero _)
              | succ fu ih75 =>
                intro vy ρ hvy hP2 hw1b hw2b hw3b hcb hmu H locs hM hS ls hl
                have r1 : ρ.2.1 1 p = μ.2.1 1 p := (hP2.2.2.1 p (by omega)).1
                have r2 : ρ.2.1 2 p = μ.2.1 2 p := (hP2.2.2.1 p (by omega)).2.1
                have r16 : ρ.1 16 = μ.1 16 := hP2.1 16 (by decide)
                refine lv_iload hx hb dX7_copies_75 (lv_at hl 6 rfl) ?_
                refine lv_aload_n hx hb dX7_copies_77 rfl (lv_at hl 0 rfl) ?_
                refine kg (C := RX7) (T := TX7) (N := 32) (ci := 5) (k := 2) (v := .ref (om + 3)) S hK rfl inX7 (by decide) q_732 dX7_copies_78 hM rfl rfl ?_
                refine lv_iload_n hx hb dX7_copies_81 rfl (lv_at hl 1 rfl) ?_
                refine kil (f := ρ.2.1 2) S hK dX7_copies_82 3 hM rfl (by decide) rfl (by omega) ?_
                refine n_icmp_ge (tgt := 130) hx hb dX7_copies_83 (by decide) (by omega) (by omega) (fun c_83 => ?_) (fun c_83 => ?_)
                ·
                  refine lv_iinc (v := nI (vx + 1)) (lv' := [(5, .int (nI (vx + 1))), (0, .ref om), (1, .int (nI p)), (2, .int (nI 1)), (3, .int (nI 0)), (4, .int (nI (μ.1 16))), (6, .int (nI vy))]) hx hb dX7_copies_130 hl (k := 5) rfl (inc1 _) (by decide) rfl (fun ls hl => ?_)
                  refine lv_goto (tgt := 61) hx hb dX7_copies_133 (by decide) ?_
                  exact ih61 (vx + 1) ρ (by omega) hP2 hw1b hw2b hw3b (fun k hk => by
                    rw [hcb k hk]
                    by_cases z : (k % 5 < μ.2.1 1 p ∧ k / 5 < μ.2.1 2 p) ∧ (μ.2.1 1 p - 1 - k % 5 < vx ∨ (μ.2.1 1 p - 1 - k % 5 = vx ∧ k / 5 < vy))
                    · rw [if_pos z, if_pos (by omega)]
                    · rw [if_neg z, if_neg (by omega)]) (by omega) _ _ hM hS ls (lv_sub hl [1, 2, 3, 4, 5, 0] rfl)
                ·
                  refine lv_aload_n hx hb dX7_copies_86 rfl (lv_at hl 0 rfl) ?_
                  refine lv_iload_n hx hb dX7_copies_87 rfl (lv_at hl 1 rfl) ?_
                  refine lv_iload hx hb dX7_copies_88 (lv_at hl 5 rfl) ?_
                  refine lv_iload hx hb dX7_copies_90 (lv_at hl 6 rfl) ?_
                  refine lv_iload_n hx hb dX7_copies_92 rfl (lv_at hl 2 rfl) ?_
                  refine lv_iload_n hx hb dX7_copies_93 rfl (lv_at hl 3 rfl) ?_
                  refine crV (rest := []) S hK (c_X7_turned l G om ρ p vx vy 1 0 (by first | assumption | omega | decide) (by omega) (by omega) (by omega) (by omega) (by first | assumption | omega | decide) (by first | assumption | omega | decide)) cw_X7_201 rfl ⟨Nat.le_of_ble_eq_true rfl, Nat.le_of_ble_eq_true rfl⟩ ⟨Nat.le_of_ble_eq_true rfl, Nat.le_of_ble_eq_true rfl⟩ (bk.recv hK hM rfl rfl) hl.1 rfl (Nat.le_of_ble_eq_true rfl) dX7_copies_94 hM ?_
                  refine w_top (v' := .int (nI (10 * (μ.2.1 1 p - 1 - vx) + vy))) (by show Value.int (nI (10 * (trn (ρ.2.1 1 p) (ρ.2.1 2 p) vx vy 1 0).1 + (trn (ρ.2.1 1 p) (ρ.2.1 2 p) vx vy 1 0).2)) = _; rw [r1, r2]; rfl) ?_
                  refine lv_istore (lv' := [(7, .int (nI (10 * (μ.2.1 1 p - 1 - vx) + vy))), (0, .ref om), (1, .int (nI p)), (2, .int (nI 1)), (3, .int (nI 0)), (4, .int (nI (μ.1 16))), (5, .int (nI vx)), (6, .int (nI vy))]) hx hb dX7_copies_97 hl (by decide) rfl (fun ls hl => ?_)
                  refine lv_aload_n hx hb dX7_copies_99 rfl (lv_at hl 1 rfl) ?_
                  refine lv_iload hx hb dX7_copies_100 (lv_at hl 5 rfl) ?_
                  refine lv_iload hx hb dX7_copies_102 (lv_at hl 0 rfl) ?_
                  refine lv_bipush (v := nI 10) hx hb dX7_copies_104 (by decide) ?_
                  refine n_idiv hx hb dX7_copies_106 (by omega) (by decide) (by decide) ?_
                  refine lv_iload hx hb dX7_copies_107 (lv_at hl 0 rfl) ?_
                  refine lv_bipush (v := nI 10) hx hb dX7_copies_109 (by decide) ?_
                  refine n_irem hx hb dX7_copies_111 (by omega) (by decide) (by decide) ?_
                  refine lv_aload_n hx hb dX7_copies_112 rfl (lv_at hl 1 rfl) ?_
                  refine lv_iload_n hx hb dX7_copies_113 rfl (lv_at hl 2 rfl) ?_
                  refine lv_iload hx hb dX7_copies_114 (lv_at hl 6 rfl) ?_
                  refine lv_iload hx hb dX7_copies_116 (lv_at hl 7 rfl) ?_
                  refine crV (rest := [.int (nI ((10 * (μ.2.1 1 p - 1 - vx) + vy) % 10)), .int (nI ((10 * (μ.2.1 1 p - 1 - vx) + vy) / 10)), .int (nI (μ.1 16)), .ref om]) S hK (c_X7_at l G om ρ p vx vy (by first | assumption | omega | decide)) cw_X7_112 rfl ⟨Nat.le_of_ble_eq_true rfl, Nat.le_of_ble_eq_true rfl⟩ ⟨Nat.le_of_ble_eq_true rfl, Nat.le_of_ble_eq_true rfl⟩ (bk.recv hK hM rfl rfl) hl.1 rfl (Nat.le_of_ble_eq_true rfl) dX7_copies_118 hM ?_
                  refine w_top (v' := .int (nI (clM μ p (5 * vy + vx)))) (congrArg (fun z => Value.int (nI z)) (hP2.2.2.2 (20 * p + (5 * vy + vx)) (by omega))) ?_
                  refine ctVv (rest := []) S hK (c_X7_puts l G om ρ (μ.1 16) ((10 * (μ.2.1 1 p - 1 - vx) + vy) / 10) ((10 * (μ.2.1 1 p - 1 - vx) + vy) % 10) (clM μ p (5 * vy + vx)) (by first | assumption | omega | decide)) cw_X7_96 rfl ⟨Nat.le_of_ble_eq_true rfl, Nat.le_of_ble_eq_true rfl⟩ ⟨Nat.le_of_ble_eq_true rfl, Nat.le_of_ble_eq_true rfl⟩ (bk.recv hK hM rfl rfl) hl.1 rfl (Nat.le_of_ble_eq_true rfl) dX7_copies_121 hM hS (fun _ h => h) (fun H locs hPost hz hk hS => ?_)
                  have hM := hPost
                  refine lv_iinc (v := nI (vy + 1)) (lv' := [(6, .int (nI (vy + 1))), (7, .int (nI (10 * (μ.2.1 1 p - 1 - vx) + vy))), (0, .ref om), (1, .int (nI p)), (2, .int (nI 1)), (3, .int (nI 0)), (4, .int (nI (μ.1 16))), (5, .int (nI vx))]) hx hb dX7_copies_124 hl (k := 7) rfl (inc1 _) (by decide) rfl (fun ls hl => ?_)
                  refine lv_goto (tgt := 75) hx hb dX7_copies_127 (by decide) ?_
                  exact ih75 (vy + 1) (uA ρ 4 (20 * (μ.1 16) + 5 * ((10 * (μ.2.1 1 p - 1 - vx) + vy) % 10) + ((10 * (μ.2.1 1 p - 1 - vx) + vy) / 10)) (clM μ p (5 * vy + vx))) (by first | assumption | omega) (pth_4 hP2 (by omega)) hw1b hw2b hw3b (fun k hk => by
                    rw [aA_e, hcb k hk]
                    by_cases z : k = 5 * vy + (μ.2.1 1 p - 1 - vx)
                    · rw [if_pos (by omega), if_pos (by omega)]
                      unfold miC
                      rw [if_pos (by omega)]
                      exact congrArg (clM μ p) (by omega)
                    · rw [if_neg (by omega)]
                      by_cases z2 : (k % 5 < μ.2.1 1 p ∧ k / 5 < μ.2.1 2 p) ∧ (μ.2.1 1 p - 1 - k % 5 < vx ∨ (μ.2.1 1 p - 1 - k % 5 = vx ∧ k / 5 < vy))
                      · rw [if_pos z2, if_pos (by omega)]
                      · rw [if_neg z2, if_neg (by omega)]) (by omega) _ _ hM hS ls (lv_sub hl [2, 3, 4, 5, 6, 7, 0] rfl)
            exact L75 ((μ.2.1 2 p - 0) + 1) 0 ν (Nat.zero_le _) hP hv1 hv2 hv3 hc (Nat.lt_succ_self _) _ _ hM hS ls (lv_sub hl [1, 2, 3, 4, 5, 6, 0] rfl)
      exact L61 ((μ.2.1 1 p - 0) + 1) 0 (clZ (uA (uA (uA μ 1 (μ.1 16) (μ.2.1 1 p)) 2 (μ.1 16) (μ.2.1 2 p)) 3 (μ.1 16) (μ.2.1 3 p)) (μ.1 16) 20) (Nat.zero_le _) (bg_pth _ _ _ _ _) (bg_1 _ _ _ _ _) (bg_2 _ _ _ _ _) (bg_3 _ _ _ _ _) (fun k hk => by rw [bg_4 _ _ _ _ _ hk, if_neg (by omega)]) (Nat.lt_succ_self _) _ _ hM hS ls (lv_sub hl [2, 3, 4, 5, 1, 0] rfl)
    ·
      exact absurd c_31 (by decide)
  ·
    exact absurd c_11 (by decide)

set_option maxHeartbeats 1000000 in
set_option maxRecDepth 100000 in
theorem c_X7_copies_i (l : Launch) (G : Gt) (om : Nat) (μ : Sx) (p : Nat) (h0 : MI0 μ) (hvp : p < μ.1 16) (h24 : ¬ μ.1 16 = 24) : Ct l G yX7_copies cX7_copies 8 ((some .int)) 1 0 0 [.ref om, .int (nI p), .int (nI 0), .int (nI 0)] (fun H => bk G om (mL G om μ) H) (some (.int (nI (μ.1 16)))) (fun H => ∃ σ : Sx, bk G om (mL G om (uS σ 16 (μ.1 16 + 1))) H ∧ NW μ (μ.2.1 1 p) (μ.2.1 2 p) (μ.2.1 3 p) (idC (μ.2.1 1 p) (μ.2.1 2 p) (clM μ p)) σ) (fun q => om ≤ q ∧ q < om + 20) := by
  refine ct_entry [(0, .ref om), (1, .int (nI p)), (2, .int (nI 0)), (3, .int (nI 0))] (by decide) (Nat.le_of_ble_eq_true rfl) rfl ?_
  intro zp ze zs zm za zb zt zc Q S hK hPre hin hE ls hl
  have hx := S.1
  have hb := S.2.1
  have hM := hPre
  have hS : va_S (fun q => om ≤ q ∧ q < om + 20) zs.heap zs.heap [] := va_S.rf
  obtain ⟨hw1, hw5, hh1, hh4, hf5, hcl⟩ := h0.2 p hvp
  have hp24 := h0.1
  refine lv_aload_n hx hb dX7_copies_0 rfl (lv_at hl 0 rfl) ?_
  refine kg (C := RX7) (T := TX7) (N := 32) (ci := 5) (k := 16) (v := .int (nI (μ.1 16))) S hK rfl inX7 (by decide) q_746 dX7_copies_1 hM rfl rfl ?_
  refine lv_istore (lv' := [(4, .int (nI (μ.1 16))), (0, .ref om), (1, .int (nI p)), (2, .int (nI 0)), (3, .int (nI 0))]) hx hb dX7_copies_4 hl (by decide) rfl (fun ls hl => ?_)
  refine lv_aload_n hx hb dX7_copies_6 rfl (lv_at hl 1 rfl) ?_
  refine lv_iload hx hb dX7_copies_7 (lv_at hl 0 rfl) ?_
  refine lv_iload_n hx hb dX7_copies_9 rfl (lv_at hl 4 rfl) ?_
  refine lv_iconst (v := nI 1) hx hb dX7_copies_10 (by decide) ?_
  refine n_icmp_ne (tgt := 23) hx hb dX7_copies_11 (by decide) (by decide) (by decide) (fun c_11 => ?_) (fun c_11 => ?_)
  ·
    refine lv_aload_n hx hb dX7_copies_23 rfl (lv_at hl 1 rfl) ?_
    refine kg (C := RX7) (T := TX7) (N := 32) (ci := 5) (k := 1) (v := .ref (om + 2)) S hK rfl inX7 (by decide) q_731 dX7_copies_24 hM rfl rfl ?_
    refine lv_iload_n hx hb dX7_copies_27 rfl (lv_at hl 2 rfl) ?_
    refine kil (f := μ.2.1 1) S hK dX7_copies_28 2 hM rfl (by decide) rfl (by omega) ?_
    refine lv_iload_n hx hb dX7_copies_29 rfl (lv_at hl 4 rfl) ?_
    refine lv_iconst (v := nI 1) hx hb dX7_copies_30 (by decide) ?_
    refine n_icmp_ne (tgt := 43) hx hb dX7_copies_31 (by decide) (by decide) (by decide) (fun c_31 => ?_) (fun c_31 => ?_)
    ·
      refine lv_aload_n hx hb dX7_copies_43 rfl (lv_at hl 1 rfl) ?_
      refine kg (C := RX7) (T := TX7) (N := 32) (ci := 5) (k := 2) (v := .ref (om + 3)) S hK rfl inX7 (by decide) q_732 dX7_copies_44 hM rfl rfl ?_
      refine lv_iload_n hx hb dX7_copies_47 rfl (lv_at hl 2 rfl) ?_
      refine kil (f := μ.2.1 2) S hK dX7_copies_48 3 hM rfl (by decide) rfl (by omega) ?_
      refine lv_aload_n hx hb dX7_copies_49 rfl (lv_at hl 1 rfl) ?_
      refine kg (C := RX7) (T := TX7) (N := 32) (ci := 5) (k := 3) (v := .ref (om + 4)) S hK rfl inX7 (by decide) q_733 dX7_copies_50 hM rfl rfl ?_
      refine lv_iload_n hx hb dX7_copies_53 rfl (lv_at hl 2 rfl) ?_
      refine kil (f := μ.2.1 3) S hK dX7_copies_54 4 hM rfl (by decide) rfl (by omega) ?_
      refine ctVv (rest := []) S hK (c_X7_begins l G om μ (μ.1 16) (μ.2.1 1 p) (μ.2.1 2 p) (μ.2.1 3 p) (by omega)) cw_X7_89 rfl ⟨Nat.le_of_ble_eq_true rfl, Nat.le_of_ble_eq_true rfl⟩ ⟨Nat.le_of_ble_eq_true rfl, Nat.le_of_ble_eq_true rfl⟩ (bk.recv hK hM rfl rfl) hl.1 rfl (Nat.le_of_ble_eq_true rfl) dX7_copies_55 hM hS (fun _ h => h) (fun H locs hPost hz hk hS => ?_)
      have hM := hPost
      refine lv_iconst (v := nI 0) hx hb dX7_copies_58 (by decide) ?_
      refine lv_istore (lv' := [(5, .int (nI 0)), (4, .int (nI (μ.1 16))), (0, .ref om), (1, .int (nI p)), (2, .int (nI 0)), (3, .int (nI 0))]) hx hb dX7_copies_59 hl (by decide) rfl (fun ls hl => ?_)
      have L61 : ∀ (fu : Nat), ∀ (vx : Nat) (ν : Sx), (vx ≤ μ.2.1 1 p) → (pth (μ.1 16) ν μ) → (ν.2.1 1 (μ.1 16) = μ.2.1 1 p) → (ν.2.1 2 (μ.1 16) = μ.2.1 2 p) → (ν.2.1 3 (μ.1 16) = μ.2.1 3 p) → (∀ k, k < 20 → ν.2.1 4 (20 * μ.1 16 + k) = if (k % 5 < μ.2.1 1 p ∧ k / 5 < μ.2.1 2 p) ∧ (k % 5 < vx ∨ (k % 5 = vx ∧ k / 5 < 0)) then idC (μ.2.1 1 p) (μ.2.1 2 p) (clM μ p) k else 0) → μ.2.1 1 p - vx < fu → ∀ (H : Heap) (locs : List Loc), bk G om (mL G om ν) H → va_S (fun q => om ≤ q ∧ q < om + 20) zs.heap H locs → ∀ ls : Array Slot, lv_has ls 8 [(0, .ref om), (1, .int (nI p)), (2, .int (nI 0)), (3, .int (nI 0)), (4, .int (nI (μ.1 16))), (5, .int (nI vx))] → W zp l ze (rL 1 0 0) zs zm za zb zt zc H locs 0 0 Q (F0 zm 61 ls []) := by
        intro fu
        induction fu with
        | zero =>
          intro vx ν hvx hP hv1 hv2 hv3 hc hmu H locs hM hS ls hl
          exact absurd hmu (Nat.not_lt_zero _)
        | succ fu ih61 =>
          intro vx ν hvx hP hv1 hv2 hv3 hc hmu H locs hM hS ls hl
          have e1 : ν.2.1 1 p = μ.2.1 1 p := (hP.2.2.1 p (by omega)).1
          have e2 : ν.2.1 2 p = μ.2.1 2 p := (hP.2.2.1 p (by omega)).2.1
          have e16 : ν.1 16 = μ.1 16 := hP.1 16 (by decide)
          refine lv_iload hx hb dX7_copies_61 (lv_at hl 5 rfl) ?_
          refine lv_aload_n hx hb dX7_copies_63 rfl (lv_at hl 0 rfl) ?_
          refine kg (C := RX7) (T := TX7) (N := 32) (ci := 5) (k := 1) (v := .ref (om + 2)) S hK rfl inX7 (by decide) q_731 dX7_copies_64 hM rfl rfl ?_
          refine lv_iload_n hx hb dX7_copies_67 rfl (lv_at hl 1 rfl) ?_
          refine kil (f := ν.2.1 1) S hK dX7_copies_68 2 hM rfl (by decide) rfl (by omega) ?_
          refine n_icmp_ge (tgt := 136) hx hb dX7_copies_69 (by decide) (by omega) (by omega) (fun c_69 => ?_) (fun c_69 => ?_)
          ·
            have hvx9 : vx = μ.2.1 1 p := by omega
            refine lv_aload_n hx hb dX7_copies_136 rfl (lv_at hl 0 rfl) ?_
            refine lv_dup hx hb dX7_copies_137 rfl ?_
            refine kg (C := RX7) (T := TX7) (N := 32) (ci := 5) (k := 16) (v := .int (nI (ν.1 16))) S hK rfl inX7 (by decide) q_746 dX7_copies_138 hM rfl rfl ?_
            refine lv_iconst (v := nI 1) hx hb dX7_copies_141 (by decide) ?_
            refine n_iadd hx hb dX7_copies_142 ?_
            refine kp (C := RX7) (T := TX7) (N := 32) (ci := 5) (k := 16) (ty := .int) tyX7 tyX7_ok nmX7 S hK rfl inX7 (by decide) q_746 rfl dX7_copies_143 rfl rfl rfl hM rfl (Nat.le_of_ble_eq_true rfl) (L1 := mL G om (uS ν 16 ((ν.1 16) + 1))) rfl hS (by first | exact ⟨by omega, by omega⟩ | omega) (fun H locs hM hS hz hk => ?_)
            refine lv_iload hx hb dX7_copies_146 (lv_at hl 4 rfl) ?_
            replace hM : bk G om (mL G om (uS ν 16 (μ.1 16 + 1))) H := bk_eq hM (by rw [e16])
            exact hE _ _ _ _ _ _ (kr_i dX7_copies_148) hS (by decide) (by decide) ⟨ν, hM, ⟨hP, hv1, hv2, hv3, fun k hk => by
              rw [hc k hk]
              unfold idC
              by_cases z : k % 5 < μ.2.1 1 p ∧ k / 5 < μ.2.1 2 p
              · rw [if_pos (by omega), if_pos z]
              · rw [if_neg (by omega), if_neg z]⟩⟩
          ·
            refine lv_iconst (v := nI 0) hx hb dX7_copies_72 (by decide) ?_
            refine lv_istore (lv' := [(6, .int (nI 0)), (0, .ref om), (1, .int (nI p)), (2, .int (nI 0)), (3, .int (nI 0)), (4, .int (nI (μ.1 16))), (5, .int (nI vx))]) hx hb dX7_copies_73 hl (by decide) rfl (fun ls hl => ?_)
            have L75 : ∀ (fu : Nat), ∀ (vy : Nat) (ρ : Sx), (vy ≤ μ.2.1 2 p) → (pth (μ.1 16) ρ μ) → (ρ.2.1 1 (μ.1 16) = μ.2.1 1 p) → (ρ.2.1 2 (μ.1 16) = μ.2.1 2 p) → (ρ.2.1 3 (μ.1 16) = μ.2.1 3 p) → (∀ k, k < 20 → ρ.2.1 4 (20 * μ.1 16 + k) = if (k % 5 < μ.2.1 1 p ∧ k / 5 < μ.2.1 2 p) ∧ (k % 5 < vx ∨ (k % 5 = vx ∧ k / 5 < vy)) then idC (μ.2.1 1 p) (μ.2.1 2 p) (clM μ p) k else 0) → μ.2.1 2 p - vy < fu → ∀ (H : Heap) (locs : List Loc), bk G om (mL G om ρ) H → va_S (fun q => om ≤ q ∧ q < om + 20) zs.heap H locs → ∀ ls : Array Slot, lv_has ls 8 [(0, .ref om), (1, .int (nI p)), (2, .int (nI 0)), (3, .int (nI 0)), (4, .int (nI (μ.1 16))), (5, .int (nI vx)), (6, .int (nI vy))] → W zp l ze (rL 1 0 0) zs zm za zb zt zc H locs 0 0 Q (F0 zm 75 ls []) := by
              intro fu
              induction fu with
              | zero =>
                intro vy ρ hvy hP2 hw1b hw2b hw3b hcb hmu H locs hM hS ls hl
                exact absurd hmu (Nat.not_lt_zero _)
              | succ fu ih75 =>
                intro vy ρ hvy hP2 hw1b hw2b hw3b hcb hmu H locs hM hS ls hl
                have r1 : ρ.2.1 1 p = μ.2.1 1 p := (hP2.2.2.1 p (by omega)).1
                have r2 : ρ.2.1 2 p = μ.2.1 2 p := (hP2.2.2.1 p (by omega)).2.1
                have r16 : ρ.1 16 = μ.1 16 := hP2.1 16 (by decide)
                refine lv_iload hx hb dX7_copies_75 (lv_at hl 6 rfl) ?_
                refine lv_aload_n hx hb dX7_copies_77 rfl (lv_at hl 0 rfl) ?_
                refine kg (C := RX7) (T := TX7) (N := 32) (ci := 5) (k := 2) (v := .ref (om + 3)) S hK rfl inX7 (by decide) q_732 dX7_copies_78 hM rfl rfl ?_
                refine lv_iload_n hx hb dX7_copies_81 rfl (lv_at hl 1 rfl) ?_
                refine kil (f := ρ.2.1 2) S hK dX7_copies_82 3 hM rfl (by decide) rfl (by omega) ?_
                refine n_icmp_ge (tgt := 130) hx hb dX7_copies_83 (by decide) (by omega) (by omega) (fun c_83 => ?_) (fun c_83 => ?_)
                ·
                  refine lv_iinc (v := nI (vx + 1)) (lv' := [(5, .int (nI (vx + 1))), (0, .ref om), (1, .int (nI p)), (2, .int (nI 0)), (3, .int (nI 0)), (4, .int (nI (μ.1 16))), (6, .int (nI vy))]) hx hb dX7_copies_130 hl (k := 5) rfl (inc1 _) (by decide) rfl (fun ls hl => ?_)
                  refine lv_goto (tgt := 61) hx hb dX7_copies_133 (by decide) ?_
                  exact ih61 (vx + 1) ρ (by omega) hP2 hw1b hw2b hw3b (fun k hk => by
                    rw [hcb k hk]
                    by_cases z : (k % 5 < μ.2.1 1 p ∧ k / 5 < μ.2.1 2 p) ∧ (k % 5 < vx ∨ (k % 5 = vx ∧ k / 5 < vy))
                    · rw [if_pos z, if_pos (by omega)]
                    · rw [if_neg z, if_neg (by omega)]) (by omega) _ _ hM hS ls (lv_sub hl [1, 2, 3, 4, 5, 0] rfl)
                ·
                  refine lv_aload_n hx hb dX7_copies_86 rfl (lv_at hl 0 rfl) ?_
                  refine lv_iload_n hx hb dX7_copies_87 rfl (lv_at hl 1 rfl) ?_
                  refine lv_iload hx hb dX7_copies_88 (lv_at hl 5 rfl) ?_
                  refine lv_iload hx hb dX7_copies_90 (lv_at hl 6 rfl) ?_
                  refine lv_iload_n hx hb dX7_copies_92 rfl (lv_at hl 2 rfl) ?_
                  refine lv_iload_n hx hb dX7_copies_93 rfl (lv_at hl 3 rfl) ?_
                  refine crV (rest := []) S hK (c_X7_turned l G om ρ p vx vy 0 0 (by first | assumption | omega | decide) (by omega) (by omega) (by omega) (by omega) (by first | assumption | omega | decide) (by first | assumption | omega | decide)) cw_X7_201 rfl ⟨Nat.le_of_ble_eq_true rfl, Nat.le_of_ble_eq_true rfl⟩ ⟨Nat.le_of_ble_eq_true rfl, Nat.le_of_ble_eq_true rfl⟩ (bk.recv hK hM rfl rfl) hl.1 rfl (Nat.le_of_ble_eq_true rfl) dX7_copies_94 hM ?_
                  refine w_top (v' := .int (nI (10 * vx + vy))) (by show Value.int (nI (10 * (trn (ρ.2.1 1 p) (ρ.2.1 2 p) vx vy 0 0).1 + (trn (ρ.2.1 1 p) (ρ.2.1 2 p) vx vy 0 0).2)) = _; rw [r1, r2]; rfl) ?_
                  refine lv_istore (lv' := [(7, .int (nI (10 * vx + vy))), (0, .ref om), (1, .int (nI p)), (2, .int (nI 0)), (3, .int (nI 0)), (4, .int (nI (μ.1 16))), (5, .int (nI vx)), (6, .int (nI vy))]) hx hb dX7_copies_97 hl (by decide) rfl (fun ls hl => ?_)
                  refine lv_aload_n hx hb dX7_copies_99 rfl (lv_at hl 1 rfl) ?_
                  refine lv_iload hx hb dX7_copies_100 (lv_at hl 5 rfl) ?_
                  refine lv_iload hx hb dX7_copies_102 (lv_at hl 0 rfl) ?_
                  refine lv_bipush (v := nI 10) hx hb dX7_copies_104 (by decide) ?_
                  refine n_idiv hx hb dX7_copies_106 (by omega) (by decide) (by decide) ?_
                  refine lv_iload hx hb dX7_copies_107 (lv_at hl 0 rfl) ?_
                  refine lv_bipush (v := nI 10) hx hb dX7_copies_109 (by decide) ?_
                  refine n_irem hx hb dX7_copies_111 (by omega) (by decide) (by decide) ?_
                  refine lv_aload_n hx hb dX7_copies_112 rfl (lv_at hl 1 rfl) ?_
                  refine lv_iload_n hx hb dX7_copies_113 rfl (lv_at hl 2 rfl) ?_
                  refine lv_iload hx hb dX7_copies_114 (lv_at hl 6 rfl) ?_
                  refine lv_iload hx hb dX7_copies_116 (lv_at hl 7 rfl) ?_
                  refine crV (rest := [.int (nI ((10 * vx + vy) % 10)), .int (nI ((10 * vx + vy) / 10)), .int (nI (μ.1 16)), .ref om]) S hK (c_X7_at l G om ρ p vx vy (by first | assumption | omega | decide)) cw_X7_112 rfl ⟨Nat.le_of_ble_eq_true rfl, Nat.le_of_ble_eq_true rfl⟩ ⟨Nat.le_of_ble_eq_true rfl, Nat.le_of_ble_eq_true rfl⟩ (bk.recv hK hM rfl rfl) hl.1 rfl (Nat.le_of_ble_eq_true rfl) dX7_copies_118 hM ?_
                  refine w_top (v' := .int (nI (clM μ p (5 * vy + vx)))) (congrArg (fun z => Value.int (nI z)) (hP2.2.2.2 (20 * p + (5 * vy + vx)) (by omega))) ?_
                  refine ctVv (rest := []) S hK (c_X7_puts l G om ρ (μ.1 16) ((10 * vx + vy) / 10) ((10 * vx + vy) % 10) (clM μ p (5 * vy + vx)) (by first | assumption | omega | decide)) cw_X7_96 rfl ⟨Nat.le_of_ble_eq_true rfl, Nat.le_of_ble_eq_true rfl⟩ ⟨Nat.le_of_ble_eq_true rfl, Nat.le_of_ble_eq_true rfl⟩ (bk.recv hK hM rfl rfl) hl.1 rfl (Nat.le_of_ble_eq_true rfl) dX7_copies_121 hM hS (fun _ h => h) (fun H locs hPost hz hk hS => ?_)
                  have hM := hPost
                  refine lv_iinc (v := nI (vy + 1)) (lv' := [(6, .int (nI (vy + 1))), (7, .int (nI (10 * vx + vy))), (0, .ref om), (1, .int (nI p)), (2, .int (nI 0)), (3, .int (nI 0)), (4, .int (nI (μ.1 16))), (5, .int (nI vx))]) hx hb dX7_copies_124 hl (k := 7) rfl (inc1 _) (by decide) rfl (fun ls hl => ?_)
                  refine lv_goto (tgt := 75) hx hb dX7_copies_127 (by decide) ?_
                  exact ih75 (vy + 1) (uA ρ 4 (20 * (μ.1 16) + 5 * ((10 * vx + vy) % 10) + ((10 * vx + vy) / 10)) (clM μ p (5 * vy + vx))) (by first | assumption | omega) (pth_4 hP2 (by omega)) hw1b hw2b hw3b (fun k hk => by
                    rw [aA_e, hcb k hk]
                    by_cases z : k = 5 * vy + vx
                    · rw [if_pos (by omega), if_pos (by omega)]
                      unfold idC
                      rw [if_pos (by omega)]
                      exact congrArg (clM μ p) (by omega)
                    · rw [if_neg (by omega)]
                      by_cases z2 : (k % 5 < μ.2.1 1 p ∧ k / 5 < μ.2.1 2 p) ∧ (k % 5 < vx ∨ (k % 5 = vx ∧ k / 5 < vy))
                      · rw [if_pos z2, if_pos (by omega)]
                      · rw [if_neg z2, if_neg (by omega)]) (by omega) _ _ hM hS ls (lv_sub hl [2, 3, 4, 5, 6, 7, 0] rfl)
            exact L75 ((μ.2.1 2 p - 0) + 1) 0 ν (Nat.zero_le _) hP hv1 hv2 hv3 hc (Nat.lt_succ_self _) _ _ hM hS ls (lv_sub hl [1, 2, 3, 4, 5, 6, 0] rfl)
      exact L61 ((μ.2.1 1 p - 0) + 1) 0 (clZ (uA (uA (uA μ 1 (μ.1 16) (μ.2.1 1 p)) 2 (μ.1 16) (μ.2.1 2 p)) 3 (μ.1 16) (μ.2.1 3 p)) (μ.1 16) 20) (Nat.zero_le _) (bg_pth _ _ _ _ _) (bg_1 _ _ _ _ _) (bg_2 _ _ _ _ _) (bg_3 _ _ _ _ _) (fun k hk => by rw [bg_4 _ _ _ _ _ hk, if_neg (by omega)]) (Nat.lt_succ_self _) _ _ hM hS ls (lv_sub hl [2, 3, 4, 5, 1, 0] rfl)
    ·
      exact absurd c_31 (by decide)
  ·
    exact absurd c_11 (by decide)
