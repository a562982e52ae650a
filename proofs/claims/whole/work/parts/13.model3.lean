
/-! walks: the reference's readers of a part -/
def ways_M (μ : Sx) (p st : Int32) : Int32 × Sx := if inI p (μ.1 16) then (if inI st (1 <<< μ.2.1 3 (cx p)) then (nI (tl 10 (tcM (clM μ (cx p)) (cx st))), μ) else (-1, rfM μ 1)) else (-1, rfM μ 1)
def cell_M (μ : Sx) (p xy : Int32) : Int32 × Sx := if inI p (μ.1 16) then (if isC (μ.2.1 1 (cx p)) (μ.2.1 2 (cx p)) xy then (nI (clM μ (cx p) (5 * (cx xy % 10) + cx xy / 10)), μ) else (-1, rfM μ 1)) else (-1, rfM μ 1)
def partOf_M (μ : Sx) (p what : Int32) : Int32 × Sx := if inI p (μ.1 16) then (if what = 0 then (nI (μ.2.1 1 (cx p)), μ) else if what = 1 then (nI (μ.2.1 2 (cx p)), μ) else if what = 2 then (nI (μ.2.1 3 (cx p)), μ) else if what = 3 then (nI (opn (clM μ (cx p)) 20), μ) else (-2, rfM μ 2)) else (-1, rfM μ 1)
/-- BARRED of a set of CELLS for each STATE -/
abbrev brM (cl : Nat → Nat) (f : Nat) : Nat := bo (fun s => !decide (pcn evP (tcM cl s) 20 = pcn odP (tcM cl s) 20)) (1 <<< f)
def barred_M (μ : Sx) (p : Int32) : Int64 × Sx := if inI p (μ.1 16) then (lN (brM (clM μ (cx p)) (μ.2.1 3 (cx p))), μ) else (lN 4000000000000000000 - (-1 : Int32).toInt64, rfM μ 1)
theorem sw4 (x : Int32) : x = 0 ∨ x = 1 ∨ x = 2 ∨ x = 3 ∨ (x.toInt < 0 ∨ 3 < x.toInt) := by
  by_cases h : x.toInt < 0 ∨ 3 < x.toInt
  · exact Or.inr (Or.inr (Or.inr (Or.inr h)))
  · have h1 : x.toInt = 0 ∨ x.toInt = 1 ∨ x.toInt = 2 ∨ x.toInt = 3 := by omega
    rcases h1 with q | q | q | q
    · exact Or.inl (Int32.toInt_inj.mp q)
    · exact Or.inr (Or.inl (Int32.toInt_inj.mp q))
    · exact Or.inr (Or.inr (Or.inl (Int32.toInt_inj.mp q)))
    · exact Or.inr (Or.inr (Or.inr (Or.inl (Int32.toInt_inj.mp q))))
theorem sw_ne {x k : Int32} {n : Int} (hd : x.toInt < 0 ∨ n < x.toInt) (h0 : 0 ≤ k.toInt) (h1 : k.toInt ≤ n) : ¬ x = k := by
  intro q
  subst q
  omega
theorem mo0 : ∀ a, a < 21 → ∀ b, b < 21 → ((nI a - nI b = 0) ↔ a = b) := by decide +kernel
theorem mo1 : ∀ a, a < 21 → ∀ b, b < 21 → nI a - nI b + nI 1 = nI (a + 1) - nI b := by decide +kernel
theorem mo2 : ∀ a, a < 21 → ∀ b, b < 21 → nI a - nI b + (-1) = nI a - nI (b + 1) := by decide +kernel
theorem mo3 : ∀ a, a < 21 → ∀ b, b < 21 → nI a - nI b + nI 0 = nI a - nI b := by decide +kernel
abbrev moD (s k : Nat) : Int32 := nI (pcn evP s k) - nI (pcn odP s k)
theorem pcn_s (P : Nat → Bool) (s k : Nat) : pcn P s (k + 1) = pcn P s k + (if P k && s.testBit k then 1 else 0) := rfl
theorem md0 {s k : Nat} (hk : k < 20) (h : s >>> k &&& 1 = 0) : moD s k + nI 0 = moD s (k + 1) := by
  have h1 := tb0.mp h
  unfold moD
  rw [mo3 _ (by have := pcn_le evP s k; omega) _ (by have := pcn_le odP s k; omega), pcn_s, pcn_s, h1]
  simp
theorem md1 {s k : Nat} (hk : k < 20) (h : ¬ (s >>> k &&& 1 = 0)) (he : (k % 5 + k / 5) % 2 = 0) : moD s k + nI 1 = moD s (k + 1) := by
  have h1 := tb1.mp h
  have h2 : k % 2 = 0 := by omega
  unfold moD
  rw [mo1 _ (by have := pcn_le evP s k; omega) _ (by have := pcn_le odP s k; omega), pcn_s, pcn_s, h1]
  simp [evP, odP, h2]
theorem md2 {s k : Nat} (hk : k < 20) (h : ¬ (s >>> k &&& 1 = 0)) (he : ¬ (k % 5 + k / 5) % 2 = 0) : moD s k + (-1) = moD s (k + 1) := by
  have h1 := tb1.mp h
  have h2 : k % 2 = 1 := by omega
  unfold moD
  rw [mo2 _ (by have := pcn_le evP s k; omega) _ (by have := pcn_le odP s k; omega), pcn_s, pcn_s, h1]
  simp [evP, odP, h2]
theorem md9 (s : Nat) : (moD s 20 = 0) ↔ pcn evP s 20 = pcn odP s 20 := mo0 _ (by have := pcn_le evP s 20; omega) _ (by have := pcn_le odP s 20; omega)
/-- what covers a CELL by the first TILING -/
def fcv : Nat → Nat → Nat → Nat
  | 0, _, _ => 0
  | n + 1, s, own => if ct s = own then (if rgt s (ct s) && tlb 10 (andn s (3 <<< ct s)) then 1 else 2) else if (if rgt s (ct s) && tlb 10 (andn s (3 <<< ct s)) then ct s + 1 else ct s + 5) = own then (if rgt s (ct s) && tlb 10 (andn s (3 <<< ct s)) then 3 else 4) else
      fcv n (andn s (1 <<< ct s ||| 1 <<< (if rgt s (ct s) && tlb 10 (andn s (3 <<< ct s)) then ct s + 1 else ct s + 5))) own
def covered_M (μ : Sx) (p st xy : Int32) : Int32 × Sx := if inI p (μ.1 16) && (inI st (1 <<< μ.2.1 3 (cx p)) && isC (μ.2.1 1 (cx p)) (μ.2.1 2 (cx p)) xy) then
    (if tlb 10 (tcM (clM μ (cx p)) (cx st)) then (if clM μ (cx p) (5 * (cx xy % 10) + cx xy / 10) = 0 then nI 0 else if (tcM (clM μ (cx p)) (cx st)).testBit (5 * (cx xy % 10) + cx xy / 10) then nI (fcv 10 (tcM (clM μ (cx p)) (cx st)) (5 * (cx xy % 10) + cx xy / 10)) else nI 5) else -9, μ) else (-1, rfM μ 1)
theorem tl10 {s : Nat} (hs : s < 2 ^ 20) {n : Nat} (hp : pc20 s ≤ 2 * n) (hn : n ≤ 10) : tl 10 s = tl n s := tl_fuel n 10 s hs hp hn
theorem tlb10 {s : Nat} (hs : s < 2 ^ 20) {n : Nat} (hp : pc20 s ≤ 2 * n) (hn : n ≤ 10) : tlb 10 s = tlb n s := by unfold tlb; rw [tl10 hs hp hn]
/-- the search's own first domino, and what is left -/
theorem fcv_go {s own n : Nat} (hs : s < 2 ^ 20) (ht : tlb 10 s = true) (ho : s.testBit own = true) (hp : pc20 s ≤ 2 * n) (hn : n ≤ 10) (z : Bool) (hz : (rgt s (ct s) && tlb 10 (andn s (3 <<< ct s))) = z) (h1 : ¬ ct s = own) (h2 : ¬ (if z then ct s + 1 else ct s + 5) = own) :
    ∃ m, n = m + 1 ∧ andn s (1 <<< ct s ||| 1 <<< (if z then ct s + 1 else ct s + 5)) < 2 ^ 20 ∧ tlb 10 (andn s (1 <<< ct s ||| 1 <<< (if z then ct s + 1 else ct s + 5))) = true ∧ (andn s (1 <<< ct s ||| 1 <<< (if z then ct s + 1 else ct s + 5))).testBit own = true ∧ pc20 (andn s (1 <<< ct s ||| 1 <<< (if z then ct s + 1 else ct s + 5))) ≤ 2 * m := by
  have h0 : ¬ s = 0 := by
    intro e
    rw [e] at ho
    simp at ho
  obtain ⟨m, rfl⟩ : ∃ m, n = m + 1 := by
    cases n with
    | zero => exact absurd (pc_z hs (by omega)) h0
    | succ m => exact ⟨m, rfl⟩
  have hown : ∀ o, ¬ o = own → (andn s (1 <<< ct s ||| 1 <<< o)).testBit own = true := by
    intro o h
    rw [andn_tb, ho, Nat.testBit_or, Nat.one_shiftLeft, Nat.testBit_two_pow, Nat.one_shiftLeft, Nat.testBit_two_pow]
    simp [h1, h]
  refine ⟨m, rfl, andn_lt hs, ?_⟩
  cases z
  · have hd : dwn s (ct s) = true ∧ tlb 10 (andn s (33 <<< ct s)) = true := by
      have e := tlb_s (n := 9) h0
      rw [ht] at e
      have e9 : ∀ t, t < 2 ^ 20 → pc20 t ≤ 2 * 9 → tlb 9 t = tlb 10 t := fun t h3 h4 => (tlb10 h3 h4 (by omega)).symm
      have hp20 : pc20 s ≤ 2 * (9 + 1) := pcn_le _ _ _
      cases hd : dwn s (ct s)
      · rw [hd] at e
        cases hr : rgt s (ct s)
        · rw [hr] at e
          simp at e
        · rw [hr, e9 _ (andn_lt hs) (pc_andn h0 hs hp20 hr)] at e
          rw [hr] at hz
          simp at e hz
          rw [hz] at e
          cases e
      · refine ⟨rfl, ?_⟩
        rw [hd, e9 _ (andn_lt hs) (pc_andn2 h0 hs hp20 hd)] at e
        cases hr : rgt s (ct s)
        · rw [hr] at e
          simp at e
          exact e
        · rw [hr, e9 _ (andn_lt hs) (pc_andn h0 hs hp20 hr)] at e
          rw [hr] at hz
          simp at e hz
          rw [hz] at e
          simpa using e
    rw [if_neg (by decide)] at h2 ⊢
    rw [← s33]
    refine ⟨hd.2, ?_, pc_andn2 h0 hs hp hd.1⟩
    rw [s33]
    exact hown _ h2
  · rw [if_pos rfl] at h2 ⊢
    obtain ⟨hr, ht2⟩ := (Bool.and_eq_true _ _).mp hz
    rw [← s3]
    refine ⟨ht2, ?_, pc_andn h0 hs hp hr⟩
    rw [s3]
    exact hown _ h2

set_option maxHeartbeats 1000000 in
set_option maxRecDepth 100000 in
theorem c_X7_ways (l : Launch) (G : Gt) (om : Nat) (μ : Sx) (p : Int32) (st : Int32) (hI : MI0 μ) : Ct l G yX7_ways cX7_ways 3 ((some .int)) 25 0 0 [.ref om, .int p, .int st] (fun H => bk G om (mL G om μ) H) (some (.int ((ways_M μ p st).1))) (fun H => bk G om (mL G om ((ways_M μ p st).2)) H) (fun q => om ≤ q ∧ q < om + 20) := by
  refine ct_entry [(0, .ref om), (1, .int p), (2, .int st)] (by decide) (Nat.le_of_ble_eq_true rfl) rfl ?_
  intro zp ze zs zm za zb zt zc Q S hK hPre hin hE ls hl
  have hx := S.1
  have hb := S.2.1
  have hM := hPre
  have hS : va_S (fun q => om ≤ q ∧ q < om + 20) zs.heap zs.heap [] := va_S.rf
  have hn16 := hI.1
  refine lv_aload_n hx hb dX7_ways_0 rfl (lv_at hl 0 rfl) ?_
  refine lv_iload_n hx hb dX7_ways_1 rfl (lv_at hl 1 rfl) ?_
  refine crV (rest := []) S hK (c_X7_isPart l G om μ p (by first | assumption | omega | decide)) cw_X7_103 rfl ⟨Nat.le_of_ble_eq_true rfl, Nat.le_of_ble_eq_true rfl⟩ ⟨Nat.le_of_ble_eq_true rfl, Nat.le_of_ble_eq_true rfl⟩ (bk.recv hK hM rfl rfl) hl.1 rfl (Nat.le_of_ble_eq_true rfl) dX7_ways_2 hM ?_
  refine z_if_eq (tgt := 33) hx hb dX7_ways_5 (by decide) (fun c_5 => ?_) (fun c_5 => ?_)
  ·
    refine lv_aload_n hx hb dX7_ways_33 rfl (lv_at hl 0 rfl) ?_
    refine lv_iconst (v := (-1)) hx hb dX7_ways_34 (by decide) ?_
    refine ctV (rest := []) S hK (c_X7_refuse l G om μ (-1) 1 (by first | assumption | omega | decide) (by first | assumption | omega | decide)) cw_X7_72 rfl ⟨Nat.le_of_ble_eq_true rfl, Nat.le_of_ble_eq_true rfl⟩ ⟨Nat.le_of_ble_eq_true rfl, Nat.le_of_ble_eq_true rfl⟩ (bk.recv hK hM rfl rfl) hl.1 rfl (Nat.le_of_ble_eq_true rfl) dX7_ways_35 hM hS (fun _ h => h) (fun H locs hPost hz hk hS => ?_)
    have hM := hPost
    have hr : ways_M μ p st = ((-1), uA μ 0 1 (μ.2.1 0 1 + 1)) := by unfold ways_M; simp [c_5]
    refine w_top (v' := .int ((ways_M μ p st).1)) (congrArg (fun z => Value.int z) (congrArg Prod.fst hr).symm) ?_
    replace hM := bk_eq hM (show mL G om (uA μ 0 1 (μ.2.1 0 1 + 1)) = mL G om ((ways_M μ p st).2) from by rw [hr])
    exact hE _ _ _ _ _ _ (kr_i dX7_ways_38) hS (by decide) (by decide) hM
  ·
    obtain ⟨vp, hvp, rfl⟩ := inI_x c_5
    obtain ⟨hw1, hw5, hh1, hh4, hvf, hvc⟩ := hI.2 vp hvp
    have hcx := cx_n (j := vp) (by omega)
    have hsh := shl_le hvf
    refine lv_iload_n hx hb dX7_ways_8 rfl (lv_at hl 2 rfl) ?_
    refine lv_aload_n hx hb dX7_ways_9 rfl (lv_at hl 0 rfl) ?_
    refine lv_iload_n hx hb dX7_ways_10 rfl (lv_at hl 1 rfl) ?_
    refine crV (rest := [.int st]) S hK (c_X7_states l G om μ vp (by first | assumption | omega | decide) (by first | assumption | omega | decide)) cw_X7_131 rfl ⟨Nat.le_of_ble_eq_true rfl, Nat.le_of_ble_eq_true rfl⟩ ⟨Nat.le_of_ble_eq_true rfl, Nat.le_of_ble_eq_true rfl⟩ (bk.recv hK hM rfl rfl) hl.1 rfl (Nat.le_of_ble_eq_true rfl) dX7_ways_11 hM ?_
    refine crS (rest := []) S hK (c_X7_isIn l G st (1 <<< μ.2.1 3 vp) (by first | assumption | omega | decide)) cw_X7_80 rfl ⟨Nat.le_of_ble_eq_true rfl, Nat.le_of_ble_eq_true rfl⟩ ⟨Nat.le_of_ble_eq_true rfl, Nat.le_of_ble_eq_true rfl⟩ hl.1 rfl (Nat.le_of_ble_eq_true rfl) dX7_ways_14 trivial ?_
    refine z_if_eq (tgt := 33) hx hb dX7_ways_17 (by decide) (fun c_17 => ?_) (fun c_17 => ?_)
    ·
      refine lv_aload_n hx hb dX7_ways_33 rfl (lv_at hl 0 rfl) ?_
      refine lv_iconst (v := (-1)) hx hb dX7_ways_34 (by decide) ?_
      refine ctV (rest := []) S hK (c_X7_refuse l G om μ (-1) 1 (by first | assumption | omega | decide) (by first | assumption | omega | decide)) cw_X7_72 rfl ⟨Nat.le_of_ble_eq_true rfl, Nat.le_of_ble_eq_true rfl⟩ ⟨Nat.le_of_ble_eq_true rfl, Nat.le_of_ble_eq_true rfl⟩ (bk.recv hK hM rfl rfl) hl.1 rfl (Nat.le_of_ble_eq_true rfl) dX7_ways_35 hM hS (fun _ h => h) (fun H locs hPost hz hk hS => ?_)
      have hM := hPost
      have hr : ways_M μ (nI vp) st = ((-1), uA μ 0 1 (μ.2.1 0 1 + 1)) := by unfold ways_M; simp [c_5, hcx, c_17]
      refine w_top (v' := .int ((ways_M μ (nI vp) st).1)) (congrArg (fun z => Value.int z) (congrArg Prod.fst hr).symm) ?_
      replace hM := bk_eq hM (show mL G om (uA μ 0 1 (μ.2.1 0 1 + 1)) = mL G om ((ways_M μ (nI vp) st).2) from by rw [hr])
      exact hE _ _ _ _ _ _ (kr_i dX7_ways_38) hS (by decide) (by decide) hM
    ·
      obtain ⟨vs, hvs, rfl⟩ := inI_x c_17
      have hcs := cx_n (j := vs) (by omega)
      refine lv_aload_n hx hb dX7_ways_20 rfl (lv_at hl 0 rfl) ?_
      refine lv_aload_n hx hb dX7_ways_21 rfl (lv_at hl 0 rfl) ?_
      refine lv_iload_n hx hb dX7_ways_22 rfl (lv_at hl 1 rfl) ?_
      refine lv_iload_n hx hb dX7_ways_23 rfl (lv_at hl 2 rfl) ?_
      refine crV (rest := [.ref om]) S hK (c_X7_toCover l G om μ vp vs (by first | assumption | omega | decide) (by first | assumption | omega | decide) (by first | assumption | omega | decide)) cw_X7_134 rfl ⟨Nat.le_of_ble_eq_true rfl, Nat.le_of_ble_eq_true rfl⟩ ⟨Nat.le_of_ble_eq_true rfl, Nat.le_of_ble_eq_true rfl⟩ (bk.recv hK hM rfl rfl) hl.1 rfl (Nat.le_of_ble_eq_true rfl) dX7_ways_24 hM ?_
      refine crV (rest := []) S hK (c_X7_tilings l G 10 om μ (tcM (clM μ vp) vs) (tcM_lt _ _) (pc_20 _)) cw_X7_122 rfl ⟨Nat.le_of_ble_eq_true rfl, Nat.le_of_ble_eq_true rfl⟩ ⟨Nat.le_of_ble_eq_true rfl, Nat.le_of_ble_eq_true rfl⟩ (bk.recv hK hM rfl rfl) hl.1 rfl (Nat.le_of_ble_eq_true rfl) dX7_ways_27 hM ?_
      refine lv_goto (tgt := 38) hx hb dX7_ways_30 (by decide) ?_
      have hr : ways_M μ (nI vp) (nI vs) = (nI (tl 10 (tcM (clM μ vp) vs)), μ) := by unfold ways_M; simp [c_5, hcx, c_17, hcs]
      refine w_top (v' := .int ((ways_M μ (nI vp) (nI vs)).1)) (congrArg (fun z => Value.int z) (congrArg Prod.fst hr).symm) ?_
      replace hM := bk_eq hM (show mL G om μ = mL G om ((ways_M μ (nI vp) (nI vs)).2) from by rw [hr])
      exact hE _ _ _ _ _ _ (kr_i dX7_ways_38) hS (by decide) (by decide) hM

set_option maxHeartbeats 1000000 in
set_option maxRecDepth 100000 in
theorem c_X7_cell (l : Launch) (G : Gt) (om : Nat) (μ : Sx) (p : Int32) (xy : Int32) (hI : MI0 μ) : Ct l G yX7_cell cX7_cell 3 ((some .int)) 5 0 0 [.ref om, .int p, .int xy] (fun H => bk G om (mL G om μ) H) (some (.int ((cell_M μ p xy).1))) (fun H => bk G om (mL G om ((cell_M μ p xy).2)) H) (fun q => om ≤ q ∧ q < om + 20) := by
  refine ct_entry [(0, .ref om), (1, .int p), (2, .int xy)] (by decide) (Nat.le_of_ble_eq_true rfl) rfl ?_
  intro zp ze zs zm za zb zt zc Q S hK hPre hin hE ls hl
  have hx := S.1
  have hb := S.2.1
  have hM := hPre
  have hS : va_S (fun q => om ≤ q ∧ q < om + 20) zs.heap zs.heap [] := va_S.rf
  have hn16 := hI.1
  refine lv_aload_n hx hb dX7_cell_0 rfl (lv_at hl 0 rfl) ?_
  refine lv_iload_n hx hb dX7_cell_1 rfl (lv_at hl 1 rfl) ?_
  refine crV (rest := []) S hK (c_X7_isPart l G om μ p (by first | assumption | omega | decide)) cw_X7_103 rfl ⟨Nat.le_of_ble_eq_true rfl, Nat.le_of_ble_eq_true rfl⟩ ⟨Nat.le_of_ble_eq_true rfl, Nat.le_of_ble_eq_true rfl⟩ (bk.recv hK hM rfl rfl) hl.1 rfl (Nat.le_of_ble_eq_true rfl) dX7_cell_2 hM ?_
  refine z_if_eq (tgt := 33) hx hb dX7_cell_5 (by decide) (fun c_5 => ?_) (fun c_5 => ?_)
  ·
    refine lv_aload_n hx hb dX7_cell_33 rfl (lv_at hl 0 rfl) ?_
    refine lv_iconst (v := (-1)) hx hb dX7_cell_34 (by decide) ?_
    refine ctV (rest := []) S hK (c_X7_refuse l G om μ (-1) 1 (by first | assumption | omega | decide) (by first | assumption | omega | decide)) cw_X7_72 rfl ⟨Nat.le_of_ble_eq_true rfl, Nat.le_of_ble_eq_true rfl⟩ ⟨Nat.le_of_ble_eq_true rfl, Nat.le_of_ble_eq_true rfl⟩ (bk.recv hK hM rfl rfl) hl.1 rfl (Nat.le_of_ble_eq_true rfl) dX7_cell_35 hM hS (fun _ h => h) (fun H locs hPost hz hk hS => ?_)
    have hM := hPost
    have hr : cell_M μ p xy = ((-1), uA μ 0 1 (μ.2.1 0 1 + 1)) := by unfold cell_M; simp [c_5]
    refine w_top (v' := .int ((cell_M μ p xy).1)) (congrArg (fun z => Value.int z) (congrArg Prod.fst hr).symm) ?_
    replace hM := bk_eq hM (show mL G om (uA μ 0 1 (μ.2.1 0 1 + 1)) = mL G om ((cell_M μ p xy).2) from by rw [hr])
    exact hE _ _ _ _ _ _ (kr_i dX7_cell_38) hS (by decide) (by decide) hM
  ·
    obtain ⟨vp, hvp, rfl⟩ := inI_x c_5
    obtain ⟨hw1, hw5, hh1, hh4, hvf, hvc⟩ := hI.2 vp hvp
    have hcx := cx_n (j := vp) (by omega)
    have hsh := shl_le hvf
    refine lv_aload_n hx hb dX7_cell_8 rfl (lv_at hl 0 rfl) ?_
    refine lv_iload_n hx hb dX7_cell_9 rfl (lv_at hl 1 rfl) ?_
    refine lv_iload_n hx hb dX7_cell_10 rfl (lv_at hl 2 rfl) ?_
    refine crV (rest := []) S hK (c_X7_isCell l G om μ vp xy (by first | assumption | omega | decide) (by first | assumption | omega | decide) (by first | assumption | omega | decide)) cw_X7_109 rfl ⟨Nat.le_of_ble_eq_true rfl, Nat.le_of_ble_eq_true rfl⟩ ⟨Nat.le_of_ble_eq_true rfl, Nat.le_of_ble_eq_true rfl⟩ (bk.recv hK hM rfl rfl) hl.1 rfl (Nat.le_of_ble_eq_true rfl) dX7_cell_11 hM ?_
    refine z_if_eq (tgt := 33) hx hb dX7_cell_14 (by decide) (fun c_14 => ?_) (fun c_14 => ?_)
    ·
      refine lv_aload_n hx hb dX7_cell_33 rfl (lv_at hl 0 rfl) ?_
      refine lv_iconst (v := (-1)) hx hb dX7_cell_34 (by decide) ?_
      refine ctV (rest := []) S hK (c_X7_refuse l G om μ (-1) 1 (by first | assumption | omega | decide) (by first | assumption | omega | decide)) cw_X7_72 rfl ⟨Nat.le_of_ble_eq_true rfl, Nat.le_of_ble_eq_true rfl⟩ ⟨Nat.le_of_ble_eq_true rfl, Nat.le_of_ble_eq_true rfl⟩ (bk.recv hK hM rfl rfl) hl.1 rfl (Nat.le_of_ble_eq_true rfl) dX7_cell_35 hM hS (fun _ h => h) (fun H locs hPost hz hk hS => ?_)
      have hM := hPost
      have hr : cell_M μ (nI vp) xy = ((-1), uA μ 0 1 (μ.2.1 0 1 + 1)) := by unfold cell_M; simp [c_5, hcx, c_14]
      refine w_top (v' := .int ((cell_M μ (nI vp) xy).1)) (congrArg (fun z => Value.int z) (congrArg Prod.fst hr).symm) ?_
      replace hM := bk_eq hM (show mL G om (uA μ 0 1 (μ.2.1 0 1 + 1)) = mL G om ((cell_M μ (nI vp) xy).2) from by rw [hr])
      exact hE _ _ _ _ _ _ (kr_i dX7_cell_38) hS (by decide) (by decide) hM
    ·
      obtain ⟨vxy, hvxy, rfl, hvx, hvy⟩ := isC_x c_14
      have hcy := cx_n (j := vxy) (by omega)
      refine lv_aload_n hx hb dX7_cell_17 rfl (lv_at hl 0 rfl) ?_
      refine lv_iload_n hx hb dX7_cell_18 rfl (lv_at hl 1 rfl) ?_
      refine lv_iload_n hx hb dX7_cell_19 rfl (lv_at hl 2 rfl) ?_
      refine lv_bipush (v := nI 10) hx hb dX7_cell_20 (by decide) ?_
      refine n_idiv hx hb dX7_cell_22 (by omega) (by decide) (by decide) ?_
      refine lv_iload_n hx hb dX7_cell_23 rfl (lv_at hl 2 rfl) ?_
      refine lv_bipush (v := nI 10) hx hb dX7_cell_24 (by decide) ?_
      refine n_irem hx hb dX7_cell_26 (by omega) (by decide) (by decide) ?_
      refine crV (rest := []) S hK (c_X7_at l G om μ vp (vxy / 10) (vxy % 10) (by first | assumption | omega | decide)) cw_X7_112 rfl ⟨Nat.le_of_ble_eq_true rfl, Nat.le_of_ble_eq_true rfl⟩ ⟨Nat.le_of_ble_eq_true rfl, Nat.le_of_ble_eq_true rfl⟩ (bk.recv hK hM rfl rfl) hl.1 rfl (Nat.le_of_ble_eq_true rfl) dX7_cell_27 hM ?_
      refine lv_goto (tgt := 38) hx hb dX7_cell_30 (by decide) ?_
      have hr : cell_M μ (nI vp) (nI vxy) = (nI (clM μ vp (5 * (vxy % 10) + (vxy / 10))), μ) := by unfold cell_M; simp [c_5, hcx, c_14, hcy]
      refine w_top (v' := .int ((cell_M μ (nI vp) (nI vxy)).1)) (congrArg (fun z => Value.int z) (congrArg Prod.fst hr).symm) ?_
      replace hM := bk_eq hM (show mL G om μ = mL G om ((cell_M μ (nI vp) (nI vxy)).2) from by rw [hr])
      exact hE _ _ _ _ _ _ (kr_i dX7_cell_38) hS (by decide) (by decide) hM

set_option maxHeartbeats 1000000 in
set_option maxRecDepth 100000 in
theorem c_X7_partOf (l : Launch) (G : Gt) (om : Nat) (μ : Sx) (p : Int32) (what : Int32) (hI : MI0 μ) : Ct l G yX7_partOf cX7_partOf 3 ((some .int)) 5 0 0 [.ref om, .int p, .int what] (fun H => bk G om (mL G om μ) H) (some (.int ((partOf_M μ p what).1))) (fun H => bk G om (mL G om ((partOf_M μ p what).2)) H) (fun q => om ≤ q ∧ q < om + 20) := by
  refine ct_entry [(0, .ref om), (1, .int p), (2, .int what)] (by decide) (Nat.le_of_ble_eq_true rfl) rfl ?_
  intro zp ze zs zm za zb zt zc Q S hK hPre hin hE ls hl
  have hx := S.1
  have hb := S.2.1
  have hM := hPre
  have hS : va_S (fun q => om ≤ q ∧ q < om + 20) zs.heap zs.heap [] := va_S.rf
  have hn16 := hI.1
  refine lv_aload_n hx hb dX7_partOf_0 rfl (lv_at hl 0 rfl) ?_
  refine lv_iload_n hx hb dX7_partOf_1 rfl (lv_at hl 1 rfl) ?_
  refine crV (rest := []) S hK (c_X7_isPart l G om μ p (by first | assumption | omega | decide)) cw_X7_103 rfl ⟨Nat.le_of_ble_eq_true rfl, Nat.le_of_ble_eq_true rfl⟩ ⟨Nat.le_of_ble_eq_true rfl, Nat.le_of_ble_eq_true rfl⟩ (bk.recv hK hM rfl rfl) hl.1 rfl (Nat.le_of_ble_eq_true rfl) dX7_partOf_2 hM ?_
  refine z_if_ne (tgt := 14) hx hb dX7_partOf_5 (by decide) (fun c_5 => ?_) (fun c_5 => ?_)
  ·
    obtain ⟨vp, hvp, rfl⟩ := inI_x c_5
    obtain ⟨hw1, hw5, hh1, hh4, hvf, hvc⟩ := hI.2 vp hvp
    have hcx := cx_n (j := vp) (by omega)
    have hsh := shl_le hvf
    refine lv_iload_n hx hb dX7_partOf_14 rfl (lv_at hl 2 rfl) ?_
    rcases sw4 what with rfl | rfl | rfl | rfl | hd
    ·
      refine lv_tableIn (off := 29) (tgt := 44) hx hb dX7_partOf_15 (by decide) (by decide) (by decide) (by decide) ?_
      refine lv_aload_n hx hb dX7_partOf_44 rfl (lv_at hl 0 rfl) ?_
      refine kg (C := RX7) (T := TX7) (N := 32) (ci := 5) (k := 1) (v := .ref (om + 2)) S hK rfl inX7 (by decide) q_731 dX7_partOf_45 hM rfl rfl ?_
      refine lv_iload_n hx hb dX7_partOf_48 rfl (lv_at hl 1 rfl) ?_
      refine kil (f := μ.2.1 1) S hK dX7_partOf_49 2 hM rfl (by decide) rfl (by omega) ?_
      have hr : partOf_M μ (nI vp) (0 : Int32) = (nI (μ.2.1 1 vp), μ) := by unfold partOf_M; simp [c_5, hcx]
      refine w_top (v' := .int ((partOf_M μ (nI vp) (0 : Int32)).1)) (congrArg (fun z => Value.int z) (congrArg Prod.fst hr).symm) ?_
      replace hM := bk_eq hM (show mL G om μ = mL G om ((partOf_M μ (nI vp) (0 : Int32)).2) from by rw [hr])
      exact hE _ _ _ _ _ _ (kr_i dX7_partOf_50) hS (by decide) (by decide) hM
    ·
      refine lv_tableIn (off := 36) (tgt := 51) hx hb dX7_partOf_15 (by decide) (by decide) (by decide) (by decide) ?_
      refine lv_aload_n hx hb dX7_partOf_51 rfl (lv_at hl 0 rfl) ?_
      refine kg (C := RX7) (T := TX7) (N := 32) (ci := 5) (k := 2) (v := .ref (om + 3)) S hK rfl inX7 (by decide) q_732 dX7_partOf_52 hM rfl rfl ?_
      refine lv_iload_n hx hb dX7_partOf_55 rfl (lv_at hl 1 rfl) ?_
      refine kil (f := μ.2.1 2) S hK dX7_partOf_56 3 hM rfl (by decide) rfl (by omega) ?_
      have hr : partOf_M μ (nI vp) (1 : Int32) = (nI (μ.2.1 2 vp), μ) := by unfold partOf_M; simp [c_5, hcx]
      refine w_top (v' := .int ((partOf_M μ (nI vp) (1 : Int32)).1)) (congrArg (fun z => Value.int z) (congrArg Prod.fst hr).symm) ?_
      replace hM := bk_eq hM (show mL G om μ = mL G om ((partOf_M μ (nI vp) (1 : Int32)).2) from by rw [hr])
      exact hE _ _ _ _ _ _ (kr_i dX7_partOf_57) hS (by decide) (by decide) hM
    ·
      refine lv_tableIn (off := 43) (tgt := 58) hx hb dX7_partOf_15 (by decide) (by decide) (by decide) (by decide) ?_
      refine lv_aload_n hx hb dX7_partOf_58 rfl (lv_at hl 0 rfl) ?_
      refine kg (C := RX7) (T := TX7) (N := 32) (ci := 5) (k := 3) (v := .ref (om + 4)) S hK rfl inX7 (by decide) q_733 dX7_partOf_59 hM rfl rfl ?_
      refine lv_iload_n hx hb dX7_partOf_62 rfl (lv_at hl 1 rfl) ?_
      refine kil (f := μ.2.1 3) S hK dX7_partOf_63 4 hM rfl (by decide) rfl (by omega) ?_
      have hr : partOf_M μ (nI vp) (2 : Int32) = (nI (μ.2.1 3 vp), μ) := by unfold partOf_M; simp [c_5, hcx]
      refine w_top (v' := .int ((partOf_M μ (nI vp) (2 : Int32)).1)) (congrArg (fun z => Value.int z) (congrArg Prod.fst hr).symm) ?_
      replace hM := bk_eq hM (show mL G om μ = mL G om ((partOf_M μ (nI vp) (2 : Int32)).2) from by rw [hr])
      exact hE _ _ _ _ _ _ (kr_i dX7_partOf_64) hS (by decide) (by decide) hM
    ·
      refine lv_tableIn (off := 50) (tgt := 65) hx hb dX7_partOf_15 (by decide) (by decide) (by decide) (by decide) ?_
      refine lv_aload_n hx hb dX7_partOf_65 rfl (lv_at hl 0 rfl) ?_
      refine lv_iload_n hx hb dX7_partOf_66 rfl (lv_at hl 1 rfl) ?_
      refine crV (rest := []) S hK (c_X7_open l G om μ vp (by first | assumption | omega | decide) (by first | assumption | omega | decide)) cw_X7_106 rfl ⟨Nat.le_of_ble_eq_true rfl, Nat.le_of_ble_eq_true rfl⟩ ⟨Nat.le_of_ble_eq_true rfl, Nat.le_of_ble_eq_true rfl⟩ (bk.recv hK hM rfl rfl) hl.1 rfl (Nat.le_of_ble_eq_true rfl) dX7_partOf_67 hM ?_
      have hr : partOf_M μ (nI vp) (3 : Int32) = (nI (opn (clM μ vp) 20), μ) := by unfold partOf_M; simp [c_5, hcx]
      refine w_top (v' := .int ((partOf_M μ (nI vp) (3 : Int32)).1)) (congrArg (fun z => Value.int z) (congrArg Prod.fst hr).symm) ?_
      replace hM := bk_eq hM (show mL G om μ = mL G om ((partOf_M μ (nI vp) (3 : Int32)).2) from by rw [hr])
      exact hE _ _ _ _ _ _ (kr_i dX7_partOf_70) hS (by decide) (by decide) hM
    ·
      have hd0 : ¬ what = 0 := sw_ne hd (by decide) (by decide)
      have hd1 : ¬ what = 1 := sw_ne hd (by decide) (by decide)
      have hd2 : ¬ what = 2 := sw_ne hd (by decide) (by decide)
      have hd3 : ¬ what = 3 := sw_ne hd (by decide) (by decide)
      refine lv_tableOut (tgt := 71) hx hb dX7_partOf_15 hd (by decide) ?_
      refine lv_aload_n hx hb dX7_partOf_71 rfl (lv_at hl 0 rfl) ?_
      refine lv_bipush (v := (-2)) hx hb dX7_partOf_72 (by decide) ?_
      refine ctV (rest := []) S hK (c_X7_refuse l G om μ (-2) 2 (by first | assumption | omega | decide) (by first | assumption | omega | decide)) cw_X7_72 rfl ⟨Nat.le_of_ble_eq_true rfl, Nat.le_of_ble_eq_true rfl⟩ ⟨Nat.le_of_ble_eq_true rfl, Nat.le_of_ble_eq_true rfl⟩ (bk.recv hK hM rfl rfl) hl.1 rfl (Nat.le_of_ble_eq_true rfl) dX7_partOf_74 hM hS (fun _ h => h) (fun H locs hPost hz hk hS => ?_)
      have hM := hPost
      have hr : partOf_M μ (nI vp) what = ((-2), uA μ 0 2 (μ.2.1 0 2 + 1)) := by unfold partOf_M; simp [c_5, hcx, hd0, hd1, hd2, hd3]
      refine w_top (v' := .int ((partOf_M μ (nI vp) what).1)) (congrArg (fun z => Value.int z) (congrArg Prod.fst hr).symm) ?_
      replace hM := bk_eq hM (show mL G om (uA μ 0 2 (μ.2.1 0 2 + 1)) = mL G om ((partOf_M μ (nI vp) what).2) from by rw [hr])
      exact hE _ _ _ _ _ _ (kr_i dX7_partOf_77) hS (by decide) (by decide) hM
  ·
    refine lv_aload_n hx hb dX7_partOf_8 rfl (lv_at hl 0 rfl) ?_
    refine lv_iconst (v := (-1)) hx hb dX7_partOf_9 (by decide) ?_
    refine ctV (rest := []) S hK (c_X7_refuse l G om μ (-1) 1 (by first | assumption | omega | decide) (by first | assumption | omega | decide)) cw_X7_72 rfl ⟨Nat.le_of_ble_eq_true rfl, Nat.le_of_ble_eq_true rfl⟩ ⟨Nat.le_of_ble_eq_true rfl, Nat.le_of_ble_eq_true rfl⟩ (bk.recv hK hM rfl rfl) hl.1 rfl (Nat.le_of_ble_eq_true rfl) dX7_partOf_10 hM hS (fun _ h => h) (fun H locs hPost hz hk hS => ?_)
    have hM := hPost
    have hr : partOf_M μ p what = ((-1), uA μ 0 1 (μ.2.1 0 1 + 1)) := by unfold partOf_M; simp [c_5]
    refine w_top (v' := .int ((partOf_M μ p what).1)) (congrArg (fun z => Value.int z) (congrArg Prod.fst hr).symm) ?_
    replace hM := bk_eq hM (show mL G om (uA μ 0 1 (μ.2.1 0 1 + 1)) = mL G om ((partOf_M μ p what).2) from by rw [hr])
    exact hE _ _ _ _ _ _ (kr_i dX7_partOf_13) hS (by decide) (by decide) hM

set_option maxHeartbeats 1000000 in
set_option maxRecDepth 100000 in
theorem c_X7_barred (l : Launch) (G : Gt) (om : Nat) (μ : Sx) (p : Int32) (hI : MI0 μ) : Ct l G yX7_barred cX7_barred 8 ((some .long)) 25 0 0 [.ref om, .int p] (fun H => bk G om (mL G om μ) H) (some (.long ((barred_M μ p).1))) (fun H => bk G om (mL G om ((barred_M μ p).2)) H) (fun q => om ≤ q ∧ q < om + 20) := by
  refine ct_entry [(0, .ref om), (1, .int p)] (by decide) (Nat.le_of_ble_eq_true rfl) rfl ?_
  intro zp ze zs zm za zb zt zc Q S hK hPre hin hE ls hl
  have hx := S.1
  have hb := S.2.1
  have hM := hPre
  have hS : va_S (fun q => om ≤ q ∧ q < om + 20) zs.heap zs.heap [] := va_S.rf
  have hn16 := hI.1
  refine lv_aload_n hx hb dX7_barred_0 rfl (lv_at hl 0 rfl) ?_
  refine lv_iload_n hx hb dX7_barred_1 rfl (lv_at hl 1 rfl) ?_
  refine crV (rest := []) S hK (c_X7_isPart l G om μ p (by first | assumption | omega | decide)) cw_X7_103 rfl ⟨Nat.le_of_ble_eq_true rfl, Nat.le_of_ble_eq_true rfl⟩ ⟨Nat.le_of_ble_eq_true rfl, Nat.le_of_ble_eq_true rfl⟩ (bk.recv hK hM rfl rfl) hl.1 rfl (Nat.le_of_ble_eq_true rfl) dX7_barred_2 hM ?_
  refine z_if_ne (tgt := 14) hx hb dX7_barred_5 (by decide) (fun c_5 => ?_) (fun c_5 => ?_)
  ·
    obtain ⟨vp, hvp, rfl⟩ := inI_x c_5
    obtain ⟨hw1, hw5, hh1, hh4, hvf, hvc⟩ := hI.2 vp hvp
    have hcx := cx_n (j := vp) (by omega)
    have hsh := shl_le hvf
    refine lv_lconst (v := lN 0) hx hb dX7_barred_14 (by decide) ?_
    refine lv_lstore_n (lv' := [(2, .long (lN 0)), (0, .ref om), (1, .int (nI vp))]) hx hb dX7_barred_15 rfl hl (by decide) rfl (fun ls hl => ?_)
    refine lv_iconst (v := nI 0) hx hb dX7_barred_16 (by decide) ?_
    refine lv_istore (lv' := [(4, .int (nI 0)), (2, .long (lN 0)), (0, .ref om), (1, .int (nI vp))]) hx hb dX7_barred_17 hl (by decide) rfl (fun ls hl => ?_)
    have L19 : ∀ (fu : Nat), ∀ (vs : Nat), (vs ≤ 1 <<< μ.2.1 3 vp) → 1 <<< μ.2.1 3 vp - vs < fu → ∀ (H : Heap) (locs : List Loc), bk G om (mL G om μ) H → va_S (fun q => om ≤ q ∧ q < om + 20) zs.heap H locs → ∀ ls : Array Slot, lv_has ls 8 [(0, .ref om), (1, .int (nI vp)), (2, .long (lN (bo (fun s => !decide (pcn evP (tcM (clM μ vp) s) 20 = pcn odP (tcM (clM μ vp) s) 20)) vs))), (4, .int (nI vs))] → W zp l ze (rL 25 0 0) zs zm za zb zt zc H locs 0 0 Q (F0 zm 19 ls []) := by
      intro fu
      induction fu with
      | zero =>
        intro vs hvs hmu H locs hM hS ls hl
        exact absurd hmu (Nat.not_lt_zero _)
      | succ fu ih19 =>
        intro vs hvs hmu H locs hM hS ls hl
        refine lv_iload hx hb dX7_barred_19 (lv_at hl 3 rfl) ?_
        refine lv_aload_n hx hb dX7_barred_21 rfl (lv_at hl 0 rfl) ?_
        refine lv_iload_n hx hb dX7_barred_22 rfl (lv_at hl 1 rfl) ?_
        refine crV (rest := [.int (nI vs)]) S hK (c_X7_states l G om μ vp (by first | assumption | omega | decide) (by first | assumption | omega | decide)) cw_X7_131 rfl ⟨Nat.le_of_ble_eq_true rfl, Nat.le_of_ble_eq_true rfl⟩ ⟨Nat.le_of_ble_eq_true rfl, Nat.le_of_ble_eq_true rfl⟩ (bk.recv hK hM rfl rfl) hl.1 rfl (Nat.le_of_ble_eq_true rfl) dX7_barred_23 hM ?_
        refine n_icmp_ge (tgt := 117) hx hb dX7_barred_26 (by decide) (by omega) (by omega) (fun c_26 => ?_) (fun c_26 => ?_)
        ·
          have hvs2 : vs = 1 <<< μ.2.1 3 vp := by omega
          subst hvs2
          refine lv_lload_n hx hb dX7_barred_117 rfl (lv_at hl 2 rfl) ?_
          have hr : barred_M μ (nI vp) = (lN (bo (fun s => !decide (pcn evP (tcM (clM μ vp) s) 20 = pcn odP (tcM (clM μ vp) s) 20)) (1 <<< μ.2.1 3 vp)), μ) := by unfold barred_M; simp [c_5, hcx, c_26]
          refine w_top (v' := .long ((barred_M μ (nI vp)).1)) (congrArg (fun z => Value.long z) (congrArg Prod.fst hr).symm) ?_
          replace hM := bk_eq hM (show mL G om μ = mL G om ((barred_M μ (nI vp)).2) from by rw [hr])
          exact hE _ _ _ _ _ _ (kr_l dX7_barred_118) hS (by decide) (by decide) hM
        ·
          refine lv_aload_n hx hb dX7_barred_29 rfl (lv_at hl 0 rfl) ?_
          refine lv_iload_n hx hb dX7_barred_30 rfl (lv_at hl 1 rfl) ?_
          refine lv_iload hx hb dX7_barred_31 (lv_at hl 3 rfl) ?_
          refine crV (rest := []) S hK (c_X7_toCover l G om μ vp vs (by first | assumption | omega | decide) (by first | assumption | omega | decide) (by first | assumption | omega | decide)) cw_X7_134 rfl ⟨Nat.le_of_ble_eq_true rfl, Nat.le_of_ble_eq_true rfl⟩ ⟨Nat.le_of_ble_eq_true rfl, Nat.le_of_ble_eq_true rfl⟩ (bk.recv hK hM rfl rfl) hl.1 rfl (Nat.le_of_ble_eq_true rfl) dX7_barred_33 hM ?_
          refine lv_istore (lv' := [(5, .int (nI (tcM (clM μ vp) vs))), (0, .ref om), (1, .int (nI vp)), (2, .long (lN (bo (fun s => !decide (pcn evP (tcM (clM μ vp) s) 20 = pcn odP (tcM (clM μ vp) s) 20)) vs))), (4, .int (nI vs))]) hx hb dX7_barred_36 hl (by decide) rfl (fun ls hl => ?_)
          refine lv_iconst (v := nI 0) hx hb dX7_barred_38 (by decide) ?_
          refine lv_istore (lv' := [(6, .int (nI 0)), (5, .int (nI (tcM (clM μ vp) vs))), (0, .ref om), (1, .int (nI vp)), (2, .long (lN (bo (fun s => !decide (pcn evP (tcM (clM μ vp) s) 20 = pcn odP (tcM (clM μ vp) s) 20)) vs))), (4, .int (nI vs))]) hx hb dX7_barred_39 hl (by decide) rfl (fun ls hl => ?_)
          refine lv_iconst (v := nI 0) hx hb dX7_barred_41 (by decide) ?_
          refine lv_istore (lv' := [(7, .int (nI 0)), (6, .int (nI 0)), (5, .int (nI (tcM (clM μ vp) vs))), (0, .ref om), (1, .int (nI vp)), (2, .long (lN (bo (fun s => !decide (pcn evP (tcM (clM μ vp) s) 20 = pcn odP (tcM (clM μ vp) s) 20)) vs))), (4, .int (nI vs))]) hx hb dX7_barred_42 hl (by decide) rfl (fun ls hl => ?_)
          have L44 : ∀ (fu : Nat), ∀ (vk : Nat), (vk ≤ 20) → 20 - vk < fu → ∀ (H : Heap) (locs : List Loc), bk G om (mL G om μ) H → va_S (fun q => om ≤ q ∧ q < om + 20) zs.heap H locs → ∀ ls : Array Slot, lv_has ls 8 [(0, .ref om), (1, .int (nI vp)), (2, .long (lN (bo (fun s => !decide (pcn evP (tcM (clM μ vp) s) 20 = pcn odP (tcM (clM μ vp) s) 20)) vs))), (4, .int (nI vs)), (5, .int (nI (tcM (clM μ vp) vs))), (6, .int (moD (tcM (clM μ vp) vs) vk)), (7, .int (nI vk))] → W zp l ze (rL 25 0 0) zs zm za zb zt zc H locs 0 0 Q (F0 zm 44 ls []) := by
            intro fu
            induction fu with
            | zero =>
              intro vk hvk hmu H locs hM hS ls hl
              exact absurd hmu (Nat.not_lt_zero _)
            | succ fu ih44 =>
              intro vk hvk hmu H locs hM hS ls hl
              refine lv_iload hx hb dX7_barred_44 (lv_at hl 6 rfl) ?_
              refine lv_bipush (v := nI 20) hx hb dX7_barred_46 (by decide) ?_
              refine n_icmp_ge (tgt := 95) hx hb dX7_barred_48 (by decide) (by omega) (by decide) (fun c_48 => ?_) (fun c_48 => ?_)
              ·
                have hk20 : vk = 20 := by omega
                subst hk20
                refine lv_lload_n hx hb dX7_barred_95 rfl (lv_at hl 2 rfl) ?_
                refine lv_iload hx hb dX7_barred_96 (lv_at hl 5 rfl) ?_
                refine lv_if_eq (tgt := 108) hx hb dX7_barred_98 (by decide) (fun c_98 => ?_) (fun c_98 => ?_)
                ·
                  have e2 := bo_or0 (P := (fun s => !decide (pcn evP (tcM (clM μ vp) s) 20 = pcn odP (tcM (clM μ vp) s) 20))) (n := vs) (by show (!decide _) = false; rw [decide_eq_true ((md9 _).mp c_98)]; rfl)
                  refine lv_lconst (v := lN 0) hx hb dX7_barred_108 (by decide) ?_
                  refine n_lor hx hb dX7_barred_109 ?_
                  refine lv_lstore_n (lv' := [(2, .long (lN ((bo (fun s => !decide (pcn evP (tcM (clM μ vp) s) 20 = pcn odP (tcM (clM μ vp) s) 20)) vs) ||| 0))), (0, .ref om), (1, .int (nI vp)), (4, .int (nI vs)), (5, .int (nI (tcM (clM μ vp) vs))), (6, .int (moD (tcM (clM μ vp) vs) 20)), (7, .int (nI 20))]) hx hb dX7_barred_110 rfl hl (by decide) rfl (fun ls hl => ?_)
                  refine lv_iinc (v := nI (vs + 1)) (lv' := [(4, .int (nI (vs + 1))), (2, .long (lN ((bo (fun s => !decide (pcn evP (tcM (clM μ vp) s) 20 = pcn odP (tcM (clM μ vp) s) 20)) vs) ||| 0))), (0, .ref om), (1, .int (nI vp)), (5, .int (nI (tcM (clM μ vp) vs))), (6, .int (moD (tcM (clM μ vp) vs) 20)), (7, .int (nI 20))]) hx hb dX7_barred_111 hl (k := 3) rfl (inc1 _) (by decide) rfl (fun ls hl => ?_)
                  refine lv_goto (tgt := 19) hx hb dX7_barred_114 (by decide) ?_
                  replace hl := lv_eq 1 hl rfl (v2 := .long (lN (bo (fun s => !decide (pcn evP (tcM (clM μ vp) s) 20 = pcn odP (tcM (clM μ vp) s) 20)) (vs + 1)))) (congrArg (fun z => Value.long (lN z)) (show ((bo (fun s => !decide (pcn evP (tcM (clM μ vp) s) 20 = pcn odP (tcM (clM μ vp) s) 20)) vs) ||| 0) = (bo (fun s => !decide (pcn evP (tcM (clM μ vp) s) 20 = pcn odP (tcM (clM μ vp) s) 20)) (vs + 1)) from e2))
                  exact ih19 (vs + 1) (by first | assumption | omega) (by omega) _ _ hM hS ls (lv_sub hl [2, 3, 1, 0] rfl)
                ·
                  have e2 := bo_or1 (P := (fun s => !decide (pcn evP (tcM (clM μ vp) s) 20 = pcn odP (tcM (clM μ vp) s) 20))) (n := vs) (by show (!decide _) = true; rw [decide_eq_false (fun q => c_98 ((md9 _).mpr q))]; rfl)
                  refine lv_lconst (v := lN 1) hx hb dX7_barred_101 (by decide) ?_
                  refine lv_iload hx hb dX7_barred_102 (lv_at hl 3 rfl) ?_
                  refine n_lshl hx hb dX7_barred_104 (by omega) ?_
                  refine lv_goto (tgt := 109) hx hb dX7_barred_105 (by decide) ?_
                  refine n_lor hx hb dX7_barred_109 ?_
                  refine lv_lstore_n (lv' := [(2, .long (lN ((bo (fun s => !decide (pcn evP (tcM (clM μ vp) s) 20 = pcn odP (tcM (clM μ vp) s) 20)) vs) ||| (1 <<< vs)))), (0, .ref om), (1, .int (nI vp)), (4, .int (nI vs)), (5, .int (nI (tcM (clM μ vp) vs))), (6, .int (moD (tcM (clM μ vp) vs) 20)), (7, .int (nI 20))]) hx hb dX7_barred_110 rfl hl (by decide) rfl (fun ls hl => ?_)
                  refine lv_iinc (v := nI (vs + 1)) (lv' := [(4, .int (nI (vs + 1))), (2, .long (lN ((bo (fun s => !decide (pcn evP (tcM (clM μ vp) s) 20 = pcn odP (tcM (clM μ vp) s) 20)) vs) ||| (1 <<< vs)))), (0, .ref om), (1, .int (nI vp)), (5, .int (nI (tcM (clM μ vp) vs))), (6, .int (moD (tcM (clM μ vp) vs) 20)), (7, .int (nI 20))]) hx hb dX7_barred_111 hl (k := 3) rfl (inc1 _) (by decide) rfl (fun ls hl => ?_)
                  refine lv_goto (tgt := 19) hx hb dX7_barred_114 (by decide) ?_
                  replace hl := lv_eq 1 hl rfl (v2 := .long (lN (bo (fun s => !decide (pcn evP (tcM (clM μ vp) s) 20 = pcn odP (tcM (clM μ vp) s) 20)) (vs + 1)))) (congrArg (fun z => Value.long (lN z)) (show ((bo (fun s => !decide (pcn evP (tcM (clM μ vp) s) 20 = pcn odP (tcM (clM μ vp) s) 20)) vs) ||| (1 <<< vs)) = (bo (fun s => !decide (pcn evP (tcM (clM μ vp) s) 20 = pcn odP (tcM (clM μ vp) s) 20)) (vs + 1)) from e2))
                  exact ih19 (vs + 1) (by first | assumption | omega) (by omega) _ _ hM hS ls (lv_sub hl [2, 3, 1, 0] rfl)
              ·
                have htc := tcM_lt (clM μ vp) vs
                refine lv_iload hx hb dX7_barred_51 (lv_at hl 5 rfl) ?_
                refine lv_iload hx hb dX7_barred_53 (lv_at hl 4 rfl) ?_
                refine lv_iload hx hb dX7_barred_55 (lv_at hl 6 rfl) ?_
                refine n_ishr hx hb dX7_barred_57 (by omega) (by omega) ?_
                refine lv_iconst (v := nI 1) hx hb dX7_barred_58 (by decide) ?_
                refine n_iand hx hb dX7_barred_59 ?_
                refine n_if_ne (tgt := 67) hx hb dX7_barred_60 (by decide) (Nat.lt_of_le_of_lt Nat.and_le_right (by decide)) (fun c_60 => ?_) (fun c_60 => ?_)
                ·
                  refine lv_iload hx hb dX7_barred_67 (lv_at hl 6 rfl) ?_
                  refine lv_iconst (v := nI 5) hx hb dX7_barred_69 (by decide) ?_
                  refine n_irem hx hb dX7_barred_70 (by omega) (by decide) (by decide) ?_
                  refine lv_iload hx hb dX7_barred_71 (lv_at hl 6 rfl) ?_
                  refine lv_iconst (v := nI 5) hx hb dX7_barred_73 (by decide) ?_
                  refine n_idiv hx hb dX7_barred_74 (by omega) (by decide) (by decide) ?_
                  refine n_iadd hx hb dX7_barred_75 ?_
                  refine lv_iconst (v := nI 2) hx hb dX7_barred_76 (by decide) ?_
                  refine n_irem hx hb dX7_barred_77 (by omega) (by decide) (by decide) ?_
                  refine n_if_ne (tgt := 85) hx hb dX7_barred_78 (by decide) (Nat.lt_trans (Nat.mod_lt _ (by decide)) (by decide)) (fun c_78 => ?_) (fun c_78 => ?_)
                  ·
                    refine lv_iconst (v := (-1)) hx hb dX7_barred_85 (by decide) ?_
                    refine lv_iadd hx hb dX7_barred_86 ?_
                    refine lv_istore (lv' := [(6, .int ((moD (tcM (clM μ vp) vs) vk) + (-1))), (0, .ref om), (1, .int (nI vp)), (2, .long (lN (bo (fun s => !decide (pcn evP (tcM (clM μ vp) s) 20 = pcn odP (tcM (clM μ vp) s) 20)) vs))), (4, .int (nI vs)), (5, .int (nI (tcM (clM μ vp) vs))), (7, .int (nI vk))]) hx hb dX7_barred_87 hl (by decide) rfl (fun ls hl => ?_)
                    refine lv_iinc (v := nI (vk + 1)) (lv' := [(7, .int (nI (vk + 1))), (6, .int ((moD (tcM (clM μ vp) vs) vk) + (-1))), (0, .ref om), (1, .int (nI vp)), (2, .long (lN (bo (fun s => !decide (pcn evP (tcM (clM μ vp) s) 20 = pcn odP (tcM (clM μ vp) s) 20)) vs))), (4, .int (nI vs)), (5, .int (nI (tcM (clM μ vp) vs)))]) hx hb dX7_barred_89 hl (k := 6) rfl (inc1 _) (by decide) rfl (fun ls hl => ?_)
                    refine lv_goto (tgt := 44) hx hb dX7_barred_92 (by decide) ?_
                    replace hl := lv_eq 1 hl rfl (v2 := .int (moD (tcM (clM μ vp) vs) (vk + 1))) (congrArg (fun z => Value.int z) (show ((moD (tcM (clM μ vp) vs) vk) + (-1)) = (moD (tcM (clM μ vp) vs) (vk + 1)) from md2 (by omega) c_60 c_78))
                    exact ih44 (vk + 1) (by first | assumption | omega) (by omega) _ _ hM hS ls (lv_sub hl [2, 3, 4, 5, 6, 1, 0] rfl)
                  ·
                    refine lv_iconst (v := nI 1) hx hb dX7_barred_81 (by decide) ?_
                    refine lv_goto (tgt := 86) hx hb dX7_barred_82 (by decide) ?_
                    refine lv_iadd hx hb dX7_barred_86 ?_
                    refine lv_istore (lv' := [(6, .int ((moD (tcM (clM μ vp) vs) vk) + (nI 1))), (0, .ref om), (1, .int (nI vp)), (2, .long (lN (bo (fun s => !decide (pcn evP (tcM (clM μ vp) s) 20 = pcn odP (tcM (clM μ vp) s) 20)) vs))), (4, .int (nI vs)), (5, .int (nI (tcM (clM μ vp) vs))), (7, .int (nI vk))]) hx hb dX7_barred_87 hl (by decide) rfl (fun ls hl => ?_)
                    refine lv_iinc (v := nI (vk + 1)) (lv' := [(7, .int (nI (vk + 1))), (6, .int ((moD (tcM (clM μ vp) vs) vk) + (nI 1))), (0, .ref om), (1, .int (nI vp)), (2, .long (lN (bo (fun s => !decide (pcn evP (tcM (clM μ vp) s) 20 = pcn odP (tcM (clM μ vp) s) 20)) vs))), (4, .int (nI vs)), (5, .int (nI (tcM (clM μ vp) vs)))]) hx hb dX7_barred_89 hl (k := 6) rfl (inc1 _) (by decide) rfl (fun ls hl => ?_)
                    refine lv_goto (tgt := 44) hx hb dX7_barred_92 (by decide) ?_
                    replace hl := lv_eq 1 hl rfl (v2 := .int (moD (tcM (clM μ vp) vs) (vk + 1))) (congrArg (fun z => Value.int z) (show ((moD (tcM (clM μ vp) vs) vk) + (nI 1)) = (moD (tcM (clM μ vp) vs) (vk + 1)) from md1 (by omega) c_60 c_78))
                    exact ih44 (vk + 1) (by first | assumption | omega) (by omega) _ _ hM hS ls (lv_sub hl [2, 3, 4, 5, 6, 1, 0] rfl)
                ·
                  refine lv_iconst (v := nI 0) hx hb dX7_barred_63 (by decide) ?_
                  refine lv_goto (tgt := 86) hx hb dX7_barred_64 (by decide) ?_
                  refine lv_iadd hx hb dX7_barred_86 ?_
                  refine lv_istore (lv' := [(6, .int ((moD (tcM (clM μ vp) vs) vk) + (nI 0))), (0, .ref om), (1, .int (nI vp)), (2, .long (lN (bo (fun s => !decide (pcn evP (tcM (clM μ vp) s) 20 = pcn odP (tcM (clM μ vp) s) 20)) vs))), (4, .int (nI vs)), (5, .int (nI (tcM (clM μ vp) vs))), (7, .int (nI vk))]) hx hb dX7_barred_87 hl (by decide) rfl (fun ls hl => ?_)
                  refine lv_iinc (v := nI (vk + 1)) (lv' := [(7, .int (nI (vk + 1))), (6, .int ((moD (tcM (clM μ vp) vs) vk) + (nI 0))), (0, .ref om), (1, .int (nI vp)), (2, .long (lN (bo (fun s => !decide (pcn evP (tcM (clM μ vp) s) 20 = pcn odP (tcM (clM μ vp) s) 20)) vs))), (4, .int (nI vs)), (5, .int (nI (tcM (clM μ vp) vs)))]) hx hb dX7_barred_89 hl (k := 6) rfl (inc1 _) (by decide) rfl (fun ls hl => ?_)
                  refine lv_goto (tgt := 44) hx hb dX7_barred_92 (by decide) ?_
                  replace hl := lv_eq 1 hl rfl (v2 := .int (moD (tcM (clM μ vp) vs) (vk + 1))) (congrArg (fun z => Value.int z) (show ((moD (tcM (clM μ vp) vs) vk) + (nI 0)) = (moD (tcM (clM μ vp) vs) (vk + 1)) from md0 (by omega) c_60))
                  exact ih44 (vk + 1) (by first | assumption | omega) (by omega) _ _ hM hS ls (lv_sub hl [2, 3, 4, 5, 6, 1, 0] rfl)
          replace hl := lv_eq 1 hl rfl (v2 := .int (moD (tcM (clM μ vp) vs) 0)) (show (.int (nI 0) : Value) = .int (moD (tcM (clM μ vp) vs) 0) from congrArg (fun z => Value.int z) (by decide : nI 0 = nI 0 - nI 0))
          exact L44 ((20 - 0) + 1) 0 (Nat.zero_le _) (Nat.lt_succ_self _) _ _ hM hS ls (lv_sub hl [3, 4, 5, 6, 2, 1, 0] rfl)
    replace hl := lv_eq 1 hl rfl (v2 := .long (lN (bo (fun s => !decide (pcn evP (tcM (clM μ vp) s) 20 = pcn odP (tcM (clM μ vp) s) 20)) 0))) (congrArg (fun z => Value.long (lN z)) (show 0 = (bo (fun s => !decide (pcn evP (tcM (clM μ vp) s) 20 = pcn odP (tcM (clM μ vp) s) 20)) 0) from by first | rfl | omega))
    exact L19 ((1 <<< μ.2.1 3 vp - 0) + 1) 0 (Nat.zero_le _) (Nat.lt_succ_self _) _ _ hM hS ls (lv_sub hl [2, 3, 1, 0] rfl)
  ·
    refine lv_aload_n hx hb dX7_barred_8 rfl (lv_at hl 0 rfl) ?_
    refine lv_iconst (v := (-1)) hx hb dX7_barred_9 (by decide) ?_
    refine ctV (rest := []) S hK (c_X7_refuseFar l G om μ (-1) 1 (by first | assumption | omega | decide) (by first | assumption | omega | decide)) cw_X7_142 rfl ⟨Nat.le_of_ble_eq_true rfl, Nat.le_of_ble_eq_true rfl⟩ ⟨Nat.le_of_ble_eq_true rfl, Nat.le_of_ble_eq_true rfl⟩ (bk.recv hK hM rfl rfl) hl.1 rfl (Nat.le_of_ble_eq_true rfl) dX7_barred_10 hM hS (fun _ h => h) (fun H locs hPost hz hk hS => ?_)
    have hM := hPost
    have hr : barred_M μ p = ((lN 4000000000000000000 - (-1).toInt64), uA μ 0 1 (μ.2.1 0 1 + 1)) := by unfold barred_M; simp [c_5]
    refine w_top (v' := .long ((barred_M μ p).1)) (congrArg (fun z => Value.long z) (congrArg Prod.fst hr).symm) ?_
    replace hM := bk_eq hM (show mL G om (uA μ 0 1 (μ.2.1 0 1 + 1)) = mL G om ((barred_M μ p).2) from by rw [hr])
    exact hE _ _ _ _ _ _ (kr_l dX7_barred_13) hS (by decide) (by decide) hM

theorem fcv_1 {n s own : Nat} (z : Bool) (hz : (rgt s (ct s) && tlb 10 (andn s (3 <<< ct s))) = z) (h : ct s = own) : fcv (n + 1) s own = (if z then 1 else 2) := by
  unfold fcv
  rw [if_pos h, hz]
theorem fcv_2 {n s own : Nat} (z : Bool) (hz : (rgt s (ct s) && tlb 10 (andn s (3 <<< ct s))) = z) (h : ¬ ct s = own) (h2 : (if z then ct s + 1 else ct s + 5) = own) : fcv (n + 1) s own = (if z then 3 else 4) := by
  unfold fcv
  rw [if_neg h, hz, if_pos h2]
theorem fcv_3 {n s own : Nat} (z : Bool) (hz : (rgt s (ct s) && tlb 10 (andn s (3 <<< ct s))) = z) (h : ¬ ct s = own) (h2 : ¬ (if z then ct s + 1 else ct s + 5) = own) : fcv (n + 1) s own = fcv n (andn s (1 <<< ct s ||| 1 <<< (if z then ct s + 1 else ct s + 5))) own := by
  conv => lhs; unfold fcv
  rw [if_neg h, hz, if_neg h2]

set_option maxHeartbeats 1000000 in
set_option maxRecDepth 100000 in
theorem c_X7_covered (l : Launch) (G : Gt) (om : Nat) (μ : Sx) (p : Int32) (st : Int32) (xy : Int32) (hI : MI0 μ) : Ct l G yX7_covered cX7_covered 9 ((some .int)) 25 0 0 [.ref om, .int p, .int st, .int xy] (fun H => bk G om (mL G om μ) H) (some (.int ((covered_M μ p st xy).1))) (fun H => bk G om (mL G om ((covered_M μ p st xy).2)) H) (fun q => om ≤ q ∧ q < om + 20) := by
  refine ct_entry [(0, .ref om), (1, .int p), (2, .int st), (3, .int xy)] (by decide) (Nat.le_of_ble_eq_true rfl) rfl ?_
  intro zp ze zs zm za zb zt zc Q S hK hPre hin hE ls hl
  have hx := S.1
  have hb := S.2.1
  have hM := hPre
  have hS : va_S (fun q => om ≤ q ∧ q < om + 20) zs.heap zs.heap [] := va_S.rf
  have hn16 := hI.1
  refine lv_aload_n hx hb dX7_covered_0 rfl (lv_at hl 0 rfl) ?_
  refine lv_iload_n hx hb dX7_covered_1 rfl (lv_at hl 1 rfl) ?_
  refine crV (rest := []) S hK (c_X7_isPart l G om μ p (by first | assumption | omega | decide)) cw_X7_103 rfl ⟨Nat.le_of_ble_eq_true rfl, Nat.le_of_ble_eq_true rfl⟩ ⟨Nat.le_of_ble_eq_true rfl, Nat.le_of_ble_eq_true rfl⟩ (bk.recv hK hM rfl rfl) hl.1 rfl (Nat.le_of_ble_eq_true rfl) dX7_covered_2 hM ?_
  refine z_if_eq (tgt := 29) hx hb dX7_covered_5 (by decide) (fun c_5 => ?_) (fun c_5 => ?_)
  ·
    refine lv_aload_n hx hb dX7_covered_29 rfl (lv_at hl 0 rfl) ?_
    refine lv_iconst (v := (-1)) hx hb dX7_covered_30 (by decide) ?_
    refine ctV (rest := []) S hK (c_X7_refuse l G om μ (-1) 1 (by first | assumption | omega | decide) (by first | assumption | omega | decide)) cw_X7_72 rfl ⟨Nat.le_of_ble_eq_true rfl, Nat.le_of_ble_eq_true rfl⟩ ⟨Nat.le_of_ble_eq_true rfl, Nat.le_of_ble_eq_true rfl⟩ (bk.recv hK hM rfl rfl) hl.1 rfl (Nat.le_of_ble_eq_true rfl) dX7_covered_31 hM hS (fun _ h => h) (fun H locs hPost hz hk hS => ?_)
    have hM := hPost
    have hr : covered_M μ p st xy = ((-1), uA μ 0 1 (μ.2.1 0 1 + 1)) := by unfold covered_M; simp [c_5]
    refine w_top (v' := .int ((covered_M μ p st xy).1)) (congrArg (fun z => Value.int z) (congrArg Prod.fst hr).symm) ?_
    replace hM := bk_eq hM (show mL G om (uA μ 0 1 (μ.2.1 0 1 + 1)) = mL G om ((covered_M μ p st xy).2) from by rw [hr])
    exact hE _ _ _ _ _ _ (kr_i dX7_covered_34) hS (by decide) (by decide) hM
  ·
    obtain ⟨vp, hvp, rfl⟩ := inI_x c_5
    obtain ⟨hw1, hw5, hh1, hh4, hvf, hvc⟩ := hI.2 vp hvp
    have hcx := cx_n (j := vp) (by omega)
    have hsh := shl_le hvf
    refine lv_iload_n hx hb dX7_covered_8 rfl (lv_at hl 2 rfl) ?_
    refine lv_aload_n hx hb dX7_covered_9 rfl (lv_at hl 0 rfl) ?_
    refine lv_iload_n hx hb dX7_covered_10 rfl (lv_at hl 1 rfl) ?_
    refine crV (rest := [.int st]) S hK (c_X7_states l G om μ vp (by first | assumption | omega | decide) (by first | assumption | omega | decide)) cw_X7_131 rfl ⟨Nat.le_of_ble_eq_true rfl, Nat.le_of_ble_eq_true rfl⟩ ⟨Nat.le_of_ble_eq_true rfl, Nat.le_of_ble_eq_true rfl⟩ (bk.recv hK hM rfl rfl) hl.1 rfl (Nat.le_of_ble_eq_true rfl) dX7_covered_11 hM ?_
    refine crS (rest := []) S hK (c_X7_isIn l G st (1 <<< μ.2.1 3 vp) (by first | assumption | omega | decide)) cw_X7_80 rfl ⟨Nat.le_of_ble_eq_true rfl, Nat.le_of_ble_eq_true rfl⟩ ⟨Nat.le_of_ble_eq_true rfl, Nat.le_of_ble_eq_true rfl⟩ hl.1 rfl (Nat.le_of_ble_eq_true rfl) dX7_covered_14 trivial ?_
    refine z_if_eq (tgt := 29) hx hb dX7_covered_17 (by decide) (fun c_17 => ?_) (fun c_17 => ?_)
    ·
      refine lv_aload_n hx hb dX7_covered_29 rfl (lv_at hl 0 rfl) ?_
      refine lv_iconst (v := (-1)) hx hb dX7_covered_30 (by decide) ?_
      refine ctV (rest := []) S hK (c_X7_refuse l G om μ (-1) 1 (by first | assumption | omega | decide) (by first | assumption | omega | decide)) cw_X7_72 rfl ⟨Nat.le_of_ble_eq_true rfl, Nat.le_of_ble_eq_true rfl⟩ ⟨Nat.le_of_ble_eq_true rfl, Nat.le_of_ble_eq_true rfl⟩ (bk.recv hK hM rfl rfl) hl.1 rfl (Nat.le_of_ble_eq_true rfl) dX7_covered_31 hM hS (fun _ h => h) (fun H locs hPost hz hk hS => ?_)
      have hM := hPost
      have hr : covered_M μ (nI vp) st xy = ((-1), uA μ 0 1 (μ.2.1 0 1 + 1)) := by unfold covered_M; simp [c_5, hcx, c_17]
      refine w_top (v' := .int ((covered_M μ (nI vp) st xy).1)) (congrArg (fun z => Value.int z) (congrArg Prod.fst hr).symm) ?_
      replace hM := bk_eq hM (show mL G om (uA μ 0 1 (μ.2.1 0 1 + 1)) = mL G om ((covered_M μ (nI vp) st xy).2) from by rw [hr])
      exact hE _ _ _ _ _ _ (kr_i dX7_covered_34) hS (by decide) (by decide) hM
    ·
      obtain ⟨vs, hvs, rfl⟩ := inI_x c_17
      have hcs := cx_n (j := vs) (by omega)
      refine lv_aload_n hx hb dX7_covered_20 rfl (lv_at hl 0 rfl) ?_
      refine lv_iload_n hx hb dX7_covered_21 rfl (lv_at hl 1 rfl) ?_
      refine lv_iload_n hx hb dX7_covered_22 rfl (lv_at hl 3 rfl) ?_
      refine crV (rest := []) S hK (c_X7_isCell l G om μ vp xy (by first | assumption | omega | decide) (by first | assumption | omega | decide) (by first | assumption | omega | decide)) cw_X7_109 rfl ⟨Nat.le_of_ble_eq_true rfl, Nat.le_of_ble_eq_true rfl⟩ ⟨Nat.le_of_ble_eq_true rfl, Nat.le_of_ble_eq_true rfl⟩ (bk.recv hK hM rfl rfl) hl.1 rfl (Nat.le_of_ble_eq_true rfl) dX7_covered_23 hM ?_
      refine z_if_ne (tgt := 35) hx hb dX7_covered_26 (by decide) (fun c_26 => ?_) (fun c_26 => ?_)
      ·
        obtain ⟨vxy, hvxy, rfl, hvx, hvy⟩ := isC_x c_26
        have hcy := cx_n (j := vxy) (by omega)
        refine lv_aload_n hx hb dX7_covered_35 rfl (lv_at hl 0 rfl) ?_
        refine lv_iload_n hx hb dX7_covered_36 rfl (lv_at hl 1 rfl) ?_
        refine lv_iload_n hx hb dX7_covered_37 rfl (lv_at hl 2 rfl) ?_
        refine crV (rest := []) S hK (c_X7_toCover l G om μ vp vs (by first | assumption | omega | decide) (by first | assumption | omega | decide) (by first | assumption | omega | decide)) cw_X7_134 rfl ⟨Nat.le_of_ble_eq_true rfl, Nat.le_of_ble_eq_true rfl⟩ ⟨Nat.le_of_ble_eq_true rfl, Nat.le_of_ble_eq_true rfl⟩ (bk.recv hK hM rfl rfl) hl.1 rfl (Nat.le_of_ble_eq_true rfl) dX7_covered_38 hM ?_
        refine lv_istore (lv' := [(4, .int (nI (tcM (clM μ vp) vs))), (0, .ref om), (1, .int (nI vp)), (2, .int (nI vs)), (3, .int (nI vxy))]) hx hb dX7_covered_41 hl (by decide) rfl (fun ls hl => ?_)
        refine lv_aload_n hx hb dX7_covered_43 rfl (lv_at hl 1 rfl) ?_
        refine lv_iload hx hb dX7_covered_44 (lv_at hl 0 rfl) ?_
        refine crV (rest := []) S hK (c_X7_isTiled l G 10 om μ (tcM (clM μ vp) vs) (tcM_lt _ _) (pc_20 _)) cw_X7_128 rfl ⟨Nat.le_of_ble_eq_true rfl, Nat.le_of_ble_eq_true rfl⟩ ⟨Nat.le_of_ble_eq_true rfl, Nat.le_of_ble_eq_true rfl⟩ (bk.recv hK hM rfl rfl) hl.1 rfl (Nat.le_of_ble_eq_true rfl) dX7_covered_46 hM ?_
        refine z_if_ne (tgt := 55) hx hb dX7_covered_49 (by decide) (fun c_49 => ?_) (fun c_49 => ?_)
        ·
          refine lv_iconst (v := nI 5) hx hb dX7_covered_55 (by decide) ?_
          refine lv_iload_n hx hb dX7_covered_56 rfl (lv_at hl 4 rfl) ?_
          refine lv_bipush (v := nI 10) hx hb dX7_covered_57 (by decide) ?_
          refine n_irem hx hb dX7_covered_59 (by omega) (by decide) (by decide) ?_
          refine n_imul hx hb dX7_covered_60 ?_
          refine lv_iload_n hx hb dX7_covered_61 rfl (lv_at hl 4 rfl) ?_
          refine lv_bipush (v := nI 10) hx hb dX7_covered_62 (by decide) ?_
          refine n_idiv hx hb dX7_covered_64 (by omega) (by decide) (by decide) ?_
          refine n_iadd hx hb dX7_covered_65 ?_
          obtain ⟨vown, hvown⟩ : ∃ z, z = (5 * (vxy % 10)) + (vxy / 10) := ⟨_, rfl⟩
          have hvo20 : vown < 20 := by omega
          have hvc0 : μ.2.1 4 (20 * vp + vown) < 16 := hvc vown hvo20
          have htc := tcM_lt (clM μ vp) vs
          refine w_top (v' := .int (nI vown)) (congrArg (fun z => Value.int (nI z)) hvown.symm) ?_
          refine lv_istore (lv' := [(5, .int (nI vown)), (4, .int (nI (tcM (clM μ vp) vs))), (0, .ref om), (1, .int (nI vp)), (2, .int (nI vs)), (3, .int (nI vxy))]) hx hb dX7_covered_66 hl (by decide) rfl (fun ls hl => ?_)
          refine lv_aload_n hx hb dX7_covered_68 rfl (lv_at hl 2 rfl) ?_
          refine kg (C := RX7) (T := TX7) (N := 32) (ci := 5) (k := 4) (v := .ref (om + 5)) S hK rfl inX7 (by decide) q_734 dX7_covered_69 hM rfl rfl ?_
          refine lv_bipush (v := nI 20) hx hb dX7_covered_72 (by decide) ?_
          refine lv_iload_n hx hb dX7_covered_74 rfl (lv_at hl 3 rfl) ?_
          refine n_imul hx hb dX7_covered_75 ?_
          refine lv_iload hx hb dX7_covered_76 (lv_at hl 0 rfl) ?_
          refine n_iadd hx hb dX7_covered_78 ?_
          refine kil (f := μ.2.1 4) S hK dX7_covered_79 5 hM rfl (by decide) rfl (by omega) ?_
          refine n_if_ne (tgt := 85) hx hb dX7_covered_80 (by decide) (by omega) (fun c_80 => ?_) (fun c_80 => ?_)
          ·
            have hcl0 : ¬ clM μ vp vown = 0 := c_80
            refine lv_iload hx hb dX7_covered_85 (lv_at hl 1 rfl) ?_
            refine lv_iload hx hb dX7_covered_87 (lv_at hl 0 rfl) ?_
            refine n_ishr hx hb dX7_covered_89 (by omega) (by omega) ?_
            refine lv_iconst (v := nI 1) hx hb dX7_covered_90 (by decide) ?_
            refine n_iand hx hb dX7_covered_91 ?_
            refine n_if_ne (tgt := 97) hx hb dX7_covered_92 (by decide) (Nat.lt_of_le_of_lt Nat.and_le_right (by decide)) (fun c_92 => ?_) (fun c_92 => ?_)
            ·
              have hbt : (tcM (clM μ vp) vs).testBit vown = true := tb1.mp c_92
              obtain ⟨vres, hvres⟩ : ∃ z, fcv 10 (tcM (clM μ vp) vs) vown = z := ⟨_, rfl⟩
              have L97 : ∀ (fu : Nat), ∀ (vn : Nat) (va : Nat), (va < 2 ^ 20) → (tlb 10 va = true) → (va.testBit vown = true) → (pc20 va ≤ 2 * vn) → (vn ≤ 10) → (fcv vn va vown = vres) → vn < fu → ∀ (H : Heap) (locs : List Loc), bk G om (mL G om μ) H → va_S (fun q => om ≤ q ∧ q < om + 20) zs.heap H locs → ∀ ls : Array Slot, lv_has ls 9 [(0, .ref om), (4, .int (nI va)), (5, .int (nI vown))] → W zp l ze (rL 25 0 0) zs zm za zb zt zc H locs 0 0 Q (F0 zm 97 ls []) := by
                intro fu
                induction fu with
                | zero =>
                  intro vn va hva hvt hvo hvp2 hvn hfin hmu H locs hM hS ls hl
                  exact absurd hmu (Nat.not_lt_zero _)
                | succ fu ih97 =>
                  intro vn va hva hvt hvo hvp2 hvn hfin hmu H locs hM hS ls hl
                  have hva0 : ¬ va = 0 := by
                          intro q
                          rw [q] at hvo
                          simp at hvo
                  obtain ⟨vm, hvm⟩ : ∃ m, vn = m + 1 := by
                          cases vn with
                          | zero => exact absurd (pc_z hva (by omega)) hva0
                          | succ m => exact ⟨m, rfl⟩
                  subst hvm
                  obtain ⟨hk1, hk2, hk3⟩ := ct_spec hva0 hva
                  refine lv_iload hx hb dX7_covered_97 (lv_at hl 1 rfl) ?_
                  refine crS (rest := []) S hK (c_X7_first l G va (by first | assumption | omega | decide) (by first | assumption | omega | decide)) cw_X7_116 rfl ⟨Nat.le_of_ble_eq_true rfl, Nat.le_of_ble_eq_true rfl⟩ ⟨Nat.le_of_ble_eq_true rfl, Nat.le_of_ble_eq_true rfl⟩ hl.1 rfl (Nat.le_of_ble_eq_true rfl) dX7_covered_99 trivial ?_
                  refine lv_istore (lv' := [(6, .int (nI (ct va))), (0, .ref om), (4, .int (nI va)), (5, .int (nI vown))]) hx hb dX7_covered_102 hl (by decide) rfl (fun ls hl => ?_)
                  refine lv_iload hx hb dX7_covered_104 (lv_at hl 2 rfl) ?_
                  refine lv_iload hx hb dX7_covered_106 (lv_at hl 0 rfl) ?_
                  refine crS (rest := []) S hK (c_X7_isRight l G va (ct va) (by first | assumption | omega | decide) (by first | assumption | omega | decide)) cw_X7_119 rfl ⟨Nat.le_of_ble_eq_true rfl, Nat.le_of_ble_eq_true rfl⟩ ⟨Nat.le_of_ble_eq_true rfl, Nat.le_of_ble_eq_true rfl⟩ hl.1 rfl (Nat.le_of_ble_eq_true rfl) dX7_covered_108 trivial ?_
                  refine z_if_eq (tgt := 134) hx hb dX7_covered_111 (by decide) (fun c_111 => ?_) (fun c_111 => ?_)
                  ·
                    have hzz : (rgt va (ct va) && tlb 10 (andn va (3 <<< ct va))) = false := by rw [c_111]; rfl
                    refine lv_iconst (v := nI 0) hx hb dX7_covered_134 (by decide) ?_
                    refine lv_istore (lv' := [(7, .int (nI 0)), (6, .int (nI (ct va))), (0, .ref om), (4, .int (nI va)), (5, .int (nI vown))]) hx hb dX7_covered_135 hl (by decide) rfl (fun ls hl => ?_)
                    refine lv_iload hx hb dX7_covered_137 (lv_at hl 0 rfl) ?_
                    refine n_if_eq (tgt := 149) hx hb dX7_covered_139 (by decide) (by decide) (fun c_139 => ?_) (fun c_139 => ?_)
                    ·
                      refine lv_iload hx hb dX7_covered_149 (lv_at hl 1 rfl) ?_
                      refine lv_iconst (v := nI 5) hx hb dX7_covered_151 (by decide) ?_
                      refine n_iadd hx hb dX7_covered_152 ?_
                      refine lv_istore (lv' := [(8, .int (nI ((ct va) + 5))), (7, .int (nI 0)), (6, .int (nI (ct va))), (0, .ref om), (4, .int (nI va)), (5, .int (nI vown))]) hx hb dX7_covered_153 hl (by decide) rfl (fun ls hl => ?_)
                      refine lv_iload hx hb dX7_covered_155 (lv_at hl 2 rfl) ?_
                      refine lv_iload hx hb dX7_covered_157 (lv_at hl 5 rfl) ?_
                      refine n_icmp_ne (tgt := 173) hx hb dX7_covered_159 (by decide) (by omega) (by omega) (fun c_159 => ?_) (fun c_159 => ?_)
                      ·
                        refine lv_iload hx hb dX7_covered_173 (lv_at hl 0 rfl) ?_
                        refine lv_iload hx hb dX7_covered_175 (lv_at hl 5 rfl) ?_
                        refine n_icmp_ne (tgt := 191) hx hb dX7_covered_177 (by decide) (by omega) (by omega) (fun c_177 => ?_) (fun c_177 => ?_)
                        ·
                          refine lv_iload hx hb dX7_covered_191 (lv_at hl 4 rfl) ?_
                          refine lv_iconst (v := nI 1) hx hb dX7_covered_193 (by decide) ?_
                          refine lv_iload hx hb dX7_covered_194 (lv_at hl 2 rfl) ?_
                          refine n_ishl hx hb dX7_covered_196 (by omega) ?_
                          refine lv_iconst (v := nI 1) hx hb dX7_covered_197 (by decide) ?_
                          refine lv_iload hx hb dX7_covered_198 (lv_at hl 0 rfl) ?_
                          refine n_ishl hx hb dX7_covered_200 (by omega) ?_
                          refine n_ior hx hb dX7_covered_201 ?_
                          refine lv_iconst (v := (-1)) hx hb dX7_covered_202 (by decide) ?_
                          refine lv_ixor hx hb dX7_covered_203 ?_
                          refine n_iandn hx hb dX7_covered_204 ?_
                          refine lv_istore (lv' := [(4, .int (nI (andn va ((1 <<< (ct va)) ||| (1 <<< ((ct va) + 5)))))), (8, .int (nI ((ct va) + 5))), (7, .int (nI 0)), (6, .int (nI (ct va))), (0, .ref om), (5, .int (nI vown))]) hx hb dX7_covered_205 hl (by decide) rfl (fun ls hl => ?_)
                          refine lv_goto (tgt := 97) hx hb dX7_covered_207 (by decide) ?_
                          obtain ⟨vm2, hvm2, hg1, hg2, hg3, hg4⟩ := fcv_go hva hvt hvo hvp2 hvn false hzz c_159 c_177
                          have hvm3 : vm2 = vm := by omega
                          subst hvm3
                          exact ih97 vm2 (andn va ((1 <<< (ct va)) ||| (1 <<< ((ct va) + 5)))) hg1 hg2 hg3 hg4 (by omega) ((fcv_3 false hzz c_159 c_177).symm.trans hfin) (by omega) _ _ hM hS ls (lv_sub hl [4, 0, 5] rfl)
                        ·
                          refine lv_iload hx hb dX7_covered_180 (lv_at hl 1 rfl) ?_
                          refine n_if_eq (tgt := 189) hx hb dX7_covered_182 (by decide) (by decide) (fun c_182 => ?_) (fun c_182 => ?_)
                          ·
                            refine lv_iconst (v := nI 4) hx hb dX7_covered_189 (by decide) ?_
                            have hr : covered_M μ (nI vp) (nI vs) (nI vxy) = (nI 4, μ) := by rw [show 4 = vres from (hfin.symm.trans (fcv_2 false hzz c_159 c_177)).symm]; unfold covered_M; simp [c_5, c_17, c_26, c_49, hcl0, hbt, hcx, hcs, hcy, ← hvown, hvres]
                            refine w_top (v' := .int ((covered_M μ (nI vp) (nI vs) (nI vxy)).1)) (congrArg (fun z => Value.int z) (congrArg Prod.fst hr).symm) ?_
                            replace hM := bk_eq hM (show mL G om μ = mL G om ((covered_M μ (nI vp) (nI vs) (nI vxy)).2) from by rw [hr])
                            exact hE _ _ _ _ _ _ (kr_i dX7_covered_190) hS (by decide) (by decide) hM
                          ·
                            exact absurd c_182 (by decide)
                      ·
                        refine lv_iload hx hb dX7_covered_162 (lv_at hl 1 rfl) ?_
                        refine n_if_eq (tgt := 171) hx hb dX7_covered_164 (by decide) (by decide) (fun c_164 => ?_) (fun c_164 => ?_)
                        ·
                          refine lv_iconst (v := nI 2) hx hb dX7_covered_171 (by decide) ?_
                          have hr : covered_M μ (nI vp) (nI vs) (nI vxy) = (nI 2, μ) := by rw [show 2 = vres from (hfin.symm.trans (fcv_1 false hzz c_159)).symm]; unfold covered_M; simp [c_5, c_17, c_26, c_49, hcl0, hbt, hcx, hcs, hcy, ← hvown, hvres]
                          refine w_top (v' := .int ((covered_M μ (nI vp) (nI vs) (nI vxy)).1)) (congrArg (fun z => Value.int z) (congrArg Prod.fst hr).symm) ?_
                          replace hM := bk_eq hM (show mL G om μ = mL G om ((covered_M μ (nI vp) (nI vs) (nI vxy)).2) from by rw [hr])
                          exact hE _ _ _ _ _ _ (kr_i dX7_covered_172) hS (by decide) (by decide) hM
                        ·
                          exact absurd c_164 (by decide)
                    ·
                      exact absurd c_139 (by decide)
                  ·
                    refine lv_aload_n hx hb dX7_covered_114 rfl (lv_at hl 1 rfl) ?_
                    refine lv_iload hx hb dX7_covered_115 (lv_at hl 2 rfl) ?_
                    refine lv_iconst (v := nI 3) hx hb dX7_covered_117 (by decide) ?_
                    refine lv_iload hx hb dX7_covered_118 (lv_at hl 0 rfl) ?_
                    refine n_ishl hx hb dX7_covered_120 (by omega) ?_
                    refine lv_iconst (v := (-1)) hx hb dX7_covered_121 (by decide) ?_
                    refine lv_ixor hx hb dX7_covered_122 ?_
                    refine n_iandn hx hb dX7_covered_123 ?_
                    refine crV (rest := []) S hK (c_X7_isTiled l G 10 om μ (andn va (3 <<< (ct va))) (andn_lt hva) (pc_20 _)) cw_X7_128 rfl ⟨Nat.le_of_ble_eq_true rfl, Nat.le_of_ble_eq_true rfl⟩ ⟨Nat.le_of_ble_eq_true rfl, Nat.le_of_ble_eq_true rfl⟩ (bk.recv hK hM rfl rfl) hl.1 rfl (Nat.le_of_ble_eq_true rfl) dX7_covered_124 hM ?_
                    refine z_if_eq (tgt := 134) hx hb dX7_covered_127 (by decide) (fun c_127 => ?_) (fun c_127 => ?_)
                    ·
                      have hzz : (rgt va (ct va) && tlb 10 (andn va (3 <<< ct va))) = false := by rw [c_111, c_127]; rfl
                      refine lv_iconst (v := nI 0) hx hb dX7_covered_134 (by decide) ?_
                      refine lv_istore (lv' := [(7, .int (nI 0)), (6, .int (nI (ct va))), (0, .ref om), (4, .int (nI va)), (5, .int (nI vown))]) hx hb dX7_covered_135 hl (by decide) rfl (fun ls hl => ?_)
                      refine lv_iload hx hb dX7_covered_137 (lv_at hl 0 rfl) ?_
                      refine n_if_eq (tgt := 149) hx hb dX7_covered_139 (by decide) (by decide) (fun c_139 => ?_) (fun c_139 => ?_)
                      ·
                        refine lv_iload hx hb dX7_covered_149 (lv_at hl 1 rfl) ?_
                        refine lv_iconst (v := nI 5) hx hb dX7_covered_151 (by decide) ?_
                        refine n_iadd hx hb dX7_covered_152 ?_
                        refine lv_istore (lv' := [(8, .int (nI ((ct va) + 5))), (7, .int (nI 0)), (6, .int (nI (ct va))), (0, .ref om), (4, .int (nI va)), (5, .int (nI vown))]) hx hb dX7_covered_153 hl (by decide) rfl (fun ls hl => ?_)
                        refine lv_iload hx hb dX7_covered_155 (lv_at hl 2 rfl) ?_
                        refine lv_iload hx hb dX7_covered_157 (lv_at hl 5 rfl) ?_
                        refine n_icmp_ne (tgt := 173) hx hb dX7_covered_159 (by decide) (by omega) (by omega) (fun c_159 => ?_) (fun c_159 => ?_)
                        ·
                          refine lv_iload hx hb dX7_covered_173 (lv_at hl 0 rfl) ?_
                          refine lv_iload hx hb dX7_covered_175 (lv_at hl 5 rfl) ?_
                          refine n_icmp_ne (tgt := 191) hx hb dX7_covered_177 (by decide) (by omega) (by omega) (fun c_177 => ?_) (fun c_177 => ?_)
                          ·
                            refine lv_iload hx hb dX7_covered_191 (lv_at hl 4 rfl) ?_
                            refine lv_iconst (v := nI 1) hx hb dX7_covered_193 (by decide) ?_
                            refine lv_iload hx hb dX7_covered_194 (lv_at hl 2 rfl) ?_
                            refine n_ishl hx hb dX7_covered_196 (by omega) ?_
                            refine lv_iconst (v := nI 1) hx hb dX7_covered_197 (by decide) ?_
                            refine lv_iload hx hb dX7_covered_198 (lv_at hl 0 rfl) ?_
                            refine n_ishl hx hb dX7_covered_200 (by omega) ?_
                            refine n_ior hx hb dX7_covered_201 ?_
                            refine lv_iconst (v := (-1)) hx hb dX7_covered_202 (by decide) ?_
                            refine lv_ixor hx hb dX7_covered_203 ?_
                            refine n_iandn hx hb dX7_covered_204 ?_
                            refine lv_istore (lv' := [(4, .int (nI (andn va ((1 <<< (ct va)) ||| (1 <<< ((ct va) + 5)))))), (8, .int (nI ((ct va) + 5))), (7, .int (nI 0)), (6, .int (nI (ct va))), (0, .ref om), (5, .int (nI vown))]) hx hb dX7_covered_205 hl (by decide) rfl (fun ls hl => ?_)
                            refine lv_goto (tgt := 97) hx hb dX7_covered_207 (by decide) ?_
                            obtain ⟨vm2, hvm2, hg1, hg2, hg3, hg4⟩ := fcv_go hva hvt hvo hvp2 hvn false hzz c_159 c_177
                            have hvm3 : vm2 = vm := by omega
                            subst hvm3
                            exact ih97 vm2 (andn va ((1 <<< (ct va)) ||| (1 <<< ((ct va) + 5)))) hg1 hg2 hg3 hg4 (by omega) ((fcv_3 false hzz c_159 c_177).symm.trans hfin) (by omega) _ _ hM hS ls (lv_sub hl [4, 0, 5] rfl)
                          ·
                            refine lv_iload hx hb dX7_covered_180 (lv_at hl 1 rfl) ?_
                            refine n_if_eq (tgt := 189) hx hb dX7_covered_182 (by decide) (by decide) (fun c_182 => ?_) (fun c_182 => ?_)
                            ·
                              refine lv_iconst (v := nI 4) hx hb dX7_covered_189 (by decide) ?_
                              have hr : covered_M μ (nI vp) (nI vs) (nI vxy) = (nI 4, μ) := by rw [show 4 = vres from (hfin.symm.trans (fcv_2 false hzz c_159 c_177)).symm]; unfold covered_M; simp [c_5, c_17, c_26, c_49, hcl0, hbt, hcx, hcs, hcy, ← hvown, hvres]
                              refine w_top (v' := .int ((covered_M μ (nI vp) (nI vs) (nI vxy)).1)) (congrArg (fun z => Value.int z) (congrArg Prod.fst hr).symm) ?_
                              replace hM := bk_eq hM (show mL G om μ = mL G om ((covered_M μ (nI vp) (nI vs) (nI vxy)).2) from by rw [hr])
                              exact hE _ _ _ _ _ _ (kr_i dX7_covered_190) hS (by decide) (by decide) hM
                            ·
                              exact absurd c_182 (by decide)
                        ·
                          refine lv_iload hx hb dX7_covered_162 (lv_at hl 1 rfl) ?_
                          refine n_if_eq (tgt := 171) hx hb dX7_covered_164 (by decide) (by decide) (fun c_164 => ?_) (fun c_164 => ?_)
                          ·
                            refine lv_iconst (v := nI 2) hx hb dX7_covered_171 (by decide) ?_
                            have hr : covered_M μ (nI vp) (nI vs) (nI vxy) = (nI 2, μ) := by rw [show 2 = vres from (hfin.symm.trans (fcv_1 false hzz c_159)).symm]; unfold covered_M; simp [c_5, c_17, c_26, c_49, hcl0, hbt, hcx, hcs, hcy, ← hvown, hvres]
                            refine w_top (v' := .int ((covered_M μ (nI vp) (nI vs) (nI vxy)).1)) (congrArg (fun z => Value.int z) (congrArg Prod.fst hr).symm) ?_
                            replace hM := bk_eq hM (show mL G om μ = mL G om ((covered_M μ (nI vp) (nI vs) (nI vxy)).2) from by rw [hr])
                            exact hE _ _ _ _ _ _ (kr_i dX7_covered_172) hS (by decide) (by decide) hM
                          ·
                            exact absurd c_164 (by decide)
                      ·
                        exact absurd c_139 (by decide)
                    ·
                      have hzz : (rgt va (ct va) && tlb 10 (andn va (3 <<< ct va))) = true := by rw [c_111, c_127]; rfl
                      refine lv_iconst (v := nI 1) hx hb dX7_covered_130 (by decide) ?_
                      refine lv_goto (tgt := 135) hx hb dX7_covered_131 (by decide) ?_
                      refine lv_istore (lv' := [(7, .int (nI 1)), (6, .int (nI (ct va))), (0, .ref om), (4, .int (nI va)), (5, .int (nI vown))]) hx hb dX7_covered_135 hl (by decide) rfl (fun ls hl => ?_)
                      refine lv_iload hx hb dX7_covered_137 (lv_at hl 0 rfl) ?_
                      refine n_if_eq (tgt := 149) hx hb dX7_covered_139 (by decide) (by decide) (fun c_139 => ?_) (fun c_139 => ?_)
                      ·
                        exact absurd c_139 (by decide)
                      ·
                        refine lv_iload hx hb dX7_covered_142 (lv_at hl 1 rfl) ?_
                        refine lv_iconst (v := nI 1) hx hb dX7_covered_144 (by decide) ?_
                        refine n_iadd hx hb dX7_covered_145 ?_
                        refine lv_goto (tgt := 153) hx hb dX7_covered_146 (by decide) ?_
                        refine lv_istore (lv' := [(8, .int (nI ((ct va) + 1))), (7, .int (nI 1)), (6, .int (nI (ct va))), (0, .ref om), (4, .int (nI va)), (5, .int (nI vown))]) hx hb dX7_covered_153 hl (by decide) rfl (fun ls hl => ?_)
                        refine lv_iload hx hb dX7_covered_155 (lv_at hl 2 rfl) ?_
                        refine lv_iload hx hb dX7_covered_157 (lv_at hl 5 rfl) ?_
                        refine n_icmp_ne (tgt := 173) hx hb dX7_covered_159 (by decide) (by omega) (by omega) (fun c_159 => ?_) (fun c_159 => ?_)
                        ·
                          refine lv_iload hx hb dX7_covered_173 (lv_at hl 0 rfl) ?_
                          refine lv_iload hx hb dX7_covered_175 (lv_at hl 5 rfl) ?_
                          refine n_icmp_ne (tgt := 191) hx hb dX7_covered_177 (by decide) (by omega) (by omega) (fun c_177 => ?_) (fun c_177 => ?_)
                          ·
                            refine lv_iload hx hb dX7_covered_191 (lv_at hl 4 rfl) ?_
                            refine lv_iconst (v := nI 1) hx hb dX7_covered_193 (by decide) ?_
                            refine lv_iload hx hb dX7_covered_194 (lv_at hl 2 rfl) ?_
                            refine n_ishl hx hb dX7_covered_196 (by omega) ?_
                            refine lv_iconst (v := nI 1) hx hb dX7_covered_197 (by decide) ?_
                            refine lv_iload hx hb dX7_covered_198 (lv_at hl 0 rfl) ?_
                            refine n_ishl hx hb dX7_covered_200 (by omega) ?_
                            refine n_ior hx hb dX7_covered_201 ?_
                            refine lv_iconst (v := (-1)) hx hb dX7_covered_202 (by decide) ?_
                            refine lv_ixor hx hb dX7_covered_203 ?_
                            refine n_iandn hx hb dX7_covered_204 ?_
                            refine lv_istore (lv' := [(4, .int (nI (andn va ((1 <<< (ct va)) ||| (1 <<< ((ct va) + 1)))))), (8, .int (nI ((ct va) + 1))), (7, .int (nI 1)), (6, .int (nI (ct va))), (0, .ref om), (5, .int (nI vown))]) hx hb dX7_covered_205 hl (by decide) rfl (fun ls hl => ?_)
                            refine lv_goto (tgt := 97) hx hb dX7_covered_207 (by decide) ?_
                            obtain ⟨vm2, hvm2, hg1, hg2, hg3, hg4⟩ := fcv_go hva hvt hvo hvp2 hvn true hzz c_159 c_177
                            have hvm3 : vm2 = vm := by omega
                            subst hvm3
                            exact ih97 vm2 (andn va ((1 <<< (ct va)) ||| (1 <<< ((ct va) + 1)))) hg1 hg2 hg3 hg4 (by omega) ((fcv_3 true hzz c_159 c_177).symm.trans hfin) (by omega) _ _ hM hS ls (lv_sub hl [4, 0, 5] rfl)
                          ·
                            refine lv_iload hx hb dX7_covered_180 (lv_at hl 1 rfl) ?_
                            refine n_if_eq (tgt := 189) hx hb dX7_covered_182 (by decide) (by decide) (fun c_182 => ?_) (fun c_182 => ?_)
                            ·
                              exact absurd c_182 (by decide)
                            ·
                              refine lv_iconst (v := nI 3) hx hb dX7_covered_185 (by decide) ?_
                              refine lv_goto (tgt := 190) hx hb dX7_covered_186 (by decide) ?_
                              have hr : covered_M μ (nI vp) (nI vs) (nI vxy) = (nI 3, μ) := by rw [show 3 = vres from (hfin.symm.trans (fcv_2 true hzz c_159 c_177)).symm]; unfold covered_M; simp [c_5, c_17, c_26, c_49, hcl0, hbt, hcx, hcs, hcy, ← hvown, hvres]
                              refine w_top (v' := .int ((covered_M μ (nI vp) (nI vs) (nI vxy)).1)) (congrArg (fun z => Value.int z) (congrArg Prod.fst hr).symm) ?_
                              replace hM := bk_eq hM (show mL G om μ = mL G om ((covered_M μ (nI vp) (nI vs) (nI vxy)).2) from by rw [hr])
                              exact hE _ _ _ _ _ _ (kr_i dX7_covered_190) hS (by decide) (by decide) hM
                        ·
                          refine lv_iload hx hb dX7_covered_162 (lv_at hl 1 rfl) ?_
                          refine n_if_eq (tgt := 171) hx hb dX7_covered_164 (by decide) (by decide) (fun c_164 => ?_) (fun c_164 => ?_)
                          ·
                            exact absurd c_164 (by decide)
                          ·
                            refine lv_iconst (v := nI 1) hx hb dX7_covered_167 (by decide) ?_
                            refine lv_goto (tgt := 172) hx hb dX7_covered_168 (by decide) ?_
                            have hr : covered_M μ (nI vp) (nI vs) (nI vxy) = (nI 1, μ) := by rw [show 1 = vres from (hfin.symm.trans (fcv_1 true hzz c_159)).symm]; unfold covered_M; simp [c_5, c_17, c_26, c_49, hcl0, hbt, hcx, hcs, hcy, ← hvown, hvres]
                            refine w_top (v' := .int ((covered_M μ (nI vp) (nI vs) (nI vxy)).1)) (congrArg (fun z => Value.int z) (congrArg Prod.fst hr).symm) ?_
                            replace hM := bk_eq hM (show mL G om μ = mL G om ((covered_M μ (nI vp) (nI vs) (nI vxy)).2) from by rw [hr])
                            exact hE _ _ _ _ _ _ (kr_i dX7_covered_172) hS (by decide) (by decide) hM
              exact L97 (10 + 1) 10 (tcM (clM μ vp) vs) (tcM_lt _ _) c_49 hbt (pc_20 _) (Nat.le_refl _) hvres (Nat.lt_succ_self _) _ _ hM hS ls (lv_sub hl [2, 1, 0] rfl)
            ·
              have hbt : (tcM (clM μ vp) vs).testBit vown = false := tb0.mp c_92
              refine lv_iconst (v := nI 5) hx hb dX7_covered_95 (by decide) ?_
              have hr : covered_M μ (nI vp) (nI vs) (nI vxy) = (nI 5, μ) := by unfold covered_M; simp [c_5, hcx, c_17, hcs, c_26, hcy, c_49, c_80, hcl0, c_92, hbt, ← hvown]
              refine w_top (v' := .int ((covered_M μ (nI vp) (nI vs) (nI vxy)).1)) (congrArg (fun z => Value.int z) (congrArg Prod.fst hr).symm) ?_
              replace hM := bk_eq hM (show mL G om μ = mL G om ((covered_M μ (nI vp) (nI vs) (nI vxy)).2) from by rw [hr])
              exact hE _ _ _ _ _ _ (kr_i dX7_covered_96) hS (by decide) (by decide) hM
          ·
            have hcl0 : clM μ vp vown = 0 := c_80
            refine lv_iconst (v := nI 0) hx hb dX7_covered_83 (by decide) ?_
            have hr : covered_M μ (nI vp) (nI vs) (nI vxy) = (nI 0, μ) := by unfold covered_M; simp [c_5, hcx, c_17, hcs, c_26, hcy, c_49, c_80, hcl0, ← hvown]
            refine w_top (v' := .int ((covered_M μ (nI vp) (nI vs) (nI vxy)).1)) (congrArg (fun z => Value.int z) (congrArg Prod.fst hr).symm) ?_
            replace hM := bk_eq hM (show mL G om μ = mL G om ((covered_M μ (nI vp) (nI vs) (nI vxy)).2) from by rw [hr])
            exact hE _ _ _ _ _ _ (kr_i dX7_covered_84) hS (by decide) (by decide) hM
        ·
          refine lv_bipush (v := (-9)) hx hb dX7_covered_52 (by decide) ?_
          have hr : covered_M μ (nI vp) (nI vs) (nI vxy) = ((-9), μ) := by unfold covered_M; simp [c_5, hcx, c_17, hcs, c_26, hcy, c_49]
          refine w_top (v' := .int ((covered_M μ (nI vp) (nI vs) (nI vxy)).1)) (congrArg (fun z => Value.int z) (congrArg Prod.fst hr).symm) ?_
          replace hM := bk_eq hM (show mL G om μ = mL G om ((covered_M μ (nI vp) (nI vs) (nI vxy)).2) from by rw [hr])
          exact hE _ _ _ _ _ _ (kr_i dX7_covered_54) hS (by decide) (by decide) hM
      ·
        refine lv_aload_n hx hb dX7_covered_29 rfl (lv_at hl 0 rfl) ?_
        refine lv_iconst (v := (-1)) hx hb dX7_covered_30 (by decide) ?_
        refine ctV (rest := []) S hK (c_X7_refuse l G om μ (-1) 1 (by first | assumption | omega | decide) (by first | assumption | omega | decide)) cw_X7_72 rfl ⟨Nat.le_of_ble_eq_true rfl, Nat.le_of_ble_eq_true rfl⟩ ⟨Nat.le_of_ble_eq_true rfl, Nat.le_of_ble_eq_true rfl⟩ (bk.recv hK hM rfl rfl) hl.1 rfl (Nat.le_of_ble_eq_true rfl) dX7_covered_31 hM hS (fun _ h => h) (fun H locs hPost hz hk hS => ?_)
        have hM := hPost
        have hr : covered_M μ (nI vp) (nI vs) xy = ((-1), uA μ 0 1 (μ.2.1 0 1 + 1)) := by unfold covered_M; simp [c_5, hcx, c_17, hcs, c_26]
        refine w_top (v' := .int ((covered_M μ (nI vp) (nI vs) xy).1)) (congrArg (fun z => Value.int z) (congrArg Prod.fst hr).symm) ?_
        replace hM := bk_eq hM (show mL G om (uA μ 0 1 (μ.2.1 0 1 + 1)) = mL G om ((covered_M μ (nI vp) (nI vs) xy).2) from by rw [hr])
        exact hE _ _ _ _ _ _ (kr_i dX7_covered_34) hS (by decide) (by decide) hM
