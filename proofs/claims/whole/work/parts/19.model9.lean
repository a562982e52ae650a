
/-! walks: the reference's netDoes, partOf -/
theorem mn1_scr {σ μ : Sx} {n : Nat} (h : scr σ μ) (hN : MN1 μ n) : MN1 σ n := by
  unfold MN1 fM at *
  rw [h.2 7 (by decide), h.2 8 (by decide), h.2 9 (by decide), h.2 3 (by decide), h.2 10 (by decide), h.2 11 (by decide)]
  exact hN
theorem fM_scr {σ μ : Sx} (n : Nat) (h : scr σ μ) : fM σ n = fM μ n := by
  show (fun k => σ.2.1 3 (σ.2.1 9 (8 * n + k))) = _
  rw [h.2 9 (by decide), h.2 3 (by decide)]
theorem lk_scr {σ μ : Sx} (n v : Nat) (h : scr σ μ) : lkM σ n v = lkM μ n v := by
  show fnd (lkP (fun k => σ.2.1 10 (12 * n + k)) (fun k => σ.2.1 11 (12 * n + k)) v) (σ.2.1 8 n) 0 = _
  rw [h.2 10 (by decide), h.2 11 (by decide), h.2 8 (by decide)]
theorem zM_scr {σ μ : Sx} (n : Nat) (h : scr σ μ) : zM σ n = zM μ n := by
  funext k f
  show (lkM σ n (10 * k + f)).isNone = (lkM μ n (10 * k + f)).isNone
  rw [lk_scr n _ h]
theorem fcM_scr {σ μ : Sx} (n : Nat) (h : scr σ μ) : fcM σ n = fcM μ n := by
  show fcN (fM σ n) (zM σ n) (σ.2.1 7 n) = _
  rw [fM_scr n h, zM_scr n h, h.2 7 (by decide)]
theorem psB_scr {σ μ : Sx} (n st lk k : Nat) (h : scr σ μ) : psB σ n st lk k = psB μ n st lk k := by
  funext f
  cases hq : lkM μ n (10 * k + f) with
  | none => rw [psB_n hq, psB_n ((lk_scr n _ h).trans hq), fM_scr n h, zM_scr n h]
  | some l => rw [psB_s hq, psB_s ((lk_scr n _ h).trans hq)]
theorem psV_scr {σ μ : Sx} (n st lk : Nat) (h : scr σ μ) : psV σ n st lk = psV μ n st lk := by
  funext k
  show bo (psB σ n st lk k) (fM σ n k) = _
  rw [psB_scr n st lk k h, fM_scr n h]
theorem letN_s {σ μ : Sx} {n st : Nat} (h : scr σ μ) (hN : MN1 μ n) (hw : ∀ k, k < μ.2.1 7 n → ∀ s, s < 1 <<< fM μ n k → σ.2.1 31 (32 * k + s) = wyM μ n k s) : (fnd (fun vl => alB (σ.2.1 31) (psV σ n st vl) (σ.2.1 7 n)) (1 <<< σ.2.1 8 n) 0).isSome = letN μ n st := by
  rw [← letN_e hN hw, h.2 7 (by decide), h.2 8 (by decide)]
  refine congrArg Option.isSome (congrArg (fun P => fnd P _ 0) (funext fun vl => ?_))
  show alB (σ.2.1 31) (psV σ n st vl) (μ.2.1 7 n) = _
  rw [psV_scr n st vl h]
abbrev ndB (μ : Sx) (n f s : Nat) : Bool := decide (¬ letN μ n s = trB μ f s)
def netDoes_M (μ : Sx) (n f : Int32) : Int32 × Sx := if inI n (μ.1 18) && inI f (μ.1 17) then (if 5 < fcM μ (cx n) then (0, μ) else (b2i (fnd (ndB μ (cx n) (cx f)) (1 <<< fcM μ (cx n)) 0).isNone, μ)) else (-1, rfM μ 1)

set_option maxHeartbeats 1000000 in
set_option maxRecDepth 100000 in
theorem c_X7_netDoes (l : Launch) (G : Gt) (om : Nat) (μ : Sx) (n : Int32) (f : Int32) (h0 : MI0 μ) (hI : MIn μ) (hIf : MIf μ) : Ct l G yX7_netDoes cX7_netDoes 5 ((some .int)) 26 0 0 [.ref om, .int n, .int f] (fun H => bk G om (mL G om μ) H) (some (.int ((netDoes_M μ n f).1))) (fun H => ∃ σ : Sx, bk G om (mL G om σ) H ∧ scr σ (netDoes_M μ n f).2) (fun q => om ≤ q ∧ q < om + 20) := by
  refine ct_entry [(0, .ref om), (1, .int n), (2, .int f)] (by decide) (Nat.le_of_ble_eq_true rfl) rfl ?_
  intro zp ze zs zm za zb zt zc Q S hK hPre hin hE ls hl
  have hx := S.1
  have hb := S.2.1
  have hM := hPre
  have hS : va_S (fun q => om ≤ q ∧ q < om + 20) zs.heap zs.heap [] := va_S.rf
  have hf20 := hIf.1
  have hn18 := hI.1
  refine lv_aload_n hx hb dX7_netDoes_0 rfl (lv_at hl 0 rfl) ?_
  refine lv_iload_n hx hb dX7_netDoes_1 rfl (lv_at hl 1 rfl) ?_
  refine crV (rest := []) S hK (c_X7_isNet l G om μ n (by first | assumption | omega | decide)) cw_X7_229 rfl ⟨Nat.le_of_ble_eq_true rfl, Nat.le_of_ble_eq_true rfl⟩ ⟨Nat.le_of_ble_eq_true rfl, Nat.le_of_ble_eq_true rfl⟩ (bk.recv hK hM rfl rfl) hl.1 rfl (Nat.le_of_ble_eq_true rfl) dX7_netDoes_2 hM ?_
  refine z_if_eq (tgt := 16) hx hb dX7_netDoes_5 (by decide) (fun c_5 => ?_) (fun c_5 => ?_)
  ·
    refine lv_aload_n hx hb dX7_netDoes_16 rfl (lv_at hl 0 rfl) ?_
    refine lv_iconst (v := (-1)) hx hb dX7_netDoes_17 (by decide) ?_
    refine ctV (rest := []) S hK (c_X7_refuse l G om μ (-1) 1 (by first | assumption | omega | decide) (by first | assumption | omega | decide)) cw_X7_72 rfl ⟨Nat.le_of_ble_eq_true rfl, Nat.le_of_ble_eq_true rfl⟩ ⟨Nat.le_of_ble_eq_true rfl, Nat.le_of_ble_eq_true rfl⟩ (bk.recv hK hM rfl rfl) hl.1 rfl (Nat.le_of_ble_eq_true rfl) dX7_netDoes_18 hM hS (fun _ h => h) (fun H locs hPost hz hk hS => ?_)
    have hM := hPost
    have hr : netDoes_M μ n f = ((-1), uA μ 0 1 (μ.2.1 0 1 + 1)) := by unfold netDoes_M; simp [c_5]
    refine w_top (v' := .int ((netDoes_M μ n f).1)) (congrArg (fun z => Value.int z) (congrArg Prod.fst hr).symm) ?_
    exact hE _ _ _ _ _ _ (kr_i dX7_netDoes_21) hS (by decide) (by decide) ⟨(uA μ 0 1 (μ.2.1 0 1 + 1)), hM, (by rw [hr]; exact (scr_rf _))⟩
  ·
    obtain ⟨vn, hvn, rfl⟩ := inI_x c_5
    have hcn := cx_n (j := vn) (by omega)
    have hN := mn1 h0 hI hvn
    have hN2 := mn2 h0 hI hvn
    have hfc40 := fcM_le hN
    refine lv_aload_n hx hb dX7_netDoes_8 rfl (lv_at hl 0 rfl) ?_
    refine lv_iload_n hx hb dX7_netDoes_9 rfl (lv_at hl 2 rfl) ?_
    refine crV (rest := []) S hK (c_X7_isFormula l G om μ f (by first | assumption | omega | decide)) cw_X7_191 rfl ⟨Nat.le_of_ble_eq_true rfl, Nat.le_of_ble_eq_true rfl⟩ ⟨Nat.le_of_ble_eq_true rfl, Nat.le_of_ble_eq_true rfl⟩ (bk.recv hK hM rfl rfl) hl.1 rfl (Nat.le_of_ble_eq_true rfl) dX7_netDoes_10 hM ?_
    refine z_if_ne (tgt := 22) hx hb dX7_netDoes_13 (by decide) (fun c_13 => ?_) (fun c_13 => ?_)
    ·
      obtain ⟨vf, hvf, rfl⟩ := inI_x c_13
      have hcf := cx_n (j := vf) (by omega)
      obtain ⟨h6, hby⟩ := hIf.2 vf hvf
      refine lv_aload_n hx hb dX7_netDoes_22 rfl (lv_at hl 0 rfl) ?_
      refine lv_iload_n hx hb dX7_netDoes_23 rfl (lv_at hl 1 rfl) ?_
      refine lv_iconst (v := (-1)) hx hb dX7_netDoes_24 (by decide) ?_
      refine crV (rest := []) S hK (c_X7_freeOf_c l G om μ vn (by first | assumption | omega | decide)) cw_X7_241 rfl ⟨Nat.le_of_ble_eq_true rfl, Nat.le_of_ble_eq_true rfl⟩ ⟨Nat.le_of_ble_eq_true rfl, Nat.le_of_ble_eq_true rfl⟩ (bk.recv hK hM rfl rfl) hl.1 rfl (Nat.le_of_ble_eq_true rfl) dX7_netDoes_25 hM ?_
      refine lv_istore_n (lv' := [(3, .int (nI (fcM μ vn))), (0, .ref om), (1, .int (nI vn)), (2, .int (nI vf))]) hx hb dX7_netDoes_28 rfl hl (by decide) rfl (fun ls hl => ?_)
      refine lv_iload_n hx hb dX7_netDoes_29 rfl (lv_at hl 0 rfl) ?_
      refine lv_iconst (v := nI 5) hx hb dX7_netDoes_30 (by decide) ?_
      refine n_icmp_le (tgt := 36) hx hb dX7_netDoes_31 (by decide) (by omega) (by decide) (fun c_31 => ?_) (fun c_31 => ?_)
      ·
        have hsh := shl_le c_31
        refine lv_aload_n hx hb dX7_netDoes_36 rfl (lv_at hl 1 rfl) ?_
        refine lv_iload_n hx hb dX7_netDoes_37 rfl (lv_at hl 2 rfl) ?_
        refine ctVv (rest := []) S hK (c_X7_findWays l G om μ vn hN hN2) cw_X7_252 rfl ⟨Nat.le_of_ble_eq_true rfl, Nat.le_of_ble_eq_true rfl⟩ ⟨Nat.le_of_ble_eq_true rfl, Nat.le_of_ble_eq_true rfl⟩ (bk.recv hK hM rfl rfl) hl.1 rfl (Nat.le_of_ble_eq_true rfl) dX7_netDoes_38 hM hS (fun _ h => h) (fun H locs hPost hz hk hS => ?_)
        obtain ⟨g38, hM, hq38⟩ := hPost
        refine lv_iconst (v := nI 0) hx hb dX7_netDoes_41 (by decide) ?_
        refine lv_istore (lv' := [(4, .int (nI 0)), (3, .int (nI (fcM μ vn))), (0, .ref om), (1, .int (nI vn)), (2, .int (nI vf))]) hx hb dX7_netDoes_42 hl (by decide) rfl (fun ls hl => ?_)
        have L44 : ∀ (fu : Nat), ∀ (vs : Nat) (σ : Sx), (vs ≤ 1 <<< fcM μ vn) → (scr σ μ) → (∀ k, k < μ.2.1 7 vn → ∀ s, s < 1 <<< fM μ vn k → σ.2.1 31 (32 * k + s) = wyM μ vn k s) → (fnd (ndB μ vn vf) (1 <<< fcM μ vn) 0 = fnd (ndB μ vn vf) (1 <<< fcM μ vn - vs) vs) → 1 <<< fcM μ vn - vs < fu → ∀ (H : Heap) (locs : List Loc), bk G om (mL G om σ) H → va_S (fun q => om ≤ q ∧ q < om + 20) zs.heap H locs → ∀ ls : Array Slot, lv_has ls 5 [(0, .ref om), (1, .int (nI vn)), (2, .int (nI vf)), (3, .int (nI (fcM μ vn))), (4, .int (nI vs))] → W zp l ze (rL 26 0 0) zs zm za zb zt zc H locs 0 0 Q (F0 zm 44 ls []) := by
          intro fu
          induction fu with
          | zero =>
            intro vs σ hvs hσ hW hfd hmu H locs hM hS ls hl
            exact absurd hmu (Nat.not_lt_zero _)
          | succ fu ih44 =>
            intro vs σ hvs hσ hW hfd hmu H locs hM hS ls hl
            refine lv_iload hx hb dX7_netDoes_44 (lv_at hl 4 rfl) ?_
            refine lv_iconst (v := nI 1) hx hb dX7_netDoes_46 (by decide) ?_
            refine lv_iload_n hx hb dX7_netDoes_47 rfl (lv_at hl 3 rfl) ?_
            refine n_ishl hx hb dX7_netDoes_48 (by omega) ?_
            refine n_icmp_ge (tgt := 77) hx hb dX7_netDoes_49 (by decide) (by omega) (by omega) (fun c_49 => ?_) (fun c_49 => ?_)
            ·
              have hr : netDoes_M μ (nI vn) (nI vf) = (nI 1, μ) := by unfold netDoes_M; rw [c_5, c_13, if_pos (show (true && true) = true from rfl), hcn, hcf, if_neg (by omega), hfd, show 1 <<< fcM μ vn - vs = 0 from by omega]; rfl
              refine lv_iconst (v := nI 1) hx hb dX7_netDoes_77 (by decide) ?_
              refine w_top (v' := .int ((netDoes_M μ (nI vn) (nI vf)).1)) (show (.int (nI 1) : Value) = .int ((netDoes_M μ (nI vn) (nI vf)).1) from (congrArg (fun z => Value.int z) (congrArg Prod.fst hr).symm)) ?_
              exact hE _ _ _ _ _ _ (kr_i dX7_netDoes_78) hS (by decide) (by decide) ⟨σ, hM, (by rw [hr]; exact hσ)⟩
            ·
              refine lv_aload_n hx hb dX7_netDoes_52 rfl (lv_at hl 0 rfl) ?_
              refine lv_iload_n hx hb dX7_netDoes_53 rfl (lv_at hl 1 rfl) ?_
              refine lv_iload hx hb dX7_netDoes_54 (lv_at hl 4 rfl) ?_
              refine ctV (rest := []) S hK (c_X7_isLet l G om σ vn vs (mn1_scr hσ hN) (by first | assumption | omega | decide) (by rw [fcM_scr vn hσ]; omega) (fun k hk s hs => by
                rw [hσ.2 7 (by decide)] at hk
                rw [fM_scr vn hσ] at hs
                rw [hW k hk s hs]
                exact wy_lt μ vn k s)) cw_X7_256 rfl ⟨Nat.le_of_ble_eq_true rfl, Nat.le_of_ble_eq_true rfl⟩ ⟨Nat.le_of_ble_eq_true rfl, Nat.le_of_ble_eq_true rfl⟩ (bk.recv hK hM rfl rfl) hl.1 rfl (Nat.le_of_ble_eq_true rfl) dX7_netDoes_56 hM hS (fun _ h => h) (fun H locs hPost hz hk hS => ?_)
              obtain ⟨g56, hM, hq56⟩ := hPost
              refine w_top (v' := .int (b2i (letN μ vn vs))) (congrArg (fun z => Value.int (b2i z)) (letN_s hσ hN hW)) ?_
              refine lv_aload_n hx hb dX7_netDoes_59 rfl (lv_at hl 0 rfl) ?_
              refine lv_iload_n hx hb dX7_netDoes_60 rfl (lv_at hl 2 rfl) ?_
              refine lv_iload hx hb dX7_netDoes_61 (lv_at hl 4 rfl) ?_
              refine ctV (rest := [.int (b2i (letN μ vn vs))]) S hK (c_X7_isTrue l G om (uR σ 30 g56) vf vs (by first | assumption | omega | decide) (by first | assumption | omega | decide) (by show σ.2.1 6 vf ≤ 40; rw [hσ.2 6 (by decide)]; exact h6) (by show ∀ i, i < σ.2.1 6 vf → σ.2.1 5 (40 * vf + i) < 256; rw [hσ.2 6 (by decide), hσ.2 5 (by decide)]; exact hby)) cw_X7_188 rfl ⟨Nat.le_of_ble_eq_true rfl, Nat.le_of_ble_eq_true rfl⟩ ⟨Nat.le_of_ble_eq_true rfl, Nat.le_of_ble_eq_true rfl⟩ (bk.recv hK hM rfl rfl) hl.1 rfl (Nat.le_of_ble_eq_true rfl) dX7_netDoes_63 hM hS (fun _ h => h) (fun H locs hPost hz hk hS => ?_)
              obtain ⟨g63, hM, hq63⟩ := hPost
              refine w_top (v' := .int (b2i (trB μ vf vs))) (congrArg (fun z => Value.int (b2i z)) (trB_e (scr_R hσ (by decide)) vf vs)) ?_
              refine z_icmp_eq (tgt := 71) hx hb dX7_netDoes_66 (by decide) (fun c_66 => ?_) (fun c_66 => ?_)
              ·
                refine lv_iinc (v := nI (vs + 1)) (lv' := [(4, .int (nI (vs + 1))), (0, .ref om), (1, .int (nI vn)), (2, .int (nI vf)), (3, .int (nI (fcM μ vn)))]) hx hb dX7_netDoes_71 hl (k := 4) rfl (inc1 _) (by decide) rfl (fun ls hl => ?_)
                refine lv_goto (tgt := 44) hx hb dX7_netDoes_74 (by decide) ?_
                exact ih44 (vs + 1) g63 (by first | assumption | omega) (scr_tr hq63.1 (scr_R hσ (by decide))) (fun k hk s hs => by rw [hq63.2]; exact hW k hk s hs) (by rw [hfd, show 1 <<< fcM μ vn - vs = (1 <<< fcM μ vn - (vs + 1)) + 1 from by omega]; exact fnd_f (decide_eq_false (fun q => q c_66))) (by omega) _ _ hM hS ls (lv_sub hl [1, 2, 3, 4, 0] rfl)
              ·
                have hr : netDoes_M μ (nI vn) (nI vf) = (nI 0, μ) := by unfold netDoes_M; rw [c_5, c_13, if_pos (show (true && true) = true from rfl), hcn, hcf, if_neg (by omega), hfd, show 1 <<< fcM μ vn - vs = (1 <<< fcM μ vn - (vs + 1)) + 1 from by omega, fnd_t (decide_eq_true c_66)]; rfl
                refine lv_iconst (v := nI 0) hx hb dX7_netDoes_69 (by decide) ?_
                refine w_top (v' := .int ((netDoes_M μ (nI vn) (nI vf)).1)) (show (.int (nI 0) : Value) = .int ((netDoes_M μ (nI vn) (nI vf)).1) from (congrArg (fun z => Value.int z) (congrArg Prod.fst hr).symm)) ?_
                exact hE _ _ _ _ _ _ (kr_i dX7_netDoes_70) hS (by decide) (by decide) ⟨g63, hM, (by rw [hr]; exact (scr_tr hq63.1 (scr_R hσ (by decide))))⟩
        exact L44 ((1 <<< fcM μ vn - 0) + 1) 0 (uR μ 31 g38) (Nat.zero_le _) (scr_R (scr_rf _) (by decide)) hq38 rfl (Nat.lt_succ_self _) _ _ hM hS ls (lv_sub hl [2, 3, 4, 1, 0] rfl)
      ·
        have hr : netDoes_M μ (nI vn) (nI vf) = (0, μ) := by unfold netDoes_M; rw [c_5, c_13, if_pos (show (true && true) = true from rfl), hcn, hcf, if_pos (by omega)]
        refine lv_iconst (v := nI 0) hx hb dX7_netDoes_34 (by decide) ?_
        have hr : netDoes_M μ (nI vn) (nI vf) = (nI 0, μ) := hr
        refine w_top (v' := .int ((netDoes_M μ (nI vn) (nI vf)).1)) (congrArg (fun z => Value.int z) (congrArg Prod.fst hr).symm) ?_
        exact hE _ _ _ _ _ _ (kr_i dX7_netDoes_35) hS (by decide) (by decide) ⟨μ, hM, (by rw [hr]; exact (scr_rf _))⟩
    ·
      refine lv_aload_n hx hb dX7_netDoes_16 rfl (lv_at hl 0 rfl) ?_
      refine lv_iconst (v := (-1)) hx hb dX7_netDoes_17 (by decide) ?_
      refine ctV (rest := []) S hK (c_X7_refuse l G om μ (-1) 1 (by first | assumption | omega | decide) (by first | assumption | omega | decide)) cw_X7_72 rfl ⟨Nat.le_of_ble_eq_true rfl, Nat.le_of_ble_eq_true rfl⟩ ⟨Nat.le_of_ble_eq_true rfl, Nat.le_of_ble_eq_true rfl⟩ (bk.recv hK hM rfl rfl) hl.1 rfl (Nat.le_of_ble_eq_true rfl) dX7_netDoes_18 hM hS (fun _ h => h) (fun H locs hPost hz hk hS => ?_)
      have hM := hPost
      have hr : netDoes_M μ (nI vn) f = ((-1), uA μ 0 1 (μ.2.1 0 1 + 1)) := by unfold netDoes_M; simp [c_5, hcn, c_13]
      refine w_top (v' := .int ((netDoes_M μ (nI vn) f).1)) (congrArg (fun z => Value.int z) (congrArg Prod.fst hr).symm) ?_
      exact hE _ _ _ _ _ _ (kr_i dX7_netDoes_21) hS (by decide) (by decide) ⟨(uA μ 0 1 (μ.2.1 0 1 + 1)), hM, (by rw [hr]; exact (scr_rf _))⟩
