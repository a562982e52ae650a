
/-! walks: the class makes PARTS -/
theorem BS_c {w h f : Nat} {c d : Nat → Nat} (q : BS w h f c) (e : ∀ k, k < 20 → c k = d k) : BS w h f d := by
  obtain ⟨a, b, g, i, j⟩ := q
  refine ⟨a, fun k hk z => (e k hk).symm.trans (b k hk z), fun k hk => by rw [← e k hk]; exact g k hk, fun m hm => ?_, fun k m hk hm h10 he => ?_⟩
  · obtain ⟨k, hk, z⟩ := i m hm
    exact ⟨k, hk, (e k hk).symm.trans z⟩
  · rw [← e k hk] at h10 he
    rw [← e m hm] at he
    exact j k m hk hm h10 he
theorem BG_c {w h f : Nat} {c d : Nat → Nat} {β : Sx} (q : BG w h f c β) (e : ∀ k, k < 20 → c k = d k) : BG w h f d β := by
  obtain ⟨h1, h2, h3, h4, h5, h6⟩ := q
  exact ⟨h1, h2, fun k hk => (h3 k hk).trans (e k hk), h4.trans (opB_congr e), h5, FG_congr (fun k hk _ => (e k hk).symm) h6⟩
theorem BC_c {f : Nat} {c d : Nat → Nat} {β : Sx} (q : BC f c β) (e : ∀ k, k < 20 → c k = d k) : BC f d β := by
  obtain ⟨h1, h2, h3⟩ := q
  exact ⟨fun s hs => (h1 s hs).trans (by rw [tcM_congr e]), h2.trans (ltM_congr e f), h3.trans (brM_congr e f)⟩
/-- a PART more -/
def NP (μ' μ : Sx) (w h f : Nat) (c : Nat → Nat) : Prop := (μ'.1 16 = μ.1 16 + 1 ∧ μ'.1 18 = μ.1 18) ∧ (∀ p, p < μ.1 16 → μ'.2.1 1 p = μ.2.1 1 p ∧ μ'.2.1 2 p = μ.2.1 2 p ∧ μ'.2.1 3 p = μ.2.1 3 p ∧ ∀ k, k < 20 → clM μ p k = clM μ' p k) ∧ (μ'.2.1 1 (μ.1 16) = w ∧ μ'.2.1 2 (μ.1 16) = h ∧ μ'.2.1 3 (μ.1 16) = f ∧ ∀ k, k < 20 → c k = clM μ' (μ.1 16) k) ∧ μ'.2.1 7 = μ.2.1 7 ∧ μ'.2.1 8 = μ.2.1 8 ∧ μ'.2.1 9 = μ.2.1 9 ∧ μ'.2.1 10 = μ.2.1 10 ∧ μ'.2.1 11 = μ.2.1 11
theorem NP_nw (μ : Sx) (w h f : Nat) (c : Nat → Nat) : NP (nwP μ w h f c) μ w h f c := by
  refine ⟨⟨rfl, rfl⟩, fun p hp => ⟨?_, ?_, ?_, fun k hk => ?_⟩, ⟨?_, ?_, ?_, fun k hk => ?_⟩, rfl, rfl, rfl, rfl, rfl⟩
  · show uN (μ.2.1 1) (μ.1 16) w p = _
    rw [uN_n (by omega)]
  · show uN (μ.2.1 2) (μ.1 16) h p = _
    rw [uN_n (by omega)]
  · show uN (μ.2.1 3) (μ.1 16) f p = _
    rw [uN_n (by omega)]
  · show _ = (if 20 * μ.1 16 ≤ 20 * p + k ∧ 20 * p + k < 20 * μ.1 16 + 20 then _ else _)
    rw [if_neg (by omega)]
  · show uN (μ.2.1 1) (μ.1 16) w (μ.1 16) = _
    rw [uN_s]
  · show uN (μ.2.1 2) (μ.1 16) h (μ.1 16) = _
    rw [uN_s]
  · show uN (μ.2.1 3) (μ.1 16) f (μ.1 16) = _
    rw [uN_s]
  · show _ = (if 20 * μ.1 16 ≤ 20 * μ.1 16 + k ∧ 20 * μ.1 16 + k < 20 * μ.1 16 + 20 then c (20 * μ.1 16 + k - 20 * μ.1 16) else _)
    rw [if_pos (by omega), Nat.add_sub_cancel_left]
abbrev upP (pa : Nat → Nat) (n nb : Nat) : Nat → Nat := fun p => if p = n then nb else pa p
theorem CW_p {G : Gt} {o om : Nat} {μ μ' : Sx} {pa na : Nat → Nat} {H0 H : Heap} {A : Nat → Prop} {locs : List Loc} {σ φ ρ β : Sx} {nb w h f : Nat} {c : Nat → Nat} (hC : CWx G o om μ pa na H0) (hn : MIn μ) (hS : va_S A H0 H locs) (hA : ∀ q, A q → (o ≤ q ∧ q < o + 11) ∨ H0.size ≤ q) (hX : bk G o (xL G o σ) H) (hF : bk G (o + 6) (flL G (o + 6) φ) H) (hR : bk G (o + 10) (rfL G (o + 10) ρ) H) (hRX : RX μ' σ φ ρ (upP pa (μ.1 16) nb) na) (hnb : H0.size ≤ nb) (hB : bk G nb (bdL G nb β) H) (hBG : BG w h f c β) (hBC : BC f c β) (hN : NP μ' μ w h f c) : CW G o om μ' H := by
  obtain ⟨⟨h1, h2, h3⟩, σ0, φ0, ρ0, -, -, -, -, hWB, hWN, hAP⟩ := hC
  obtain ⟨⟨n1, n2⟩, n3, ⟨n4, n5, n6, n7⟩, n8⟩ := hN
  refine ⟨upP pa (μ.1 16) nb, na, ⟨h1, Nat.le_trans h2 hS.1, gLH_S h3 hS (fun q hq z => by have := hA q z; omega)⟩, σ, φ, ρ, hX, hF, hR, hRX, fun p hp => ?_, fun n hm => ?_, ?_, ?_⟩
  · by_cases e : p = μ.1 16
    · subst e
      show om + 20 ≤ (if μ.1 16 = μ.1 16 then nb else _) ∧ _
      rw [if_pos rfl]
      refine ⟨by omega, β, ?_⟩
      rw [show upP pa (μ.1 16) nb (μ.1 16) = nb from if_pos rfl, n4, n5, n6]
      exact ⟨hB, BG_c hBG n7, BC_c hBC n7⟩
    · have hp2 : p < μ.1 16 := by omega
      obtain ⟨q1, β', q2, q3, q4⟩ := hWB p hp2
      obtain ⟨m1, m2, m3, m4⟩ := n3 p hp2
      rw [show upP pa (μ.1 16) nb p = pa p from if_neg e, m1, m2, m3]
      exact ⟨q1, β', bk_S q2 hS (fun q g1 g2 g3 z => by have := hA q z; omega), BG_c q3 m4, BC_c q4 m4⟩
  · rw [n2] at hm
    obtain ⟨q1, ν, q2, q3⟩ := hWN n hm
    refine ⟨q1, ν, bk_S q2 hS (fun q g1 g2 g3 z => by have := hA q z; omega), ?_⟩
    obtain ⟨r1, r2, r3, r4⟩ := q3
    obtain ⟨e7, e8, e9, e10, e11⟩ := n8
    refine ⟨by rw [e7]; exact r1, by rw [e8]; exact r2, fun k hk => ?_, fun k hk g hg => ?_⟩
    · rw [e7] at hk
      have hlt := (hn.2 n hm).2.2.1 k hk
      rw [e9, show upP pa (μ.1 16) nb (μ.2.1 9 (8 * n + k)) = pa (μ.2.1 9 (8 * n + k)) from if_neg (by omega)]
      exact r3 k hk
    · rw [r4 k hk g hg]
      show lkC (fnd (lkP (fun k => μ.2.1 10 (12 * n + k)) (fun k => μ.2.1 11 (12 * n + k)) _) (μ.2.1 8 n) 0) = lkC (fnd (lkP (fun k => μ'.2.1 10 (12 * n + k)) (fun k => μ'.2.1 11 (12 * n + k)) _) (μ'.2.1 8 n) 0)
      rw [e8, e10, e11]
  · rw [n2]
    exact hAP.1
  · rw [n1, n2]
    intro n p hm hp
    by_cases e : p = μ.1 16
    · subst e
      rw [show upP pa (μ.1 16) nb (μ.1 16) = nb from if_pos rfl]
      obtain ⟨q1, ν, q2, q3⟩ := hWN n hm
      have := bk.lt (k := 3) q2 (show 3 < 4 by decide)
      exact Or.inl (by omega)
    · rw [show upP pa (μ.1 16) nb p = pa p from if_neg e]
      exact hAP.2 n p hm (by omega)
theorem RX_p {μ σ φ ρ : Sx} {pa na : Nat → Nat} {nb w h f : Nat} {c : Nat → Nat} (q : RX μ σ φ ρ pa na) (hl : ∀ k, k < μ.1 19 → μ.2.1 12 k < μ.1 16) : RX (nwP μ w h f c) (uS (uQ σ 2 (σ.1 3) nb) 3 (σ.1 3 + 1)) φ ρ (upP pa (μ.1 16) nb) na := by
  obtain ⟨h1, ⟨hP1, hP2⟩, h3, h4, h5, ⟨hL1, hL2, hL3, hL4⟩, h7⟩ := q
  refine ⟨h1, ⟨?_, fun p hp => ?_⟩, FX_c h3 rfl rfl rfl rfl rfl, h4, h5, ⟨hL1, hL2, hL3, fun k hk => ?_⟩, h7⟩
  · show σ.1 3 + 1 = μ.1 16 + 1
    rw [hP1]
  · have hp2 : p < μ.1 16 + 1 := hp
    show va_up (σ.2.2 2) (σ.1 3) (some nb) p = _
    rw [hP1]
    by_cases e : p = μ.1 16
    · rw [e, show upP pa (μ.1 16) nb (μ.1 16) = nb from if_pos rfl]
      simp [va_up]
    · rw [show upP pa (μ.1 16) nb p = pa p from if_neg e]
      simp only [va_up, if_neg e]
      exact hP2 p (by omega)
  · have hk2 : k < μ.1 19 := hk
    have := hl k hk2
    show φ.2.2 0 k = some (upP pa (μ.1 16) nb (μ.2.1 12 k))
    rw [show upP pa (μ.1 16) nb (μ.2.1 12 k) = pa (μ.2.1 12 k) from if_neg (by omega)]
    exact hL4 k hk2

theorem rdL_q (t : Nat → Nat) : ∀ k q sn x y w, q ≤ (rdL t k q sn x y w).1 ∧ (rdL t k q sn x y w).1 ≤ q + k
  | 0, q, sn, x, y, w => ⟨Nat.le_refl _, Nat.le_refl _⟩
  | k + 1, q, sn, x, y, w => by
    unfold rdL
    split
    · split
      · exact ⟨Nat.le_refl _, Nat.le_add_right _ _⟩
      · have := rdL_q t k (q + 1) sn 0 (y + 1) x
        omega
    · split
      · exact ⟨Nat.le_refl _, Nat.le_add_right _ _⟩
      · have := rdL_q t k (q + 1) (seN (t q) sn) (x + 1) y w
        omega
theorem rd_q {μ : Sx} {q : Nat} (h : rdF μ = (q, none)) : q ≤ μ.1 22 := by
  have a := (rdL_q (μ.2.1 21) (μ.1 22) 0 0 0 0 0).2
  have e : (rdF μ).1 = (rdL (μ.2.1 21) (μ.1 22) 0 0 0 0 0).1 := by
    show (rdE (rdL (μ.2.1 21) (μ.1 22) 0 0 0 0 0)).1 = _
    rcases rdL (μ.2.1 21) (μ.1 22) 0 0 0 0 0 with ⟨q2, _ | ⟨sn, x, y, w⟩⟩
    · rfl
    · unfold rdE
      dsimp only
      split
      · rfl
      · split <;> rfl
  rw [← e, h] at a
  omega

set_option maxHeartbeats 1000000 in
set_option maxRecDepth 100000 in
theorem c_X6_keep_y (l : Launch) (G : Gt) (o : Nat) (σ : Sx) (a : Nat) (β : Sx) (w : Nat) (h : Nat) (f : Nat) (c : Nat → Nat) (h24 : σ.1 3 < 24) (hoa : o + 11 ≤ a) (hBS : BS w h f c) (hPD : PD w h c β) : Ct l G yX6_keep cX6_keep 2 ((some .int)) 14 0 0 [.ref o, .ref a] (fun H => bk G o (xL G o σ) H ∧ bk G a (bdL G a β) H) (some (.int (nI (σ.1 3)))) (fun H => bk G o (xL G o (uS (uQ σ 2 (σ.1 3) a) 3 (σ.1 3 + 1))) H ∧ ∃ β2 : Sx, bk G a (bdL G a β2) H ∧ (BG w h f c β2 ∧ BC f c β2)) (fun q => (o ≤ q ∧ q < o + 6) ∨ (a ≤ q ∧ q < a + 4)) := by
  refine ct_entry [(0, .ref o), (1, .ref a)] (by decide) (Nat.le_of_ble_eq_true rfl) rfl ?_
  intro zp ze zs zm za zb zt zc Q S hK hPre hin hE ls hl
  have hx := S.1
  have hb := S.2.1
  obtain ⟨hX, hB⟩ := hPre
  have hS : va_S (fun q => (o ≤ q ∧ q < o + 6) ∨ (a ≤ q ∧ q < a + 4)) zs.heap zs.heap [] := va_S.rf
  refine lv_aload_n hx hb dX6_keep_0 rfl (lv_at hl 0 rfl) ?_
  refine kg (C := RX6) (T := TX6) (N := 12) (ci := 4) (k := 3) (v := .int (nI (σ.1 3))) S hK rfl inX6 (by decide) q_127 dX6_keep_1 hX rfl rfl ?_
  refine lv_bipush (v := nI 24) hx hb dX6_keep_4 (by decide) ?_
  refine n_icmp_lt (tgt := 16) hx hb dX6_keep_6 (by decide) (by omega) (by decide) (fun c_6 => ?_) (fun c_6 => ?_)
  ·
    refine lv_aload_n hx hb dX6_keep_16 rfl (lv_at hl 1 rfl) ?_
    refine ctVv (rest := []) S hK (c_X0_countTilings l G a β w h f c hBS (PD_BG hPD hBS) hPD.2.2.2.2.2.2.1 hPD.2.2.2.2.2.2.2) cw_X6_256 rfl ⟨Nat.le_of_ble_eq_true rfl, Nat.le_of_ble_eq_true rfl⟩ ⟨Nat.le_of_ble_eq_true rfl, Nat.le_of_ble_eq_true rfl⟩ (bk.recv hK hB rfl rfl) hl.1 rfl (Nat.le_of_ble_eq_true rfl) dX6_keep_17 hB hS (fun _ h => by first | exact h | omega) (fun H locs hPost hz hk hS => ?_)
    obtain ⟨β2, hB, hq2⟩ := hPost
    replace hX := hX.over hk (fun q h1 h2 => by have h3 : q < o + 6 := h2; intro hA1; omega)
    refine lv_aload_n hx hb dX6_keep_20 rfl (lv_at hl 0 rfl) ?_
    refine kg (C := RX6) (T := TX6) (N := 12) (ci := 4) (k := 2) (v := .ref (o + 2)) S hK rfl inX6 (by decide) q_126 dX6_keep_21 hX rfl rfl ?_
    refine lv_aload_n hx hb dX6_keep_24 rfl (lv_at hl 0 rfl) ?_
    refine kg (C := RX6) (T := TX6) (N := 12) (ci := 4) (k := 3) (v := .int (nI (σ.1 3))) S hK rfl inX6 (by decide) q_127 dX6_keep_25 hX rfl rfl ?_
    refine lv_aload_n hx hb dX6_keep_28 rfl (lv_at hl 1 rfl) ?_
    refine kqs (C := "PuzzleParts$Board") (T := TX0) (N := 9) S hK dX6_keep_29 2 2 0 hX rfl rfl rfl hB rfl (by decide) rfl (by omega) (L1 := xL G o (uQ σ 2 (σ.1 3) a)) rfl hS (by first | exact ⟨by omega, by omega⟩ | omega) (fun H locs hX hS hz2 hk => ?_)
    replace hB := hB.kept (fun q h1 h2 => hk q (by have h3 : q < a + 4 := h2; omega))
    refine lv_aload_n hx hb dX6_keep_30 rfl (lv_at hl 0 rfl) ?_
    refine lv_dup hx hb dX6_keep_31 rfl ?_
    refine kg (C := RX6) (T := TX6) (N := 12) (ci := 4) (k := 3) (v := .int (nI (σ.1 3))) S hK rfl inX6 (by decide) q_127 dX6_keep_32 hX rfl rfl ?_
    refine lv_iconst (v := nI 1) hx hb dX6_keep_35 (by decide) ?_
    refine n_iadd hx hb dX6_keep_36 ?_
    refine kp (C := RX6) (T := TX6) (N := 12) (ci := 4) (k := 3) (ty := .int) tyX6 tyX6_ok nmX6 S hK rfl inX6 (by decide) q_127 rfl dX6_keep_37 rfl rfl rfl hX rfl (Nat.le_of_ble_eq_true rfl) (L1 := xL G o (uS (uQ σ 2 (σ.1 3) a) 3 ((σ.1 3) + 1))) rfl hS (by first | exact ⟨by omega, by omega⟩ | omega) (fun H locs hX hS hz2 hk => ?_)
    replace hB := hB.kept (fun q h1 h2 => hk q (by have h3 : q < a + 4 := h2; omega))
    refine lv_aload_n hx hb dX6_keep_40 rfl (lv_at hl 0 rfl) ?_
    refine kg (C := RX6) (T := TX6) (N := 12) (ci := 4) (k := 3) (v := .int (nI ((σ.1 3) + 1))) S hK rfl inX6 (by decide) q_127 dX6_keep_41 hX rfl rfl ?_
    refine lv_iconst (v := nI 1) hx hb dX6_keep_44 (by decide) ?_
    refine n_isub hx hb dX6_keep_45 (by omega) ?_
    refine w_top (v' := .int (nI (σ.1 3))) (congrArg (fun z => Value.int (nI z)) (show (((σ.1 3) + 1) - 1) = (σ.1 3) from by omega)) ?_
    exact hE _ _ _ _ _ _ (kr_i dX6_keep_46) hS (by decide) (by decide) ⟨hX, ⟨β2, hB, hq2⟩⟩
  ·
    omega

set_option maxHeartbeats 1000000 in
set_option maxRecDepth 100000 in
theorem c_X6_keep_n (l : Launch) (G : Gt) (o : Nat) (σ : Sx) (ρ : Sx) (a : Nat) (h24 : ¬ σ.1 3 < 24) (hn24 : σ.1 3 ≤ 24) : Ct l G yX6_keep cX6_keep 2 ((some .int)) 1 0 0 [.ref o, .ref a] (fun H => bk G o (xL G o σ) H ∧ bk G (o + 10) (rfL G (o + 10) ρ) H) (some (.int (-6))) (fun H => bk G o (xL G o σ) H ∧ bk G (o + 10) (rfL G (o + 10) (uA ρ 0 6 (ρ.2.1 0 6 + 1))) H) (fun q => o + 10 ≤ q ∧ q < o + 11) := by
  refine ct_entry [(0, .ref o), (1, .ref a)] (by decide) (Nat.le_of_ble_eq_true rfl) rfl ?_
  intro zp ze zs zm za zb zt zc Q S hK hPre hin hE ls hl
  have hx := S.1
  have hb := S.2.1
  obtain ⟨hX, hRF⟩ := hPre
  have hS : va_S (fun q => o + 10 ≤ q ∧ q < o + 11) zs.heap zs.heap [] := va_S.rf
  refine lv_aload_n hx hb dX6_keep_0 rfl (lv_at hl 0 rfl) ?_
  refine kg (C := RX6) (T := TX6) (N := 12) (ci := 4) (k := 3) (v := .int (nI (σ.1 3))) S hK rfl inX6 (by decide) q_127 dX6_keep_1 hX rfl rfl ?_
  refine lv_bipush (v := nI 24) hx hb dX6_keep_4 (by decide) ?_
  refine n_icmp_lt (tgt := 16) hx hb dX6_keep_6 (by decide) (by omega) (by decide) (fun c_6 => ?_) (fun c_6 => ?_)
  ·
    omega
  ·
    refine lv_aload_n hx hb dX6_keep_9 rfl (lv_at hl 0 rfl) ?_
    refine lv_bipush (v := (-6)) hx hb dX6_keep_10 (by decide) ?_
    refine ctV (rest := []) S hK (c_X6_refuse l G o σ ρ (-6) 6 rfl (by decide)) cw_X6_42 rfl ⟨Nat.le_of_ble_eq_true rfl, Nat.le_of_ble_eq_true rfl⟩ ⟨Nat.le_of_ble_eq_true rfl, Nat.le_of_ble_eq_true rfl⟩ (bk.recv hK hX rfl rfl) hl.1 rfl (Nat.le_of_ble_eq_true rfl) dX6_keep_12 ⟨hX, hRF⟩ hS (fun _ h => by first | exact h | omega) (fun H locs hPost hz hk hS => ?_)
    obtain ⟨hX, hRF⟩ := hPost
    exact hE _ _ _ _ _ _ (kr_i dX6_keep_15) hS (by decide) (by decide) ⟨hX, hRF⟩

set_option maxHeartbeats 1000000 in
set_option maxRecDepth 100000 in
theorem c_X6_turn (l : Launch) (G : Gt) (o : Nat) (om : Nat) (μ : Sx) (pa : Nat → Nat) (na : Nat → Nat) (nb : Nat) (p : Int32) (hb0 : MIb μ) (hn0 : MIn μ) (hif : MIf μ) (hit : MIt μ) (hl0 : MIl μ) (hr0 : MIr μ) : Ct l G yX6_turn cX6_turn 3 ((some .int)) 15 4 66 [.ref o, .int p] (fun H => CWx G o om μ pa na H ∧ H.size = nb) (some (.int ((turn_M μ p).1))) (fun H => CW G o om (turn_M μ p).2 H) (fun q => (o ≤ q ∧ q < o + 11) ∨ nb ≤ q) := by
  refine ct_entry [(0, .ref o), (1, .int p)] (by decide) (Nat.le_of_ble_eq_true rfl) rfl ?_
  intro zp ze zs zm za zb zt zc Q S hK hPre hin hE ls hl
  have hx := S.1
  have hb := S.2.1
  obtain ⟨hCW, hz⟩ := hPre
  have hS : va_S (fun q => (o ≤ q ∧ q < o + 11) ∨ nb ≤ q) zs.heap zs.heap [] := va_S.rf
  obtain ⟨⟨hoo, hosz, hLH⟩, σ, φ, ρ, hX, hF, hRF, hRX, hWB, hWN, hAP⟩ := id hCW
  obtain ⟨⟨hT1, hT2⟩, ⟨hP1, hP2⟩, ⟨hF1, hF2⟩, ⟨hN1, hN2⟩, ⟨hR1, hR2⟩, ⟨hL1, hL2, hL3, hL4⟩, hRR⟩ := id hRX
  obtain ⟨h16, -⟩ := id hb0
  obtain ⟨h18, -⟩ := id hn0
  obtain ⟨h17, -⟩ := id hif
  obtain ⟨h22, -⟩ := id hit
  obtain ⟨h19, -⟩ := id hl0
  obtain ⟨h20, -⟩ := id hr0
  have hz0 := hz
  refine lv_aload_n hx hb dX6_turn_0 rfl (lv_at hl 0 rfl) ?_
  refine lv_iload_n hx hb dX6_turn_1 rfl (lv_at hl 1 rfl) ?_
  cases hivp : inI p (μ.1 16)
  ·
    refine crV (rest := []) S hK (c_X6_partAt_n l G o σ p (by omega) (by rw [hP1]; exact hivp)) cw_X6_67 rfl ⟨Nat.le_of_ble_eq_true rfl, Nat.le_of_ble_eq_true rfl⟩ ⟨Nat.le_of_ble_eq_true rfl, Nat.le_of_ble_eq_true rfl⟩ (bk.recv hK hX rfl rfl) hl.1 rfl (Nat.le_of_ble_eq_true rfl) dX6_turn_2 hX ?_
    refine lv_astore_nN (lv' := [(2, .null), (0, .ref o), (1, .int p)]) hx hb dX6_turn_5 rfl hl (by decide) rfl (fun ls hl => ?_)
    refine lv_aload_nN hx hb dX6_turn_6 rfl (lv_at hl 0 rfl) ?_
    refine lv_ifnonnullN hx hb dX6_turn_7 ?_
    refine lv_aload_n hx hb dX6_turn_10 rfl (lv_at hl 1 rfl) ?_
    refine lv_iconst (v := (-1)) hx hb dX6_turn_11 (by decide) ?_
    refine ctV (rest := []) S hK (c_X6_refuse l G o σ ρ (-1) 1 rfl (by decide)) cw_X6_42 rfl ⟨Nat.le_of_ble_eq_true rfl, Nat.le_of_ble_eq_true rfl⟩ ⟨Nat.le_of_ble_eq_true rfl, Nat.le_of_ble_eq_true rfl⟩ (bk.recv hK hX rfl rfl) hl.1 rfl (Nat.le_of_ble_eq_true rfl) dX6_turn_12 ⟨hX, hRF⟩ hS (fun _ h => by first | exact h | omega) (fun H locs hPost hz2 hk hS => ?_)
    obtain ⟨hX, hRF⟩ := hPost
    replace hF := hF.over hk (fun q h1 h2 => by have h3 : q < o + 6 + 4 := h2; intro hA1; omega)
    have hr : turn_M μ p = ((-1), rfM μ 1) := by unfold turn_M; rw [hivp] <;> rfl
    refine w_top (v' := .int ((turn_M μ p).1)) (congrArg (fun z => Value.int z) (congrArg Prod.fst hr).symm) ?_
    have hcw := CW_r (G := G) (o := o) (om := om) hr (CW_x hCW hS (fun q h => by first | exact Or.inl h | omega) hX hF hRF (RX_rf hRX) (KP_rf μ _))
    exact hE _ _ _ _ _ _ (kr_i dX6_turn_15) hS (by decide) (by decide) hcw
  ·
    obtain ⟨vp, hvvp, rfl⟩ := inI_x hivp
    have hcxvp := cx_n (j := vp) (by omega)
    obtain ⟨hpavp, β, hB, hBGvp, hBCvp⟩ := hWB vp hvvp
    have hBSvp := hb0.2 vp hvvp
    have hltvp := bk.lt (k := 3) hB (show 3 < 4 by decide)
    obtain ⟨⟨⟨ha1vp, ha2vp⟩, ⟨ha3vp, ha4vp⟩, ha5vp⟩, hbOvp, hbCvp, hbEvp, hbUvp⟩ := id hBSvp
    obtain ⟨hg0vp, hg1vp, hg2vp, hg3vp, hg4vp, hgFvp⟩ := id hBGvp
    obtain ⟨hc6vp, hc7vp, hc8vp⟩ := id hBCvp
    refine crV (rest := []) S hK (c_X6_partAt_y l G o σ vp (pa vp) (by omega) (by omega) (hP2 _ hvvp)) cw_X6_67 rfl ⟨Nat.le_of_ble_eq_true rfl, Nat.le_of_ble_eq_true rfl⟩ ⟨Nat.le_of_ble_eq_true rfl, Nat.le_of_ble_eq_true rfl⟩ (bk.recv hK hX rfl rfl) hl.1 rfl (Nat.le_of_ble_eq_true rfl) dX6_turn_2 hX ?_
    refine lv_astore_n (lv' := [(2, .ref (pa vp)), (0, .ref o), (1, .int (nI vp))]) hx hb dX6_turn_5 rfl hl (by decide) rfl (fun ls hl => ?_)
    refine lv_aload_n hx hb dX6_turn_6 rfl (lv_at hl 0 rfl) ?_
    refine lv_ifnonnull (tgt := 16) hx hb dX6_turn_7 (by decide) ?_
    refine lv_aload_n hx hb dX6_turn_16 rfl (lv_at hl 1 rfl) ?_
    refine kg (C := RX6) (T := TX6) (N := 12) (ci := 4) (k := 3) (v := .int (nI (σ.1 3))) S hK rfl inX6 (by decide) q_127 dX6_turn_17 hX rfl rfl ?_
    refine lv_bipush (v := nI 24) hx hb dX6_turn_20 (by decide) ?_
    refine n_icmp_lt (tgt := 32) hx hb dX6_turn_22 (by decide) (by omega) (by decide) (fun c_22 => ?_) (fun c_22 => ?_)
    ·
      refine lv_aload_n hx hb dX6_turn_32 rfl (lv_at hl 0 rfl) ?_
      refine kg (C := RX0) (T := TX0) (N := 9) (ci := 0) (k := 0) (v := .int (nI (β.1 0))) S hK rfl inX0 (by decide) q_195 dX6_turn_33 hB rfl rfl ?_
      refine lv_iconst (v := nI 4) hx hb dX6_turn_36 (by decide) ?_
      refine n_icmp_le (tgt := 47) hx hb dX6_turn_37 (by decide) (by omega) (by decide) (fun c_37 => ?_) (fun c_37 => ?_)
      ·
        refine lv_aload_n hx hb dX6_turn_47 rfl (lv_at hl 1 rfl) ?_
        refine lv_aload_n hx hb dX6_turn_48 rfl (lv_at hl 0 rfl) ?_
        refine ctV (rest := [.ref o]) S hK (c_X0_turned l G nb (pa vp) β (μ.2.1 1 vp) (μ.2.1 2 vp) (μ.2.1 3 vp) (clM μ vp) hBSvp hBGvp (by omega)) cw_X6_143 rfl ⟨Nat.le_of_ble_eq_true rfl, Nat.le_of_ble_eq_true rfl⟩ ⟨Nat.le_of_ble_eq_true rfl, Nat.le_of_ble_eq_true rfl⟩ (bk.recv hK hB rfl rfl) hl.1 rfl (Nat.le_of_ble_eq_true rfl) dX6_turn_49 ⟨hB, hz⟩ hS (fun q h => by omega) (fun H locs hPost hz2 hk hS => ?_)
        obtain ⟨hB, hN⟩ := hPost
        replace hX := hX.over hk (fun q h1 h2 => by have h3 : q < o + 6 := h2; intro hA1; omega)
        replace hF := hF.over hk (fun q h1 h2 => by have h3 : q < o + 6 + 4 := h2; intro hA1; omega)
        replace hRF := hRF.over hk (fun q h1 h2 => by have h3 : q < o + 10 + 1 := h2; intro hA1; omega)
        obtain ⟨τ, hT, hPD⟩ := hN
        have hBSt := BS_tn hBSvp (show μ.2.1 1 vp ≤ 4 by omega)
        have hPDt := hPD
        refine ctV (rest := []) S hK (c_X6_keep_y l G o σ nb τ (μ.2.1 2 vp) (μ.2.1 1 vp) (μ.2.1 3 vp) (tnC (μ.2.1 1 vp) (μ.2.1 2 vp) (clM μ vp)) (show σ.1 3 < 24 by omega) (by omega) hBSt hPDt) cw_X6_63 rfl ⟨Nat.le_of_ble_eq_true rfl, Nat.le_of_ble_eq_true rfl⟩ ⟨Nat.le_of_ble_eq_true rfl, Nat.le_of_ble_eq_true rfl⟩ (bk.recv hK hX rfl rfl) hl.1 rfl (Nat.le_of_ble_eq_true rfl) dX6_turn_52 ⟨hX, hT⟩ hS (fun q h => by omega) (fun H locs hPost hz hk hS => ?_)
        obtain ⟨hX, ⟨τ2, hT, hq2⟩⟩ := hPost
        replace hF := hF.over hk (fun q h1 h2 => by have h3 : q < o + 6 + 4 := h2; intro hA1; omega)
        replace hRF := hRF.over hk (fun q h1 h2 => by have h3 : q < o + 10 + 1 := h2; intro hA1; omega)
        replace hB := hB.over hk (fun q h1 h2 => by have h3 : q < pa vp + 4 := h2; intro hA1; omega)
        have hr : turn_M μ (nI vp) = ((nI (σ.1 3)), nwP μ (μ.2.1 2 vp) (μ.2.1 1 vp) (μ.2.1 3 vp) (tnC (μ.2.1 1 vp) (μ.2.1 2 vp) (clM μ vp))) := by unfold turn_M; rw [hivp, if_pos (by rfl), if_neg (by omega), hcxvp, if_neg (by omega), hP1]
        refine w_top (v' := .int ((turn_M μ (nI vp)).1)) (congrArg (fun z => Value.int z) (congrArg Prod.fst hr).symm) ?_
        have hcw := CW_r (G := G) (o := o) (om := om) hr (CW_p hCW hn0 hS (fun q h => by omega) hX hF hRF (RX_p hRX (fun k hk8 => (hl0.2 k hk8).1)) (Nat.le_of_eq hz0) hT hq2.1 hq2.2 (NP_nw _ _ _ _ _))
        exact hE _ _ _ _ _ _ (kr_i dX6_turn_55) hS (by decide) (by decide) hcw
      ·
        refine lv_aload_n hx hb dX6_turn_40 rfl (lv_at hl 1 rfl) ?_
        refine lv_bipush (v := (-3)) hx hb dX6_turn_41 (by decide) ?_
        refine ctV (rest := []) S hK (c_X6_refuse l G o σ ρ (-3) 3 rfl (by decide)) cw_X6_42 rfl ⟨Nat.le_of_ble_eq_true rfl, Nat.le_of_ble_eq_true rfl⟩ ⟨Nat.le_of_ble_eq_true rfl, Nat.le_of_ble_eq_true rfl⟩ (bk.recv hK hX rfl rfl) hl.1 rfl (Nat.le_of_ble_eq_true rfl) dX6_turn_43 ⟨hX, hRF⟩ hS (fun _ h => by first | exact h | omega) (fun H locs hPost hz2 hk hS => ?_)
        obtain ⟨hX, hRF⟩ := hPost
        replace hF := hF.over hk (fun q h1 h2 => by have h3 : q < o + 6 + 4 := h2; intro hA1; omega)
        replace hB := hB.over hk (fun q h1 h2 => by have h3 : q < pa vp + 4 := h2; intro hA1; omega)
        have hr : turn_M μ (nI vp) = ((-3), rfM μ 3) := by unfold turn_M; rw [hivp, if_pos (by rfl), if_neg (by omega), hcxvp, if_pos (by omega)]
        refine w_top (v' := .int ((turn_M μ (nI vp)).1)) (congrArg (fun z => Value.int z) (congrArg Prod.fst hr).symm) ?_
        have hcw := CW_r (G := G) (o := o) (om := om) hr (CW_x hCW hS (fun q h => by first | exact Or.inl h | omega) hX hF hRF (RX_rf hRX) (KP_rf μ _))
        exact hE _ _ _ _ _ _ (kr_i dX6_turn_46) hS (by decide) (by decide) hcw
    ·
      refine lv_aload_n hx hb dX6_turn_25 rfl (lv_at hl 1 rfl) ?_
      refine lv_bipush (v := (-6)) hx hb dX6_turn_26 (by decide) ?_
      refine ctV (rest := []) S hK (c_X6_refuse l G o σ ρ (-6) 6 rfl (by decide)) cw_X6_42 rfl ⟨Nat.le_of_ble_eq_true rfl, Nat.le_of_ble_eq_true rfl⟩ ⟨Nat.le_of_ble_eq_true rfl, Nat.le_of_ble_eq_true rfl⟩ (bk.recv hK hX rfl rfl) hl.1 rfl (Nat.le_of_ble_eq_true rfl) dX6_turn_28 ⟨hX, hRF⟩ hS (fun _ h => by first | exact h | omega) (fun H locs hPost hz2 hk hS => ?_)
      obtain ⟨hX, hRF⟩ := hPost
      replace hF := hF.over hk (fun q h1 h2 => by have h3 : q < o + 6 + 4 := h2; intro hA1; omega)
      replace hB := hB.over hk (fun q h1 h2 => by have h3 : q < pa vp + 4 := h2; intro hA1; omega)
      have hr : turn_M μ (nI vp) = ((-6), rfM μ 6) := by unfold turn_M; rw [hivp, if_pos (by rfl), if_pos (by omega)]
      refine w_top (v' := .int ((turn_M μ (nI vp)).1)) (congrArg (fun z => Value.int z) (congrArg Prod.fst hr).symm) ?_
      have hcw := CW_r (G := G) (o := o) (om := om) hr (CW_x hCW hS (fun q h => by first | exact Or.inl h | omega) hX hF hRF (RX_rf hRX) (KP_rf μ _))
      exact hE _ _ _ _ _ _ (kr_i dX6_turn_31) hS (by decide) (by decide) hcw

set_option maxHeartbeats 1000000 in
set_option maxRecDepth 100000 in
theorem c_X6_mirror (l : Launch) (G : Gt) (o : Nat) (om : Nat) (μ : Sx) (pa : Nat → Nat) (na : Nat → Nat) (nb : Nat) (p : Int32) (hb0 : MIb μ) (hn0 : MIn μ) (hif : MIf μ) (hit : MIt μ) (hl0 : MIl μ) (hr0 : MIr μ) : Ct l G yX6_mirror cX6_mirror 3 ((some .int)) 15 4 66 [.ref o, .int p] (fun H => CWx G o om μ pa na H ∧ H.size = nb) (some (.int ((mirror_M μ p).1))) (fun H => CW G o om (mirror_M μ p).2 H) (fun q => (o ≤ q ∧ q < o + 11) ∨ nb ≤ q) := by
  refine ct_entry [(0, .ref o), (1, .int p)] (by decide) (Nat.le_of_ble_eq_true rfl) rfl ?_
  intro zp ze zs zm za zb zt zc Q S hK hPre hin hE ls hl
  have hx := S.1
  have hb := S.2.1
  obtain ⟨hCW, hz⟩ := hPre
  have hS : va_S (fun q => (o ≤ q ∧ q < o + 11) ∨ nb ≤ q) zs.heap zs.heap [] := va_S.rf
  obtain ⟨⟨hoo, hosz, hLH⟩, σ, φ, ρ, hX, hF, hRF, hRX, hWB, hWN, hAP⟩ := id hCW
  obtain ⟨⟨hT1, hT2⟩, ⟨hP1, hP2⟩, ⟨hF1, hF2⟩, ⟨hN1, hN2⟩, ⟨hR1, hR2⟩, ⟨hL1, hL2, hL3, hL4⟩, hRR⟩ := id hRX
  obtain ⟨h16, -⟩ := id hb0
  obtain ⟨h18, -⟩ := id hn0
  obtain ⟨h17, -⟩ := id hif
  obtain ⟨h22, -⟩ := id hit
  obtain ⟨h19, -⟩ := id hl0
  obtain ⟨h20, -⟩ := id hr0
  have hz0 := hz
  refine lv_aload_n hx hb dX6_mirror_0 rfl (lv_at hl 0 rfl) ?_
  refine lv_iload_n hx hb dX6_mirror_1 rfl (lv_at hl 1 rfl) ?_
  cases hivp : inI p (μ.1 16)
  ·
    refine crV (rest := []) S hK (c_X6_partAt_n l G o σ p (by omega) (by rw [hP1]; exact hivp)) cw_X6_67 rfl ⟨Nat.le_of_ble_eq_true rfl, Nat.le_of_ble_eq_true rfl⟩ ⟨Nat.le_of_ble_eq_true rfl, Nat.le_of_ble_eq_true rfl⟩ (bk.recv hK hX rfl rfl) hl.1 rfl (Nat.le_of_ble_eq_true rfl) dX6_mirror_2 hX ?_
    refine lv_astore_nN (lv' := [(2, .null), (0, .ref o), (1, .int p)]) hx hb dX6_mirror_5 rfl hl (by decide) rfl (fun ls hl => ?_)
    refine lv_aload_nN hx hb dX6_mirror_6 rfl (lv_at hl 0 rfl) ?_
    refine lv_ifnonnullN hx hb dX6_mirror_7 ?_
    refine lv_aload_n hx hb dX6_mirror_10 rfl (lv_at hl 1 rfl) ?_
    refine lv_iconst (v := (-1)) hx hb dX6_mirror_11 (by decide) ?_
    refine ctV (rest := []) S hK (c_X6_refuse l G o σ ρ (-1) 1 rfl (by decide)) cw_X6_42 rfl ⟨Nat.le_of_ble_eq_true rfl, Nat.le_of_ble_eq_true rfl⟩ ⟨Nat.le_of_ble_eq_true rfl, Nat.le_of_ble_eq_true rfl⟩ (bk.recv hK hX rfl rfl) hl.1 rfl (Nat.le_of_ble_eq_true rfl) dX6_mirror_12 ⟨hX, hRF⟩ hS (fun _ h => by first | exact h | omega) (fun H locs hPost hz2 hk hS => ?_)
    obtain ⟨hX, hRF⟩ := hPost
    replace hF := hF.over hk (fun q h1 h2 => by have h3 : q < o + 6 + 4 := h2; intro hA1; omega)
    refine lv_goto (tgt := 26) hx hb dX6_mirror_15 (by decide) ?_
    have hr : mirror_M μ p = ((-1), rfM μ 1) := by unfold mirror_M; rw [hivp] <;> rfl
    refine w_top (v' := .int ((mirror_M μ p).1)) (congrArg (fun z => Value.int z) (congrArg Prod.fst hr).symm) ?_
    have hcw := CW_r (G := G) (o := o) (om := om) hr (CW_x hCW hS (fun q h => by first | exact Or.inl h | omega) hX hF hRF (RX_rf hRX) (KP_rf μ _))
    exact hE _ _ _ _ _ _ (kr_i dX6_mirror_26) hS (by decide) (by decide) hcw
  ·
    obtain ⟨vp, hvvp, rfl⟩ := inI_x hivp
    have hcxvp := cx_n (j := vp) (by omega)
    obtain ⟨hpavp, β, hB, hBGvp, hBCvp⟩ := hWB vp hvvp
    have hBSvp := hb0.2 vp hvvp
    have hltvp := bk.lt (k := 3) hB (show 3 < 4 by decide)
    obtain ⟨⟨⟨ha1vp, ha2vp⟩, ⟨ha3vp, ha4vp⟩, ha5vp⟩, hbOvp, hbCvp, hbEvp, hbUvp⟩ := id hBSvp
    obtain ⟨hg0vp, hg1vp, hg2vp, hg3vp, hg4vp, hgFvp⟩ := id hBGvp
    obtain ⟨hc6vp, hc7vp, hc8vp⟩ := id hBCvp
    refine crV (rest := []) S hK (c_X6_partAt_y l G o σ vp (pa vp) (by omega) (by omega) (hP2 _ hvvp)) cw_X6_67 rfl ⟨Nat.le_of_ble_eq_true rfl, Nat.le_of_ble_eq_true rfl⟩ ⟨Nat.le_of_ble_eq_true rfl, Nat.le_of_ble_eq_true rfl⟩ (bk.recv hK hX rfl rfl) hl.1 rfl (Nat.le_of_ble_eq_true rfl) dX6_mirror_2 hX ?_
    refine lv_astore_n (lv' := [(2, .ref (pa vp)), (0, .ref o), (1, .int (nI vp))]) hx hb dX6_mirror_5 rfl hl (by decide) rfl (fun ls hl => ?_)
    refine lv_aload_n hx hb dX6_mirror_6 rfl (lv_at hl 0 rfl) ?_
    refine lv_ifnonnull (tgt := 18) hx hb dX6_mirror_7 (by decide) ?_
    refine lv_aload_n hx hb dX6_mirror_18 rfl (lv_at hl 1 rfl) ?_
    refine lv_aload_n hx hb dX6_mirror_19 rfl (lv_at hl 0 rfl) ?_
    refine ctV (rest := [.ref o]) S hK (c_X0_mirrored l G nb (pa vp) β (μ.2.1 1 vp) (μ.2.1 2 vp) (μ.2.1 3 vp) (clM μ vp) hBSvp hBGvp) cw_X6_147 rfl ⟨Nat.le_of_ble_eq_true rfl, Nat.le_of_ble_eq_true rfl⟩ ⟨Nat.le_of_ble_eq_true rfl, Nat.le_of_ble_eq_true rfl⟩ (bk.recv hK hB rfl rfl) hl.1 rfl (Nat.le_of_ble_eq_true rfl) dX6_mirror_20 ⟨hB, hz⟩ hS (fun q h => by omega) (fun H locs hPost hz2 hk hS => ?_)
    obtain ⟨hB, hN⟩ := hPost
    replace hX := hX.over hk (fun q h1 h2 => by have h3 : q < o + 6 := h2; intro hA1; omega)
    replace hF := hF.over hk (fun q h1 h2 => by have h3 : q < o + 6 + 4 := h2; intro hA1; omega)
    replace hRF := hRF.over hk (fun q h1 h2 => by have h3 : q < o + 10 + 1 := h2; intro hA1; omega)
    obtain ⟨τ, hT, hPD⟩ := hN
    by_cases h24 : σ.1 3 < 24
    ·
      have hBSt := BS_mi hBSvp
      have hPDt := hPD
      refine ctV (rest := []) S hK (c_X6_keep_y l G o σ nb τ (μ.2.1 1 vp) (μ.2.1 2 vp) (μ.2.1 3 vp) (miC (μ.2.1 1 vp) (μ.2.1 2 vp) (clM μ vp)) (show σ.1 3 < 24 by omega) (by omega) hBSt hPDt) cw_X6_63 rfl ⟨Nat.le_of_ble_eq_true rfl, Nat.le_of_ble_eq_true rfl⟩ ⟨Nat.le_of_ble_eq_true rfl, Nat.le_of_ble_eq_true rfl⟩ (bk.recv hK hX rfl rfl) hl.1 rfl (Nat.le_of_ble_eq_true rfl) dX6_mirror_23 ⟨hX, hT⟩ hS (fun q h => by omega) (fun H locs hPost hz hk hS => ?_)
      obtain ⟨hX, ⟨τ2, hT, hq2⟩⟩ := hPost
      replace hF := hF.over hk (fun q h1 h2 => by have h3 : q < o + 6 + 4 := h2; intro hA1; omega)
      replace hRF := hRF.over hk (fun q h1 h2 => by have h3 : q < o + 10 + 1 := h2; intro hA1; omega)
      replace hB := hB.over hk (fun q h1 h2 => by have h3 : q < pa vp + 4 := h2; intro hA1; omega)
      have hr : mirror_M μ (nI vp) = ((nI (σ.1 3)), nwP μ (μ.2.1 1 vp) (μ.2.1 2 vp) (μ.2.1 3 vp) (miC (μ.2.1 1 vp) (μ.2.1 2 vp) (clM μ vp))) := by unfold mirror_M; rw [hivp, if_pos (by rfl), if_neg (by omega), hcxvp, hP1]
      refine w_top (v' := .int ((mirror_M μ (nI vp)).1)) (congrArg (fun z => Value.int z) (congrArg Prod.fst hr).symm) ?_
      have hcw := CW_r (G := G) (o := o) (om := om) hr (CW_p hCW hn0 hS (fun q h => by omega) hX hF hRF (RX_p hRX (fun k hk8 => (hl0.2 k hk8).1)) (Nat.le_of_eq hz0) hT hq2.1 hq2.2 (NP_nw _ _ _ _ _))
      exact hE _ _ _ _ _ _ (kr_i dX6_mirror_26) hS (by decide) (by decide) hcw
    ·
      refine ctV (rest := []) S hK (c_X6_keep_n l G o σ ρ nb h24 (by omega)) cw_X6_63 rfl ⟨Nat.le_of_ble_eq_true rfl, Nat.le_of_ble_eq_true rfl⟩ ⟨Nat.le_of_ble_eq_true rfl, Nat.le_of_ble_eq_true rfl⟩ (bk.recv hK hX rfl rfl) hl.1 rfl (Nat.le_of_ble_eq_true rfl) dX6_mirror_23 ⟨hX, hRF⟩ hS (fun q h => by omega) (fun H locs hPost hz hk hS => ?_)
      obtain ⟨hX, hRF⟩ := hPost
      replace hF := hF.over hk (fun q h1 h2 => by have h3 : q < o + 6 + 4 := h2; intro hA1; omega)
      replace hB := hB.over hk (fun q h1 h2 => by have h3 : q < pa vp + 4 := h2; intro hA1; omega)
      replace hT := hT.over hk (fun q h1 h2 => by have h3 : q < nb + 4 := h2; intro hA1; omega)
      have hr : mirror_M μ (nI vp) = ((-6), rfM μ 6) := by unfold mirror_M; rw [hivp, if_pos (by rfl), if_pos (by omega)]
      refine w_top (v' := .int ((mirror_M μ (nI vp)).1)) (congrArg (fun z => Value.int z) (congrArg Prod.fst hr).symm) ?_
      have hcw := CW_r (G := G) (o := o) (om := om) hr (CW_x hCW hS (fun q h => by omega) hX hF hRF (RX_rf hRX) (KP_rf μ _))
      exact hE _ _ _ _ _ _ (kr_i dX6_mirror_26) hS (by decide) (by decide) hcw

set_option maxHeartbeats 1000000 in
set_option maxRecDepth 100000 in
theorem c_X6_less (l : Launch) (G : Gt) (o : Nat) (om : Nat) (μ : Sx) (pa : Nat → Nat) (na : Nat → Nat) (nb : Nat) (p : Int32) (xy : Int32) (hb0 : MIb μ) (hn0 : MIn μ) (hif : MIf μ) (hit : MIt μ) (hl0 : MIl μ) (hr0 : MIr μ) : Ct l G yX6_less cX6_less 4 ((some .int)) 15 4 66 [.ref o, .int p, .int xy] (fun H => CWx G o om μ pa na H ∧ H.size = nb) (some (.int ((less_M μ p xy).1))) (fun H => CW G o om (less_M μ p xy).2 H) (fun q => (o ≤ q ∧ q < o + 11) ∨ nb ≤ q) := by
  refine ct_entry [(0, .ref o), (1, .int p), (2, .int xy)] (by decide) (Nat.le_of_ble_eq_true rfl) rfl ?_
  intro zp ze zs zm za zb zt zc Q S hK hPre hin hE ls hl
  have hx := S.1
  have hb := S.2.1
  obtain ⟨hCW, hz⟩ := hPre
  have hS : va_S (fun q => (o ≤ q ∧ q < o + 11) ∨ nb ≤ q) zs.heap zs.heap [] := va_S.rf
  obtain ⟨⟨hoo, hosz, hLH⟩, σ, φ, ρ, hX, hF, hRF, hRX, hWB, hWN, hAP⟩ := id hCW
  obtain ⟨⟨hT1, hT2⟩, ⟨hP1, hP2⟩, ⟨hF1, hF2⟩, ⟨hN1, hN2⟩, ⟨hR1, hR2⟩, ⟨hL1, hL2, hL3, hL4⟩, hRR⟩ := id hRX
  obtain ⟨h16, -⟩ := id hb0
  obtain ⟨h18, -⟩ := id hn0
  obtain ⟨h17, -⟩ := id hif
  obtain ⟨h22, -⟩ := id hit
  obtain ⟨h19, -⟩ := id hl0
  obtain ⟨h20, -⟩ := id hr0
  have hz0 := hz
  refine lv_aload_n hx hb dX6_less_0 rfl (lv_at hl 0 rfl) ?_
  refine lv_iload_n hx hb dX6_less_1 rfl (lv_at hl 1 rfl) ?_
  cases hivp : inI p (μ.1 16)
  ·
    refine crV (rest := []) S hK (c_X6_partAt_n l G o σ p (by omega) (by rw [hP1]; exact hivp)) cw_X6_67 rfl ⟨Nat.le_of_ble_eq_true rfl, Nat.le_of_ble_eq_true rfl⟩ ⟨Nat.le_of_ble_eq_true rfl, Nat.le_of_ble_eq_true rfl⟩ (bk.recv hK hX rfl rfl) hl.1 rfl (Nat.le_of_ble_eq_true rfl) dX6_less_2 hX ?_
    refine lv_astore_nN (lv' := [(3, .null), (0, .ref o), (1, .int p), (2, .int xy)]) hx hb dX6_less_5 rfl hl (by decide) rfl (fun ls hl => ?_)
    refine lv_aload_nN hx hb dX6_less_6 rfl (lv_at hl 0 rfl) ?_
    refine lv_ifnullN (tgt := 18) hx hb dX6_less_7 (by decide) ?_
    refine lv_aload_n hx hb dX6_less_18 rfl (lv_at hl 1 rfl) ?_
    refine lv_iconst (v := (-1)) hx hb dX6_less_19 (by decide) ?_
    refine ctV (rest := []) S hK (c_X6_refuse l G o σ ρ (-1) 1 rfl (by decide)) cw_X6_42 rfl ⟨Nat.le_of_ble_eq_true rfl, Nat.le_of_ble_eq_true rfl⟩ ⟨Nat.le_of_ble_eq_true rfl, Nat.le_of_ble_eq_true rfl⟩ (bk.recv hK hX rfl rfl) hl.1 rfl (Nat.le_of_ble_eq_true rfl) dX6_less_20 ⟨hX, hRF⟩ hS (fun _ h => by first | exact h | omega) (fun H locs hPost hz2 hk hS => ?_)
    obtain ⟨hX, hRF⟩ := hPost
    replace hF := hF.over hk (fun q h1 h2 => by have h3 : q < o + 6 + 4 := h2; intro hA1; omega)
    have hr : less_M μ p xy = ((-1), rfM μ 1) := by unfold less_M; rw [hivp] <;> rfl
    refine w_top (v' := .int ((less_M μ p xy).1)) (congrArg (fun z => Value.int z) (congrArg Prod.fst hr).symm) ?_
    have hcw := CW_r (G := G) (o := o) (om := om) hr (CW_x hCW hS (fun q h => by first | exact Or.inl h | omega) hX hF hRF (RX_rf hRX) (KP_rf μ _))
    exact hE _ _ _ _ _ _ (kr_i dX6_less_23) hS (by decide) (by decide) hcw
  ·
    obtain ⟨vp, hvvp, rfl⟩ := inI_x hivp
    have hcxvp := cx_n (j := vp) (by omega)
    obtain ⟨hpavp, β, hB, hBGvp, hBCvp⟩ := hWB vp hvvp
    have hBSvp := hb0.2 vp hvvp
    have hltvp := bk.lt (k := 3) hB (show 3 < 4 by decide)
    obtain ⟨⟨⟨ha1vp, ha2vp⟩, ⟨ha3vp, ha4vp⟩, ha5vp⟩, hbOvp, hbCvp, hbEvp, hbUvp⟩ := id hBSvp
    obtain ⟨hg0vp, hg1vp, hg2vp, hg3vp, hg4vp, hgFvp⟩ := id hBGvp
    obtain ⟨hc6vp, hc7vp, hc8vp⟩ := id hBCvp
    refine crV (rest := []) S hK (c_X6_partAt_y l G o σ vp (pa vp) (by omega) (by omega) (hP2 _ hvvp)) cw_X6_67 rfl ⟨Nat.le_of_ble_eq_true rfl, Nat.le_of_ble_eq_true rfl⟩ ⟨Nat.le_of_ble_eq_true rfl, Nat.le_of_ble_eq_true rfl⟩ (bk.recv hK hX rfl rfl) hl.1 rfl (Nat.le_of_ble_eq_true rfl) dX6_less_2 hX ?_
    refine lv_astore_n (lv' := [(3, .ref (pa vp)), (0, .ref o), (1, .int (nI vp)), (2, .int xy)]) hx hb dX6_less_5 rfl hl (by decide) rfl (fun ls hl => ?_)
    refine lv_aload_n hx hb dX6_less_6 rfl (lv_at hl 0 rfl) ?_
    refine lv_ifnull hx hb dX6_less_7 ?_
    refine lv_aload_n hx hb dX6_less_10 rfl (lv_at hl 0 rfl) ?_
    refine lv_iload_n hx hb dX6_less_11 rfl (lv_at hl 3 rfl) ?_
    refine crV (rest := []) S hK (c_X0_hasCell l G (pa vp) β xy (by omega) (by omega)) cw_X6_88 rfl ⟨Nat.le_of_ble_eq_true rfl, Nat.le_of_ble_eq_true rfl⟩ ⟨Nat.le_of_ble_eq_true rfl, Nat.le_of_ble_eq_true rfl⟩ (bk.recv hK hB rfl rfl) hl.1 rfl (Nat.le_of_ble_eq_true rfl) dX6_less_12 hB ?_
    refine z_if_ne (tgt := 24) hx hb dX6_less_15 (by decide) (fun c_15 => ?_) (fun c_15 => ?_)
    ·
      rw [hg0vp, hg1vp] at c_15
      obtain ⟨j, hj, rfl, hj1, hj2⟩ := isC_x c_15
      have hcj := cx_n hj
      refine lv_aload_n hx hb dX6_less_24 rfl (lv_at hl 0 rfl) ?_
      refine lv_iload_n hx hb dX6_less_25 rfl (lv_at hl 3 rfl) ?_
      refine lv_bipush (v := nI 10) hx hb dX6_less_26 (by decide) ?_
      refine n_idiv hx hb dX6_less_28 (by first | omega | (rw [hg2vp _ (by omega)]; rcases hbCvp (5 * (j % 10) + j / 10) (by omega) with z | z | z <;> omega)) (by decide) (by decide) ?_
      refine lv_iload_n hx hb dX6_less_29 rfl (lv_at hl 3 rfl) ?_
      refine lv_bipush (v := nI 10) hx hb dX6_less_30 (by decide) ?_
      refine n_irem hx hb dX6_less_32 (by first | omega | (rw [hg2vp _ (by omega)]; rcases hbCvp (5 * (j % 10) + j / 10) (by omega) with z | z | z <;> omega)) (by decide) (by decide) ?_
      refine crV (rest := []) S hK (c_X0_codeAt_n l G (pa vp) β (j / 10) (j % 10) (by omega) (by omega) (by omega) (by omega)) cw_X6_92 rfl ⟨Nat.le_of_ble_eq_true rfl, Nat.le_of_ble_eq_true rfl⟩ ⟨Nat.le_of_ble_eq_true rfl, Nat.le_of_ble_eq_true rfl⟩ (bk.recv hK hB rfl rfl) hl.1 rfl (Nat.le_of_ble_eq_true rfl) dX6_less_33 hB ?_
      have hbj := hbCvp (5 * (j % 10) + j / 10) (by omega)
      have hbj2 : clM μ vp (5 * (j % 10) + j / 10) < 16 := by rcases hbj with z | z | z <;> omega
      refine w_top (v' := .int (nI (clM μ vp (5 * (j % 10) + j / 10)))) (congrArg (fun z => Value.int (nI z)) (hg2vp _ (by omega))) ?_
      refine lv_iconst (v := nI 1) hx hb dX6_less_36 (by decide) ?_
      refine n_icmp_eq (tgt := 47) hx hb dX6_less_37 (by decide) (by first | omega | (rw [hg2vp _ (by omega)]; rcases hbCvp (5 * (j % 10) + j / 10) (by omega) with z | z | z <;> omega)) (by decide) (fun c_37 => ?_) (fun c_37 => ?_)
      ·
        have hc1 : clM μ vp (5 * (j % 10) + j / 10) = 1 := by first | exact c_37 | omega
        refine lv_aload_n hx hb dX6_less_47 rfl (lv_at hl 1 rfl) ?_
        refine lv_aload_n hx hb dX6_less_48 rfl (lv_at hl 0 rfl) ?_
        refine lv_iload_n hx hb dX6_less_49 rfl (lv_at hl 3 rfl) ?_
        refine lv_bipush (v := nI 10) hx hb dX6_less_50 (by decide) ?_
        refine n_idiv hx hb dX6_less_52 (by first | omega | (rw [hg2vp _ (by omega)]; rcases hbCvp (5 * (j % 10) + j / 10) (by omega) with z | z | z <;> omega)) (by decide) (by decide) ?_
        refine lv_iload_n hx hb dX6_less_53 rfl (lv_at hl 3 rfl) ?_
        refine lv_bipush (v := nI 10) hx hb dX6_less_54 (by decide) ?_
        refine n_irem hx hb dX6_less_56 (by first | omega | (rw [hg2vp _ (by omega)]; rcases hbCvp (5 * (j % 10) + j / 10) (by omega) with z | z | z <;> omega)) (by decide) (by decide) ?_
        refine crS (rest := [.ref (pa vp), .ref o]) S hK (c_X0_bitOf l G (j / 10) (j % 10) (by omega) (by omega)) cw_X6_150 rfl ⟨Nat.le_of_ble_eq_true rfl, Nat.le_of_ble_eq_true rfl⟩ ⟨Nat.le_of_ble_eq_true rfl, Nat.le_of_ble_eq_true rfl⟩ hl.1 rfl (Nat.le_of_ble_eq_true rfl) dX6_less_57 trivial ?_
        refine ctV (rest := [.ref o]) S hK (c_X0_without l G nb (pa vp) β (μ.2.1 1 vp) (μ.2.1 2 vp) (μ.2.1 3 vp) (clM μ vp) (1 <<< (5 * (j % 10) + (j / 10))) hBSvp hBGvp (fun k hk8 z => by rw [Nat.one_shiftLeft, Nat.testBit_two_pow, decide_eq_true_eq] at z; rw [← z]; exact hc1) (by rw [Nat.one_shiftLeft]; exact Nat.pow_lt_pow_right (by decide) (by omega))) cw_X6_153 rfl ⟨Nat.le_of_ble_eq_true rfl, Nat.le_of_ble_eq_true rfl⟩ ⟨Nat.le_of_ble_eq_true rfl, Nat.le_of_ble_eq_true rfl⟩ (bk.recv hK hB rfl rfl) hl.1 rfl (Nat.le_of_ble_eq_true rfl) dX6_less_60 ⟨hB, hz⟩ hS (fun q h => by omega) (fun H locs hPost hz2 hk hS => ?_)
        obtain ⟨hB, hN⟩ := hPost
        replace hX := hX.over hk (fun q h1 h2 => by have h3 : q < o + 6 := h2; intro hA1; omega)
        replace hF := hF.over hk (fun q h1 h2 => by have h3 : q < o + 6 + 4 := h2; intro hA1; omega)
        replace hRF := hRF.over hk (fun q h1 h2 => by have h3 : q < o + 10 + 1 := h2; intro hA1; omega)
        obtain ⟨τ, hT, hPD⟩ := hN
        by_cases h24 : σ.1 3 < 24
        ·
          have hWE : ∀ i, i < 20 → wiC (1 <<< (5 * (j % 10) + j / 10)) (clM μ vp) i = (uN (idC (μ.2.1 1 vp) (μ.2.1 2 vp) (clM μ vp)) (5 * (j % 10) + j / 10) 0) i := by
            intro i hi
            unfold wiC
            rw [Nat.one_shiftLeft, Nat.testBit_two_pow]
            by_cases e : i = 5 * (j % 10) + j / 10
            · rw [e, uN_s, if_pos (by simp)]
            · rw [uN_n e, if_neg (by simp; omega)]
              unfold idC
              split
              · rfl
              · rename_i z
                exact hbOvp i hi z
          have hBSt := BS_c (BS_wi (bl := 1 <<< (5 * (j % 10) + j / 10)) hBSvp (fun k hk8 z => by rw [Nat.one_shiftLeft, Nat.testBit_two_pow, decide_eq_true_eq] at z; rw [← z]; exact hc1)) hWE
          have hPDt := PD_congr hPD hWE
          refine ctV (rest := []) S hK (c_X6_keep_y l G o σ nb τ (μ.2.1 1 vp) (μ.2.1 2 vp) (μ.2.1 3 vp) (uN (idC (μ.2.1 1 vp) (μ.2.1 2 vp) (clM μ vp)) (5 * (j % 10) + j / 10) 0) (show σ.1 3 < 24 by omega) (by omega) hBSt hPDt) cw_X6_63 rfl ⟨Nat.le_of_ble_eq_true rfl, Nat.le_of_ble_eq_true rfl⟩ ⟨Nat.le_of_ble_eq_true rfl, Nat.le_of_ble_eq_true rfl⟩ (bk.recv hK hX rfl rfl) hl.1 rfl (Nat.le_of_ble_eq_true rfl) dX6_less_63 ⟨hX, hT⟩ hS (fun q h => by omega) (fun H locs hPost hz hk hS => ?_)
          obtain ⟨hX, ⟨τ2, hT, hq2⟩⟩ := hPost
          replace hF := hF.over hk (fun q h1 h2 => by have h3 : q < o + 6 + 4 := h2; intro hA1; omega)
          replace hRF := hRF.over hk (fun q h1 h2 => by have h3 : q < o + 10 + 1 := h2; intro hA1; omega)
          replace hB := hB.over hk (fun q h1 h2 => by have h3 : q < pa vp + 4 := h2; intro hA1; omega)
          have hr : less_M μ (nI vp) (nI j) = ((nI (σ.1 3)), nwP μ (μ.2.1 1 vp) (μ.2.1 2 vp) (μ.2.1 3 vp) (uN (idC (μ.2.1 1 vp) (μ.2.1 2 vp) (clM μ vp)) (5 * (j % 10) + j / 10) 0)) := by unfold less_M; rw [hivp, if_pos (by rfl), hcxvp, c_15, if_pos (by rfl), hcj, if_pos hc1, if_neg (by omega), hP1]
          refine w_top (v' := .int ((less_M μ (nI vp) (nI j)).1)) (congrArg (fun z => Value.int z) (congrArg Prod.fst hr).symm) ?_
          have hcw := CW_r (G := G) (o := o) (om := om) hr (CW_p hCW hn0 hS (fun q h => by omega) hX hF hRF (RX_p hRX (fun k hk8 => (hl0.2 k hk8).1)) (Nat.le_of_eq hz0) hT hq2.1 hq2.2 (NP_nw _ _ _ _ _))
          exact hE _ _ _ _ _ _ (kr_i dX6_less_66) hS (by decide) (by decide) hcw
        ·
          refine ctV (rest := []) S hK (c_X6_keep_n l G o σ ρ nb h24 (by omega)) cw_X6_63 rfl ⟨Nat.le_of_ble_eq_true rfl, Nat.le_of_ble_eq_true rfl⟩ ⟨Nat.le_of_ble_eq_true rfl, Nat.le_of_ble_eq_true rfl⟩ (bk.recv hK hX rfl rfl) hl.1 rfl (Nat.le_of_ble_eq_true rfl) dX6_less_63 ⟨hX, hRF⟩ hS (fun q h => by omega) (fun H locs hPost hz hk hS => ?_)
          obtain ⟨hX, hRF⟩ := hPost
          replace hF := hF.over hk (fun q h1 h2 => by have h3 : q < o + 6 + 4 := h2; intro hA1; omega)
          replace hB := hB.over hk (fun q h1 h2 => by have h3 : q < pa vp + 4 := h2; intro hA1; omega)
          replace hT := hT.over hk (fun q h1 h2 => by have h3 : q < nb + 4 := h2; intro hA1; omega)
          have hr : less_M μ (nI vp) (nI j) = ((-6), rfM μ 6) := by unfold less_M; rw [hivp, if_pos (by rfl), hcxvp, c_15, if_pos (by rfl), hcj, if_pos hc1, if_pos (by omega)]
          refine w_top (v' := .int ((less_M μ (nI vp) (nI j)).1)) (congrArg (fun z => Value.int z) (congrArg Prod.fst hr).symm) ?_
          have hcw := CW_r (G := G) (o := o) (om := om) hr (CW_x hCW hS (fun q h => by omega) hX hF hRF (RX_rf hRX) (KP_rf μ _))
          exact hE _ _ _ _ _ _ (kr_i dX6_less_66) hS (by decide) (by decide) hcw
      ·
        refine lv_aload_n hx hb dX6_less_40 rfl (lv_at hl 1 rfl) ?_
        refine lv_bipush (v := (-3)) hx hb dX6_less_41 (by decide) ?_
        refine ctV (rest := []) S hK (c_X6_refuse l G o σ ρ (-3) 3 rfl (by decide)) cw_X6_42 rfl ⟨Nat.le_of_ble_eq_true rfl, Nat.le_of_ble_eq_true rfl⟩ ⟨Nat.le_of_ble_eq_true rfl, Nat.le_of_ble_eq_true rfl⟩ (bk.recv hK hX rfl rfl) hl.1 rfl (Nat.le_of_ble_eq_true rfl) dX6_less_43 ⟨hX, hRF⟩ hS (fun _ h => by first | exact h | omega) (fun H locs hPost hz2 hk hS => ?_)
        obtain ⟨hX, hRF⟩ := hPost
        replace hF := hF.over hk (fun q h1 h2 => by have h3 : q < o + 6 + 4 := h2; intro hA1; omega)
        replace hB := hB.over hk (fun q h1 h2 => by have h3 : q < pa vp + 4 := h2; intro hA1; omega)
        have hr : less_M μ (nI vp) (nI j) = ((-3), rfM μ 3) := by unfold less_M; rw [hivp, if_pos (by rfl), hcxvp, c_15, if_pos (by rfl), hcj, if_neg c_37]
        refine w_top (v' := .int ((less_M μ (nI vp) (nI j)).1)) (congrArg (fun z => Value.int z) (congrArg Prod.fst hr).symm) ?_
        have hcw := CW_r (G := G) (o := o) (om := om) hr (CW_x hCW hS (fun q h => by first | exact Or.inl h | omega) hX hF hRF (RX_rf hRX) (KP_rf μ _))
        exact hE _ _ _ _ _ _ (kr_i dX6_less_46) hS (by decide) (by decide) hcw
    ·
      rw [hg0vp, hg1vp] at c_15
      refine lv_aload_n hx hb dX6_less_18 rfl (lv_at hl 1 rfl) ?_
      refine lv_iconst (v := (-1)) hx hb dX6_less_19 (by decide) ?_
      refine ctV (rest := []) S hK (c_X6_refuse l G o σ ρ (-1) 1 rfl (by decide)) cw_X6_42 rfl ⟨Nat.le_of_ble_eq_true rfl, Nat.le_of_ble_eq_true rfl⟩ ⟨Nat.le_of_ble_eq_true rfl, Nat.le_of_ble_eq_true rfl⟩ (bk.recv hK hX rfl rfl) hl.1 rfl (Nat.le_of_ble_eq_true rfl) dX6_less_20 ⟨hX, hRF⟩ hS (fun _ h => by first | exact h | omega) (fun H locs hPost hz2 hk hS => ?_)
      obtain ⟨hX, hRF⟩ := hPost
      replace hF := hF.over hk (fun q h1 h2 => by have h3 : q < o + 6 + 4 := h2; intro hA1; omega)
      replace hB := hB.over hk (fun q h1 h2 => by have h3 : q < pa vp + 4 := h2; intro hA1; omega)
      have hr : less_M μ (nI vp) xy = ((-1), rfM μ 1) := by unfold less_M; rw [hivp, hcxvp, c_15] <;> rfl
      refine w_top (v' := .int ((less_M μ (nI vp) xy).1)) (congrArg (fun z => Value.int z) (congrArg Prod.fst hr).symm) ?_
      have hcw := CW_r (G := G) (o := o) (om := om) hr (CW_x hCW hS (fun q h => by first | exact Or.inl h | omega) hX hF hRF (RX_rf hRX) (KP_rf μ _))
      exact hE _ _ _ _ _ _ (kr_i dX6_less_23) hS (by decide) (by decide) hcw

set_option maxHeartbeats 1000000 in
set_option maxRecDepth 100000 in
theorem c_X6_part (l : Launch) (G : Gt) (o : Nat) (om : Nat) (μ : Sx) (pa : Nat → Nat) (na : Nat → Nat) (nb : Nat) (hb0 : MIb μ) (hn0 : MIn μ) (hif : MIf μ) (hit : MIt μ) (hl0 : MIl μ) (hr0 : MIr μ) : Ct l G yX6_part cX6_part 3 ((some .int)) 16 4 66 [.ref o] (fun H => CWx G o om μ pa na H ∧ H.size = nb) (some (.int ((part_M μ).1))) (fun H => CW G o om (part_M μ).2 H) (fun q => (o ≤ q ∧ q < o + 11) ∨ nb ≤ q) := by
  refine ct_entry [(0, .ref o)] (by decide) (Nat.le_of_ble_eq_true rfl) rfl ?_
  intro zp ze zs zm za zb zt zc Q S hK hPre hin hE ls hl
  have hx := S.1
  have hb := S.2.1
  obtain ⟨hCW, hz⟩ := hPre
  have hS : va_S (fun q => (o ≤ q ∧ q < o + 11) ∨ nb ≤ q) zs.heap zs.heap [] := va_S.rf
  obtain ⟨⟨hoo, hosz, hLH⟩, σ, φ, ρ, hX, hF, hRF, hRX, hWB, hWN, hAP⟩ := id hCW
  obtain ⟨⟨hT1, hT2⟩, ⟨hP1, hP2⟩, ⟨hF1, hF2⟩, ⟨hN1, hN2⟩, ⟨hR1, hR2⟩, ⟨hL1, hL2, hL3, hL4⟩, hRR⟩ := id hRX
  obtain ⟨h16, -⟩ := id hb0
  obtain ⟨h18, -⟩ := id hn0
  obtain ⟨h17, -⟩ := id hif
  obtain ⟨h22, -⟩ := id hit
  obtain ⟨h19, -⟩ := id hl0
  obtain ⟨h20, -⟩ := id hr0
  have hz0 := hz
  have hT2b : (uS σ 1 0).2.1 0 = μ.2.1 21 := hT2
  refine lv_aload_n hx hb dX6_part_0 rfl (lv_at hl 0 rfl) ?_
  refine kg (C := RX6) (T := TX6) (N := 12) (ci := 4) (k := 3) (v := .int (nI (σ.1 3))) S hK rfl inX6 (by decide) q_127 dX6_part_1 hX rfl rfl ?_
  refine lv_bipush (v := nI 24) hx hb dX6_part_4 (by decide) ?_
  refine n_icmp_lt (tgt := 16) hx hb dX6_part_6 (by decide) (by omega) (by decide) (fun c_6 => ?_) (fun c_6 => ?_)
  ·
    refine lv_aload_n hx hb dX6_part_16 rfl (lv_at hl 0 rfl) ?_
    refine kg (C := RX6) (T := TX6) (N := 12) (ci := 4) (k := 1) (v := .int (nI (σ.1 1))) S hK rfl inX6 (by decide) q_125 dX6_part_17 hX rfl rfl ?_
    refine lv_istore_n (lv' := [(1, .int (nI (σ.1 1))), (0, .ref o)]) hx hb dX6_part_20 rfl hl (by decide) rfl (fun ls hl => ?_)
    refine lv_aload_n hx hb dX6_part_21 rfl (lv_at hl 1 rfl) ?_
    refine lv_iconst (v := nI 0) hx hb dX6_part_22 (by decide) ?_
    refine kp (C := RX6) (T := TX6) (N := 12) (ci := 4) (k := 1) (ty := .int) tyX6 tyX6_ok nmX6 S hK rfl inX6 (by decide) q_125 rfl dX6_part_23 rfl rfl rfl hX rfl (Nat.le_of_ble_eq_true rfl) (L1 := xL G o (uS σ 1 0)) rfl hS (by first | exact ⟨by omega, by omega⟩ | omega) (fun H locs hX hS hz2 hk => ?_)
    replace hz := hz2.trans hz
    replace hF := hF.kept (fun q h1 h2 => hk q (by have h3 : q < o + 6 + 4 := h2; omega))
    replace hRF := hRF.kept (fun q h1 h2 => hk q (by have h3 : q < o + 10 + 1 := h2; omega))
    refine lv_aload_n hx hb dX6_part_26 rfl (lv_at hl 1 rfl) ?_
    refine kg (C := RX6) (T := TX6) (N := 12) (ci := 4) (k := 0) (v := .ref (o + 1)) S hK rfl inX6 (by decide) q_124 dX6_part_27 hX rfl rfl ?_
    refine lv_iload_n hx hb dX6_part_30 rfl (lv_at hl 0 rfl) ?_
    have hTP := bk_tp hX
    refine crS (v := .int (ftV (rdE (rdL (σ.2.1 0) (σ.1 1) 0 0 0 0 0)))) (rest := []) S hK (c_X1_faultOf l G (o + 1) (uS σ 1 0) (σ.1 1) (by omega) (fun i hi => by rw [hT2b]; exact hit.2 i (by omega))) cw_X6_53 rfl ⟨Nat.le_of_ble_eq_true rfl, Nat.le_of_ble_eq_true rfl⟩ ⟨Nat.le_of_ble_eq_true rfl, Nat.le_of_ble_eq_true rfl⟩ hl.1 rfl (Nat.le_of_ble_eq_true rfl) dX6_part_31 hTP ?_
    refine w_top (v' := .int (ftV (rdF μ))) (congrArg (fun z => Value.int z) (show ftV (rdE (rdL (σ.2.1 0) (σ.1 1) 0 0 0 0 0)) = ftV (rdF μ) from by rw [hT1, hT2])) ?_
    refine lv_istore_n (lv' := [(2, .int (ftV (rdF μ))), (1, .int (nI (σ.1 1))), (0, .ref o)]) hx hb dX6_part_34 rfl hl (by decide) rfl (fun ls hl => ?_)
    refine lv_iload_n hx hb dX6_part_35 rfl (lv_at hl 0 rfl) ?_
    refine lv_iconst (v := (-1)) hx hb dX6_part_36 (by decide) ?_
    refine lv_icmp_ne (tgt := 55) hx hb dX6_part_37 (by decide) (fun c_37 => ?_) (fun c_37 => ?_)
    ·
      refine lv_bipush (v := (-20)) hx hb dX6_part_55 (by decide) ?_
      refine lv_iload_n hx hb dX6_part_57 rfl (lv_at hl 0 rfl) ?_
      refine lv_isub hx hb dX6_part_58 ?_
      have hr : part_M μ = (((-20) - (ftV (rdF μ))), uS μ 22 0) := by
        unfold part_M
        rw [if_neg (by omega)]
        rcases hq : rdF μ with ⟨q, _ | ⟨w, h, f⟩⟩
        · rfl
        · rw [hq] at c_37
          exact absurd rfl c_37
      refine w_top (v' := .int ((part_M μ).1)) (congrArg (fun z => Value.int z) (congrArg Prod.fst hr).symm) ?_
      have hcw := CW_r (G := G) (o := o) (om := om) hr (CW_x hCW hS (fun q h => by omega) hX hF hRF (⟨⟨rfl, hT2⟩, ⟨hP1, hP2⟩, FX_c ⟨hF1, hF2⟩ rfl rfl rfl rfl rfl, ⟨hN1, hN2⟩, ⟨hR1, hR2⟩, ⟨hL1, hL2, hL3, hL4⟩, hRR⟩) (⟨⟨rfl, rfl⟩, ⟨rfl, rfl, rfl, rfl⟩, rfl, rfl, rfl, rfl, rfl⟩))
      exact hE _ _ _ _ _ _ (kr_i dX6_part_59) hS (by decide) (by decide) hcw
    ·
      have hsome : ∃ q w h f, rdF μ = (q, some (w, h, f)) := by
        rcases hq : rdF μ with ⟨q, _ | ⟨w, h, f⟩⟩
        · rw [hq] at c_37
          have hq2 := rd_q hq
          exact absurd c_37 (fun z => neg1_ne (n := q) (by omega) z.symm)
        · exact ⟨q, w, h, f, rfl⟩
      obtain ⟨q0, w, h, f, hrd⟩ := hsome
      obtain ⟨hqn, hTX, hBSt⟩ := rd_tx hrd
      refine lv_aload_n hx hb dX6_part_40 rfl (lv_at hl 2 rfl) ?_
      refine lv_aload_n hx hb dX6_part_41 rfl (lv_at hl 2 rfl) ?_
      refine kg (C := RX6) (T := TX6) (N := 12) (ci := 4) (k := 0) (v := .ref (o + 1)) S hK rfl inX6 (by decide) q_124 dX6_part_42 hX rfl rfl ?_
      refine lv_iload_n hx hb dX6_part_45 rfl (lv_at hl 1 rfl) ?_
      refine ctS (rest := [.ref o]) S hK (c_X1_boardOf l G nb (o + 1) (uS σ 1 0) (σ.1 1) w h f (by omega) (fun i hi => by rw [hT2b]; exact hit.2 i (by omega)) (by rw [hT2b, hT1]; exact hTX) (by rw [hT2b]; exact hBSt)) cw_X6_59 rfl ⟨Nat.le_of_ble_eq_true rfl, Nat.le_of_ble_eq_true rfl⟩ ⟨Nat.le_of_ble_eq_true rfl, Nat.le_of_ble_eq_true rfl⟩ hl.1 rfl (Nat.le_of_ble_eq_true rfl) dX6_part_46 ⟨hTP, hz⟩ hS (fun q h => by omega) (fun H locs hPost hz2 hk hS => ?_)
      obtain ⟨hTP, hN⟩ := hPost
      replace hX := hX.over hk (fun q h1 h2 => by have h3 : q < o + 6 := h2; intro hA1; omega)
      replace hF := hF.over hk (fun q h1 h2 => by have h3 : q < o + 6 + 4 := h2; intro hA1; omega)
      replace hRF := hRF.over hk (fun q h1 h2 => by have h3 : q < o + 10 + 1 := h2; intro hA1; omega)
      obtain ⟨τ, hT, hPD⟩ := hN
      have hPDt := hPD
      rw [hT2b] at hPDt
      refine ctV (v := .int (nI (σ.1 3))) (rest := []) S hK (c_X6_keep_y l G o (uS σ 1 0) nb τ w h f (rdc (μ.2.1 21) w 0 h) (show σ.1 3 < 24 by omega) (by omega) hBSt hPDt) cw_X6_63 rfl ⟨Nat.le_of_ble_eq_true rfl, Nat.le_of_ble_eq_true rfl⟩ ⟨Nat.le_of_ble_eq_true rfl, Nat.le_of_ble_eq_true rfl⟩ (bk.recv hK hX rfl rfl) hl.1 rfl (Nat.le_of_ble_eq_true rfl) dX6_part_49 ⟨hX, hT⟩ hS (fun q h => by omega) (fun H locs hPost hz hk hS => ?_)
      obtain ⟨hX, ⟨τ2, hT, hq2⟩⟩ := hPost
      replace hF := hF.over hk (fun q h1 h2 => by have h3 : q < o + 6 + 4 := h2; intro hA1; omega)
      replace hRF := hRF.over hk (fun q h1 h2 => by have h3 : q < o + 10 + 1 := h2; intro hA1; omega)
      refine lv_goto (tgt := 59) hx hb dX6_part_52 (by decide) ?_
      have hr : part_M μ = ((nI (σ.1 3)), nwP (uS μ 22 0) w h f (rdc (μ.2.1 21) w 0 h)) := by unfold part_M; rw [if_neg (by omega), hrd, hP1]
      refine w_top (v' := .int ((part_M μ).1)) (congrArg (fun z => Value.int z) (congrArg Prod.fst hr).symm) ?_
      have hcw := CW_r (G := G) (o := o) (om := om) hr (CW_p hCW hn0 hS (fun q h => by omega) hX hF hRF (RX_p (μ := uS μ 22 0) (σ := uS σ 1 0) ⟨⟨rfl, hT2⟩, ⟨hP1, hP2⟩, FX_c ⟨hF1, hF2⟩ rfl rfl rfl rfl rfl, ⟨hN1, hN2⟩, ⟨hR1, hR2⟩, ⟨hL1, hL2, hL3, hL4⟩, hRR⟩ (fun k hk8 => (hl0.2 k hk8).1)) (Nat.le_of_eq hz0) hT hq2.1 hq2.2 (NP_nw _ _ _ _ _))
      exact hE _ _ _ _ _ _ (kr_i dX6_part_59) hS (by decide) (by decide) hcw
  ·
    refine lv_aload_n hx hb dX6_part_9 rfl (lv_at hl 0 rfl) ?_
    refine lv_bipush (v := (-6)) hx hb dX6_part_10 (by decide) ?_
    refine ctV (rest := []) S hK (c_X6_refuse l G o σ ρ (-6) 6 rfl (by decide)) cw_X6_42 rfl ⟨Nat.le_of_ble_eq_true rfl, Nat.le_of_ble_eq_true rfl⟩ ⟨Nat.le_of_ble_eq_true rfl, Nat.le_of_ble_eq_true rfl⟩ (bk.recv hK hX rfl rfl) hl.1 rfl (Nat.le_of_ble_eq_true rfl) dX6_part_12 ⟨hX, hRF⟩ hS (fun _ h => by first | exact h | omega) (fun H locs hPost hz2 hk hS => ?_)
    obtain ⟨hX, hRF⟩ := hPost
    replace hF := hF.over hk (fun q h1 h2 => by have h3 : q < o + 6 + 4 := h2; intro hA1; omega)
    have hr : part_M μ = ((-6), rfM μ 6) := by unfold part_M; rw [if_pos (by omega)]
    refine w_top (v' := .int ((part_M μ).1)) (congrArg (fun z => Value.int z) (congrArg Prod.fst hr).symm) ?_
    have hcw := CW_r (G := G) (o := o) (om := om) hr (CW_x hCW hS (fun q h => by first | exact Or.inl h | omega) hX hF hRF (RX_rf hRX) (KP_rf μ _))
    exact hE _ _ _ _ _ _ (kr_i dX6_part_15) hS (by decide) (by decide) hcw
