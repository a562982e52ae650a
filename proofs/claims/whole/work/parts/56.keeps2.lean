
/-! what the calls on NETS and on THE FLOOR keep -/
def addM (σ : Sx) (n a b : Nat) : Sx := uA (uA (uA σ 10 (12 * n + σ.2.1 8 n) a) 11 (12 * n + σ.2.1 8 n) b) 8 n (σ.2.1 8 n + 1)
section KEEPN
variable {μ : Sx}
theorem lk_app (n a c v : Nat) : lkM (addM μ n a c) n v = match lkM μ n v with
    | some j => some j
    | none => if (decide (a = v) || decide (c = v)) = true then some (μ.2.1 8 n) else none := by
  show fnd (lkP (fun j => uN (μ.2.1 10) (12 * n + μ.2.1 8 n) a (12 * n + j)) (fun j => uN (μ.2.1 11) (12 * n + μ.2.1 8 n) c (12 * n + j)) v) (uN (μ.2.1 8) n (μ.2.1 8 n + 1) n) 0 = _
  rw [uN_s, fnd_sn, Nat.zero_add]
  have e1 : fnd (lkP (fun j => uN (μ.2.1 10) (12 * n + μ.2.1 8 n) a (12 * n + j)) (fun j => uN (μ.2.1 11) (12 * n + μ.2.1 8 n) c (12 * n + j)) v) (μ.2.1 8 n) 0 = lkM μ n v := fnd_congr _ _ (fun j _ hj => by
    show (decide (uN _ _ _ (12 * n + j) = _) || decide (uN _ _ _ (12 * n + j) = _)) = _
    rw [uN_n (by omega), uN_n (by omega)]
    rfl)
  have e2 : lkP (fun j => uN (μ.2.1 10) (12 * n + μ.2.1 8 n) a (12 * n + j)) (fun j => uN (μ.2.1 11) (12 * n + μ.2.1 8 n) c (12 * n + j)) v (μ.2.1 8 n) = (decide (a = v) || decide (c = v)) := by
    show (decide (uN _ _ _ (12 * n + μ.2.1 8 n) = _) || decide (uN _ _ _ (12 * n + μ.2.1 8 n) = _)) = _
    rw [uN_s, uN_s]
  rw [e1, e2]
  cases lkM μ n v <;> rfl
theorem lk_oth {n m a c : Nat} (v : Nat) (hm : ¬ m = n) (h12 : μ.2.1 8 m ≤ 12) (hL : μ.2.1 8 n < 12) : lkM (addM μ n a c) m v = lkM μ m v := by
  show fnd (lkP (fun j => uN (μ.2.1 10) (12 * n + μ.2.1 8 n) a (12 * m + j)) (fun j => uN (μ.2.1 11) (12 * n + μ.2.1 8 n) c (12 * m + j)) v) (uN (μ.2.1 8) n (μ.2.1 8 n + 1) m) 0 = _
  rw [uN_n hm]
  exact fnd_congr _ _ (fun j _ hj => by
    show (decide (uN _ _ _ (12 * m + j) = _) || decide (uN _ _ _ (12 * m + j) = _)) = _
    rw [uN_n (by omega), uN_n (by omega)]
    rfl)
theorem IV_lk {n a c : Nat} (hI : IV μ) (hn : n < μ.1 18) (hL : ¬ μ.2.1 8 n = 12) (ha : a < 80) (hc : c < 80) (hP : a / 10 < μ.2.1 7 n) (hF : a % 10 < fM μ n (a / 10)) (hla : lkM μ n a = none) : IV (addM μ n a c) := by
  obtain ⟨h1, ⟨n1, n2⟩, hl, h4, h5, h6, h7⟩ := hI
  have h12 := (n2 n hn).2.1
  refine ⟨h1, ⟨n1, fun m hm => ?_⟩, fun m hm l hl2 => ?_, h4, h5, h6, h7⟩
  · obtain ⟨q1, q2, q3, q4⟩ := n2 m hm
    by_cases e : m = n
    · subst e
      refine ⟨q1, ?_, q3, fun k hk => ?_⟩
      · show uN (μ.2.1 8) m (μ.2.1 8 m + 1) m ≤ 12
        rw [uN_s]
        omega
      · replace hk : k < uN (μ.2.1 8) m (μ.2.1 8 m + 1) m := hk
        rw [uN_s] at hk
        show uN (μ.2.1 10) (12 * m + μ.2.1 8 m) a (12 * m + k) < 80 ∧ uN (μ.2.1 11) (12 * m + μ.2.1 8 m) c (12 * m + k) < 80
        by_cases ek : k = μ.2.1 8 m
        · rw [ek, uN_s, uN_s]
          exact ⟨ha, hc⟩
        · rw [uN_n (by omega), uN_n (by omega)]
          exact q4 k (by omega)
    · refine ⟨q1, ?_, q3, fun k hk => ?_⟩
      · show uN (μ.2.1 8) n (μ.2.1 8 n + 1) m ≤ 12
        rw [uN_n e]
        exact q2
      · replace hk : k < uN (μ.2.1 8) n (μ.2.1 8 n + 1) m := hk
        rw [uN_n e] at hk
        show uN (μ.2.1 10) (12 * n + μ.2.1 8 n) a (12 * m + k) < 80 ∧ uN (μ.2.1 11) (12 * n + μ.2.1 8 n) c (12 * m + k) < 80
        rw [uN_n (by omega), uN_n (by omega)]
        exact q4 k hk
  · replace hl2 : l < uN (μ.2.1 8) n (μ.2.1 8 n + 1) m := hl2
    by_cases e : m = n
    · subst e
      rw [uN_s] at hl2
      by_cases el : l = μ.2.1 8 m
      · refine ⟨a / 10, hP, a % 10, hF, ?_⟩
        rw [show 10 * (a / 10) + a % 10 = a by omega, lk_app, hla, decide_eq_true (p := a = a) rfl, el]
        rfl
      · obtain ⟨k, hk, g, hg, q⟩ := hl m hm l (by omega)
        refine ⟨k, hk, g, hg, ?_⟩
        rw [lk_app, q]
    · rw [uN_n e] at hl2
      obtain ⟨k, hk, g, hg, q⟩ := hl m hm l hl2
      refine ⟨k, hk, g, hg, ?_⟩
      rw [lk_oth _ e (n2 m hm).2.1 (by omega)]
      exact q
theorem I_link (hI : IV μ) (n a b : Int32) : IV (link_M μ n a b).2 := by
  unfold link_M
  split
  · rename_i hc
    rw [Bool.and_eq_true, Bool.and_eq_true] at hc
    obtain ⟨h1, h2, h3⟩ := hc
    have hn := inI_c h1
    have h8 := (hI.2.1.2 _ hn).1
    obtain ⟨va, ha80, ea, ha1, ha2⟩ := isFc_x h2 h8
    obtain ⟨vb, hb80, eb, hb1, hb2⟩ := isFc_x h3 h8
    split
    · exact IV_rf hI _
    · split
      · exact IV_rf hI _
      · rename_i hla
        split
        · exact IV_rf hI _
        · split
          · exact IV_rf hI _
          · rename_i hL
            have eca : cx a = va := by rw [ea]; exact cx_n (by omega)
            have ecb : cx b = vb := by rw [eb]; exact cx_n (by omega)
            rw [eca] at hla ⊢
            rw [ecb]
            exact IV_lk hI hn hL ha80 hb80 ha1 ha2 (Option.not_isSome_iff_eq_none.mp hla)
  · exact IV_rf hI _
theorem I_piece (hI : IV μ) (n p : Int32) : IV (piece_M μ n p).2 := by
  unfold piece_M
  split
  · rename_i hc
    rw [Bool.and_eq_true] at hc
    have hn := inI_c hc.1
    have hp := inI_c hc.2
    split
    · exact IV_rf hI _
    · rename_i h8
      obtain ⟨h1, ⟨n1, n2⟩, hl, h4, h5, h6, h7⟩ := hI
      have hm8 := (n2 _ hn).1
      generalize cx n = m at *
      generalize cx p = q at *
      refine ⟨h1, ⟨n1, fun j hj => ?_⟩, fun j hj l hl2 => ?_, h4, h5, h6, h7⟩
      · obtain ⟨q1, q2, q3, q4⟩ := n2 j hj
        refine ⟨?_, q2, fun k hk => ?_, q4⟩
        · show uN (μ.2.1 7) m (μ.2.1 7 m + 1) j ≤ 8
          by_cases e : j = m
          · rw [e, uN_s]
            omega
          · rw [uN_n e]
            exact q1
        · replace hk : k < uN (μ.2.1 7) m (μ.2.1 7 m + 1) j := hk
          show uN (μ.2.1 9) (8 * m + μ.2.1 7 m) q (8 * j + k) < μ.1 16
          by_cases e : j = m
          · subst e
            rw [uN_s] at hk
            by_cases ek : k = μ.2.1 7 j
            · rw [ek, uN_s]
              exact hp
            · rw [uN_n (by omega)]
              exact q3 k (by omega)
          · rw [uN_n e] at hk
            rw [uN_n (by omega)]
            exact q3 k hk
      · obtain ⟨k, hk, g, hg, e⟩ := hl j hj l hl2
        have hk8 := (n2 j hj).1
        refine ⟨k, ?_, g, ?_, e⟩
        · show k < uN (μ.2.1 7) m (μ.2.1 7 m + 1) j
          by_cases ej : j = m
          · rw [ej, uN_s]
            rw [ej] at hk
            omega
          · rw [uN_n ej]
            exact hk
        · show g < μ.2.1 3 (uN (μ.2.1 9) (8 * m + μ.2.1 7 m) q (8 * j + k))
          rw [uN_n (fun z => by
            by_cases ej : j = m
            · subst ej
              omega
            · omega)]
          exact hg
  · exact IV_rf hI _
theorem I_net (hI : IV μ) : IV (net_M μ).2 := by
  unfold net_M
  split
  · exact IV_rf hI _
  · rename_i h6
    obtain ⟨h1, ⟨n1, n2⟩, hl, h4, h5, hl6, h7⟩ := hI
    refine ⟨h1, ⟨?_, fun j hj => ?_⟩, fun j hj l hl2 => ?_, h4, h5, hl6, h7⟩
    · show μ.1 18 + 1 ≤ 6
      omega
    · replace hj : j < μ.1 18 + 1 := hj
      show uN (μ.2.1 7) (μ.1 18) 0 j ≤ 8 ∧ uN (μ.2.1 8) (μ.1 18) 0 j ≤ 12 ∧ (∀ k, k < uN (μ.2.1 7) (μ.1 18) 0 j → μ.2.1 9 (8 * j + k) < μ.1 16) ∧ ∀ k, k < uN (μ.2.1 8) (μ.1 18) 0 j → μ.2.1 10 (12 * j + k) < 80 ∧ μ.2.1 11 (12 * j + k) < 80
      by_cases e : j = μ.1 18
      · rw [e, uN_s, uN_s]
        exact ⟨Nat.zero_le _, Nat.zero_le _, fun k hk => absurd hk (Nat.not_lt_zero k), fun k hk => absurd hk (Nat.not_lt_zero k)⟩
      · rw [uN_n e, uN_n e]
        exact n2 j (by omega)
    · replace hj : j < μ.1 18 + 1 := hj
      replace hl2 : l < uN (μ.2.1 8) (μ.1 18) 0 j := hl2
      show ∃ k, k < uN (μ.2.1 7) (μ.1 18) 0 j ∧ ∃ g, g < fM μ j k ∧ fnd (lkP (fun i => μ.2.1 10 (12 * j + i)) (fun i => μ.2.1 11 (12 * j + i)) (10 * k + g)) (uN (μ.2.1 8) (μ.1 18) 0 j) 0 = some l
      by_cases e : j = μ.1 18
      · rw [e, uN_s] at hl2
        exact absurd hl2 (Nat.not_lt_zero l)
      · rw [uN_n e] at hl2 ⊢
        rw [uN_n e]
        exact hl j (by omega) l hl2
theorem I_lay (hI : IV μ) (p x y : Int32) : IV (lay_M μ p x y).2 := by
  unfold lay_M
  split
  · rename_i hp
    have hp := inI_c hp
    split
    · exact IV_rf hI _
    · split
      · exact IV_rf hI _
      · rename_i hc
        obtain ⟨h1, h2, h3, h4, h5, ⟨l1, l2⟩, h7⟩ := hI
        have hb := (h1.2 _ hp).1
        refine ⟨h1, h2, h3, h4, h5, ⟨?_, fun k hk => ?_⟩, h7⟩
        · show μ.1 19 + 1 ≤ 10
          omega
        · replace hk : k < μ.1 19 + 1 := hk
          show uN (μ.2.1 12) (μ.1 19) (cx p) k < μ.1 16 ∧ uN (μ.2.1 13) (μ.1 19) (cx x) k + μ.2.1 1 (uN (μ.2.1 12) (μ.1 19) (cx p) k) ≤ 12 ∧ uN (μ.2.1 14) (μ.1 19) (cx y) k + μ.2.1 2 (uN (μ.2.1 12) (μ.1 19) (cx p) k) ≤ 12
          by_cases e : k = μ.1 19
          · rw [e, uN_s, uN_s, uN_s]
            omega
          · rw [uN_n e, uN_n e, uN_n e]
            exact l2 k (by omega)
  · exact IV_rf hI _
theorem I_put (hI : IV μ) (xy : Int32) : IV (put_M μ xy).2 := by
  unfold put_M
  split
  · exact IV_rf hI _
  · rename_i h0
    split
    · exact IV_rf hI _
    · rename_i h99
      split
      · exact IV_rf hI _
      · rename_i h3
        obtain ⟨h1, h2, hl, h4, h5, h6, ⟨r1, r2⟩⟩ := hI
        obtain ⟨j, hj, e⟩ := nI_of h0
        rw [e, nI_ltI (by omega) hj] at h99
        refine ⟨h1, h2, hl, h4, h5, h6, ⟨?_, fun k hk => ?_⟩⟩
        · show μ.1 20 + 1 ≤ 3
          omega
        · replace hk : k < μ.1 20 + 1 := hk
          show uN (μ.2.1 15) (μ.1 20) (cx xy) k ≤ 99
          by_cases ek : k = μ.1 20
          · rw [ek, uN_s, e, cx_n hj]
            omega
          · rw [uN_n ek]
            exact r2 k (by omega)
end KEEPN
