
/-! the class beside the reference: what its heap holds -/
def lkC : Option Nat → Nat
  | none => 0
  | some j => j + 1
/-- a NET of the class beside the reference's -/
def NR (μ : Sx) (pa : Nat → Nat) (n : Nat) (ν : Sx) : Prop := ν.1 1 = μ.2.1 7 n ∧ ν.1 2 = μ.2.1 8 n ∧ (∀ k, k < μ.2.1 7 n → ν.2.2 0 k = some (pa (μ.2.1 9 (8 * n + k)))) ∧ ∀ k, k < 8 → ∀ f, f < 5 → ν.2.1 3 (5 * k + f) = lkC (lkM μ n (10 * k + f))
abbrev FXr (μ σ : Sx) : Prop := σ.1 5 = μ.1 17 ∧ ∀ f, f < μ.1 17 → σ.2.1 4 f = bo (trB μ f) 32
def RX (μ σ φ ρ : Sx) (pa na : Nat → Nat) : Prop := (σ.1 1 = μ.1 22 ∧ σ.2.1 0 = μ.2.1 21) ∧ (σ.1 3 = μ.1 16 ∧ ∀ p, p < μ.1 16 → σ.2.2 2 p = some (pa p)) ∧ FXr μ σ ∧ (σ.1 7 = μ.1 18 ∧ ∀ n, n < μ.1 18 → σ.2.2 6 n = some (na n)) ∧ (σ.1 9 = μ.1 20 ∧ σ.2.1 8 = μ.2.1 15) ∧ (φ.1 3 = μ.1 19 ∧ φ.2.1 1 = μ.2.1 13 ∧ φ.2.1 2 = μ.2.1 14 ∧ ∀ k, k < μ.1 19 → φ.2.2 0 k = some (pa (μ.2.1 12 k))) ∧ ρ.2.1 0 = μ.2.1 0
def WB (G : Gt) (om : Nat) (μ : Sx) (pa : Nat → Nat) (H : Heap) : Prop := ∀ p, p < μ.1 16 → om + 20 ≤ pa p ∧ ∃ β : Sx, bk G (pa p) (bdL G (pa p) β) H ∧ BG (μ.2.1 1 p) (μ.2.1 2 p) (μ.2.1 3 p) (clM μ p) β ∧ BC (μ.2.1 3 p) (clM μ p) β
def WN (G : Gt) (om : Nat) (μ : Sx) (pa na : Nat → Nat) (H : Heap) : Prop := ∀ n, n < μ.1 18 → om + 20 ≤ na n ∧ ∃ ν : Sx, bk G (na n) (ntL G (na n) ν) H ∧ NR μ pa n ν
def AP (μ : Sx) (pa na : Nat → Nat) : Prop := (∀ n m, n < m → m < μ.1 18 → na n + 4 ≤ na m) ∧ ∀ n p, n < μ.1 18 → p < μ.1 16 → na n + 4 ≤ pa p ∨ pa p + 4 ≤ na n
def CWx (G : Gt) (o om : Nat) (μ : Sx) (pa na : Nat → Nat) (H : Heap) : Prop := (o + 11 ≤ om ∧ om + 20 ≤ H.size ∧ gLH G o H) ∧ ∃ σ φ ρ : Sx, bk G o (xL G o σ) H ∧ bk G (o + 6) (flL G (o + 6) φ) H ∧ bk G (o + 10) (rfL G (o + 10) ρ) H ∧ RX μ σ φ ρ pa na ∧ WB G om μ pa H ∧ WN G om μ pa na H ∧ AP μ pa na
def CW (G : Gt) (o om : Nat) (μ : Sx) (H : Heap) : Prop := ∃ pa na : Nat → Nat, CWx G o om μ pa na H
/-- the same PARTS and NETS -/
def KP (μ' μ : Sx) : Prop := (μ'.1 16 = μ.1 16 ∧ μ'.1 18 = μ.1 18) ∧ (μ'.2.1 1 = μ.2.1 1 ∧ μ'.2.1 2 = μ.2.1 2 ∧ μ'.2.1 3 = μ.2.1 3 ∧ μ'.2.1 4 = μ.2.1 4) ∧ μ'.2.1 7 = μ.2.1 7 ∧ μ'.2.1 8 = μ.2.1 8 ∧ μ'.2.1 9 = μ.2.1 9 ∧ μ'.2.1 10 = μ.2.1 10 ∧ μ'.2.1 11 = μ.2.1 11
theorem KP_r (μ : Sx) : KP μ μ := ⟨⟨rfl, rfl⟩, ⟨rfl, rfl, rfl, rfl⟩, rfl, rfl, rfl, rfl, rfl⟩
theorem KP_rf (μ : Sx) (k : Nat) : KP (rfM μ k) μ := ⟨⟨rfl, rfl⟩, ⟨rfl, rfl, rfl, rfl⟩, rfl, rfl, rfl, rfl, rfl⟩
theorem trB_c {σ μ : Sx} (h5 : σ.2.1 5 = μ.2.1 5) (h6 : σ.2.1 6 = μ.2.1 6) (f s : Nat) : trB σ f s = trB μ f s := by
  show (pP (gtS σ 6 (40 * f) (σ.2.1 6 f) s) 200 0 false 0 0 1).1 = (pP (gtS μ 6 (40 * f) (μ.2.1 6 f) s) 200 0 false 0 0 1).1
  rw [h6]
  refine congrArg Prod.fst (pP_congr (μ := gtS σ 6 (40 * f) (μ.2.1 6 f) s) (ν := gtS μ 6 (40 * f) (μ.2.1 6 f) s) (fun p => ?_) rfl 200 0 false 0 0 1)
  show (if _ then _ else some (if _ then _ else σ.2.1 5 _)) = (if _ then _ else some (if _ then _ else μ.2.1 5 _))
  rw [h5]
  rfl
theorem FX_c {μ μ' σ σ' : Sx} (h : FXr μ σ) (h5 : μ'.2.1 5 = μ.2.1 5) (h6 : μ'.2.1 6 = μ.2.1 6) (h17 : μ'.1 17 = μ.1 17) (g5 : σ'.1 5 = σ.1 5) (g4 : σ'.2.1 4 = σ.2.1 4) : FXr μ' σ' := ⟨by rw [g5, h17]; exact h.1, fun f hf => by
  rw [h17] at hf
  rw [g4, h.2 f hf]
  exact (bo_congr fun s _ => trB_c h5 h6 f s).symm⟩
theorem RX_rf {μ σ φ ρ : Sx} {pa na : Nat → Nat} {k : Nat} (h : RX μ σ φ ρ pa na) : RX (rfM μ k) σ φ (uA ρ 0 k (ρ.2.1 0 k + 1)) pa na := by
  obtain ⟨h1, h2, h3, h4, h5, h6, h7⟩ := h
  refine ⟨h1, h2, FX_c h3 rfl rfl rfl rfl rfl, h4, h5, h6, ?_⟩
  show uN (ρ.2.1 0) k (ρ.2.1 0 k + 1) = uN (μ.2.1 0) k (μ.2.1 0 k + 1)
  rw [h7]
theorem lkM_k {μ' μ : Sx} (h : KP μ' μ) (n v : Nat) : lkM μ' n v = lkM μ n v := by
  obtain ⟨-, -, -, h8, -, h10, h11⟩ := h
  show fnd (lkP (fun k => μ'.2.1 10 (12 * n + k)) (fun k => μ'.2.1 11 (12 * n + k)) v) (μ'.2.1 8 n) 0 = _
  rw [h8, h10, h11]
theorem NR_k {μ' μ : Sx} {pa : Nat → Nat} {n : Nat} {ν : Sx} (h : KP μ' μ) (q : NR μ pa n ν) : NR μ' pa n ν := by
  obtain ⟨q1, q2, q3, q4⟩ := q
  refine ⟨by rw [h.2.2.1]; exact q1, by rw [h.2.2.2.1]; exact q2, fun k hk => ?_, fun k hk f hf => ?_⟩
  · rw [h.2.2.1] at hk
    rw [h.2.2.2.2.1]
    exact q3 k hk
  · rw [lkM_k h]
    exact q4 k hk f hf
theorem bk_S {G : Gt} {b : Nat} {L : List va_E} {H0 H : Heap} {A : Nat → Prop} {locs : List Loc} (h : bk G b L H0) (hS : va_S A H0 H locs) (hA : ∀ q : Nat, b ≤ q → q < b + L.length → q < H0.size → ¬ A q) : bk G b L H := by
  intro k e hk
  have g := h k e hk
  have hl := (List.getElem?_eq_some_iff.mp hk).1
  exact g.kept (hS.2.1 _ g.lt (hA _ (Nat.le_add_right _ _) (Nat.add_lt_add_left hl b) g.lt))
theorem WB_k {G : Gt} {om : Nat} {μ' μ : Sx} {pa : Nat → Nat} {H0 H : Heap} (h : KP μ' μ) (hk : ∀ p β, p < μ.1 16 → bk G (pa p) (bdL G (pa p) β) H0 → bk G (pa p) (bdL G (pa p) β) H) (q : WB G om μ pa H0) : WB G om μ' pa H := by
  intro p hp
  rw [h.1.1] at hp
  obtain ⟨q1, β, q2, q3, q4⟩ := q p hp
  refine ⟨q1, β, hk p β hp q2, ?_⟩
  show BG (μ'.2.1 1 p) (μ'.2.1 2 p) (μ'.2.1 3 p) (fun k => μ'.2.1 4 (20 * p + k)) β ∧ BC (μ'.2.1 3 p) (fun k => μ'.2.1 4 (20 * p + k)) β
  rw [h.2.1.1, h.2.1.2.1, h.2.1.2.2.1, h.2.1.2.2.2]
  exact ⟨q3, q4⟩
theorem CW_x {G : Gt} {o om : Nat} {μ μ' : Sx} {pa na : Nat → Nat} {H0 H : Heap} {A : Nat → Prop} {locs : List Loc} {σ φ ρ : Sx} (h : CWx G o om μ pa na H0) (hS : va_S A H0 H locs) (hA : ∀ q, A q → (o ≤ q ∧ q < o + 11) ∨ H0.size ≤ q) (hX : bk G o (xL G o σ) H) (hF : bk G (o + 6) (flL G (o + 6) φ) H) (hR : bk G (o + 10) (rfL G (o + 10) ρ) H) (hRX : RX μ' σ φ ρ pa na) (hK : KP μ' μ) : CW G o om μ' H := by
  obtain ⟨⟨h1, h2, h3⟩, σ0, φ0, ρ0, -, -, -, -, hWB, hWN, hAP⟩ := h
  refine ⟨pa, na, ⟨h1, Nat.le_trans h2 hS.1, gLH_S h3 hS (fun q hq z => by have := hA q z; omega)⟩, σ, φ, ρ, hX, hF, hR, hRX, WB_k hK (fun p β hp hb => bk_S hb hS (fun q g1 g2 g3 z => by have := hA q z; have := (hWB p hp).1; omega)) hWB, fun n hn => ?_, ?_⟩
  · rw [hK.1.2] at hn
    obtain ⟨q1, ν, q2, q3⟩ := hWN n hn
    exact ⟨q1, ν, bk_S q2 hS (fun q g1 g2 g3 z => by have := hA q z; omega), NR_k hK q3⟩
  · unfold AP
    rw [hK.1.1, hK.1.2]
    exact hAP

set_option maxHeartbeats 1000000 in
set_option maxRecDepth 100000 in
theorem c_X6_refuse (l : Launch) (G : Gt) (o : Nat) (σ : Sx) (ρ : Sx) (x : Int32) (kref : Nat) (hxk : -x = nI kref) (hk7 : 1 ≤ kref ∧ kref < 7) : Ct l G yX6_refuse cX6_refuse 3 ((some .int)) 0 0 0 [.ref o, .int x] (fun H => bk G o (xL G o σ) H ∧ bk G (o + 10) (rfL G (o + 10) ρ) H) (some (.int x)) (fun H => bk G o (xL G o σ) H ∧ bk G (o + 10) (rfL G (o + 10) (uA ρ 0 kref (ρ.2.1 0 kref + 1))) H) (fun q => o + 10 ≤ q ∧ q < o + 11) := by
  refine ct_entry [(0, .ref o), (1, .int x)] (by decide) (Nat.le_of_ble_eq_true rfl) rfl ?_
  intro zp ze zs zm za zb zt zc Q S hK hPre hin hE ls hl
  have hx := S.1
  have hb := S.2.1
  obtain ⟨hX, hRF⟩ := hPre
  have hS : va_S (fun q => o + 10 ≤ q ∧ q < o + 11) zs.heap zs.heap [] := va_S.rf
  refine lv_iload_n hx hb dX6_refuse_0 rfl (lv_at hl 1 rfl) ?_
  refine lv_ineg hx hb dX6_refuse_1 ?_
  refine w_top (v' := .int (nI kref)) (congrArg (fun z => Value.int z) hxk) ?_
  refine lv_istore_n (lv' := [(2, .int (nI kref)), (0, .ref o), (1, .int x)]) hx hb dX6_refuse_2 rfl hl (by decide) rfl (fun ls hl => ?_)
  refine lv_iload_n hx hb dX6_refuse_3 rfl (lv_at hl 0 rfl) ?_
  refine n_if_le (tgt := 26) hx hb dX6_refuse_4 (by decide) (by omega) (fun c_4 => ?_) (fun c_4 => ?_)
  ·
    omega
  ·
    refine lv_iload_n hx hb dX6_refuse_7 rfl (lv_at hl 0 rfl) ?_
    refine lv_aload_n hx hb dX6_refuse_8 rfl (lv_at hl 1 rfl) ?_
    refine kg (C := RX6) (T := TX6) (N := 12) (ci := 4) (k := 11) (v := .ref (o + 10)) S hK rfl inX6 (by decide) q_135 dX6_refuse_9 hX rfl rfl ?_
    refine kal S hK dX6_refuse_12 0 0 hRF rfl rfl ?_
    refine w_top (v' := .int (nI 7)) rfl ?_
    refine n_icmp_ge (tgt := 26) hx hb dX6_refuse_13 (by decide) (by omega) (by decide) (fun c_13 => ?_) (fun c_13 => ?_)
    ·
      omega
    ·
      refine lv_aload_n hx hb dX6_refuse_16 rfl (lv_at hl 1 rfl) ?_
      refine kg (C := RX6) (T := TX6) (N := 12) (ci := 4) (k := 11) (v := .ref (o + 10)) S hK rfl inX6 (by decide) q_135 dX6_refuse_17 hX rfl rfl ?_
      refine lv_iload_n hx hb dX6_refuse_20 rfl (lv_at hl 0 rfl) ?_
      refine lv_dup2_11 hx hb dX6_refuse_21 rfl rfl ?_
      refine kil (f := ρ.2.1 0) S hK dX6_refuse_22 0 hRF rfl (by decide) rfl (by omega) ?_
      refine lv_iconst (v := nI 1) hx hb dX6_refuse_23 (by decide) ?_
      refine n_iadd hx hb dX6_refuse_24 ?_
      refine kis S hK dX6_refuse_25 0 hRF rfl (by decide) rfl (by omega) rfl (L1 := rfL G (o + 10) (uA ρ 0 kref ((ρ.2.1 0 kref) + 1))) rfl hS (by first | exact ⟨by omega, by omega⟩ | omega) (fun H locs hRF hS hz2 hk => ?_)
      replace hX := hX.kept (fun q h1 h2 => hk q (by have h3 : q < o + 6 := h2; omega))
      refine lv_iload_n hx hb dX6_refuse_26 rfl (lv_at hl 2 rfl) ?_
      replace hRF := bk_eq hRF (show rfL G (o + 10) (uA ρ 0 kref ((ρ.2.1 0 kref) + 1)) = rfL G (o + 10) (uA ρ 0 kref (ρ.2.1 0 kref + 1)) from rfl)
      exact hE _ _ _ _ _ _ (kr_i dX6_refuse_27) hS (by decide) (by decide) ⟨hX, hRF⟩

set_option maxHeartbeats 1000000 in
set_option maxRecDepth 100000 in
theorem c_X6_refuseLong (l : Launch) (G : Gt) (o : Nat) (σ : Sx) (ρ : Sx) (x : Int32) (kref : Nat) (hxk : -x = nI kref) (hk7 : 1 ≤ kref ∧ kref < 7) : Ct l G yX6_refuseLong cX6_refuseLong 2 ((some .long)) 1 0 0 [.ref o, .int x] (fun H => bk G o (xL G o σ) H ∧ bk G (o + 10) (rfL G (o + 10) ρ) H) (some (.long (lN 4000000000000000000 - x.toInt64))) (fun H => bk G o (xL G o σ) H ∧ bk G (o + 10) (rfL G (o + 10) (uA ρ 0 kref (ρ.2.1 0 kref + 1))) H) (fun q => o + 10 ≤ q ∧ q < o + 11) := by
  refine ct_entry [(0, .ref o), (1, .int x)] (by decide) (Nat.le_of_ble_eq_true rfl) rfl ?_
  intro zp ze zs zm za zb zt zc Q S hK hPre hin hE ls hl
  have hx := S.1
  have hb := S.2.1
  obtain ⟨hX, hRF⟩ := hPre
  have hS : va_S (fun q => o + 10 ≤ q ∧ q < o + 11) zs.heap zs.heap [] := va_S.rf
  refine lv_ldc2 (v := lN 4000000000000000000) hx hb S.2.2.2.1 (S.2.2.2.2 _ q_307) dX6_refuseLong_0 ?_
  refine lv_aload_n hx hb dX6_refuseLong_3 rfl (lv_at hl 0 rfl) ?_
  refine lv_iload_n hx hb dX6_refuseLong_4 rfl (lv_at hl 1 rfl) ?_
  refine ctV (rest := [.long (lN 4000000000000000000)]) S hK (c_X6_refuse l G o σ ρ x kref (by first | assumption | omega | decide) (by first | assumption | omega | decide)) cw_X6_42 rfl ⟨Nat.le_of_ble_eq_true rfl, Nat.le_of_ble_eq_true rfl⟩ ⟨Nat.le_of_ble_eq_true rfl, Nat.le_of_ble_eq_true rfl⟩ (bk.recv hK hX rfl rfl) hl.1 rfl (Nat.le_of_ble_eq_true rfl) dX6_refuseLong_5 ⟨hX, hRF⟩ hS (fun _ h => by first | exact h | omega) (fun H locs hPost hz hk hS => ?_)
  obtain ⟨hX, hRF⟩ := hPost
  refine lv_i2l (v := x.toInt64) hx hb dX6_refuseLong_8 rfl ?_
  refine lv_lsub hx hb dX6_refuseLong_9 ?_
  refine w_top (v' := .long (lN 4000000000000000000 - x.toInt64)) (congrArg (fun z => Value.long z) (show ((lN 4000000000000000000) - x.toInt64) = (lN 4000000000000000000 - x.toInt64) from rfl)) ?_
  exact hE _ _ _ _ _ _ (kr_l dX6_refuseLong_10) hS (by decide) (by decide) ⟨hX, hRF⟩

set_option maxHeartbeats 1000000 in
set_option maxRecDepth 100000 in
theorem c_X6_partAt_n (l : Launch) (G : Gt) (o : Nat) (σ : Sx) (p : Int32) (hn24 : σ.1 3 ≤ 24) (hin0 : inI p (σ.1 3) = false) : Cr l G yX6_partAt cX6_partAt 2 ((some (.object "PuzzleParts$Board"))) 0 [.ref o, .int p] (fun H => bk G o (xL G o σ) H) (some (.null)) := by
  refine cr_entry [(0, .ref o), (1, .int p)] (by decide) (Nat.le_of_ble_eq_true rfl) rfl ?_
  intro zp ze zs zm za zb zt zc Q S hK hPre hE ls hl
  have hx := S.1
  have hb := S.2.1
  have hX := hPre
  refine lv_iload_n hx hb dX6_partAt_0 rfl (lv_at hl 1 rfl) ?_
  refine lv_if_lt (tgt := 21) hx hb dX6_partAt_1 (by decide) (fun c_1 => ?_) (fun c_1 => ?_)
  ·
    refine lv_null hx hb dX6_partAt_21 ?_
    exact hE _ _ (kr_n dX6_partAt_22)
  ·
    refine lv_iload_n hx hb dX6_partAt_4 rfl (lv_at hl 1 rfl) ?_
    refine lv_aload_n hx hb dX6_partAt_5 rfl (lv_at hl 0 rfl) ?_
    refine kg (C := RX6) (T := TX6) (N := 12) (ci := 4) (k := 3) (v := .int (nI (σ.1 3))) S hK rfl inX6 (by decide) q_127 dX6_partAt_6 hX rfl rfl ?_
    refine lv_icmp_ge (tgt := 21) hx hb dX6_partAt_9 (by decide) (fun c_9 => ?_) (fun c_9 => ?_)
    ·
      refine lv_null hx hb dX6_partAt_21 ?_
      exact hE _ _ (kr_n dX6_partAt_22)
    ·
      exact absurd (inI_of (by omega) c_1 c_9) (by rw [hin0]; decide)

set_option maxHeartbeats 1000000 in
set_option maxRecDepth 100000 in
theorem c_X6_partAt_y (l : Launch) (G : Gt) (o : Nat) (σ : Sx) (p : Nat) (a : Nat) (hn24 : σ.1 3 ≤ 24) (hvp : p < σ.1 3) (hpa : σ.2.2 2 p = some a) : Cr l G yX6_partAt cX6_partAt 2 ((some (.object "PuzzleParts$Board"))) 0 [.ref o, .int (nI p)] (fun H => bk G o (xL G o σ) H) (some (.ref a)) := by
  refine cr_entry [(0, .ref o), (1, .int (nI p))] (by decide) (Nat.le_of_ble_eq_true rfl) rfl ?_
  intro zp ze zs zm za zb zt zc Q S hK hPre hE ls hl
  have hx := S.1
  have hb := S.2.1
  have hX := hPre
  refine lv_iload_n hx hb dX6_partAt_0 rfl (lv_at hl 1 rfl) ?_
  refine n_if_lt (tgt := 21) hx hb dX6_partAt_1 (by decide) (by omega) (fun c_1 => ?_)
  refine lv_iload_n hx hb dX6_partAt_4 rfl (lv_at hl 1 rfl) ?_
  refine lv_aload_n hx hb dX6_partAt_5 rfl (lv_at hl 0 rfl) ?_
  refine kg (C := RX6) (T := TX6) (N := 12) (ci := 4) (k := 3) (v := .int (nI (σ.1 3))) S hK rfl inX6 (by decide) q_127 dX6_partAt_6 hX rfl rfl ?_
  refine n_icmp_ge (tgt := 21) hx hb dX6_partAt_9 (by decide) (by omega) (by omega) (fun c_9 => ?_) (fun c_9 => ?_)
  ·
    omega
  ·
    refine lv_aload_n hx hb dX6_partAt_12 rfl (lv_at hl 0 rfl) ?_
    refine kg (C := RX6) (T := TX6) (N := 12) (ci := 4) (k := 2) (v := .ref (o + 2)) S hK rfl inX6 (by decide) q_126 dX6_partAt_13 hX rfl rfl ?_
    refine lv_iload_n hx hb dX6_partAt_16 rfl (lv_at hl 1 rfl) ?_
    refine kql (f := σ.2.2 2) S hK dX6_partAt_17 2 2 hX rfl rfl (by decide) rfl (by omega) ?_
    rw [show σ.2.2 2 p = some a from hpa]
    dsimp only [va_rf]
    refine lv_goto (tgt := 22) hx hb dX6_partAt_18 (by decide) ?_
    exact hE _ _ (kr_a dX6_partAt_22)

set_option maxHeartbeats 1000000 in
set_option maxRecDepth 100000 in
theorem c_X6_netAt_n (l : Launch) (G : Gt) (o : Nat) (σ : Sx) (p : Int32) (hn6 : σ.1 7 ≤ 6) (hin0 : inI p (σ.1 7) = false) : Cr l G yX6_netAt cX6_netAt 2 ((some (.object "PuzzleParts$Net"))) 0 [.ref o, .int p] (fun H => bk G o (xL G o σ) H) (some (.null)) := by
  refine cr_entry [(0, .ref o), (1, .int p)] (by decide) (Nat.le_of_ble_eq_true rfl) rfl ?_
  intro zp ze zs zm za zb zt zc Q S hK hPre hE ls hl
  have hx := S.1
  have hb := S.2.1
  have hX := hPre
  refine lv_iload_n hx hb dX6_netAt_0 rfl (lv_at hl 1 rfl) ?_
  refine lv_if_lt (tgt := 21) hx hb dX6_netAt_1 (by decide) (fun c_1 => ?_) (fun c_1 => ?_)
  ·
    refine lv_null hx hb dX6_netAt_21 ?_
    exact hE _ _ (kr_n dX6_netAt_22)
  ·
    refine lv_iload_n hx hb dX6_netAt_4 rfl (lv_at hl 1 rfl) ?_
    refine lv_aload_n hx hb dX6_netAt_5 rfl (lv_at hl 0 rfl) ?_
    refine kg (C := RX6) (T := TX6) (N := 12) (ci := 4) (k := 7) (v := .int (nI (σ.1 7))) S hK rfl inX6 (by decide) q_131 dX6_netAt_6 hX rfl rfl ?_
    refine lv_icmp_ge (tgt := 21) hx hb dX6_netAt_9 (by decide) (fun c_9 => ?_) (fun c_9 => ?_)
    ·
      refine lv_null hx hb dX6_netAt_21 ?_
      exact hE _ _ (kr_n dX6_netAt_22)
    ·
      exact absurd (inI_of (by omega) c_1 c_9) (by rw [hin0]; decide)

set_option maxHeartbeats 1000000 in
set_option maxRecDepth 100000 in
theorem c_X6_netAt_y (l : Launch) (G : Gt) (o : Nat) (σ : Sx) (p : Nat) (a : Nat) (hn6 : σ.1 7 ≤ 6) (hvp : p < σ.1 7) (hpa : σ.2.2 6 p = some a) : Cr l G yX6_netAt cX6_netAt 2 ((some (.object "PuzzleParts$Net"))) 0 [.ref o, .int (nI p)] (fun H => bk G o (xL G o σ) H) (some (.ref a)) := by
  refine cr_entry [(0, .ref o), (1, .int (nI p))] (by decide) (Nat.le_of_ble_eq_true rfl) rfl ?_
  intro zp ze zs zm za zb zt zc Q S hK hPre hE ls hl
  have hx := S.1
  have hb := S.2.1
  have hX := hPre
  refine lv_iload_n hx hb dX6_netAt_0 rfl (lv_at hl 1 rfl) ?_
  refine n_if_lt (tgt := 21) hx hb dX6_netAt_1 (by decide) (by omega) (fun c_1 => ?_)
  refine lv_iload_n hx hb dX6_netAt_4 rfl (lv_at hl 1 rfl) ?_
  refine lv_aload_n hx hb dX6_netAt_5 rfl (lv_at hl 0 rfl) ?_
  refine kg (C := RX6) (T := TX6) (N := 12) (ci := 4) (k := 7) (v := .int (nI (σ.1 7))) S hK rfl inX6 (by decide) q_131 dX6_netAt_6 hX rfl rfl ?_
  refine n_icmp_ge (tgt := 21) hx hb dX6_netAt_9 (by decide) (by omega) (by omega) (fun c_9 => ?_) (fun c_9 => ?_)
  ·
    omega
  ·
    refine lv_aload_n hx hb dX6_netAt_12 rfl (lv_at hl 0 rfl) ?_
    refine kg (C := RX6) (T := TX6) (N := 12) (ci := 4) (k := 6) (v := .ref (o + 4)) S hK rfl inX6 (by decide) q_130 dX6_netAt_13 hX rfl rfl ?_
    refine lv_iload_n hx hb dX6_netAt_16 rfl (lv_at hl 1 rfl) ?_
    refine kql (f := σ.2.2 6) S hK dX6_netAt_17 4 3 hX rfl rfl (by decide) rfl (by omega) ?_
    rw [show σ.2.2 6 p = some a from hpa]
    dsimp only [va_rf]
    refine lv_goto (tgt := 22) hx hb dX6_netAt_18 (by decide) ?_
    exact hE _ _ (kr_a dX6_netAt_22)

set_option maxHeartbeats 1000000 in
set_option maxRecDepth 100000 in
theorem c_X6_isFormula (l : Launch) (G : Gt) (o : Nat) (σ : Sx) (p : Int32) (hn20 : σ.1 5 ≤ 20) : Cr l G yX6_isFormula cX6_isFormula 2 ((some .boolean)) 0 [.ref o, .int p] (fun H => bk G o (xL G o σ) H) (some (.int (b2i (inI p (σ.1 5))))) := by
  refine cr_entry [(0, .ref o), (1, .int p)] (by decide) (Nat.le_of_ble_eq_true rfl) rfl ?_
  intro zp ze zs zm za zb zt zc Q S hK hPre hE ls hl
  have hx := S.1
  have hb := S.2.1
  have hX := hPre
  refine lv_iload_n hx hb dX6_isFormula_0 rfl (lv_at hl 1 rfl) ?_
  refine lv_if_lt (tgt := 16) hx hb dX6_isFormula_1 (by decide) (fun c_1 => ?_) (fun c_1 => ?_)
  ·
    have hr : inI p (σ.1 5) = false := inI_lt c_1
    refine lv_iconst (v := nI 0) hx hb dX6_isFormula_16 (by decide) ?_
    refine w_top (v' := .int (b2i (inI p (σ.1 5)))) (bz_f (show (inI p (σ.1 5)) = false from hr)) ?_
    exact hE _ _ (kr_z dX6_isFormula_17)
  ·
    refine lv_iload_n hx hb dX6_isFormula_4 rfl (lv_at hl 1 rfl) ?_
    refine lv_aload_n hx hb dX6_isFormula_5 rfl (lv_at hl 0 rfl) ?_
    refine kg (C := RX6) (T := TX6) (N := 12) (ci := 4) (k := 5) (v := .int (nI (σ.1 5))) S hK rfl inX6 (by decide) q_129 dX6_isFormula_6 hX rfl rfl ?_
    refine lv_icmp_ge (tgt := 16) hx hb dX6_isFormula_9 (by decide) (fun c_9 => ?_) (fun c_9 => ?_)
    ·
      have hr : inI p (σ.1 5) = false := inI_ge (by omega) c_9
      refine lv_iconst (v := nI 0) hx hb dX6_isFormula_16 (by decide) ?_
      refine w_top (v' := .int (b2i (inI p (σ.1 5)))) (bz_f (show (inI p (σ.1 5)) = false from hr)) ?_
      exact hE _ _ (kr_z dX6_isFormula_17)
    ·
      have hr : inI p (σ.1 5) = true := inI_of (by omega) c_1 c_9
      refine lv_iconst (v := nI 1) hx hb dX6_isFormula_12 (by decide) ?_
      refine lv_goto (tgt := 17) hx hb dX6_isFormula_13 (by decide) ?_
      refine w_top (v' := .int (b2i (inI p (σ.1 5)))) (bz_t (show (inI p (σ.1 5)) = true from hr)) ?_
      exact hE _ _ (kr_z dX6_isFormula_17)
