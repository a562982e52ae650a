/-! what a block of each class holds: numbers by slot, arrays by slot, references by slot -/
abbrev Sx : Type := (Nat → Nat) × (Nat → Nat → Nat) × (Nat → Nat → Option Nat)
def uS (σ : Sx) (k v : Nat) : Sx := (fun j => if j = k then v else σ.1 j, σ.2)
def uA (σ : Sx) (k j v : Nat) : Sx := (σ.1, fun i => if i = k then uN (σ.2.1 k) j v else σ.2.1 i, σ.2.2)
def uQ (σ : Sx) (k j v : Nat) : Sx := (σ.1, σ.2.1, fun i => if i = k then va_up (σ.2.2 k) j (some v) else σ.2.2 i)
/-- a FAULT's place, none as -1 -/
def flt : Nat → Int32
  | 0 => -1
  | k + 1 => nI k
abbrev nV (n : Nat) : Value := .int (nI n)
def bdL (G : Gt) (b : Nat) (σ : Sx) : List va_E := [.inr (0, [nV (σ.1 0), nV (σ.1 1), .ref (b + 1), nV (σ.1 3), nV (σ.1 4), .ref (b + 2), .ref (b + 3), .long (lN (σ.1 7)), .long (lN (σ.1 8))]), iA G 20 (σ.2.1 2), iA G 5 (σ.2.1 5), iA G 32 (σ.2.1 6)]
def flL (G : Gt) (b : Nat) (σ : Sx) : List va_E := [.inr (1, [.ref (b + 1), .ref (b + 2), .ref (b + 3), nV (σ.1 3)]), qA G 2 10 (σ.2.2 0), iA G 10 (σ.2.1 1), iA G 10 (σ.2.1 2)]
def ftL (_ : Gt) (_ : Nat) (σ : Sx) : List va_E := [.inr (2, [.ref (σ.1 0), nV (σ.1 1), nV (σ.1 2), .int (flt (σ.1 3))])]
def ntL (G : Gt) (b : Nat) (σ : Sx) : List va_E := [.inr (3, [.ref (b + 1), nV (σ.1 1), nV (σ.1 2), .ref (b + 2), .ref (b + 3)]), qA G 2 8 (σ.2.2 0), iA G 40 (σ.2.1 3), iA G 40 (σ.2.1 4)]
def xL (G : Gt) (b : Nat) (σ : Sx) : List va_E := [.inr (4, [.ref (b + 1), nV (σ.1 1), .ref (b + 2), nV (σ.1 3), .ref (b + 3), nV (σ.1 5), .ref (b + 4), nV (σ.1 7), .ref (b + 5), nV (σ.1 9), .ref (b + 6), .ref (b + 10)]), iA G 40 (σ.2.1 0), qA G 2 24 (σ.2.2 2), lA G 20 (σ.2.1 4), qA G 3 6 (σ.2.2 6), iA G 3 (σ.2.1 8)]
def rfL (G : Gt) (_ : Nat) (σ : Sx) : List va_E := [iA G 7 (σ.2.1 0)]
def tpL (G : Gt) (_ : Nat) (σ : Sx) : List va_E := [iA G 40 (σ.2.1 0)]
def mL (G : Gt) (b : Nat) (σ : Sx) : List va_E := [.inr (5, [.ref (b + 1), .ref (b + 2), .ref (b + 3), .ref (b + 4), .ref (b + 5), .ref (b + 6), .ref (b + 7), .ref (b + 8), .ref (b + 9), .ref (b + 10), .ref (b + 11), .ref (b + 12), .ref (b + 13), .ref (b + 14), .ref (b + 15), .ref (b + 16),
  nV (σ.1 16), nV (σ.1 17), nV (σ.1 18), nV (σ.1 19), nV (σ.1 20), .ref (b + 17), nV (σ.1 22), nV (σ.1 23), nV (σ.1 24), nV (σ.1 25), nV (σ.1 26), nV (σ.1 27), .ref (b + σ.1 28), nV (σ.1 29), .ref (b + 18), .ref (b + 19)]),
  iA G 7 (σ.2.1 0), iA G 25 (σ.2.1 1), iA G 25 (σ.2.1 2), iA G 25 (σ.2.1 3), iA G 500 (σ.2.1 4), iA G 800 (σ.2.1 5), iA G 20 (σ.2.1 6), iA G 6 (σ.2.1 7), iA G 6 (σ.2.1 8), iA G 48 (σ.2.1 9), iA G 72 (σ.2.1 10), iA G 72 (σ.2.1 11), iA G 10 (σ.2.1 12), iA G 10 (σ.2.1 13), iA G 10 (σ.2.1 14), iA G 3 (σ.2.1 15), iA G 40 (σ.2.1 21), iA G 8 (σ.2.1 30), iA G 256 (σ.2.1 31)]
theorem uS_s (σ : Sx) (k v : Nat) : (uS σ k v).1 k = v := by simp [uS]
theorem uS_n {σ : Sx} {k v j : Nat} (h : j ≠ k) : (uS σ k v).1 j = σ.1 j := by simp [uS, h]
theorem uS_a (σ : Sx) (k v : Nat) : (uS σ k v).2 = σ.2 := rfl
theorem uA_s (σ : Sx) (k j v : Nat) : (uA σ k j v).2.1 k = uN (σ.2.1 k) j v := by simp [uA]
theorem uA_n {σ : Sx} {k j v i : Nat} (h : i ≠ k) : (uA σ k j v).2.1 i = σ.2.1 i := by simp [uA, h]
theorem uA_1 (σ : Sx) (k j v : Nat) : (uA σ k j v).1 = σ.1 := rfl
theorem uA_q (σ : Sx) (k j v : Nat) : (uA σ k j v).2.2 = σ.2.2 := rfl
/-- whether an int is one of 0 .. n - 1; its natural -/
def inI (x : Int32) (n : Nat) : Bool := decide (0 ≤ x.toInt) && decide (x.toInt < (n : Int))
def cx (x : Int32) : Nat := x.toInt.toNat
theorem inI_t {x : Int32} {n : Nat} (h : inI x n = true) : x = nI (cx x) ∧ cx x < n := by
  simp only [inI, Bool.and_eq_true, decide_eq_true_eq] at h
  have h1 := Int32.toInt_lt x
  refine ⟨?_, by unfold cx; omega⟩
  apply Int32.toInt_inj.mp
  rw [nI_toInt (by unfold cx; omega)]
  unfold cx
  omega
theorem inI_x {x : Int32} {n : Nat} (h : inI x n = true) : ∃ j : Nat, j < n ∧ x = nI j := ⟨cx x, (inI_t h).2, (inI_t h).1⟩
theorem inI_n {j n : Nat} (hj : j < 2 ^ 31) : inI (nI j) n = decide (j < n) := by
  simp only [inI, nI_toInt hj]
  by_cases h : j < n <;> simp [h] <;> omega
theorem cx_n {j : Nat} (hj : j < 2 ^ 31) : cx (nI j) = j := by
  unfold cx
  rw [nI_toInt hj]
  rfl
theorem inI_lt {x : Int32} {n : Nat} (h : x < 0) : inI x n = false := by
  have := Int32.lt_iff_toInt_lt.mp h
  simp only [inI, Bool.and_eq_false_iff, decide_eq_false_iff_not]
  left
  have e : (0 : Int32).toInt = 0 := rfl
  omega
theorem inI_ge {x : Int32} {n : Nat} (hn : n < 2 ^ 31) (h : nI n ≤ x) : inI x n = false := by
  have := Int32.le_iff_toInt_le.mp h
  rw [nI_toInt hn] at this
  simp only [inI, Bool.and_eq_false_iff, decide_eq_false_iff_not]
  right
  omega
theorem inI_of {x : Int32} {n : Nat} (hn : n < 2 ^ 31) (h0 : ¬ x < 0) (h : ¬ nI n ≤ x) : inI x n = true := by
  have h1 := mt Int32.lt_iff_toInt_lt.mpr h0
  have h2 := mt Int32.le_iff_toInt_le.mpr h
  rw [nI_toInt hn] at h2
  have e : (0 : Int32).toInt = 0 := rfl
  simp only [inI, Bool.and_eq_true, decide_eq_true_eq]
  omega
theorem inI_z {x : Int32} {n : Nat} (h : ¬ 0 ≤ x) : inI x n = false := inI_lt (by
  have h1 := mt Int32.le_iff_toInt_le.mpr h
  apply Int32.lt_iff_toInt_lt.mpr
  omega)
theorem inI_of2 {x : Int32} {n : Nat} (hn : n < 2 ^ 31) (h0 : 0 ≤ x) (h : x < nI n) : inI x n = true := by
  have h1 := Int32.le_iff_toInt_le.mp h0
  have h2 := Int32.lt_iff_toInt_lt.mp h
  rw [nI_toInt hn] at h2
  have e : (0 : Int32).toInt = 0 := rfl
  simp only [inI, Bool.and_eq_true, decide_eq_true_eq]
  omega
theorem inI_nlt {x : Int32} {n : Nat} (hn : n < 2 ^ 31) (h : ¬ x < nI n) : inI x n = false := by
  have h2 := mt Int32.lt_iff_toInt_lt.mpr h
  rw [nI_toInt hn] at h2
  simp only [inI, Bool.and_eq_false_iff, decide_eq_false_iff_not]
  right
  omega
theorem bz_t {z : Bool} (h : z = true) : (.int (nI 1) : Value) = .int (b2i z) := by rw [h]; rfl
theorem bz_f {z : Bool} (h : z = false) : (.int (nI 0) : Value) = .int (b2i z) := by rw [h]; rfl
theorem bk.over {G : Gt} {b : Nat} {L : List va_E} {H H1 : Heap} {A1 : Nat → Prop} (h : bk G b L H) (hk : ∀ q : Nat, q < H.size → ¬ A1 q → H1[q]? = H[q]?) (hn : ∀ q : Nat, b ≤ q → q < b + L.length → ¬ A1 q) : bk G b L H1 :=
  fun k e hk2 => (h k e hk2).kept (hk _ (h k e hk2).lt (hn _ (Nat.le_add_right _ _) (Nat.add_lt_add_left (List.getElem?_eq_some_iff.mp hk2).1 b)))
theorem lv_eq {ls : Array Slot} {nL : Nat} {l : List (Nat × Value)} (k : Nat) {i : Nat} {v v2 : Value} (h : lv_has ls nL l) (hk : l[k]? = some (i, v)) (e : v = v2) : lv_has ls nL (l.set k (i, v2)) := by
  subst e
  obtain ⟨hl, he⟩ := List.getElem?_eq_some_iff.mp hk
  rw [← he, List.set_getElem_self]
  exact h
theorem bk_eq {G : Gt} {b : Nat} {L L1 : List va_E} {H : Heap} (h : bk G b L H) (e : L = L1) : bk G b L1 H := e ▸ h
section KT
variable {p : Program} {l : Launch} {e : Env} {R : Room} {s : State} {m : MethodId} {args : Array Value} {below : List Frame} {meth : Method} {c : Code} {H : Heap} {locs : List Loc} {cells slots : Nat} {Q : State → Prop} {pc : Nat} {ls : Array Slot} {rest : List Value}
theorem w_top {v v' : Value} (h : v = v') (k : W p l e R s m args below meth c H locs cells slots Q (F0 m pc ls (v' :: rest))) : W p l e R s m args below meth c H locs cells slots Q (F0 m pc ls (v :: rest)) := h ▸ k
theorem w_st {st st' : List Value} (h : st = st') (k : W p l e R s m args below meth c H locs cells slots Q (F0 m pc ls st')) : W p l e R s m args below meth c H locs cells slots Q (F0 m pc ls st) := h ▸ k
end KT
