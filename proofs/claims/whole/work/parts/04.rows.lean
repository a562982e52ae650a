/-! rows over blocks: fields, arrays, new cells -/
section KB
variable {p : Program} {l : Launch} {e : Env} {R : Room} {s : State} {m : MethodId} {args : Array Value} {below : List Frame} {meth : Method} {c : Code} {H : Heap} {locs : List Loc} {cells slots : Nat} {Q : State → Prop}
variable {cc : ByteArray} {pc nL b j : Nat} {ls : Array Slot} {rest : List Value} {own : String} {G : Gt} {L L1 : List va_E} {A : Nat → Prop}
theorem bk.recv {C : String} {T : u_T} {N ci : Nat} {fs : List Value} (hK : gK G s) (hB : bk G b L H) (hc : vwCl[ci]? = some (C, T, N)) (he : L[0]? = some (.inr (ci, fs))) : ∃ cell : Cell, H[b]? = some cell ∧ cell.vm.isStatics = false ∧ s.vm.findClass C = some cell.cls :=
  va_recv (q0 := 0) hK.1 (hB.P he) hc rfl
theorem kg {C : String} {T : u_T} {N ci idx k : Nat} (S : CallFix p m c cc nL s args WT own) (hK : gK G s) (hc : vwCl[ci]? = some (C, T, N)) (hin : ∀ w ∈ u_ws C T N, w ∈ WT) (hk : k < N) (hl : Cond.fieldLink own idx (T k).1 (T k).2.1 (T k).2.2.1 ∈ WT) (hdg : decode cc pc = .ok (.getfield idx, 3)) {fs : List Value} {v : Value} (hB : bk G b L H) (he : L[0]? = some (.inr (ci, fs))) (hv : fs[k]? = some v)
    (kk : W p l e R s m args below meth c H locs cells slots Q (F0 m (pc + 3) ls (v :: rest))) : W p l e R s m args below meth c H locs cells slots Q (F0 m pc ls (.ref b :: rest)) :=
  va_get S.1 S.2.1 S.2.2.2.2 hin S.2.2.2.1 hK.1 (hB.P he) 0 rfl hc k hk (S.2.2.2.2 _ hl) (fun _ h => h) hv hdg kk
theorem kp {C : String} {T : u_T} {N ci idx k : Nat} (ty0 : Nat → FieldType) (hty : ∀ k, k < N → parseFieldDescriptor (T k).2.2.1 = some (ty0 k)) (hnm : ∀ a, a < N → ∀ b, b < N → a ≠ b → (T a).2.1 ≠ (T b).2.1) (S : CallFix p m c cc nL s args WT own) (hK : gK G s) (hc : vwCl[ci]? = some (C, T, N)) (hin : ∀ w ∈ u_ws C T N, w ∈ WT) (hk : k < N) (hl : Cond.fieldLink own idx (T k).1 (T k).2.1 (T k).2.2.1 ∈ WT) (hfin : (T k).2.2.2 = false) (hdg : decode cc pc = .ok (.putfield idx, 3)) {fs : List Value} {v : Value} {ty : FieldType} (hd : parseFieldDescriptor (T k).2.2.1 = some ty) (hn : narrow ty v = v) (hfit : fits ty v = true) (hB : bk G b L H) (he : L[0]? = some (.inr (ci, fs))) (hlen : k < fs.length) (hL : L.set 0 (.inr (ci, fs.set k v)) = L1) (hS : va_S A s.heap H locs) (hA : A b)
    (kk : ∀ (H1 : Heap) (locs1 : List Loc), bk G b L1 H1 → va_S A s.heap H1 locs1 → H1.size = H.size → (∀ q : Nat, q ≠ b → H1[q]? = H[q]?) → W p l e R s m args below meth c H1 locs1 cells slots Q (F0 m (pc + 3) ls rest)) : W p l e R s m args below meth c H locs cells slots Q (F0 m pc ls (v :: .ref b :: rest)) := by
  subst hL
  have hts := S.2.2.2.2
  have hap := va_apart (own := own) hts hin ty0 hty hnm hK.1 hc
  obtain ⟨r, h1, cell, q1, q2, q3, q4⟩ := hB 0 _ he
  have hr : r = (C, T, N) := Option.some.inj (h1.symm.trans hc)
  subst hr
  obtain ⟨hS1, hfc, kC, hkC, hkind⟩ := hK.1.1 ci _ hc
  obtain ⟨cf, kf, fi, f, hi, hsl⟩ := hS1 k hk
  have hlay := hts _ (hin _ (u_in_lay hk))
  unfold u_lay at hlay
  rw [if_neg (by rw [hfin]; decide)] at hlay
  have hst := (u_facts hfc hkC (u_lays hts hin hk) hi).1
  have h6 := u_store hfc hkC hkind hlay hi hd hn hfit
  refine W.putK S.1 S.2.1 (f := f) ⟨S.2.2.2.1, hts _ hl, ⟨_, _, _, hi⟩, hst⟩ (by rw [q2]; exact h6) q1 q3 (by rw [hsl]; exact k2_hasslot (q4 k hk)) rfl rfl hdg fun H' e1 e2 e3 => ?_
  rw [hsl] at e1 ⊢
  exact kk H' _ (hB.set he ⟨_, hc, t_OB.to (V := updV (vp_V fs) k v) ⟨_, e1, q2, q3, t_set q4 hap hk v⟩ (fun j _ => vp_updV_set hlen v j)⟩ e3) (hS.put e2 e3 hA) e2 e3
theorem kpF {C : String} {T : u_T} {N ci idx k : Nat} (ty0 : Nat → FieldType) (hty : ∀ k, k < N → parseFieldDescriptor (T k).2.2.1 = some (ty0 k)) (hnm : ∀ a, a < N → ∀ b, b < N → a ≠ b → (T a).2.1 ≠ (T b).2.1) (S : CallFix p m c cc nL s args WT own) (hK : gK G s) (hin2 : meth.name = "<init>") (hc : vwCl[ci]? = some (C, T, N)) (hin : ∀ w ∈ u_ws C T N, w ∈ WT) (hk : k < N) (hl : Cond.fieldLink own idx (T k).1 (T k).2.1 (T k).2.2.1 ∈ WT) (hfin : (T k).2.2.2 = true) (hdecl : (T k).1 = own) (hdg : decode cc pc = .ok (.putfield idx, 3)) {fs : List Value} {v : Value} {ty : FieldType} (hd : parseFieldDescriptor (T k).2.2.1 = some ty) (hn : narrow ty v = v) (hfit : fits ty v = true) (hB : bk G b L H) (he : L[0]? = some (.inr (ci, fs))) (hlen : k < fs.length) (hL : L.set 0 (.inr (ci, fs.set k v)) = L1) (hS : va_S A s.heap H locs) (hA : A b)
    (kk : ∀ (H1 : Heap) (locs1 : List Loc), bk G b L1 H1 → va_S A s.heap H1 locs1 → H1.size = H.size → (∀ q : Nat, q ≠ b → H1[q]? = H[q]?) → W p l e R s m args below meth c H1 locs1 cells slots Q (F0 m (pc + 3) ls rest)) : W p l e R s m args below meth c H locs cells slots Q (F0 m pc ls (v :: .ref b :: rest)) := by
  subst hL
  have hts := S.2.2.2.2
  have hap := va_apart (own := own) hts hin ty0 hty hnm hK.1 hc
  obtain ⟨r, h1, cell, q1, q2, q3, q4⟩ := hB 0 _ he
  have hr : r = (C, T, N) := Option.some.inj (h1.symm.trans hc)
  subst hr
  obtain ⟨hS1, hfc, kC, hkC, hkind⟩ := hK.1.1 ci _ hc
  obtain ⟨cf, kf, fi, f, hi, hsl⟩ := hS1 k hk
  have hlay := hts _ (hin _ (u_in_lay hk))
  unfold u_lay at hlay
  rw [if_pos hfin] at hlay
  have hst := (u_facts hfc hkC (u_lays hts hin hk) hi).1
  have hcf : m.cls = cf := by
    obtain ⟨_, _, c', _, _, _, -, -, hf', -, -, -, hown2, -⟩ := Cond.laysFinal_spec hlay
    have e1 : c' = cf := by have := hi.symm.trans hf'; simp at this; exact this.1.symm
    rw [hdecl] at hown2
    rw [← e1]; exact Option.some.inj (S.2.2.2.1.symm.trans hown2)
  have h6 := u_fits hfc hkC hkind (Or.inr hlay) hi hd hn hfit
  refine W.putFinK S.1 S.2.1 S.2.2.2.1 (hts _ hl) hi hst hcf hin2 (by rw [q2]; exact h6) q1 q3 (by rw [hsl]; exact k2_hasslot (q4 k hk)) rfl rfl hdg fun H' e1 e2 e3 => ?_
  rw [hsl] at e1 ⊢
  exact kk H' _ (hB.set he ⟨_, hc, t_OB.to (V := updV (vp_V fs) k v) ⟨_, e1, q2, q3, t_set q4 hap hk v⟩ (fun j _ => vp_updV_set hlen v j)⟩ e3) (hS.put e2 e3 hA) e2 e3
/-- int arrays -/
theorem kil (S : CallFix p m c cc nL s args WT own) (hK : gK G s) (hdg : decode cc pc = .ok (.iaload, 1)) (j : Nat) {n i : Nat} {f : Nat → Nat} {x : Int32} (hB : bk G b L H) (he : L[j]? = some (iA G n f)) (hn : n < 2 ^ 31) (hx : x = nI i) (hi : i < n)
    (kk : W p l e R s m args below meth c H locs cells slots Q (F0 m (pc + 1) ls (.int (nI (f i)) :: rest))) : W p l e R s m args below meth c H locs cells slots Q (F0 m pc ls (.int x :: .ref (b + j) :: rest)) := by
  subst hx
  refine va_iald S.1 S.2.1 hK.1 (hB.P he) 0 0 rfl rfl (vp_in_nI hi hn) hdg ?_
  rw [nI_clamp (by omega)]
  exact kk
theorem kis (S : CallFix p m c cc nL s args WT own) (hK : gK G s) (hdg : decode cc pc = .ok (.iastore, 1)) (j : Nat) {n i v : Nat} {f : Nat → Nat} {x y : Int32} (hB : bk G b L H) (he : L[j]? = some (iA G n f)) (hn : n < 2 ^ 31) (hx : x = nI i) (hi : i < n) (hy : y = nI v) (hL : L.set j (iA G n (uN f i v)) = L1) (hS : va_S A s.heap H locs) (hA : A (b + j))
    (kk : ∀ (H1 : Heap) (locs1 : List Loc), bk G b L1 H1 → va_S A s.heap H1 locs1 → H1.size = H.size → (∀ q : Nat, q ≠ b + j → H1[q]? = H[q]?) → W p l e R s m args below meth c H1 locs1 cells slots Q (F0 m (pc + 1) ls rest)) : W p l e R s m args below meth c H locs cells slots Q (F0 m pc ls (.int y :: .int x :: .ref (b + j) :: rest)) := by
  subst hx; subst hy; subst hL
  refine W.iast S.1 S.2.1 (hB j _ he) ((hK.1.2 0 _ rfl).1 n (fun j => .int (nI (f j)))) (fun q => by cases q) (by show ¬ (nI i < 0 ∨ (arrV _ _ _).slots.size ≤ _); rw [arrV_size]; exact vp_in_nI hi hn) rfl rfl hdg fun H1 e z oq => ?_
  refine kk H1 _ (hB.set he ?_ oq) (hS.put z oq hA) z oq
  show H1[b + j]? = some (vp_cell _ _)
  rw [e]
  rw [vp_cell_i, vp_cell_i, arrV_store]
  congr 2
  funext q
  rw [nI_clamp (by omega)]
  by_cases hq : q = i
  · subst hq
    simp [updV, uN]
  · simp [updV, uN, hq]
/-- long arrays -/
theorem kll (S : CallFix p m c cc nL s args WT own) (hK : gK G s) (hdg : decode cc pc = .ok (.laload, 1)) (j : Nat) {n i : Nat} {f : Nat → Nat} {x : Int32} (hB : bk G b L H) (he : L[j]? = some (lA G n f)) (hn : n < 2 ^ 31) (hx : x = nI i) (hi : i < n)
    (kk : W p l e R s m args below meth c H locs cells slots Q (F0 m (pc + 1) ls (.long (lN (f i)) :: rest))) : W p l e R s m args below meth c H locs cells slots Q (F0 m pc ls (.int x :: .ref (b + j) :: rest)) := by
  subst hx
  refine va_lald S.1 S.2.1 hK.1 (hB.P he) 0 1 rfl rfl (vp_in_nI hi hn) hdg ?_
  rw [nI_clamp (by omega)]
  exact kk
theorem kls (S : CallFix p m c cc nL s args WT own) (hK : gK G s) (hdg : decode cc pc = .ok (.lastore, 1)) (j : Nat) {n i v : Nat} {f : Nat → Nat} {x : Int32} {y : Int64} (hB : bk G b L H) (he : L[j]? = some (lA G n f)) (hn : n < 2 ^ 31) (hx : x = nI i) (hi : i < n) (hy : y = lN v) (hL : L.set j (lA G n (uN f i v)) = L1) (hS : va_S A s.heap H locs) (hA : A (b + j))
    (kk : ∀ (H1 : Heap) (locs1 : List Loc), bk G b L1 H1 → va_S A s.heap H1 locs1 → H1.size = H.size → (∀ q : Nat, q ≠ b + j → H1[q]? = H[q]?) → W p l e R s m args below meth c H1 locs1 cells slots Q (F0 m (pc + 1) ls rest)) : W p l e R s m args below meth c H locs cells slots Q (F0 m pc ls (.long y :: .int x :: .ref (b + j) :: rest)) := by
  subst hx; subst hy; subst hL
  refine W.last S.1 S.2.1 (hB j _ he) ((hK.1.2 1 _ rfl).1 n (fun j => .long (lN (f j)))) (fun q => by cases q) (by show ¬ (nI i < 0 ∨ (arrV _ _ _).slots.size ≤ _); rw [arrV_size]; exact vp_in_nI hi hn) rfl rfl hdg fun H1 e z oq => ?_
  refine kk H1 _ (hB.set he ?_ oq) (hS.put z oq hA) z oq
  show H1[b + j]? = some (vp_cell _ _)
  rw [e]
  rw [vp_cell_l, vp_cell_l, arrV_store]
  congr 2
  funext q
  rw [nI_clamp (by omega)]
  by_cases hq : q = i
  · subst hq
    simp [updV, uN]
  · simp [updV, uN, hq]
/-- arrays of objects: kind 2 holds boards, 3 nets -/
theorem kql (S : CallFix p m c cc nL s args WT own) (hK : gK G s) (hdg : decode cc pc = .ok (.aaload, 1)) (j t : Nat) {n i : Nat} {C : String} {f : Nat → Option Nat} {x : Int32} (hB : bk G b L H) (he : L[j]? = some (qA G t n f)) (ht : (gTys G)[t]? = some (G.2.1 t, .object C)) (hn : n < 2 ^ 31) (hx : x = nI i) (hi : i < n)
    (kk : W p l e R s m args below meth c H locs cells slots Q (F0 m (pc + 1) ls (va_rf (f i) :: rest))) : W p l e R s m args below meth c H locs cells slots Q (F0 m pc ls (.int x :: .ref (b + j) :: rest)) := by
  subst hx
  refine va_aldq S.1 S.2.1 hK.1 (hB.P he) 0 t rfl ht (vp_in_nI hi hn) hdg ?_
  rw [nI_clamp (by omega)]
  exact kk
theorem kqs (S : CallFix p m c cc nL s args WT own) (hK : gK G s) (hdg : decode cc pc = .ok (.aastore, 1)) (j t ci : Nat) {n i v N : Nat} {C : String} {T : u_T} {f : Nat → Option Nat} {x : Int32} {Lv : List va_E} {fs : List Value} (hB : bk G b L H) (he : L[j]? = some (qA G t n f)) (ht : (gTys G)[t]? = some (G.2.1 t, .object C)) (hc : vwCl[ci]? = some (C, T, N)) (hV : bk G v Lv H) (hv : Lv[0]? = some (.inr (ci, fs))) (hn : n < 2 ^ 31) (hx : x = nI i) (hi : i < n) (hL : L.set j (qA G t n (va_up f i (some v))) = L1) (hS : va_S A s.heap H locs) (hA : A (b + j))
    (kk : ∀ (H1 : Heap) (locs1 : List Loc), bk G b L1 H1 → va_S A s.heap H1 locs1 → H1.size = H.size → (∀ q : Nat, q ≠ b + j → H1[q]? = H[q]?) → W p l e R s m args below meth c H1 locs1 cells slots Q (F0 m (pc + 1) ls rest)) : W p l e R s m args below meth c H locs cells slots Q (F0 m pc ls (.ref v :: .int x :: .ref (b + j) :: rest)) := by
  subst hx; subst hL
  have hin := vp_in_nI hi hn
  have h0 : ¬ nI i < 0 := fun q => hin (Or.inl q)
  obtain ⟨r', hr', cellV, g1, g2, g3, -⟩ := hV 0 _ hv
  have hcls := (hK.1.1 ci _ hc).2
  obtain ⟨kA, comp, k1, k2, k3, -⟩ := (hK.1.2 t _ ht).2
  have hcomp : comp = G.1.1 ci := Option.some.inj (k3.symm.trans hcls.1)
  subst hcomp
  obtain ⟨kC, hkC, -⟩ := hcls.2
  refine W.aast S.1 S.2.1 (hB j _ he) (fun q h => by cases h) (fun h => by cases h) k1 k2 rfl hkC ⟨h0, by show _ < (arrV _ _ _).slots.size; rw [arrV_size, nI_clamp (by omega)]; exact hi⟩ g1 (fun q h => by rw [g3] at h; cases h) (by rw [g2]; exact hkC) (by rw [g2]; exact va_assign hcls) rfl rfl hdg fun H1 e z oq => ?_
  refine kk H1 _ (hB.set he ?_ oq) (hS.put z oq hA) z oq
  show H1[b + j]? = some (vp_cell _ _)
  rw [e]
  rw [vp_cell_q, vp_cell_q, arrV_store]
  congr 2
  funext q
  rw [nI_clamp (by omega)]
  by_cases hq : q = i
  · subst hq
    simp [updV, va_up, va_rf]
  · simp [updV, va_up, hq]
/-- a new object: a block of one cell, at the heap's end -/
theorem kn {C : String} {T : u_T} {N ci idx : Nat} (ty : Nat → FieldType) (hty : ∀ k, k < N → parseFieldDescriptor (T k).2.2.1 = some (ty k)) (S : CallFix p m c cc nL s args WT own) (hK : gK G s) (hc : vwCl[ci]? = some (C, T, N)) (hin : ∀ w ∈ u_ws C T N, w ∈ WT) (hl : Cond.classLink own idx C ∈ WT) (hi : Cond.instantiable C N ∈ WT) (hini : Cond.initialized C ∈ WT) (fs : List Value) (hfs : ∀ j, j < N → defaultValue (ty j) = vp_V fs j) (hdg : decode cc pc = .ok (.new idx, 3)) (hcells : cells + 1 ≤ R.cells) (hslots : slots + N ≤ R.slots) {h : Nat} (hh : H.size = h) (hS : va_S A s.heap H locs)
    (kk : ∀ H1 : Heap, bk G h [.inr (ci, fs)] H1 → va_S A s.heap H1 locs → H1.size = h + 1 → (∀ q : Nat, q < h → H1[q]? = H[q]?) → W p l e R s m args below meth c H1 locs (cells + 1) (slots + N) Q (F0 m (pc + 3) ls (.ref h :: rest))) : W p l e R s m args below meth c H locs cells slots Q (F0 m pc ls rest) := by
  have hKn := hK.1.1 ci _ hc
  have hts := S.2.2.2.2
  refine W.newcK S.1 S.2.1 S.2.2.2.1 (hts _ hl) (hts _ hi) (hts _ hini) rfl hdg hcells hslots hKn.2.1 hh fun H1 kC hkC e1 z1 o1 => ?_
  refine kk H1 (bk.one ⟨_, hc, (u_born ty hts hin hKn hkC e1 hty).to hfs⟩) ⟨Nat.le_trans hS.1 (by omega), fun x h1 h2 => (o1 x (Nat.lt_of_lt_of_le h1 (by rw [← hh]; exact hS.1))).trans (hS.2.1 x h1 h2), hS.2.2⟩ z1 o1
/-- a new array of ints behind a block that ends where the heap ends -/
theorem kna (S : CallFix p m c cc nL s args WT own) (hK : gK G s) (harr : Cond.arrayClass .int ∈ WT) (hdg : decode cc pc = .ok (.newarray .int, 2)) (n : Nat) {x : Int32} (hx : x = nI n) (hn : n ≤ 65536) (hcells : cells + 1 ≤ R.cells) (hslots : slots + n ≤ R.slots) (hB : bk G b L H) (hh : H.size = b + L.length) (hS : va_S A s.heap H locs)
    (kk : ∀ H1 : Heap, bk G b (L ++ [iA G n (fun _ => 0)]) H1 → va_S A s.heap H1 locs → H1.size = b + L.length + 1 → (∀ q : Nat, q < b + L.length → H1[q]? = H[q]?) → W p l e R s m args below meth c H1 locs (cells + 1) (slots + n) Q (F0 m (pc + 2) ls (.ref (b + L.length) :: rest))) : W p l e R s m args below meth c H locs cells slots Q (F0 m pc ls (.int x :: rest)) := by
  subst hx
  refine va_newaK (atype := .int) S.1 S.2.1 (S.2.2.2.2 _ harr) rfl hdg rfl (nI_pos (by omega)) (nI_clamp (by omega)) (by show n * 4 ≤ _; omega) hcells hslots hh fun H1 cA e1 z1 o1 hAr hNm => ?_
  have hcA : cA = G.2.1 0 := Option.some.inj (hNm.symm.trans (hK.1.2 0 _ rfl).2)
  subst hcA
  exact kk H1 (hB.push hh (e := iA G n (fun _ => 0)) e1 (fun q hq => o1 q (by rw [← hh]; exact hq))) ⟨Nat.le_trans hS.1 (by omega), fun x h1 h2 => (o1 x (Nat.lt_of_lt_of_le h1 (by rw [← hh]; exact hS.1))).trans (hS.2.1 x h1 h2), hS.2.2⟩ z1 o1
theorem knal (S : CallFix p m c cc nL s args WT own) (hK : gK G s) (harr : Cond.arrayClass .long ∈ WT) (hdg : decode cc pc = .ok (.newarray .long, 2)) (n : Nat) {x : Int32} (hx : x = nI n) (hn : n ≤ 65536) (hcells : cells + 1 ≤ R.cells) (hslots : slots + n ≤ R.slots) (hB : bk G b L H) (hh : H.size = b + L.length) (hS : va_S A s.heap H locs)
    (kk : ∀ H1 : Heap, bk G b (L ++ [lA G n (fun _ => 0)]) H1 → va_S A s.heap H1 locs → H1.size = b + L.length + 1 → (∀ q : Nat, q < b + L.length → H1[q]? = H[q]?) → W p l e R s m args below meth c H1 locs (cells + 1) (slots + n) Q (F0 m (pc + 2) ls (.ref (b + L.length) :: rest))) : W p l e R s m args below meth c H locs cells slots Q (F0 m pc ls (.int x :: rest)) := by
  subst hx
  refine va_newaK (atype := .long) S.1 S.2.1 (S.2.2.2.2 _ harr) rfl hdg rfl (nI_pos (by omega)) (nI_clamp (by omega)) (by show n * 8 ≤ _; omega) hcells hslots hh fun H1 cA e1 z1 o1 hAr hNm => ?_
  have hcA : cA = G.2.1 1 := Option.some.inj (hNm.symm.trans (hK.1.2 1 _ rfl).2)
  subst hcA
  exact kk H1 (hB.push hh (e := lA G n (fun _ => 0)) e1 (fun q hq => o1 q (by rw [← hh]; exact hq))) ⟨Nat.le_trans hS.1 (by omega), fun x h1 h2 => (o1 x (Nat.lt_of_lt_of_le h1 (by rw [← hh]; exact hS.1))).trans (hS.2.1 x h1 h2), hS.2.2⟩ z1 o1
theorem knq {C : String} {idx : Nat} (S : CallFix p m c cc nL s args WT own) (hK : gK G s) (hl : Cond.classLink own idx C ∈ WT) (hover : va_AO C s) (t : Nat) (ht : (gTys G)[t]? = some (G.2.1 t, .object C)) (hdg : decode cc pc = .ok (.anewarray idx, 3)) (n : Nat) {x : Int32} (hx : x = nI n) (hn : n ≤ 65536) (hcells : cells + 1 ≤ R.cells) (hslots : slots + n ≤ R.slots) (hB : bk G b L H) (hh : H.size = b + L.length) (hS : va_S A s.heap H locs)
    (kk : ∀ H1 : Heap, bk G b (L ++ [qA G t n (fun _ => none)]) H1 → va_S A s.heap H1 locs → H1.size = b + L.length + 1 → (∀ q : Nat, q < b + L.length → H1[q]? = H[q]?) → W p l e R s m args below meth c H1 locs (cells + 1) (slots + n) Q (F0 m (pc + 3) ls (.ref (b + L.length) :: rest))) : W p l e R s m args below meth c H locs cells slots Q (F0 m pc ls (.int x :: rest)) := by
  subst hx
  have hc : (nI n).toNatClampNeg = n := nI_clamp (by omega)
  refine W.anew S.1 S.2.1 S.2.2.2.1 (S.2.2.2.2 _ hl) (va_AO.use hover) rfl hdg rfl (nI_pos (by omega)) (by rw [hc]; show n * 4 ≤ _; omega) hcells (by rw [hc]; exact hslots) fun cA kA comp f1 f2 f3 f4 => ?_
  rw [hc]
  generalize hH1 : H.push ({ cls := cA, slots := Array.replicate n .null, vm := .none } : Cell) = H1
  have z1 : H1.size = b + L.length + 1 := by rw [← hH1, Array.size_push, hh]
  have e1 : H1[b + L.length]? = some (arrV cA n (fun _ => .null)) := by rw [← hH1, ← hh, Array.getElem?_push_size, ← arrV_new]
  have o1 : ∀ q : Nat, q < b + L.length → H1[q]? = H[q]? := fun q hq => by rw [← hH1, Array.getElem?_push, if_neg (Nat.ne_of_lt (by rw [hh]; exact hq))]
  obtain ⟨kA2, comp2, g1, g2, g3, g4⟩ := (hK.1.2 t _ ht).2
  have hcA : cA = G.2.1 t := Option.some.inj (f1.symm.trans g4)
  subst hcA
  rw [hh]
  exact kk H1 (hB.push hh (e := qA G t n (fun _ => none)) e1 (fun q hq => o1 q (by rw [← hh]; exact hq))) ⟨Nat.le_trans hS.1 (by omega), fun x h1 h2 => (o1 x (Nat.lt_of_lt_of_le h1 (by rw [← hh]; exact hS.1))).trans (hS.2.1 x h1 h2), hS.2.2⟩ z1 o1
/-- arraylength -/
theorem kal (S : CallFix p m c cc nL s args WT own) (hK : gK G s) (hdg : decode cc pc = .ok (.arraylength, 1)) (j t : Nat) {x : vp_A} {ty : FieldType} (hB : bk G b L H) (he : L[j]? = some (.inl (G.2.1 t, x))) (ht : (gTys G)[t]? = some (G.2.1 t, ty))
    (kk : W p l e R s m args below meth c H locs cells slots Q (F0 m (pc + 1) ls (.int (nI x.1) :: rest))) : W p l e R s m args below meth c H locs cells slots Q (F0 m pc ls (.ref (b + j) :: rest)) :=
  va_alen S.1 S.2.1 hK.1 (hB.P he) 0 t rfl ht rfl hdg kk
/-- Object.<init> -/
theorem koi {idx b : Nat} (S : CallFix p m c cc nL s args WT own) (hl : Cond.methodLink own idx Lib.objectInit ∈ WT) (hi : Cond.instanceMethod Lib.objectInit ∈ WT) (hc : Cond.code Lib.objectInit ⟨#[0xb1]⟩ 1 none ∈ WT) (hdg : decode cc pc = .ok (.invokespecial idx, 3)) (hls : ls.size = nL) (hR : 1 ≤ R.frames ∧ 20 ≤ R.locals) (hW : (rest.map fun v => v.category).sum ≤ 8)
    (kk : W p l e R s m args below meth c H locs cells slots Q (F0 m (pc + 3) ls rest)) : W p l e R s m args below meth c H locs cells slots Q (F0 m pc ls (.ref b :: rest)) :=
  W.objInit S.1 S.2.1 S.2.2.2.1 (S.2.2.2.2 _ hl) (S.2.2.2.2 _ hi) (S.2.2.2.2 _ hc) rfl (by rw [S.2.2.1]; exact hls) rfl hdg hR.1 (by have := lv_room (m := m) (pc := pc) (ls := ls) (rest := rest) hW; exact Nat.le_trans (Nat.add_le_add_right this 12) hR.2) kk
end KB
