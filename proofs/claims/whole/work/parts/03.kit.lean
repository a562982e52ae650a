/-! the tables' words serve every method; blocks of cells; contracts; rows over blocks -/
def WT : List Cond := lw_tbl.filter goodWord
theorem wt_m {w : Cond} (h : w ∈ lw_tbl) (hg : goodWord w = true) : w ∈ WT := List.mem_filter.mpr ⟨h, hg⟩
theorem wt_g {w : Cond} (h : w ∈ WT) : goodWord w = true := (List.mem_filter.mp h).2
theorem wt_in {y : MethodName} {cc : ByteArray} {mL : Nat} {ret : Option FieldType} (h : Cond.code y cc mL ret ∈ WT) : GoodIn WT (.code y cc mL ret :: WT) := by
  intro w hw
  have hm : w ∈ WT := by
    rcases List.mem_cons.mp hw with rfl | h2
    · exact h
    · exact h2
  exact ⟨hm, good_of_word (wt_g hm)⟩
def b2i (b : Bool) : Int32 := if b then 1 else 0
theorem b2i_t {b : Bool} (h : b = true) : b2i b = 1 := by rw [h]; rfl
theorem b2i_f {b : Bool} (h : b = false) : b2i b = 0 := by rw [h]; rfl
theorem b2i_ne {b : Bool} (h : ¬ b2i b = 0) : b = true := by cases b <;> simp_all [b2i]
theorem b2i_eq {b : Bool} (h : b2i b = 0) : b = false := by cases b <;> simp_all [b2i]
def rL (f mc ms : Nat) : Room := { frames := f, cells := mc, slots := ms, locals := 40 * f }
abbrev Gt : Type := va_G × (Nat → ClassId) × (Nat × Cell × Nat × Cell)
abbrev gTys (G : Gt) : List (ClassId × FieldType) := [(G.2.1 0, .int), (G.2.1 1, .long), (G.2.1 2, .object "PuzzleParts$Board"), (G.2.1 3, .object "PuzzleParts$Net")]
/-- links to nest mates' own constructors, and that arrays of objects can be made -/
def gN (U : State) : Prop := va_Nw (.methodLinkNest "PuzzleParts" 34 ⟨"PuzzleParts$Floor", "<init>", "()V"⟩ "PuzzleParts") U ∧ va_Nw (.methodLinkNest "PuzzleParts" 184 ⟨"PuzzleParts$Net", "<init>", "()V"⟩ "PuzzleParts") U ∧ va_Nw (.methodLinkNest "PuzzleParts$Floor" 53 ⟨"PuzzleParts$Net", "<init>", "()V"⟩ "PuzzleParts") U ∧ va_AO "PuzzleParts$Board" U ∧ va_AO "PuzzleParts$Net" U
theorem gN.same {u U : State} (h : u.vm = U.vm) (hN : gN u) : gN U := ⟨va_Nw.same rfl h hN.1, va_Nw.same rfl h hN.2.1, va_Nw.same rfl h hN.2.2.1, va_AO.moved (by rw [h]; exact Vm.Alike.refl _) hN.2.2.2.1, va_AO.moved (by rw [h]; exact Vm.Alike.refl _) hN.2.2.2.2⟩
theorem gN.warm {s U : State} (hW : s.WarmedH U.vm) (hN : gN s) : gN U := ⟨va_Nw.warmM hW hN.1, va_Nw.warmM hW hN.2.1, va_Nw.warmM hW hN.2.2.1, va_AO.moved hW.alike hN.2.2.2.1, va_AO.moved hW.alike hN.2.2.2.2⟩
/-- the static array of letters: what the tables say of it -/
def gZ (Z : Nat × Cell × Nat × Cell) (U : State) : Prop := ∃ (cf : ClassId) (kf : Class) (fi : Nat) (f : Field), U.fieldFound? "PuzzleParts$FormulaText" "LETTERS" "[J" = some (cf, kf, fi, f) ∧ f.isStatic = true ∧ kf.init = .initialized ∧ kf.statics = some Z.2.2.1 ∧ Z.2.2.2.vm.isStatics = true ∧ Z.2.2.2.slots[f.slot]? = some (.ref Z.1) ∧ U.isArrayOf Z.2.1 .long
theorem gZ.moved {Z : Nat × Cell × Nat × Cell} {u U : State} (hvm : u.vm.Alike U.vm) (h : gZ Z u) : gZ Z U := by
  obtain ⟨cf, kf, fi, f, h1, h2, h3, h4, h5, h6, h7⟩ := h
  obtain ⟨k', hi', he⟩ := State.fieldFound?_setVm hvm h1
  exact ⟨cf, k', fi, f, hi', h2, by rw [he]; exact h3, by rw [he]; exact h4, h5, h6, State.isArrayOf_alike hvm h7⟩
def gK (G : Gt) (U : State) : Prop := va_K G.1 vwCl (gTys G) U ∧ gN U ∧ gZ G.2.2 U
theorem gK.same {G : Gt} {u U : State} (h : u.vm = U.vm) (hK : gK G u) : gK G U := ⟨va_K.moved (by rw [h]; exact Vm.Alike.refl _) hK.1, hK.2.1.same h, hK.2.2.moved (by rw [h]; exact Vm.Alike.refl _)⟩
theorem gK.warm {G : Gt} {s U : State} (hW : s.WarmedH U.vm) (hK : gK G s) : gK G U := ⟨va_K.moved hW.alike hK.1, hK.2.1.warm hW, hK.2.2.moved hW.alike⟩
def bk (G : Gt) (b : Nat) (L : List va_E) (H : Heap) : Prop := ∀ (k : Nat) (e : va_E), L[k]? = some e → va_at G.1 vwCl (b + k, e) H
theorem bk.kept {G : Gt} {b : Nat} {L : List va_E} {H H1 : Heap} (h : bk G b L H) (hq : ∀ q : Nat, b ≤ q → q < b + L.length → H1[q]? = H[q]?) : bk G b L H1 :=
  fun k e hk => (h k e hk).kept (hq _ (Nat.le_add_right _ _) (Nat.add_lt_add_left (List.getElem?_eq_some_iff.mp hk).1 b))
theorem bk.lt {G : Gt} {b k : Nat} {L : List va_E} {H : Heap} (h : bk G b L H) (hk : k < L.length) : b + k < H.size := (h k L[k] (List.getElem?_eq_getElem hk)).lt
theorem bk.set {G : Gt} {b j : Nat} {L : List va_E} {H H1 : Heap} {e0 e : va_E} (h : bk G b L H) (hj : L[j]? = some e0) (he : va_at G.1 vwCl (b + j, e) H1) (oq : ∀ q : Nat, q ≠ b + j → H1[q]? = H[q]?) : bk G b (L.set j e) H1 := by
  have hl := (List.getElem?_eq_some_iff.mp hj).1
  intro k q hk
  by_cases hkj : k = j
  · subst hkj
    rw [List.getElem?_set_self hl] at hk
    cases hk
    exact he
  · rw [List.getElem?_set_ne (Ne.symm hkj)] at hk
    exact (h k q hk).kept (oq _ (fun z => hkj (Nat.add_left_cancel z)))
theorem bk.push {G : Gt} {b : Nat} {L : List va_E} {H H1 : Heap} {e : va_E} (h : bk G b L H) (hb : H.size = b + L.length) (he : va_at G.1 vwCl (b + L.length, e) H1) (oq : ∀ q : Nat, q < H.size → H1[q]? = H[q]?) : bk G b (L ++ [e]) H1 := by
  intro k q hk
  by_cases hl : k < L.length
  · rw [List.getElem?_append_left hl] at hk
    exact (h k q hk).kept (oq _ (h k q hk).lt)
  · rw [List.getElem?_append_right (by omega)] at hk
    have hz : k - L.length < 1 := (List.getElem?_eq_some_iff.mp hk).1
    have hk0 : k = L.length := by omega
    subst hk0
    rw [Nat.sub_self] at hk
    cases hk
    exact he
theorem bk.one {G : Gt} {b : Nat} {H : Heap} {e : va_E} (he : va_at G.1 vwCl (b, e) H) : bk G b [e] H := by
  intro k q hk
  have hz : k < 1 := (List.getElem?_eq_some_iff.mp hk).1
  have hk0 : k = 0 := by omega
  subst hk0
  cases hk
  exact he
/-- one cell of a block, as a world of one cell -/
theorem bk.P {G : Gt} {b j : Nat} {L : List va_E} {H : Heap} {e : va_E} (h : bk G b L H) (hj : L[j]? = some e) : va_P G.1 vwCl [(b + j, e)] H := by
  intro k q hk
  have hz : k < 1 := (List.getElem?_eq_some_iff.mp hk).1
  have hk0 : k = 0 := by omega
  subst hk0
  cases hk
  exact h j e hj
abbrev iA (G : Gt) (n : Nat) (f : Nat → Nat) : va_E := .inl (G.2.1 0, n, .inl (fun j => nI (f j)))
abbrev lA (G : Gt) (n : Nat) (f : Nat → Nat) : va_E := .inl (G.2.1 1, n, .inr (.inl (fun j => lN (f j))))
abbrev qA (G : Gt) (t n : Nat) (f : Nat → Option Nat) : va_E := .inl (G.2.1 t, n, .inr (.inr (.inr (.inr f))))
def uN (f : Nat → Nat) (i v : Nat) : Nat → Nat := fun j => if j = i then v else f j
theorem uN_s (f : Nat → Nat) (i v : Nat) : uN f i v i = v := by simp [uN]
theorem uN_n {f : Nat → Nat} {i v j : Nat} (h : j ≠ i) : uN f i v j = f j := by simp [uN, h]
/-- how a method's last instruction gives its answer -/
def KRet (cc : ByteArray) (pc : Nat) (ret : Option FieldType) (r : Option Value) : Prop :=
  (ret = none ∧ r = none ∧ decode cc pc = .ok (.return_, 1)) ∨ (∃ v, ret = some .int ∧ r = some (.int v) ∧ decode cc pc = .ok (.ireturn, 1)) ∨
  (∃ b, ret = some .boolean ∧ r = some (.int (b2i b)) ∧ decode cc pc = .ok (.ireturn, 1)) ∨ (∃ v, ret = some .long ∧ r = some (.long v) ∧ decode cc pc = .ok (.lreturn, 1)) ∨
  (∃ n, ret = some (.object n) ∧ (r = some .null ∨ ∃ a, r = some (.ref a)) ∧ decode cc pc = .ok (.areturn, 1))
theorem kr_v {cc : ByteArray} {pc : Nat} (h : decode cc pc = .ok (.return_, 1)) : KRet cc pc none none := Or.inl ⟨rfl, rfl, h⟩
theorem kr_i {cc : ByteArray} {pc : Nat} {v : Int32} (h : decode cc pc = .ok (.ireturn, 1)) : KRet cc pc (some .int) (some (.int v)) := Or.inr (Or.inl ⟨v, rfl, rfl, h⟩)
theorem kr_z {cc : ByteArray} {pc : Nat} {b : Bool} (h : decode cc pc = .ok (.ireturn, 1)) : KRet cc pc (some .boolean) (some (.int (b2i b))) := Or.inr (Or.inr (Or.inl ⟨b, rfl, rfl, h⟩))
theorem kr_l {cc : ByteArray} {pc : Nat} {v : Int64} (h : decode cc pc = .ok (.lreturn, 1)) : KRet cc pc (some .long) (some (.long v)) := Or.inr (Or.inr (Or.inr (Or.inl ⟨v, rfl, rfl, h⟩)))
theorem kr_a {cc : ByteArray} {pc a : Nat} {n : String} (h : decode cc pc = .ok (.areturn, 1)) : KRet cc pc (some (.object n)) (some (.ref a)) := Or.inr (Or.inr (Or.inr (Or.inr ⟨n, rfl, Or.inr ⟨a, rfl⟩, h⟩)))
theorem kr_n {cc : ByteArray} {pc : Nat} {n : String} (h : decode cc pc = .ok (.areturn, 1)) : KRet cc pc (some (.object n)) (some .null) := Or.inr (Or.inr (Or.inr (Or.inr ⟨n, rfl, Or.inl rfl, h⟩)))
theorem kr_q {cc : ByteArray} {pc : Nat} {r : Option Nat} {n : String} (h : decode cc pc = .ok (.areturn, 1)) : KRet cc pc (some (.object n)) (some (va_rf r)) := by
  cases r with
  | none => exact kr_n h
  | some a => exact kr_a h
/-- a contract: args, what the heap must be, the answer, what the heap then is; it writes in A alone -/
def Ct (l : Launch) (G : Gt) (y : MethodName) (cc : ByteArray) (mL : Nat) (ret : Option FieldType) (f mc ms : Nat) (av : List Value) (Pre : Heap → Prop) (r : Option Value) (Post : Heap → Prop) (A : Nat → Prop) : Prop :=
  Met l y (.code y cc mL ret :: WT) (rL f mc ms) (fun v U => v = av.toArray ∧ gK G U ∧ Pre U.heap) (fun _ st o t => (o = .returned r ∧ Post t.heap) ∧ va_F A st t) mc ms A
/-- a contract of a method that reads alone -/
def Cr (l : Launch) (G : Gt) (y : MethodName) (cc : ByteArray) (mL : Nat) (ret : Option FieldType) (f : Nat) (av : List Value) (Pre : Heap → Prop) (r : Option Value) : Prop :=
  Met l y (.code y cc mL ret :: WT) (rL f 0 0) (fun v U => v = av.toArray ∧ gK G U ∧ Pre U.heap) (fun _ st o t => o = .returned r ∧ t.heap = st.heap) 0 0 (fun _ => False)
section KE
variable {p : Program} {l : Launch} {e : Env} {R : Room} {s : State} {m : MethodId} {args : Array Value} {below : List Frame} {meth : Method} {c : Code} {H : Heap} {locs : List Loc} {cells slots : Nat} {Q : State → Prop}
variable {cc : ByteArray} {pc : Nat} {ls : Array Slot} {rest : List Value}
theorem kr_end {ret : Option FieldType} {r : Option Value} {Qc : Array Value → State → Outcome → State → Prop} {free : Addr → Prop} (hx : p.tables.exec = Jvm.exec) (hb : c.code = cc) (hr : meth.sig.returnType = ret) (hlocks : meth.locks = false) (hk : KRet cc pc ret r)
    (hq : ∀ t : State, t.heap = H → s.WarmedH t.vm → Qc args s (.returned r) t) (hf : ∀ q ∈ locs, free q.base) : W p l e R s m args below meth c H locs cells slots (MQ below Qc args s cells slots free) (F0 m pc ls r.toList) := by
  rcases hk with ⟨h1, h2, h3⟩ | ⟨v, h1, h2, h3⟩ | ⟨v, h1, h2, h3⟩ | ⟨v, h1, h2, h3⟩ | ⟨n, h1, h2, h3⟩
  · subst h2; subst h1
    exact W.vret hx hb hr hq hf h3 hlocks
  · subst h2; subst h1
    exact W.iret hx hb hr hq hf h3 hlocks
  · subst h2; subst h1
    exact W.zret hx hb hr (by cases v <;> rfl) hq hf h3 hlocks
  · subst h2; subst h1
    exact W.lret hx hb hr hq hf h3 hlocks
  · rcases h2 with h2 | ⟨a, h2⟩
    · subst h2; subst h1
      exact W.aret hx hb hr (Or.inl ⟨n, rfl⟩) (Or.inl rfl) hq hf h3 hlocks
    · subst h2; subst h1
      exact W.aret hx hb hr (Or.inl ⟨n, rfl⟩) (Or.inr ⟨a, rfl⟩) hq hf h3 hlocks
end KE
theorem ct_entry {l : Launch} {G : Gt} {y : MethodName} {cc : ByteArray} {mL : Nat} {ret : Option FieldType} {f mc ms : Nat} {av : List Value} {Pre : Heap → Prop} {r : Option Value} {Post : Heap → Prop} {A : Nat → Prop} (lv : List (Nat × Value)) (hy : plainName y.cls = true) (hlen : (lg_sl av).length ≤ mL) (hlv : lv_args 0 av = lv)
    (body : ∀ (p : Program) (e : Env) (s : State) (m : MethodId) (args : Array Value) (below : List Frame) (meth : Method) (c : Code) (Q : State → Prop), CallFix p m c cc mL s args WT y.cls → gK G s → Pre s.heap → meth.name = y.name →
      (∀ (H : Heap) (locs : List Loc) (cells slots pc : Nat) (ls : Array Slot), KRet cc pc ret r → va_S A s.heap H locs → cells ≤ mc → slots ≤ ms → Post H → W p l e (rL f mc ms) s m args below meth c H locs cells slots Q (F0 m pc ls r.toList)) →
      ∀ ls : Array Slot, lv_has ls mL lv → W p l e (rL f mc ms) s m args below meth c s.heap [] 0 0 Q (F0 m 0 ls [])) : Ct l G y cc mL ret f mc ms av Pre r Post A := by
  refine Met.ofW (cc := cc) (maxL := mL) (ret := ret) hy rfl ?_
  intro p e s m args below meth c s₁ B hml hv
  obtain ⟨hav, hK, hPre⟩ := hv
  have hts := atoms_spec (ws := (.code y cc mL ret :: WT)) B.pre
  have hl := lv_entry av (n := mL) hlen
  rw [hav, lg_entry_eq]
  rw [hlv] at hl
  generalize (lg_sl av ++ List.replicate (mL - (lg_sl av).length) Slot.unset).toArray = ls at hl ⊢
  rw [← hav]
  refine body p e s m args below meth c _ ⟨B.exec, B.bytes, hml, findClass_of_methodNamed B.named, fun w hw => hts w (List.mem_cons_of_mem _ hw)⟩ hK hPre (name_of_methodNamed B.named B.method).1 ?_ ls hl
  intro H locs cells slots pc ls hk hS hc hs hPost
  refine W.widen (k := mc) (n := ms) hc hs ?_
  exact kr_end B.exec B.bytes B.returns B.notSynchronized hk (fun t ht hW => ⟨⟨rfl, by rw [ht]; exact hPost⟩, hS.F ht⟩) hS.2.2
theorem cr_entry {l : Launch} {G : Gt} {y : MethodName} {cc : ByteArray} {mL : Nat} {ret : Option FieldType} {f : Nat} {av : List Value} {Pre : Heap → Prop} {r : Option Value} (lv : List (Nat × Value)) (hy : plainName y.cls = true) (hlen : (lg_sl av).length ≤ mL) (hlv : lv_args 0 av = lv)
    (body : ∀ (p : Program) (e : Env) (s : State) (m : MethodId) (args : Array Value) (below : List Frame) (meth : Method) (c : Code) (Q : State → Prop), CallFix p m c cc mL s args WT y.cls → gK G s → Pre s.heap →
      (∀ (pc : Nat) (ls : Array Slot), KRet cc pc ret r → W p l e (rL f 0 0) s m args below meth c s.heap [] 0 0 Q (F0 m pc ls r.toList)) →
      ∀ ls : Array Slot, lv_has ls mL lv → W p l e (rL f 0 0) s m args below meth c s.heap [] 0 0 Q (F0 m 0 ls [])) : Cr l G y cc mL ret f av Pre r := by
  refine Met.ofW (cc := cc) (maxL := mL) (ret := ret) hy rfl ?_
  intro p e s m args below meth c s₁ B hml hv
  obtain ⟨hav, hK, hPre⟩ := hv
  have hts := atoms_spec (ws := (.code y cc mL ret :: WT)) B.pre
  have hl := lv_entry av (n := mL) hlen
  rw [hav, lg_entry_eq]
  rw [hlv] at hl
  generalize (lg_sl av ++ List.replicate (mL - (lg_sl av).length) Slot.unset).toArray = ls at hl ⊢
  rw [← hav]
  refine body p e s m args below meth c _ ⟨B.exec, B.bytes, hml, findClass_of_methodNamed B.named, fun w hw => hts w (List.mem_cons_of_mem _ hw)⟩ hK hPre ?_ ls hl
  intro pc ls hk
  exact kr_end B.exec B.bytes B.returns B.notSynchronized hk (fun t ht hW => ⟨rfl, ht⟩) (fun _ h => by cases h)
section KC
variable {p : Program} {l : Launch} {e : Env} {R : Room} {s : State} {m : MethodId} {args : Array Value} {below : List Frame} {meth : Method} {c : Code} {H : Heap} {locs : List Loc} {cells slots : Nat} {Q : State → Prop}
variable {cc : ByteArray} {pc nL : Nat} {ls : Array Slot} {rest st0 : List Value} {own : String} {G : Gt} {y : MethodName} {bytes : ByteArray} {maxL f mc ms n idx b : Nat} {ret : Option FieldType} {As : List Value} {Pre Post : Heap → Prop} {A0 A1 : Nat → Prop} {v : Value}
/-- what a call's place tells, by the tables: a method of objects, a static one, a constructor; and its link -/
abbrev CwL (own : String) (idx : Nat) (y : MethodName) (bytes : ByteArray) (maxL : Nat) (ret : Option FieldType) (n : Nat) : Prop :=
  (Cond.methodLink own idx y ∈ WT ∨ ∃ h, ∀ U, gN U → va_Nw (.methodLinkNest own idx y h) U) ∧ Cond.initialized y.cls ∈ WT ∧ Cond.code y bytes maxL ret ∈ WT ∧
  (y.cls ≠ "java/lang/invoke/MethodHandle" ∧ y.cls ≠ "java/lang/invoke/VarHandle" ∧ (parseMethodDescriptor y.desc).map (fun d => d.parameters.length) = some n)
abbrev CwV (own : String) (idx : Nat) (y : MethodName) (bytes : ByteArray) (maxL : Nat) (ret : Option FieldType) (n : Nat) : Prop :=
  CwL own idx y bytes maxL ret n ∧ Cond.instanceMethod y ∈ WT ∧ Cond.selects y.cls y y ∈ WT
abbrev CwS (own : String) (idx : Nat) (y : MethodName) (bytes : ByteArray) (maxL : Nat) (ret : Option FieldType) (n : Nat) : Prop :=
  CwL own idx y bytes maxL ret n ∧ Cond.static y ∈ WT
abbrev CwI (own : String) (idx : Nat) (y : MethodName) (bytes : ByteArray) (maxL : Nat) (n : Nat) : Prop :=
  CwL own idx y bytes maxL none n ∧ y.name = "<init>" ∧ Cond.instanceMethod y ∈ WT
theorem cb_of (S : CallFix p m c cc nL s args WT own) (h : Cond.methodLink own idx y ∈ WT) (hi : Cond.initialized y.cls ∈ WT) (hc : Cond.code y bytes maxL ret ∈ WT) (hd : y.cls ≠ "java/lang/invoke/MethodHandle" ∧ y.cls ≠ "java/lang/invoke/VarHandle" ∧ (parseMethodDescriptor y.desc).map (fun d => d.parameters.length) = some n) (hR : f + 1 ≤ R.frames ∧ 8 + (maxL + 11) + 40 * f ≤ R.locals) :
    CallB R s args own idx y bytes maxL ret (.code y bytes maxL ret :: WT) (rL f mc ms) mc ms n := by
  obtain ⟨-, -, -, -, hts⟩ := S
  exact callB_of n hts (wt_in hc) rfl rfl rfl (hts _ hi) (hts _ h) hd hR
theorem cn_of (S : CallFix p m c cc nL s args WT own) (hK : gK G s) {host : String} (h : ∀ U, gN U → va_Nw (.methodLinkNest own idx y host) U) (hi : Cond.initialized y.cls ∈ WT) (hc : Cond.code y bytes maxL ret ∈ WT) (hd : y.cls ≠ "java/lang/invoke/MethodHandle" ∧ y.cls ≠ "java/lang/invoke/VarHandle" ∧ (parseMethodDescriptor y.desc).map (fun d => d.parameters.length) = some n) (hR : f + 1 ≤ R.frames ∧ 8 + (maxL + 11) + 40 * f ≤ R.locals) :
    va_CN R s args own idx y host bytes maxL ret (.code y bytes maxL ret :: WT) (rL f mc ms) mc ms n := by
  obtain ⟨-, -, -, -, hts⟩ := S
  exact va_cnB n hts (wt_in hc) rfl rfl rfl (h s hK.2.1) (hts _ hi) hd hR
theorem pc_blind {av : List Value} : FrameBlind (fun v U => v = av.toArray ∧ gK G U ∧ Pre U.heap) := fun a U g mk q => ⟨q.1, gK.same (u := U) (U := U.calling g mk a) rfl q.2.1, q.2.2⟩
theorem pc_at {av : List Value} (hK : gK G s) (hpre : Pre H) : ∀ U : State, U.heap = H → s.WarmedH U.vm → (av.toArray = av.toArray ∧ gK G U ∧ Pre U.heap) := fun U hU hW => ⟨rfl, gK.warm hW hK, by rw [hU]; exact hpre⟩
abbrev KRun (p : Program) (l : Launch) (e : Env) (R : Room) (s : State) (m : MethodId) (args : Array Value) (below : List Frame) (meth : Method) (c : Code) (H : Heap) (locs : List Loc) (cells slots mc ms : Nat) (g : JFrame) (rest : List Value) (Qa : State → Outcome → State → Prop) (free : Addr → Prop) : Prop :=
  va_Run p l e R s m args below meth c H locs cells slots mc ms g rest Qa free
theorem kc_runV {Qc : Array Value → State → Outcome → State → Prop} (S : CallFix p m c cc nL s args WT own) (hK : gK G s) (hM : Met l y (.code y bytes maxL ret :: WT) (rL f mc ms) (fun v U => v = (Value.ref b :: As).toArray ∧ gK G U ∧ Pre U.heap) Qc mc ms A1) (cw : CwV own idx y bytes maxL ret n) (hn : As.length = n) (hR : f + 1 ≤ R.frames ∧ 8 + (maxL + 11) + 40 * f ≤ R.locals) (hf : cells + mc ≤ R.cells ∧ slots + ms ≤ R.slots) (hob : ∃ cell : Cell, H[b]? = some cell ∧ cell.vm.isStatics = false ∧ s.vm.findClass y.cls = some cell.cls) (hls : ls.size = nL) (hst : st0 = As.reverse ++ .ref b :: rest) (hW : (rest.map fun v => v.category).sum ≤ 8) (hdg : decode cc pc = .ok (.invokevirtual idx, 3)) (hpre : Pre H) :
    KRun p l e R s m args below meth c H locs cells slots mc ms (F0 m pc ls st0) rest (Qc (Value.ref b :: As).toArray) A1 := by
  obtain ⟨⟨hl, hi, hc, hd⟩, h2, h3⟩ := cw
  have hts := S.2.2.2.2
  rcases hl with hl | ⟨host, hl⟩
  · exact va_runV S hM ⟨cb_of S hl hi hc hd hR, hts _ h2, hts _ h3⟩ ⟨pc_blind, hob, pc_at hK hpre⟩ rfl hn hls hst (lv_room hW) hdg hf
  · exact va_runVN S hM ⟨cn_of S hK hl hi hc hd hR, hts _ h2, hts _ h3⟩ ⟨pc_blind, hob, pc_at hK hpre⟩ rfl hn hls hst (lv_room hW) hdg hf
theorem kc_runS {Qc : Array Value → State → Outcome → State → Prop} (S : CallFix p m c cc nL s args WT own) (hK : gK G s) (hM : Met l y (.code y bytes maxL ret :: WT) (rL f mc ms) (fun v U => v = As.toArray ∧ gK G U ∧ Pre U.heap) Qc mc ms A1) (cw : CwS own idx y bytes maxL ret n) (hn : As.length = n) (hR : f + 1 ≤ R.frames ∧ 8 + (maxL + 11) + 40 * f ≤ R.locals) (hf : cells + mc ≤ R.cells ∧ slots + ms ≤ R.slots) (hls : ls.size = nL) (hst : st0 = As.reverse ++ rest) (hW : (rest.map fun v => v.category).sum ≤ 8) (hdg : decode cc pc = .ok (.invokestatic idx, 3)) (hpre : Pre H) :
    KRun p l e R s m args below meth c H locs cells slots mc ms (F0 m pc ls st0) rest (Qc As.toArray) A1 := by
  obtain ⟨⟨hl, hi, hc, hd⟩, h2⟩ := cw
  have hts := S.2.2.2.2
  rcases hl with hl | ⟨host, hl⟩
  · exact va_runS S hM ⟨cb_of S hl hi hc hd hR, hts _ h2⟩ ⟨pc_blind, pc_at hK hpre⟩ rfl hn hls hst (lv_room hW) hdg hf
  · exact va_runSN S hM ⟨cn_of S hK hl hi hc hd hR, hts _ h2, trivial⟩ ⟨pc_blind, pc_at hK hpre⟩ rfl hn hls hst (lv_room hW) hdg hf
theorem kc_runI {Qc : Array Value → State → Outcome → State → Prop} (S : CallFix p m c cc nL s args WT own) (hK : gK G s) (hM : Met l y (.code y bytes maxL none :: WT) (rL f mc ms) (fun v U => v = (Value.ref b :: As).toArray ∧ gK G U ∧ Pre U.heap) Qc mc ms A1) (cw : CwI own idx y bytes maxL n) (hn : As.length = n) (hR : f + 1 ≤ R.frames ∧ 8 + (maxL + 11) + 40 * f ≤ R.locals) (hf : cells + mc ≤ R.cells ∧ slots + ms ≤ R.slots) (hls : ls.size = nL) (hst : st0 = As.reverse ++ .ref b :: rest) (hW : (rest.map fun v => v.category).sum ≤ 8) (hdg : decode cc pc = .ok (.invokespecial idx, 3)) (hpre : Pre H) :
    KRun p l e R s m args below meth c H locs cells slots mc ms (F0 m pc ls st0) rest (Qc (Value.ref b :: As).toArray) A1 := by
  obtain ⟨⟨hl, hi, hc, hd⟩, h2, h3⟩ := cw
  have hts := S.2.2.2.2
  rcases hl with hl | ⟨host, hl⟩
  · exact va_runI S hM ⟨cb_of S hl hi hc hd hR, h2, hts _ h3⟩ ⟨pc_blind, pc_at hK hpre⟩ rfl hn hls hst (lv_room hW) hdg hf
  · exact va_runIN S hM ⟨cn_of S hK hl hi hc hd hR, h2, hts _ h3⟩ ⟨pc_blind, pc_at hK hpre⟩ rfl hn hls hst (lv_room hW) hdg hf
/-- behind a call of a method that writes: the new heap, what stayed -/
theorem kc_go {r : Option Value} {a : Array Value} (hr : KRun p l e R s m args below meth c H locs cells slots mc ms (F0 m pc ls st0) rest (fun st o t => (o = .returned r ∧ Post t.heap) ∧ va_F A1 st t) A1) (hS : va_S A0 s.heap H locs) (hA : ∀ q, A1 q → A0 q)
    (kk : ∀ (H1 : Heap) (locs1 : List Loc), Post H1 → H.size ≤ H1.size → (∀ q : Nat, q < H.size → ¬ A1 q → H1[q]? = H[q]?) → va_S A0 s.heap H1 locs1 → W p l e R s m args below meth c H1 locs1 (cells + mc) (slots + ms) Q (F0 m (pc + 3) ls (r.toList ++ rest))) : W p l e R s m args below meth c H locs cells slots Q (F0 m pc ls st0) := by
  intro T hT X
  obtain ⟨v, st₀, t, T', L, h0, X', hL, e1, e2, ⟨⟨hv, hp⟩, hz, hk⟩, st⟩ := hr T hT X
  cases hv
  rw [h0] at hz hk
  obtain ⟨t2, a1, b1⟩ := kk T'.heap (locs ++ L) (by rw [e1]; exact hp) (by rw [e1]; exact hz) (fun q h1 h2 => by rw [e1]; exact hk q h1 h2)
    ⟨Nat.le_trans hS.1 (by rw [e1]; exact hz), fun q h1 h2 => by rw [e1, hk q (Nat.lt_of_lt_of_le h1 hS.1) (fun z => h2 (hA q z))]; exact hS.2.1 q h1 h2, fun q hq => by
      rcases List.mem_append.mp hq with h | h
      · exact hS.2.2 q h
      · exact hA _ (hL q h)⟩ T' rfl X'
  exact ⟨t2, st t2 a1, b1⟩
theorem kc_goR {r : Option Value} (hr : KRun p l e R s m args below meth c H locs cells slots 0 0 (F0 m pc ls st0) rest (fun st o t => o = .returned r ∧ t.heap = st.heap) (fun _ => False))
    (kk : W p l e R s m args below meth c H locs cells slots Q (F0 m (pc + 3) ls (r.toList ++ rest))) : W p l e R s m args below meth c H locs cells slots Q (F0 m pc ls st0) := by
  intro T hT X
  obtain ⟨v, st₀, t, T', L, h0, X', hL, e1, e2, ⟨hv, hh⟩, st⟩ := hr T hT X
  cases hv
  have hL0 : L = [] := by
    cases L with
    | nil => rfl
    | cons q _ => exact (hL q List.mem_cons_self).elim
  subst hL0
  rw [List.append_nil] at X'
  obtain ⟨t2, a1, b1⟩ := kk T' (by rw [e1, hh, h0]) X'
  exact ⟨t2, st t2 a1, b1⟩
/-- the rows of a call: with an answer, without; reading alone, writing -/
theorem crV (S : CallFix p m c cc nL s args WT own) (hK : gK G s) (hC : Cr l G y bytes maxL ret f (.ref b :: As) Pre (some v)) (cw : CwV own idx y bytes maxL ret n) (hn : As.length = n) (hR : f + 1 ≤ R.frames ∧ 8 + (maxL + 11) + 40 * f ≤ R.locals) (hf : cells + 0 ≤ R.cells ∧ slots + 0 ≤ R.slots) (hob : ∃ cell : Cell, H[b]? = some cell ∧ cell.vm.isStatics = false ∧ s.vm.findClass y.cls = some cell.cls) (hls : ls.size = nL) (hst : st0 = As.reverse ++ .ref b :: rest) (hW : (rest.map fun v => v.category).sum ≤ 8) (hdg : decode cc pc = .ok (.invokevirtual idx, 3)) (hpre : Pre H)
    (kk : W p l e R s m args below meth c H locs cells slots Q (F0 m (pc + 3) ls (v :: rest))) : W p l e R s m args below meth c H locs cells slots Q (F0 m pc ls st0) :=
  kc_goR (kc_runV S hK hC cw hn hR hf hob hls hst hW hdg hpre) kk
theorem crS (S : CallFix p m c cc nL s args WT own) (hK : gK G s) (hC : Cr l G y bytes maxL ret f As Pre (some v)) (cw : CwS own idx y bytes maxL ret n) (hn : As.length = n) (hR : f + 1 ≤ R.frames ∧ 8 + (maxL + 11) + 40 * f ≤ R.locals) (hf : cells + 0 ≤ R.cells ∧ slots + 0 ≤ R.slots) (hls : ls.size = nL) (hst : st0 = As.reverse ++ rest) (hW : (rest.map fun v => v.category).sum ≤ 8) (hdg : decode cc pc = .ok (.invokestatic idx, 3)) (hpre : Pre H)
    (kk : W p l e R s m args below meth c H locs cells slots Q (F0 m (pc + 3) ls (v :: rest))) : W p l e R s m args below meth c H locs cells slots Q (F0 m pc ls st0) :=
  kc_goR (kc_runS S hK hC cw hn hR hf hls hst hW hdg hpre) kk
theorem ctV (S : CallFix p m c cc nL s args WT own) (hK : gK G s) (hC : Ct l G y bytes maxL ret f mc ms (.ref b :: As) Pre (some v) Post A1) (cw : CwV own idx y bytes maxL ret n) (hn : As.length = n) (hR : f + 1 ≤ R.frames ∧ 8 + (maxL + 11) + 40 * f ≤ R.locals) (hf : cells + mc ≤ R.cells ∧ slots + ms ≤ R.slots) (hob : ∃ cell : Cell, H[b]? = some cell ∧ cell.vm.isStatics = false ∧ s.vm.findClass y.cls = some cell.cls) (hls : ls.size = nL) (hst : st0 = As.reverse ++ .ref b :: rest) (hW : (rest.map fun v => v.category).sum ≤ 8) (hdg : decode cc pc = .ok (.invokevirtual idx, 3)) (hpre : Pre H) (hS : va_S A0 s.heap H locs) (hA : ∀ q, A1 q → A0 q)
    (kk : ∀ (H1 : Heap) (locs1 : List Loc), Post H1 → H.size ≤ H1.size → (∀ q : Nat, q < H.size → ¬ A1 q → H1[q]? = H[q]?) → va_S A0 s.heap H1 locs1 → W p l e R s m args below meth c H1 locs1 (cells + mc) (slots + ms) Q (F0 m (pc + 3) ls (v :: rest))) : W p l e R s m args below meth c H locs cells slots Q (F0 m pc ls st0) :=
  kc_go (a := args) (kc_runV S hK hC cw hn hR hf hob hls hst hW hdg hpre) hS hA kk
theorem ctVv (S : CallFix p m c cc nL s args WT own) (hK : gK G s) (hC : Ct l G y bytes maxL ret f mc ms (.ref b :: As) Pre none Post A1) (cw : CwV own idx y bytes maxL ret n) (hn : As.length = n) (hR : f + 1 ≤ R.frames ∧ 8 + (maxL + 11) + 40 * f ≤ R.locals) (hf : cells + mc ≤ R.cells ∧ slots + ms ≤ R.slots) (hob : ∃ cell : Cell, H[b]? = some cell ∧ cell.vm.isStatics = false ∧ s.vm.findClass y.cls = some cell.cls) (hls : ls.size = nL) (hst : st0 = As.reverse ++ .ref b :: rest) (hW : (rest.map fun v => v.category).sum ≤ 8) (hdg : decode cc pc = .ok (.invokevirtual idx, 3)) (hpre : Pre H) (hS : va_S A0 s.heap H locs) (hA : ∀ q, A1 q → A0 q)
    (kk : ∀ (H1 : Heap) (locs1 : List Loc), Post H1 → H.size ≤ H1.size → (∀ q : Nat, q < H.size → ¬ A1 q → H1[q]? = H[q]?) → va_S A0 s.heap H1 locs1 → W p l e R s m args below meth c H1 locs1 (cells + mc) (slots + ms) Q (F0 m (pc + 3) ls rest)) : W p l e R s m args below meth c H locs cells slots Q (F0 m pc ls st0) :=
  kc_go (a := args) (kc_runV S hK hC cw hn hR hf hob hls hst hW hdg hpre) hS hA kk
theorem ctS (S : CallFix p m c cc nL s args WT own) (hK : gK G s) (hC : Ct l G y bytes maxL ret f mc ms As Pre (some v) Post A1) (cw : CwS own idx y bytes maxL ret n) (hn : As.length = n) (hR : f + 1 ≤ R.frames ∧ 8 + (maxL + 11) + 40 * f ≤ R.locals) (hf : cells + mc ≤ R.cells ∧ slots + ms ≤ R.slots) (hls : ls.size = nL) (hst : st0 = As.reverse ++ rest) (hW : (rest.map fun v => v.category).sum ≤ 8) (hdg : decode cc pc = .ok (.invokestatic idx, 3)) (hpre : Pre H) (hS : va_S A0 s.heap H locs) (hA : ∀ q, A1 q → A0 q)
    (kk : ∀ (H1 : Heap) (locs1 : List Loc), Post H1 → H.size ≤ H1.size → (∀ q : Nat, q < H.size → ¬ A1 q → H1[q]? = H[q]?) → va_S A0 s.heap H1 locs1 → W p l e R s m args below meth c H1 locs1 (cells + mc) (slots + ms) Q (F0 m (pc + 3) ls (v :: rest))) : W p l e R s m args below meth c H locs cells slots Q (F0 m pc ls st0) :=
  kc_go (a := args) (kc_runS S hK hC cw hn hR hf hls hst hW hdg hpre) hS hA kk
theorem ctI (S : CallFix p m c cc nL s args WT own) (hK : gK G s) (hC : Ct l G y bytes maxL none f mc ms (.ref b :: As) Pre none Post A1) (cw : CwI own idx y bytes maxL n) (hn : As.length = n) (hR : f + 1 ≤ R.frames ∧ 8 + (maxL + 11) + 40 * f ≤ R.locals) (hf : cells + mc ≤ R.cells ∧ slots + ms ≤ R.slots) (hls : ls.size = nL) (hst : st0 = As.reverse ++ .ref b :: rest) (hW : (rest.map fun v => v.category).sum ≤ 8) (hdg : decode cc pc = .ok (.invokespecial idx, 3)) (hpre : Pre H) (hS : va_S A0 s.heap H locs) (hA : ∀ q, A1 q → A0 q)
    (kk : ∀ (H1 : Heap) (locs1 : List Loc), Post H1 → H.size ≤ H1.size → (∀ q : Nat, q < H.size → ¬ A1 q → H1[q]? = H[q]?) → va_S A0 s.heap H1 locs1 → W p l e R s m args below meth c H1 locs1 (cells + mc) (slots + ms) Q (F0 m (pc + 3) ls rest)) : W p l e R s m args below meth c H locs cells slots Q (F0 m pc ls st0) :=
  kc_go (a := args) (kc_runI S hK hC cw hn hR hf hls hst hW hdg hpre) hS hA kk
end KC
