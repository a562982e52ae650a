
/-! THE CLAIM OUT OF ONE WALK OF THE LAW'S BODY. Your part is whole_start (and what it stands on); all else here is the same for every law, but numbers. -/
def R_law : String := "PuzzlePartsLaw"
def lw_P (b : Addr) (xs : List Int32) (args : Array Value) (s : State) : Prop := args = #[.ref b] ∧ s.IntsAt b xs ∧ xs.length ≤ 2048 ∧ (Jvm.Cond.and given_1 narrow_1).before args s = true
def lw_Q (_ : Array Value) (s : State) (o : Outcome) (t : State) : Prop := o = .returned (some (.int 1)) ∧ Framed s o t [] 600000 7302250
def lw_Z (below : List Frame) (a : Array Value) (s : State) : State → Prop := fun t => ∃ o, t.status = .running ∧ Ended t below o ∧ lw_Q a s o t
/-- the law's own end, with 1 on the stack, nothing written that was there before, its room as the claim has it -/
theorem lw_ret {p : Program} {l : Launch} {e : Env} {s : State} {m : MethodId} {below : List Frame} {meth : Method} {c : Code} {b : Nat} (hx : p.tables.exec = Jvm.exec) (hb : c.code = code) (hr : meth.sig.returnType = ret) (hlocks : meth.locks = false) {pc : Nat} {H : Heap} {ls : Array Slot} (hdg : decode code pc = .ok (.ireturn, 1)) : W p l e room_1 s m #[Value.ref b] below meth c H [] 600000 7302250 (lw_Z below #[Value.ref b] s) (F0 m pc ls [.int 1]) := by
  intro T hT X
  obtain ⟨fs, hret, hrun, hended, hW, hframe⟩ := X.leave (v := some (.int 1)) (hlocks := hlocks) (fun h => by rw [hr] at h; cases h)
  have hmeth' : T.vm.method? m = some meth := X.method'
  refine ⟨T.setFrames fs, ?_, .returned (some (.int 1)), hrun, hended, rfl, ⟨_, rfl⟩, hW, hframe⟩
  jvm_step X.here [X.here.top, hx, hb, hdg, hmeth', hr, ret, narrow_b1]
  (try refine ⟨rfl, ?_⟩); (try refine ⟨rfl, ?_⟩)
  first | (intro acts; rw [hret _ acts rfl rfl rfl]) | rw [hret _ _ rfl rfl rfl]
  exact Steps.refl _
/-- what holds at the law's entry: the machine, the code, the tables' words (any of lw_tbl by 'hts w (by decide +kernel)'), the script of L ints xs at the cell b, what the Statement gives of the start (any of its parts by flat_of_before) -/
def lw_At (p : Program) (s : State) (m : MethodId) (meth : Method) (c : Code) (b L : Nat) (xs : Nat → Int32) : Prop :=
  p.tables.exec = Jvm.exec ∧ c.code = code ∧ meth.sig.returnType = ret ∧ c.maxLocals = 4 ∧ s.vm.findClass R_law = some m.cls ∧ (∀ w ∈ lw_tbl, w.before #[Value.ref b] s = true) ∧ va_X b L xs s s.heap ∧ b < s.heap.size ∧ meth.locks = false ∧ (Jvm.Cond.and given_1 narrow_1).before #[Value.ref b] s = true

/-! the law's loop -/

theorem and63 (x : Int32) : ∃ j : Nat, j < 64 ∧ x &&& nI 63 = nI j := by
  have e : nI x.toBitVec.toNat = x := by
    apply Int32.toBitVec_inj.mp
    rw [nb_I]
    apply BitVec.eq_of_toNat_eq
    simp
  refine ⟨x.toBitVec.toNat &&& 63, Nat.lt_succ_of_le Nat.and_le_right, ?_⟩
  rw [← nI_and, e]

section LKL
variable {p : Program} {l : Launch} {e : Env} {s : State} {m : MethodId} {below : List Frame} {meth : Method} {c : Code} {G : Gt} {b L om : Nat} {xs : Nat → Int32}
set_option maxHeartbeats 4000000 in
set_option maxRecDepth 100000 in
theorem law_loop (hr : meth.sig.returnType = ret) (hlocks : meth.locks = false) (S : CallFix p m c cL_law 4 s #[.ref b] WT RL) (hK : gK G s) (hX : va_X b L xs s s.heap) (hbl : b < s.heap.size) (hL : L ≤ 2048) : ∀ (n t : Nat) (H : Heap) (locs : List Loc) (ls : Array Slot), 4 * t ≤ L → L < 4 * t + n → va_S (fun q => s.heap.size ≤ q) s.heap H locs → LW G s.heap.size om H → lv_has ls 4 [(3, .int (nI (4 * t))), (2, .ref om), (1, .ref s.heap.size), (0, .ref b)] → W p l e room_1 s m #[.ref b] below meth c H locs (100 + 8 * t) (3000 + 132 * t) (lw_Z below #[Value.ref b] s) (F0 m 18 ls []) := by
  have hx := S.1
  have hb := S.2.1
  have hbo : ¬ s.heap.size ≤ b := Nat.not_le.mpr hbl
  intro n
  induction n with
  | zero =>
    intro t H locs ls h1 h2
    omega
  | succ n ih =>
    intro t H locs ls h1 h2 hS hW hl
    have hout : W p l e room_1 s m #[.ref b] below meth c H locs (100 + 8 * t) (3000 + 132 * t) (lw_Z below #[Value.ref b] s) (F0 m 1175 ls []) := by
      refine lv_iconst (v := 1) hx hb dL_law_1175 (by decide) ?_
      refine va_forget (fun q hq => hS.2.2 q hq) ?_
      refine W.widen (k := 600000) (n := 7302250) (by omega) (by omega) ?_
      exact lw_ret hx hb hr hlocks dL_law_1176
    refine lv_iload_n hx hb dL_law_18 rfl (lv_at hl 0 rfl) ?_
    refine lv_aload_n hx hb dL_law_19 rfl (lv_at hl 3 rfl) ?_
    refine va_slen hx hb hX hbl hbo hS dL_law_20 ?_
    refine w_top (v' := .int (nI L)) rfl ?_
    refine lv_iconst (v := nI 4) hx hb dL_law_21 (by decide) ?_
    by_cases h4 : 4 ≤ L
    · refine n_isub hx hb dL_law_22 h4 ?_
      refine n_icmp_gt (tgt := 1175) hx hb dL_law_23 (by decide) (by omega) (by omega) (fun _ => hout) (fun c_23 => ?_)
      refine lv_aload_n hx hb dL_law_26 rfl (lv_at hl 3 rfl) ?_
      refine lv_iload_n hx hb dL_law_27 rfl (lv_at hl 0 rfl) ?_
      refine va_sld hx hb hX hbl hbo hS (vp_in_nI (show 4 * t < L by omega) (by omega)) dL_law_28 ?_
      refine lv_bipush (v := nI 63) hx hb dL_law_29 (by decide) ?_
      refine lv_iand hx hb dL_law_31 ?_
      obtain ⟨j, hj, ej⟩ := and63 (xs (nI (4 * t)).toNatClampNeg)
      refine w_top (v' := .int (nI j)) (congrArg Value.int ej) ?_
      have hnext : ∀ (k1 k2 : Nat) (H1 : Heap) (locs1 : List Loc), k1 ≤ 100 + 8 * (t + 1) → k2 ≤ 3000 + 132 * (t + 1) → LW G s.heap.size om H1 → va_S (fun q => s.heap.size ≤ q) s.heap H1 locs1 → W p l e room_1 s m #[.ref b] below meth c H1 locs1 k1 k2 (lw_Z below #[Value.ref b] s) (F0 m 1169 ls []) := by
        intro k1 k2 H1 locs1 g1 g2 hW1 hS1
        refine lv_iinc (v := nI (4 * (t + 1))) (lv' := [(3, .int (nI (4 * (t + 1)))), (2, .ref om), (1, .ref s.heap.size), (0, .ref b)]) hx hb dL_law_1169 hl (k := 0) rfl (incN (4 * t) 4) (by decide) rfl (fun ls hl => ?_)
        refine lv_goto (tgt := 18) hx hb dL_law_1172 (by decide) ?_
        refine W.widen (k := 100 + 8 * (t + 1)) (n := 3000 + 132 * (t + 1)) g1 g2 ?_
        exact ih (t + 1) H1 locs1 ls (by omega) (by omega) hS1 hW1 hl
      by_cases h34 : j < 34
      · rcases (show j = 0 ∨ j = 1 ∨ j = 2 ∨ j = 3 ∨ j = 4 ∨ j = 5 ∨ j = 6 ∨ j = 7 ∨ j = 8 ∨ j = 9 ∨ j = 10 ∨ j = 11 ∨ j = 12 ∨ j = 13 ∨ j = 14 ∨ j = 15 ∨ j = 16 ∨ j = 17 ∨ j = 18 ∨ j = 19 ∨ j = 20 ∨ j = 21 ∨ j = 22 ∨ j = 23 ∨ j = 24 ∨ j = 25 ∨ j = 26 ∨ j = 27 ∨ j = 28 ∨ j = 29 ∨ j = 30 ∨ j = 31 ∨ j = 32 ∨ j = 33 by omega) with rfl | rfl | rfl | rfl | rfl | rfl | rfl | rfl | rfl | rfl | rfl | rfl | rfl | rfl | rfl | rfl | rfl | rfl | rfl | rfl | rfl | rfl | rfl | rfl | rfl | rfl | rfl | rfl | rfl | rfl | rfl | rfl | rfl | rfl
        · refine lv_tableIn (off := 152) (tgt := 184) hx hb dL_law_32 (by decide) (by decide) rfl (by decide) ?_
          exact lc_0 S hK hX hbl hbo hL (by omega) (by omega) (by omega) hS hW hl (fun H1 locs1 g1 g2 => hnext _ _ H1 locs1 (by omega) (by omega) g1 g2)
        · refine lv_tableIn (off := 215) (tgt := 247) hx hb dL_law_32 (by decide) (by decide) rfl (by decide) ?_
          exact lc_1 S hK hX hbl hbo hL (by omega) (by omega) (by omega) hS hW hl (fun H1 locs1 g1 g2 => hnext _ _ H1 locs1 (by omega) (by omega) g1 g2)
        · refine lv_tableIn (off := 228) (tgt := 260) hx hb dL_law_32 (by decide) (by decide) rfl (by decide) ?_
          exact lc_2 S hK hX hbl hbo hL (by omega) (by omega) (by omega) hS hW hl (fun H1 locs1 g1 g2 => hnext _ _ H1 locs1 (by omega) (by omega) g1 g2)
        · refine lv_tableIn (off := 261) (tgt := 293) hx hb dL_law_32 (by decide) (by decide) rfl (by decide) ?_
          exact lc_3 S hK hX hbl hbo hL (by omega) (by omega) (by omega) hS hW hl (fun H1 locs1 g1 g2 => hnext _ _ H1 locs1 (by omega) (by omega) g1 g2)
        · refine lv_tableIn (off := 294) (tgt := 326) hx hb dL_law_32 (by decide) (by decide) rfl (by decide) ?_
          exact lc_4 S hK hX hbl hbo hL (by omega) (by omega) (by omega) hS hW hl (fun H1 locs1 g1 g2 => hnext _ _ H1 locs1 (by omega) (by omega) g1 g2)
        · refine lv_tableIn (off := 318) (tgt := 350) hx hb dL_law_32 (by decide) (by decide) rfl (by decide) ?_
          exact lc_5 S hK hX hbl hbo hL (by omega) (by omega) (by omega) hS hW hl (fun H1 locs1 g1 g2 => hnext _ _ H1 locs1 (by omega) (by omega) g1 g2)
        · refine lv_tableIn (off := 351) (tgt := 383) hx hb dL_law_32 (by decide) (by decide) rfl (by decide) ?_
          exact lc_6 S hK hX hbl hbo hL (by omega) (by omega) (by omega) hS hW hl (fun H1 locs1 g1 g2 => hnext _ _ H1 locs1 (by omega) (by omega) g1 g2)
        · refine lv_tableIn (off := 394) (tgt := 426) hx hb dL_law_32 (by decide) (by decide) rfl (by decide) ?_
          exact lc_7 S hK hX hbl hbo hL (by omega) (by omega) (by omega) hS hW hl (fun H1 locs1 g1 g2 => hnext _ _ H1 locs1 (by omega) (by omega) g1 g2)
        · refine lv_tableIn (off := 418) (tgt := 450) hx hb dL_law_32 (by decide) (by decide) rfl (by decide) ?_
          exact lc_8 S hK hX hbl hbo hL (by omega) (by omega) (by omega) hS hW hl (fun H1 locs1 g1 g2 => hnext _ _ H1 locs1 (by omega) (by omega) g1 g2)
        · refine lv_tableIn (off := 431) (tgt := 463) hx hb dL_law_32 (by decide) (by decide) rfl (by decide) ?_
          exact lc_9 S hK hX hbl hbo hL (by omega) (by omega) (by omega) hS hW hl (fun H1 locs1 g1 g2 => hnext _ _ H1 locs1 (by omega) (by omega) g1 g2)
        · refine lv_tableIn (off := 465) (tgt := 497) hx hb dL_law_32 (by decide) (by decide) rfl (by decide) ?_
          exact lc_10 S hK hX hbl hbo hL (by omega) (by omega) (by omega) hS hW hl (fun H1 locs1 g1 g2 => hnext _ _ H1 locs1 (by omega) (by omega) g1 g2)
        · refine lv_tableIn (off := 498) (tgt := 530) hx hb dL_law_32 (by decide) (by decide) rfl (by decide) ?_
          exact lc_11 S hK hX hbl hbo hL (by omega) (by omega) (by omega) hS hW hl (fun H1 locs1 g1 g2 => hnext _ _ H1 locs1 (by omega) (by omega) g1 g2)
        · refine lv_tableIn (off := 531) (tgt := 563) hx hb dL_law_32 (by decide) (by decide) rfl (by decide) ?_
          exact lc_12 S hK hX hbl hbo hL (by omega) (by omega) (by omega) hS hW hl (fun H1 locs1 g1 g2 => hnext _ _ H1 locs1 (by omega) (by omega) g1 g2)
        · refine lv_tableIn (off := 554) (tgt := 586) hx hb dL_law_32 (by decide) (by decide) rfl (by decide) ?_
          exact lc_13 S hK hX hbl hbo hL (by omega) (by omega) (by omega) hS hW hl (fun H1 locs1 g1 g2 => hnext _ _ H1 locs1 (by omega) (by omega) g1 g2)
        · refine lv_tableIn (off := 577) (tgt := 609) hx hb dL_law_32 (by decide) (by decide) rfl (by decide) ?_
          exact lc_14 S hK hX hbl hbo hL (by omega) (by omega) (by omega) hS hW hl (fun H1 locs1 g1 g2 => hnext _ _ H1 locs1 (by omega) (by omega) g1 g2)
        · refine lv_tableIn (off := 610) (tgt := 642) hx hb dL_law_32 (by decide) (by decide) rfl (by decide) ?_
          exact lc_15 S hK hX hbl hbo hL (by omega) (by omega) (by omega) hS hW hl (fun H1 locs1 g1 g2 => hnext _ _ H1 locs1 (by omega) (by omega) g1 g2)
        · refine lv_tableIn (off := 643) (tgt := 675) hx hb dL_law_32 (by decide) (by decide) rfl (by decide) ?_
          exact lc_16 S hK hX hbl hbo hL (by omega) (by omega) (by omega) hS hW hl (fun H1 locs1 g1 g2 => hnext _ _ H1 locs1 (by omega) (by omega) g1 g2)
        · refine lv_tableIn (off := 676) (tgt := 708) hx hb dL_law_32 (by decide) (by decide) rfl (by decide) ?_
          exact lc_17 S hK hX hbl hbo hL (by omega) (by omega) (by omega) hS hW hl (fun H1 locs1 g1 g2 => hnext _ _ H1 locs1 (by omega) (by omega) g1 g2)
        · refine lv_tableIn (off := 699) (tgt := 731) hx hb dL_law_32 (by decide) (by decide) rfl (by decide) ?_
          exact lc_18 S hK hX hbl hbo hL (by omega) (by omega) (by omega) hS hW hl (fun H1 locs1 g1 g2 => hnext _ _ H1 locs1 (by omega) (by omega) g1 g2)
        · refine lv_tableIn (off := 722) (tgt := 754) hx hb dL_law_32 (by decide) (by decide) rfl (by decide) ?_
          exact lc_19 S hK hX hbl hbo hL (by omega) (by omega) (by omega) hS hW hl (fun H1 locs1 g1 g2 => hnext _ _ H1 locs1 (by omega) (by omega) g1 g2)
        · refine lv_tableIn (off := 765) (tgt := 797) hx hb dL_law_32 (by decide) (by decide) rfl (by decide) ?_
          exact lc_20 S hK hX hbl hbo hL (by omega) (by omega) (by omega) hS hW hl (fun H1 locs1 g1 g2 => hnext _ _ H1 locs1 (by omega) (by omega) g1 g2)
        · refine lv_tableIn (off := 778) (tgt := 810) hx hb dL_law_32 (by decide) (by decide) rfl (by decide) ?_
          exact lc_21 S hK hX hbl hbo hL (by omega) (by omega) (by omega) hS hW hl (fun H1 locs1 g1 g2 => hnext _ _ H1 locs1 (by omega) (by omega) g1 g2)
        · refine lv_tableIn (off := 811) (tgt := 843) hx hb dL_law_32 (by decide) (by decide) rfl (by decide) ?_
          exact lc_22 S hK hX hbl hbo hL (by omega) (by omega) (by omega) hS hW hl (fun H1 locs1 g1 g2 => hnext _ _ H1 locs1 (by omega) (by omega) g1 g2)
        · refine lv_tableIn (off := 854) (tgt := 886) hx hb dL_law_32 (by decide) (by decide) rfl (by decide) ?_
          exact lc_23 S hK hX hbl hbo hL (by omega) (by omega) (by omega) hS hW hl (fun H1 locs1 g1 g2 => hnext _ _ H1 locs1 (by omega) (by omega) g1 g2)
        · refine lv_tableIn (off := 887) (tgt := 919) hx hb dL_law_32 (by decide) (by decide) rfl (by decide) ?_
          exact lc_24 S hK hX hbl hbo hL (by omega) (by omega) (by omega) hS hW hl (fun H1 locs1 g1 g2 => hnext _ _ H1 locs1 (by omega) (by omega) g1 g2)
        · refine lv_tableIn (off := 920) (tgt := 952) hx hb dL_law_32 (by decide) (by decide) rfl (by decide) ?_
          exact lc_25 S hK hX hbl hbo hL (by omega) (by omega) (by omega) hS hW hl (fun H1 locs1 g1 g2 => hnext _ _ H1 locs1 (by omega) (by omega) g1 g2)
        · refine lv_tableIn (off := 953) (tgt := 985) hx hb dL_law_32 (by decide) (by decide) rfl (by decide) ?_
          exact lc_26 S hK hX hbl hbo hL (by omega) (by omega) (by omega) hS hW hl (fun H1 locs1 g1 g2 => hnext _ _ H1 locs1 (by omega) (by omega) g1 g2)
        · refine lv_tableIn (off := 986) (tgt := 1018) hx hb dL_law_32 (by decide) (by decide) rfl (by decide) ?_
          exact lc_27 S hK hX hbl hbo hL (by omega) (by omega) (by omega) hS hW hl (fun H1 locs1 g1 g2 => hnext _ _ H1 locs1 (by omega) (by omega) g1 g2)
        · refine lv_tableIn (off := 1029) (tgt := 1061) hx hb dL_law_32 (by decide) (by decide) rfl (by decide) ?_
          exact lc_28 S hK hX hbl hbo hL (by omega) (by omega) (by omega) hS hW hl (fun H1 locs1 g1 g2 => hnext _ _ H1 locs1 (by omega) (by omega) g1 g2)
        · refine lv_tableIn (off := 1042) (tgt := 1074) hx hb dL_law_32 (by decide) (by decide) rfl (by decide) ?_
          exact lc_29 S hK hX hbl hbo hL (by omega) (by omega) (by omega) hS hW hl (fun H1 locs1 g1 g2 => hnext _ _ H1 locs1 (by omega) (by omega) g1 g2)
        · refine lv_tableIn (off := 1075) (tgt := 1107) hx hb dL_law_32 (by decide) (by decide) rfl (by decide) ?_
          exact lc_30 S hK hX hbl hbo hL (by omega) (by omega) (by omega) hS hW hl (fun H1 locs1 g1 g2 => hnext _ _ H1 locs1 (by omega) (by omega) g1 g2)
        · refine lv_tableIn (off := 1088) (tgt := 1120) hx hb dL_law_32 (by decide) (by decide) rfl (by decide) ?_
          exact lc_31 S hK hX hbl hbo hL (by omega) (by omega) (by omega) hS hW hl (fun H1 locs1 g1 g2 => hnext _ _ H1 locs1 (by omega) (by omega) g1 g2)
        · refine lv_tableIn (off := 1101) (tgt := 1133) hx hb dL_law_32 (by decide) (by decide) rfl (by decide) ?_
          exact lc_32 S hK hX hbl hbo hL (by omega) (by omega) (by omega) hS hW hl (fun H1 locs1 g1 g2 => hnext _ _ H1 locs1 (by omega) (by omega) g1 g2)
        · refine lv_tableIn (off := 1114) (tgt := 1146) hx hb dL_law_32 (by decide) (by decide) rfl (by decide) ?_
          exact lc_33 S hK hX hbl hbo hL (by omega) (by omega) (by omega) hS hW hl (fun H1 locs1 g1 g2 => hnext _ _ H1 locs1 (by omega) (by omega) g1 g2)
      · refine lv_tableOut (tgt := 1169) hx hb dL_law_32 (Or.inr (by rw [nI_toInt (by omega)]; omega)) (by decide) ?_
        exact hnext _ _ H locs (by omega) (by omega) hW hS
    · have h0 : t = 0 := by omega
      subst h0
      refine lv_isub hx hb dL_law_22 ?_
      refine lv_icmp_gt (tgt := 1175) hx hb dL_law_23 (by decide) (fun _ => hout) (fun c_23 => ?_)
      exfalso
      apply c_23
      rcases (show L = 0 ∨ L = 1 ∨ L = 2 ∨ L = 3 by omega) with rfl | rfl | rfl | rfl <;> decide
end LKL
