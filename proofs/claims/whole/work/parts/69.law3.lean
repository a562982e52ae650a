
/-! the law's cases -/
section LKC
variable {p : Program} {l : Launch} {e : Env} {s : State} {m : MethodId} {below : List Frame} {meth : Method} {c : Code} {H : Heap} {locs : List Loc} {cells slots : Nat} {Q : State → Prop} {ls : Array Slot} {G : Gt} {b L o om i : Nat} {xs : Nat → Int32}

theorem CW_rx {ν : Sx} (hK : gK G s) (h : CW G o om ν H) : ∃ cell : Cell, H[o]? = some cell ∧ cell.vm.isStatics = false ∧ s.vm.findClass RX6 = some cell.cls := by
  obtain ⟨pa, na, -, x, φ, ρ, qX, -⟩ := h
  exact bk.recv hK qX rfl rfl
theorem M_rx {μ : Sx} (hK : gK G s) (h : bk G om (mL G om μ) H) : ∃ cell : Cell, H[om]? = some cell ∧ cell.vm.isStatics = false ∧ s.vm.findClass RX7 = some cell.cls := bk.recv hK h rfl rfl

set_option maxHeartbeats 1000000 in
set_option maxRecDepth 100000 in
theorem lc_0 (S : CallFix p m c cL_law 4 s #[.ref b] WT RL) (hK : gK G s) (hX : va_X b L xs s s.heap) (hbl : b < s.heap.size) (hbo : ¬ o ≤ b) (hL : L ≤ 2048) (hi : i + 4 ≤ L) (hc : cells + 8 ≤ 600000) (hd : slots + 132 ≤ 7302250) (hS : va_S (fun q => o ≤ q) s.heap H locs) (hW : LW G o om H) (hl : lv_has ls 4 [(3, .int (nI i)), (2, .ref om), (1, .ref o), (0, .ref b)]) (kk : ∀ (H1 : Heap) (locs1 : List Loc), LW G o om H1 → va_S (fun q => o ≤ q) s.heap H1 locs1 → W p l e room_1 s m #[.ref b] below meth c H1 locs1 (cells + 8) (slots + 132) Q (F0 m 1169 ls [])) : W p l e room_1 s m #[.ref b] below meth c H locs cells slots Q (F0 m 184 ls []) := by
  have hx := S.1
  have hb := S.2.1
  obtain ⟨μ, hI, hCW, hM⟩ := hW
  obtain ⟨a1, ha1⟩ : ∃ a : Int32, xs (nI (i + 1)).toNatClampNeg = a := ⟨_, rfl⟩
  obtain ⟨a2, ha2⟩ : ∃ a : Int32, xs (nI (i + 2)).toNatClampNeg = a := ⟨_, rfl⟩
  obtain ⟨a3, ha3⟩ : ∃ a : Int32, xs (nI (i + 3)).toNatClampNeg = a := ⟨_, rfl⟩
  obtain ⟨bv, hbv⟩ : ∃ v : Int64, (a2.toInt64 <<< ((nI 32).toInt64 &&& 63)) ||| (a3.toInt64 &&& 4294967295) = v := ⟨_, rfl⟩
  refine lv_aload_n hx hb dL_law_184 rfl (lv_at hl 2 rfl) ?_
  refine lv_aload_n hx hb dL_law_185 rfl (lv_at hl 3 rfl) ?_
  refine lv_iload_n hx hb dL_law_186 rfl (lv_at hl 0 rfl) ?_
  refine lv_iconst (v := nI 1) hx hb dL_law_187 (by decide) ?_
  refine n_iadd hx hb dL_law_188 ?_
  refine va_sld hx hb hX hbl hbo hS (vp_in_nI (show i + 1 < L by omega) (by omega)) dL_law_189 ?_
  refine w_top (v' := .int a1) (congrArg Value.int ha1) ?_
  refine lv_aload_n hx hb dL_law_190 rfl (lv_at hl 3 rfl) ?_
  refine lv_iload_n hx hb dL_law_191 rfl (lv_at hl 0 rfl) ?_
  refine lv_iconst (v := nI 2) hx hb dL_law_192 (by decide) ?_
  refine n_iadd hx hb dL_law_193 ?_
  refine va_sld hx hb hX hbl hbo hS (vp_in_nI (show i + 2 < L by omega) (by omega)) dL_law_194 ?_
  refine w_top (v' := .int a2) (congrArg Value.int ha2) ?_
  refine lv_i2l hx hb dL_law_195 rfl ?_
  refine lv_bipush (v := nI 32) hx hb dL_law_196 (by decide) ?_
  refine lv_lshl hx hb dL_law_198 rfl ?_
  refine lv_aload_n hx hb dL_law_199 rfl (lv_at hl 3 rfl) ?_
  refine lv_iload_n hx hb dL_law_200 rfl (lv_at hl 0 rfl) ?_
  refine lv_iconst (v := nI 3) hx hb dL_law_201 (by decide) ?_
  refine n_iadd hx hb dL_law_202 ?_
  refine va_sld hx hb hX hbl hbo hS (vp_in_nI (show i + 3 < L by omega) (by omega)) dL_law_203 ?_
  refine w_top (v' := .int a3) (congrArg Value.int ha3) ?_
  refine lv_i2l hx hb dL_law_204 rfl ?_
  refine lv_ldc2 (v := 4294967295) hx hb S.2.2.2.1 (S.2.2.2.2 _ q_1173) dL_law_205 ?_
  refine lv_land hx hb dL_law_208 ?_
  refine lv_lor hx hb dL_law_209 ?_
  refine w_top (v' := .long bv) (congrArg Value.long hbv) ?_
  refine ctV (rest := []) S hK (e_feed l G o om μ a1 bv hI) cw_L_15 rfl ⟨Nat.le_of_ble_eq_true rfl, Nat.le_of_ble_eq_true rfl⟩ ⟨(by show cells + 0 ≤ 600000; omega), (by show slots + 0 ≤ 7302250; omega)⟩ (CW_rx hK hCW) hl.1 rfl (Nat.le_of_ble_eq_true rfl) dL_law_210 ⟨hCW, hM⟩ hS (fun _ h => h) (fun H locs hP hz hk hS => ?_)
  refine W.widen (k := cells + 8) (n := slots + 132) (by omega) (by omega) ?_
  refine lv_aload_n hx hb dL_law_213 rfl (lv_at hl 1 rfl) ?_
  refine lv_aload_n hx hb dL_law_214 rfl (lv_at hl 3 rfl) ?_
  refine lv_iload_n hx hb dL_law_215 rfl (lv_at hl 0 rfl) ?_
  refine lv_iconst (v := nI 1) hx hb dL_law_216 (by decide) ?_
  refine n_iadd hx hb dL_law_217 ?_
  refine va_sld hx hb hX hbl hbo hS (vp_in_nI (show i + 1 < L by omega) (by omega)) dL_law_218 ?_
  refine w_top (v' := .int a1) (congrArg Value.int ha1) ?_
  refine lv_aload_n hx hb dL_law_219 rfl (lv_at hl 3 rfl) ?_
  refine lv_iload_n hx hb dL_law_220 rfl (lv_at hl 0 rfl) ?_
  refine lv_iconst (v := nI 2) hx hb dL_law_221 (by decide) ?_
  refine n_iadd hx hb dL_law_222 ?_
  refine va_sld hx hb hX hbl hbo hS (vp_in_nI (show i + 2 < L by omega) (by omega)) dL_law_223 ?_
  refine w_top (v' := .int a2) (congrArg Value.int ha2) ?_
  refine lv_i2l hx hb dL_law_224 rfl ?_
  refine lv_bipush (v := nI 32) hx hb dL_law_225 (by decide) ?_
  refine lv_lshl hx hb dL_law_227 rfl ?_
  refine lv_aload_n hx hb dL_law_228 rfl (lv_at hl 3 rfl) ?_
  refine lv_iload_n hx hb dL_law_229 rfl (lv_at hl 0 rfl) ?_
  refine lv_iconst (v := nI 3) hx hb dL_law_230 (by decide) ?_
  refine n_iadd hx hb dL_law_231 ?_
  refine va_sld hx hb hX hbl hbo hS (vp_in_nI (show i + 3 < L by omega) (by omega)) dL_law_232 ?_
  refine w_top (v' := .int a3) (congrArg Value.int ha3) ?_
  refine lv_i2l hx hb dL_law_233 rfl ?_
  refine lv_ldc2 (v := 4294967295) hx hb S.2.2.2.1 (S.2.2.2.2 _ q_1173) dL_law_234 ?_
  refine lv_land hx hb dL_law_237 ?_
  refine lv_lor hx hb dL_law_238 ?_
  refine w_top (v' := .long bv) (congrArg Value.long hbv) ?_
  refine ctV (rest := [.int (feed_M μ a1 bv).1]) S hK (m_feed l G o om μ a1 bv hI) cw_L_19 rfl ⟨Nat.le_of_ble_eq_true rfl, Nat.le_of_ble_eq_true rfl⟩ ⟨(by show cells + 8 + 0 ≤ 600000; omega), (by show slots + 132 + 0 ≤ 7302250; omega)⟩ (M_rx hK hP.2) hl.1 rfl (Nat.le_of_ble_eq_true rfl) dL_law_239 hP hS (fun _ h => h) (fun H locs hP hz hk hS => ?_)
  exact lv_icmp_eq (tgt := 1169) hx hb dL_law_242 (by decide) (fun _ => kk _ _ hP hS) (fun z => absurd rfl z)

set_option maxHeartbeats 1000000 in
set_option maxRecDepth 100000 in
theorem lc_1 (S : CallFix p m c cL_law 4 s #[.ref b] WT RL) (hK : gK G s) (hX : va_X b L xs s s.heap) (hbl : b < s.heap.size) (hbo : ¬ o ≤ b) (hL : L ≤ 2048) (hi : i + 4 ≤ L) (hc : cells + 8 ≤ 600000) (hd : slots + 132 ≤ 7302250) (hS : va_S (fun q => o ≤ q) s.heap H locs) (hW : LW G o om H) (hl : lv_has ls 4 [(3, .int (nI i)), (2, .ref om), (1, .ref o), (0, .ref b)]) (kk : ∀ (H1 : Heap) (locs1 : List Loc), LW G o om H1 → va_S (fun q => o ≤ q) s.heap H1 locs1 → W p l e room_1 s m #[.ref b] below meth c H1 locs1 (cells + 8) (slots + 132) Q (F0 m 1169 ls [])) : W p l e room_1 s m #[.ref b] below meth c H locs cells slots Q (F0 m 247 ls []) := by
  have hx := S.1
  have hb := S.2.1
  obtain ⟨μ, hI, hCW, hM⟩ := hW
  refine lv_aload_n hx hb dL_law_247 rfl (lv_at hl 2 rfl) ?_
  refine ctV (rest := []) S hK (e_part l G o om μ  hI) cw_L_20 rfl ⟨Nat.le_of_ble_eq_true rfl, Nat.le_of_ble_eq_true rfl⟩ ⟨(by show cells + 4 ≤ 600000; omega), (by show slots + 66 ≤ 7302250; omega)⟩ (CW_rx hK hCW) hl.1 rfl (Nat.le_of_ble_eq_true rfl) dL_law_248 ⟨hCW, hM⟩ hS (fun _ h => h) (fun H locs hP hz hk hS => ?_)
  refine W.widen (k := cells + 8) (n := slots + 132) (by omega) (by omega) ?_
  refine lv_aload_n hx hb dL_law_251 rfl (lv_at hl 1 rfl) ?_
  refine ctV (rest := [.int (part_M μ).1]) S hK (m_part l G o om μ  hI) cw_L_24 rfl ⟨Nat.le_of_ble_eq_true rfl, Nat.le_of_ble_eq_true rfl⟩ ⟨(by show cells + 8 + 0 ≤ 600000; omega), (by show slots + 132 + 0 ≤ 7302250; omega)⟩ (M_rx hK hP.2) hl.1 rfl (Nat.le_of_ble_eq_true rfl) dL_law_252 hP hS (fun _ h => h) (fun H locs hP hz hk hS => ?_)
  exact lv_icmp_eq (tgt := 1169) hx hb dL_law_255 (by decide) (fun _ => kk _ _ hP hS) (fun z => absurd rfl z)

set_option maxHeartbeats 1000000 in
set_option maxRecDepth 100000 in
theorem lc_2 (S : CallFix p m c cL_law 4 s #[.ref b] WT RL) (hK : gK G s) (hX : va_X b L xs s s.heap) (hbl : b < s.heap.size) (hbo : ¬ o ≤ b) (hL : L ≤ 2048) (hi : i + 4 ≤ L) (hc : cells + 8 ≤ 600000) (hd : slots + 132 ≤ 7302250) (hS : va_S (fun q => o ≤ q) s.heap H locs) (hW : LW G o om H) (hl : lv_has ls 4 [(3, .int (nI i)), (2, .ref om), (1, .ref o), (0, .ref b)]) (kk : ∀ (H1 : Heap) (locs1 : List Loc), LW G o om H1 → va_S (fun q => o ≤ q) s.heap H1 locs1 → W p l e room_1 s m #[.ref b] below meth c H1 locs1 (cells + 8) (slots + 132) Q (F0 m 1169 ls [])) : W p l e room_1 s m #[.ref b] below meth c H locs cells slots Q (F0 m 260 ls []) := by
  have hx := S.1
  have hb := S.2.1
  obtain ⟨μ, hI, hCW, hM⟩ := hW
  obtain ⟨a1, ha1⟩ : ∃ a : Int32, xs (nI (i + 1)).toNatClampNeg = a := ⟨_, rfl⟩
  obtain ⟨a2, ha2⟩ : ∃ a : Int32, xs (nI (i + 2)).toNatClampNeg = a := ⟨_, rfl⟩
  refine lv_aload_n hx hb dL_law_260 rfl (lv_at hl 2 rfl) ?_
  refine lv_aload_n hx hb dL_law_261 rfl (lv_at hl 3 rfl) ?_
  refine lv_iload_n hx hb dL_law_262 rfl (lv_at hl 0 rfl) ?_
  refine lv_iconst (v := nI 1) hx hb dL_law_263 (by decide) ?_
  refine n_iadd hx hb dL_law_264 ?_
  refine va_sld hx hb hX hbl hbo hS (vp_in_nI (show i + 1 < L by omega) (by omega)) dL_law_265 ?_
  refine w_top (v' := .int a1) (congrArg Value.int ha1) ?_
  refine lv_aload_n hx hb dL_law_266 rfl (lv_at hl 3 rfl) ?_
  refine lv_iload_n hx hb dL_law_267 rfl (lv_at hl 0 rfl) ?_
  refine lv_iconst (v := nI 2) hx hb dL_law_268 (by decide) ?_
  refine n_iadd hx hb dL_law_269 ?_
  refine va_sld hx hb hX hbl hbo hS (vp_in_nI (show i + 2 < L by omega) (by omega)) dL_law_270 ?_
  refine w_top (v' := .int a2) (congrArg Value.int ha2) ?_
  refine ctV (rest := []) S hK (e_partOf l G o om μ a1 a2 hI) cw_L_25 rfl ⟨Nat.le_of_ble_eq_true rfl, Nat.le_of_ble_eq_true rfl⟩ ⟨(by show cells + 0 ≤ 600000; omega), (by show slots + 0 ≤ 7302250; omega)⟩ (CW_rx hK hCW) hl.1 rfl (Nat.le_of_ble_eq_true rfl) dL_law_271 ⟨hCW, hM⟩ hS (fun _ h => h) (fun H locs hP hz hk hS => ?_)
  refine W.widen (k := cells + 8) (n := slots + 132) (by omega) (by omega) ?_
  refine lv_aload_n hx hb dL_law_274 rfl (lv_at hl 1 rfl) ?_
  refine lv_aload_n hx hb dL_law_275 rfl (lv_at hl 3 rfl) ?_
  refine lv_iload_n hx hb dL_law_276 rfl (lv_at hl 0 rfl) ?_
  refine lv_iconst (v := nI 1) hx hb dL_law_277 (by decide) ?_
  refine n_iadd hx hb dL_law_278 ?_
  refine va_sld hx hb hX hbl hbo hS (vp_in_nI (show i + 1 < L by omega) (by omega)) dL_law_279 ?_
  refine w_top (v' := .int a1) (congrArg Value.int ha1) ?_
  refine lv_aload_n hx hb dL_law_280 rfl (lv_at hl 3 rfl) ?_
  refine lv_iload_n hx hb dL_law_281 rfl (lv_at hl 0 rfl) ?_
  refine lv_iconst (v := nI 2) hx hb dL_law_282 (by decide) ?_
  refine n_iadd hx hb dL_law_283 ?_
  refine va_sld hx hb hX hbl hbo hS (vp_in_nI (show i + 2 < L by omega) (by omega)) dL_law_284 ?_
  refine w_top (v' := .int a2) (congrArg Value.int ha2) ?_
  refine ctV (rest := [.int (partOf_M μ a1 a2).1]) S hK (m_partOf l G o om μ a1 a2 hI) cw_L_29 rfl ⟨Nat.le_of_ble_eq_true rfl, Nat.le_of_ble_eq_true rfl⟩ ⟨(by show cells + 8 + 0 ≤ 600000; omega), (by show slots + 132 + 0 ≤ 7302250; omega)⟩ (M_rx hK hP.2) hl.1 rfl (Nat.le_of_ble_eq_true rfl) dL_law_285 hP hS (fun _ h => h) (fun H locs hP hz hk hS => ?_)
  exact lv_icmp_eq (tgt := 1169) hx hb dL_law_288 (by decide) (fun _ => kk _ _ hP hS) (fun z => absurd rfl z)

set_option maxHeartbeats 1000000 in
set_option maxRecDepth 100000 in
theorem lc_3 (S : CallFix p m c cL_law 4 s #[.ref b] WT RL) (hK : gK G s) (hX : va_X b L xs s s.heap) (hbl : b < s.heap.size) (hbo : ¬ o ≤ b) (hL : L ≤ 2048) (hi : i + 4 ≤ L) (hc : cells + 8 ≤ 600000) (hd : slots + 132 ≤ 7302250) (hS : va_S (fun q => o ≤ q) s.heap H locs) (hW : LW G o om H) (hl : lv_has ls 4 [(3, .int (nI i)), (2, .ref om), (1, .ref o), (0, .ref b)]) (kk : ∀ (H1 : Heap) (locs1 : List Loc), LW G o om H1 → va_S (fun q => o ≤ q) s.heap H1 locs1 → W p l e room_1 s m #[.ref b] below meth c H1 locs1 (cells + 8) (slots + 132) Q (F0 m 1169 ls [])) : W p l e room_1 s m #[.ref b] below meth c H locs cells slots Q (F0 m 293 ls []) := by
  have hx := S.1
  have hb := S.2.1
  obtain ⟨μ, hI, hCW, hM⟩ := hW
  obtain ⟨a1, ha1⟩ : ∃ a : Int32, xs (nI (i + 1)).toNatClampNeg = a := ⟨_, rfl⟩
  obtain ⟨a2, ha2⟩ : ∃ a : Int32, xs (nI (i + 2)).toNatClampNeg = a := ⟨_, rfl⟩
  refine lv_aload_n hx hb dL_law_293 rfl (lv_at hl 2 rfl) ?_
  refine lv_aload_n hx hb dL_law_294 rfl (lv_at hl 3 rfl) ?_
  refine lv_iload_n hx hb dL_law_295 rfl (lv_at hl 0 rfl) ?_
  refine lv_iconst (v := nI 1) hx hb dL_law_296 (by decide) ?_
  refine n_iadd hx hb dL_law_297 ?_
  refine va_sld hx hb hX hbl hbo hS (vp_in_nI (show i + 1 < L by omega) (by omega)) dL_law_298 ?_
  refine w_top (v' := .int a1) (congrArg Value.int ha1) ?_
  refine lv_aload_n hx hb dL_law_299 rfl (lv_at hl 3 rfl) ?_
  refine lv_iload_n hx hb dL_law_300 rfl (lv_at hl 0 rfl) ?_
  refine lv_iconst (v := nI 2) hx hb dL_law_301 (by decide) ?_
  refine n_iadd hx hb dL_law_302 ?_
  refine va_sld hx hb hX hbl hbo hS (vp_in_nI (show i + 2 < L by omega) (by omega)) dL_law_303 ?_
  refine w_top (v' := .int a2) (congrArg Value.int ha2) ?_
  refine ctV (rest := []) S hK (e_cell l G o om μ a1 a2 hI) cw_L_30 rfl ⟨Nat.le_of_ble_eq_true rfl, Nat.le_of_ble_eq_true rfl⟩ ⟨(by show cells + 0 ≤ 600000; omega), (by show slots + 0 ≤ 7302250; omega)⟩ (CW_rx hK hCW) hl.1 rfl (Nat.le_of_ble_eq_true rfl) dL_law_304 ⟨hCW, hM⟩ hS (fun _ h => h) (fun H locs hP hz hk hS => ?_)
  refine W.widen (k := cells + 8) (n := slots + 132) (by omega) (by omega) ?_
  refine lv_aload_n hx hb dL_law_307 rfl (lv_at hl 1 rfl) ?_
  refine lv_aload_n hx hb dL_law_308 rfl (lv_at hl 3 rfl) ?_
  refine lv_iload_n hx hb dL_law_309 rfl (lv_at hl 0 rfl) ?_
  refine lv_iconst (v := nI 1) hx hb dL_law_310 (by decide) ?_
  refine n_iadd hx hb dL_law_311 ?_
  refine va_sld hx hb hX hbl hbo hS (vp_in_nI (show i + 1 < L by omega) (by omega)) dL_law_312 ?_
  refine w_top (v' := .int a1) (congrArg Value.int ha1) ?_
  refine lv_aload_n hx hb dL_law_313 rfl (lv_at hl 3 rfl) ?_
  refine lv_iload_n hx hb dL_law_314 rfl (lv_at hl 0 rfl) ?_
  refine lv_iconst (v := nI 2) hx hb dL_law_315 (by decide) ?_
  refine n_iadd hx hb dL_law_316 ?_
  refine va_sld hx hb hX hbl hbo hS (vp_in_nI (show i + 2 < L by omega) (by omega)) dL_law_317 ?_
  refine w_top (v' := .int a2) (congrArg Value.int ha2) ?_
  refine ctV (rest := [.int (cell_M μ a1 a2).1]) S hK (m_cell l G o om μ a1 a2 hI) cw_L_33 rfl ⟨Nat.le_of_ble_eq_true rfl, Nat.le_of_ble_eq_true rfl⟩ ⟨(by show cells + 8 + 0 ≤ 600000; omega), (by show slots + 132 + 0 ≤ 7302250; omega)⟩ (M_rx hK hP.2) hl.1 rfl (Nat.le_of_ble_eq_true rfl) dL_law_318 hP hS (fun _ h => h) (fun H locs hP hz hk hS => ?_)
  exact lv_icmp_eq (tgt := 1169) hx hb dL_law_321 (by decide) (fun _ => kk _ _ hP hS) (fun z => absurd rfl z)

set_option maxHeartbeats 1000000 in
set_option maxRecDepth 100000 in
theorem lc_4 (S : CallFix p m c cL_law 4 s #[.ref b] WT RL) (hK : gK G s) (hX : va_X b L xs s s.heap) (hbl : b < s.heap.size) (hbo : ¬ o ≤ b) (hL : L ≤ 2048) (hi : i + 4 ≤ L) (hc : cells + 8 ≤ 600000) (hd : slots + 132 ≤ 7302250) (hS : va_S (fun q => o ≤ q) s.heap H locs) (hW : LW G o om H) (hl : lv_has ls 4 [(3, .int (nI i)), (2, .ref om), (1, .ref o), (0, .ref b)]) (kk : ∀ (H1 : Heap) (locs1 : List Loc), LW G o om H1 → va_S (fun q => o ≤ q) s.heap H1 locs1 → W p l e room_1 s m #[.ref b] below meth c H1 locs1 (cells + 8) (slots + 132) Q (F0 m 1169 ls [])) : W p l e room_1 s m #[.ref b] below meth c H locs cells slots Q (F0 m 326 ls []) := by
  have hx := S.1
  have hb := S.2.1
  obtain ⟨μ, hI, hCW, hM⟩ := hW
  obtain ⟨a1, ha1⟩ : ∃ a : Int32, xs (nI (i + 1)).toNatClampNeg = a := ⟨_, rfl⟩
  refine lv_aload_n hx hb dL_law_326 rfl (lv_at hl 2 rfl) ?_
  refine lv_aload_n hx hb dL_law_327 rfl (lv_at hl 3 rfl) ?_
  refine lv_iload_n hx hb dL_law_328 rfl (lv_at hl 0 rfl) ?_
  refine lv_iconst (v := nI 1) hx hb dL_law_329 (by decide) ?_
  refine n_iadd hx hb dL_law_330 ?_
  refine va_sld hx hb hX hbl hbo hS (vp_in_nI (show i + 1 < L by omega) (by omega)) dL_law_331 ?_
  refine w_top (v' := .int a1) (congrArg Value.int ha1) ?_
  refine ctV (rest := []) S hK (e_lets l G o om μ a1 hI) cw_L_34 rfl ⟨Nat.le_of_ble_eq_true rfl, Nat.le_of_ble_eq_true rfl⟩ ⟨(by show cells + 0 ≤ 600000; omega), (by show slots + 0 ≤ 7302250; omega)⟩ (CW_rx hK hCW) hl.1 rfl (Nat.le_of_ble_eq_true rfl) dL_law_332 ⟨hCW, hM⟩ hS (fun _ h => h) (fun H locs hP hz hk hS => ?_)
  refine W.widen (k := cells + 8) (n := slots + 132) (by omega) (by omega) ?_
  refine lv_aload_n hx hb dL_law_335 rfl (lv_at hl 1 rfl) ?_
  refine lv_aload_n hx hb dL_law_336 rfl (lv_at hl 3 rfl) ?_
  refine lv_iload_n hx hb dL_law_337 rfl (lv_at hl 0 rfl) ?_
  refine lv_iconst (v := nI 1) hx hb dL_law_338 (by decide) ?_
  refine n_iadd hx hb dL_law_339 ?_
  refine va_sld hx hb hX hbl hbo hS (vp_in_nI (show i + 1 < L by omega) (by omega)) dL_law_340 ?_
  refine w_top (v' := .int a1) (congrArg Value.int ha1) ?_
  refine ctV (rest := [.long (lets_M μ a1).1]) S hK (m_lets l G o om μ a1 hI) cw_L_38 rfl ⟨Nat.le_of_ble_eq_true rfl, Nat.le_of_ble_eq_true rfl⟩ ⟨(by show cells + 8 + 0 ≤ 600000; omega), (by show slots + 132 + 0 ≤ 7302250; omega)⟩ (M_rx hK hP.2) hl.1 rfl (Nat.le_of_ble_eq_true rfl) dL_law_341 hP hS (fun _ h => h) (fun H locs hP hz hk hS => ?_)
  refine W.lcmp hx hb dL_law_344 ?_
  exact lv_if_eq (tgt := 1169) hx hb dL_law_345 (by decide) (fun _ => kk _ _ hP hS) (fun z => absurd ((lg_cmp_eq _ _).mpr rfl) z)

set_option maxHeartbeats 1000000 in
set_option maxRecDepth 100000 in
theorem lc_5 (S : CallFix p m c cL_law 4 s #[.ref b] WT RL) (hK : gK G s) (hX : va_X b L xs s s.heap) (hbl : b < s.heap.size) (hbo : ¬ o ≤ b) (hL : L ≤ 2048) (hi : i + 4 ≤ L) (hc : cells + 8 ≤ 600000) (hd : slots + 132 ≤ 7302250) (hS : va_S (fun q => o ≤ q) s.heap H locs) (hW : LW G o om H) (hl : lv_has ls 4 [(3, .int (nI i)), (2, .ref om), (1, .ref o), (0, .ref b)]) (kk : ∀ (H1 : Heap) (locs1 : List Loc), LW G o om H1 → va_S (fun q => o ≤ q) s.heap H1 locs1 → W p l e room_1 s m #[.ref b] below meth c H1 locs1 (cells + 8) (slots + 132) Q (F0 m 1169 ls [])) : W p l e room_1 s m #[.ref b] below meth c H locs cells slots Q (F0 m 350 ls []) := by
  have hx := S.1
  have hb := S.2.1
  obtain ⟨μ, hI, hCW, hM⟩ := hW
  obtain ⟨a1, ha1⟩ : ∃ a : Int32, xs (nI (i + 1)).toNatClampNeg = a := ⟨_, rfl⟩
  obtain ⟨a2, ha2⟩ : ∃ a : Int32, xs (nI (i + 2)).toNatClampNeg = a := ⟨_, rfl⟩
  refine lv_aload_n hx hb dL_law_350 rfl (lv_at hl 2 rfl) ?_
  refine lv_aload_n hx hb dL_law_351 rfl (lv_at hl 3 rfl) ?_
  refine lv_iload_n hx hb dL_law_352 rfl (lv_at hl 0 rfl) ?_
  refine lv_iconst (v := nI 1) hx hb dL_law_353 (by decide) ?_
  refine n_iadd hx hb dL_law_354 ?_
  refine va_sld hx hb hX hbl hbo hS (vp_in_nI (show i + 1 < L by omega) (by omega)) dL_law_355 ?_
  refine w_top (v' := .int a1) (congrArg Value.int ha1) ?_
  refine lv_aload_n hx hb dL_law_356 rfl (lv_at hl 3 rfl) ?_
  refine lv_iload_n hx hb dL_law_357 rfl (lv_at hl 0 rfl) ?_
  refine lv_iconst (v := nI 2) hx hb dL_law_358 (by decide) ?_
  refine n_iadd hx hb dL_law_359 ?_
  refine va_sld hx hb hX hbl hbo hS (vp_in_nI (show i + 2 < L by omega) (by omega)) dL_law_360 ?_
  refine w_top (v' := .int a2) (congrArg Value.int ha2) ?_
  refine ctV (rest := []) S hK (e_ways l G o om μ a1 a2 hI) cw_L_39 rfl ⟨Nat.le_of_ble_eq_true rfl, Nat.le_of_ble_eq_true rfl⟩ ⟨(by show cells + 0 ≤ 600000; omega), (by show slots + 0 ≤ 7302250; omega)⟩ (CW_rx hK hCW) hl.1 rfl (Nat.le_of_ble_eq_true rfl) dL_law_361 ⟨hCW, hM⟩ hS (fun _ h => h) (fun H locs hP hz hk hS => ?_)
  refine W.widen (k := cells + 8) (n := slots + 132) (by omega) (by omega) ?_
  refine lv_aload_n hx hb dL_law_364 rfl (lv_at hl 1 rfl) ?_
  refine lv_aload_n hx hb dL_law_365 rfl (lv_at hl 3 rfl) ?_
  refine lv_iload_n hx hb dL_law_366 rfl (lv_at hl 0 rfl) ?_
  refine lv_iconst (v := nI 1) hx hb dL_law_367 (by decide) ?_
  refine n_iadd hx hb dL_law_368 ?_
  refine va_sld hx hb hX hbl hbo hS (vp_in_nI (show i + 1 < L by omega) (by omega)) dL_law_369 ?_
  refine w_top (v' := .int a1) (congrArg Value.int ha1) ?_
  refine lv_aload_n hx hb dL_law_370 rfl (lv_at hl 3 rfl) ?_
  refine lv_iload_n hx hb dL_law_371 rfl (lv_at hl 0 rfl) ?_
  refine lv_iconst (v := nI 2) hx hb dL_law_372 (by decide) ?_
  refine n_iadd hx hb dL_law_373 ?_
  refine va_sld hx hb hX hbl hbo hS (vp_in_nI (show i + 2 < L by omega) (by omega)) dL_law_374 ?_
  refine w_top (v' := .int a2) (congrArg Value.int ha2) ?_
  refine ctV (rest := [.int (ways_M μ a1 a2).1]) S hK (m_ways l G o om μ a1 a2 hI) cw_L_42 rfl ⟨Nat.le_of_ble_eq_true rfl, Nat.le_of_ble_eq_true rfl⟩ ⟨(by show cells + 8 + 0 ≤ 600000; omega), (by show slots + 132 + 0 ≤ 7302250; omega)⟩ (M_rx hK hP.2) hl.1 rfl (Nat.le_of_ble_eq_true rfl) dL_law_375 hP hS (fun _ h => h) (fun H locs hP hz hk hS => ?_)
  exact lv_icmp_eq (tgt := 1169) hx hb dL_law_378 (by decide) (fun _ => kk _ _ hP hS) (fun z => absurd rfl z)

set_option maxHeartbeats 1000000 in
set_option maxRecDepth 100000 in
theorem lc_6 (S : CallFix p m c cL_law 4 s #[.ref b] WT RL) (hK : gK G s) (hX : va_X b L xs s s.heap) (hbl : b < s.heap.size) (hbo : ¬ o ≤ b) (hL : L ≤ 2048) (hi : i + 4 ≤ L) (hc : cells + 8 ≤ 600000) (hd : slots + 132 ≤ 7302250) (hS : va_S (fun q => o ≤ q) s.heap H locs) (hW : LW G o om H) (hl : lv_has ls 4 [(3, .int (nI i)), (2, .ref om), (1, .ref o), (0, .ref b)]) (kk : ∀ (H1 : Heap) (locs1 : List Loc), LW G o om H1 → va_S (fun q => o ≤ q) s.heap H1 locs1 → W p l e room_1 s m #[.ref b] below meth c H1 locs1 (cells + 8) (slots + 132) Q (F0 m 1169 ls [])) : W p l e room_1 s m #[.ref b] below meth c H locs cells slots Q (F0 m 383 ls []) := by
  have hx := S.1
  have hb := S.2.1
  obtain ⟨μ, hI, hCW, hM⟩ := hW
  obtain ⟨a1, ha1⟩ : ∃ a : Int32, xs (nI (i + 1)).toNatClampNeg = a := ⟨_, rfl⟩
  obtain ⟨a2, ha2⟩ : ∃ a : Int32, xs (nI (i + 2)).toNatClampNeg = a := ⟨_, rfl⟩
  obtain ⟨a3, ha3⟩ : ∃ a : Int32, xs (nI (i + 3)).toNatClampNeg = a := ⟨_, rfl⟩
  refine lv_aload_n hx hb dL_law_383 rfl (lv_at hl 2 rfl) ?_
  refine lv_aload_n hx hb dL_law_384 rfl (lv_at hl 3 rfl) ?_
  refine lv_iload_n hx hb dL_law_385 rfl (lv_at hl 0 rfl) ?_
  refine lv_iconst (v := nI 1) hx hb dL_law_386 (by decide) ?_
  refine n_iadd hx hb dL_law_387 ?_
  refine va_sld hx hb hX hbl hbo hS (vp_in_nI (show i + 1 < L by omega) (by omega)) dL_law_388 ?_
  refine w_top (v' := .int a1) (congrArg Value.int ha1) ?_
  refine lv_aload_n hx hb dL_law_389 rfl (lv_at hl 3 rfl) ?_
  refine lv_iload_n hx hb dL_law_390 rfl (lv_at hl 0 rfl) ?_
  refine lv_iconst (v := nI 2) hx hb dL_law_391 (by decide) ?_
  refine n_iadd hx hb dL_law_392 ?_
  refine va_sld hx hb hX hbl hbo hS (vp_in_nI (show i + 2 < L by omega) (by omega)) dL_law_393 ?_
  refine w_top (v' := .int a2) (congrArg Value.int ha2) ?_
  refine lv_aload_n hx hb dL_law_394 rfl (lv_at hl 3 rfl) ?_
  refine lv_iload_n hx hb dL_law_395 rfl (lv_at hl 0 rfl) ?_
  refine lv_iconst (v := nI 3) hx hb dL_law_396 (by decide) ?_
  refine n_iadd hx hb dL_law_397 ?_
  refine va_sld hx hb hX hbl hbo hS (vp_in_nI (show i + 3 < L by omega) (by omega)) dL_law_398 ?_
  refine w_top (v' := .int a3) (congrArg Value.int ha3) ?_
  refine ctV (rest := []) S hK (e_covered l G o om μ a1 a2 a3 hI) cw_L_43 rfl ⟨Nat.le_of_ble_eq_true rfl, Nat.le_of_ble_eq_true rfl⟩ ⟨(by show cells + 0 ≤ 600000; omega), (by show slots + 0 ≤ 7302250; omega)⟩ (CW_rx hK hCW) hl.1 rfl (Nat.le_of_ble_eq_true rfl) dL_law_399 ⟨hCW, hM⟩ hS (fun _ h => h) (fun H locs hP hz hk hS => ?_)
  refine W.widen (k := cells + 8) (n := slots + 132) (by omega) (by omega) ?_
  refine lv_aload_n hx hb dL_law_402 rfl (lv_at hl 1 rfl) ?_
  refine lv_aload_n hx hb dL_law_403 rfl (lv_at hl 3 rfl) ?_
  refine lv_iload_n hx hb dL_law_404 rfl (lv_at hl 0 rfl) ?_
  refine lv_iconst (v := nI 1) hx hb dL_law_405 (by decide) ?_
  refine n_iadd hx hb dL_law_406 ?_
  refine va_sld hx hb hX hbl hbo hS (vp_in_nI (show i + 1 < L by omega) (by omega)) dL_law_407 ?_
  refine w_top (v' := .int a1) (congrArg Value.int ha1) ?_
  refine lv_aload_n hx hb dL_law_408 rfl (lv_at hl 3 rfl) ?_
  refine lv_iload_n hx hb dL_law_409 rfl (lv_at hl 0 rfl) ?_
  refine lv_iconst (v := nI 2) hx hb dL_law_410 (by decide) ?_
  refine n_iadd hx hb dL_law_411 ?_
  refine va_sld hx hb hX hbl hbo hS (vp_in_nI (show i + 2 < L by omega) (by omega)) dL_law_412 ?_
  refine w_top (v' := .int a2) (congrArg Value.int ha2) ?_
  refine lv_aload_n hx hb dL_law_413 rfl (lv_at hl 3 rfl) ?_
  refine lv_iload_n hx hb dL_law_414 rfl (lv_at hl 0 rfl) ?_
  refine lv_iconst (v := nI 3) hx hb dL_law_415 (by decide) ?_
  refine n_iadd hx hb dL_law_416 ?_
  refine va_sld hx hb hX hbl hbo hS (vp_in_nI (show i + 3 < L by omega) (by omega)) dL_law_417 ?_
  refine w_top (v' := .int a3) (congrArg Value.int ha3) ?_
  refine ctV (rest := [.int (covered_M μ a1 a2 a3).1]) S hK (m_covered l G o om μ a1 a2 a3 hI) cw_L_47 rfl ⟨Nat.le_of_ble_eq_true rfl, Nat.le_of_ble_eq_true rfl⟩ ⟨(by show cells + 8 + 0 ≤ 600000; omega), (by show slots + 132 + 0 ≤ 7302250; omega)⟩ (M_rx hK hP.2) hl.1 rfl (Nat.le_of_ble_eq_true rfl) dL_law_418 hP hS (fun _ h => h) (fun H locs hP hz hk hS => ?_)
  exact lv_icmp_eq (tgt := 1169) hx hb dL_law_421 (by decide) (fun _ => kk _ _ hP hS) (fun z => absurd rfl z)

set_option maxHeartbeats 1000000 in
set_option maxRecDepth 100000 in
theorem lc_7 (S : CallFix p m c cL_law 4 s #[.ref b] WT RL) (hK : gK G s) (hX : va_X b L xs s s.heap) (hbl : b < s.heap.size) (hbo : ¬ o ≤ b) (hL : L ≤ 2048) (hi : i + 4 ≤ L) (hc : cells + 8 ≤ 600000) (hd : slots + 132 ≤ 7302250) (hS : va_S (fun q => o ≤ q) s.heap H locs) (hW : LW G o om H) (hl : lv_has ls 4 [(3, .int (nI i)), (2, .ref om), (1, .ref o), (0, .ref b)]) (kk : ∀ (H1 : Heap) (locs1 : List Loc), LW G o om H1 → va_S (fun q => o ≤ q) s.heap H1 locs1 → W p l e room_1 s m #[.ref b] below meth c H1 locs1 (cells + 8) (slots + 132) Q (F0 m 1169 ls [])) : W p l e room_1 s m #[.ref b] below meth c H locs cells slots Q (F0 m 426 ls []) := by
  have hx := S.1
  have hb := S.2.1
  obtain ⟨μ, hI, hCW, hM⟩ := hW
  obtain ⟨a1, ha1⟩ : ∃ a : Int32, xs (nI (i + 1)).toNatClampNeg = a := ⟨_, rfl⟩
  refine lv_aload_n hx hb dL_law_426 rfl (lv_at hl 2 rfl) ?_
  refine lv_aload_n hx hb dL_law_427 rfl (lv_at hl 3 rfl) ?_
  refine lv_iload_n hx hb dL_law_428 rfl (lv_at hl 0 rfl) ?_
  refine lv_iconst (v := nI 1) hx hb dL_law_429 (by decide) ?_
  refine n_iadd hx hb dL_law_430 ?_
  refine va_sld hx hb hX hbl hbo hS (vp_in_nI (show i + 1 < L by omega) (by omega)) dL_law_431 ?_
  refine w_top (v' := .int a1) (congrArg Value.int ha1) ?_
  refine ctV (rest := []) S hK (e_barred l G o om μ a1 hI) cw_L_48 rfl ⟨Nat.le_of_ble_eq_true rfl, Nat.le_of_ble_eq_true rfl⟩ ⟨(by show cells + 0 ≤ 600000; omega), (by show slots + 0 ≤ 7302250; omega)⟩ (CW_rx hK hCW) hl.1 rfl (Nat.le_of_ble_eq_true rfl) dL_law_432 ⟨hCW, hM⟩ hS (fun _ h => h) (fun H locs hP hz hk hS => ?_)
  refine W.widen (k := cells + 8) (n := slots + 132) (by omega) (by omega) ?_
  refine lv_aload_n hx hb dL_law_435 rfl (lv_at hl 1 rfl) ?_
  refine lv_aload_n hx hb dL_law_436 rfl (lv_at hl 3 rfl) ?_
  refine lv_iload_n hx hb dL_law_437 rfl (lv_at hl 0 rfl) ?_
  refine lv_iconst (v := nI 1) hx hb dL_law_438 (by decide) ?_
  refine n_iadd hx hb dL_law_439 ?_
  refine va_sld hx hb hX hbl hbo hS (vp_in_nI (show i + 1 < L by omega) (by omega)) dL_law_440 ?_
  refine w_top (v' := .int a1) (congrArg Value.int ha1) ?_
  refine ctV (rest := [.long (barred_M μ a1).1]) S hK (m_barred l G o om μ a1 hI) cw_L_51 rfl ⟨Nat.le_of_ble_eq_true rfl, Nat.le_of_ble_eq_true rfl⟩ ⟨(by show cells + 8 + 0 ≤ 600000; omega), (by show slots + 132 + 0 ≤ 7302250; omega)⟩ (M_rx hK hP.2) hl.1 rfl (Nat.le_of_ble_eq_true rfl) dL_law_441 hP hS (fun _ h => h) (fun H locs hP hz hk hS => ?_)
  refine W.lcmp hx hb dL_law_444 ?_
  exact lv_if_eq (tgt := 1169) hx hb dL_law_445 (by decide) (fun _ => kk _ _ hP hS) (fun z => absurd ((lg_cmp_eq _ _).mpr rfl) z)

set_option maxHeartbeats 1000000 in
set_option maxRecDepth 100000 in
theorem lc_8 (S : CallFix p m c cL_law 4 s #[.ref b] WT RL) (hK : gK G s) (hX : va_X b L xs s s.heap) (hbl : b < s.heap.size) (hbo : ¬ o ≤ b) (hL : L ≤ 2048) (hi : i + 4 ≤ L) (hc : cells + 8 ≤ 600000) (hd : slots + 132 ≤ 7302250) (hS : va_S (fun q => o ≤ q) s.heap H locs) (hW : LW G o om H) (hl : lv_has ls 4 [(3, .int (nI i)), (2, .ref om), (1, .ref o), (0, .ref b)]) (kk : ∀ (H1 : Heap) (locs1 : List Loc), LW G o om H1 → va_S (fun q => o ≤ q) s.heap H1 locs1 → W p l e room_1 s m #[.ref b] below meth c H1 locs1 (cells + 8) (slots + 132) Q (F0 m 1169 ls [])) : W p l e room_1 s m #[.ref b] below meth c H locs cells slots Q (F0 m 450 ls []) := by
  have hx := S.1
  have hb := S.2.1
  obtain ⟨μ, hI, hCW, hM⟩ := hW
  refine lv_aload_n hx hb dL_law_450 rfl (lv_at hl 2 rfl) ?_
  refine ctV (rest := []) S hK (e_formula l G o om μ  hI) cw_L_52 rfl ⟨Nat.le_of_ble_eq_true rfl, Nat.le_of_ble_eq_true rfl⟩ ⟨(by show cells + 1 ≤ 600000; omega), (by show slots + 4 ≤ 7302250; omega)⟩ (CW_rx hK hCW) hl.1 rfl (Nat.le_of_ble_eq_true rfl) dL_law_451 ⟨hCW, hM⟩ hS (fun _ h => h) (fun H locs hP hz hk hS => ?_)
  refine W.widen (k := cells + 8) (n := slots + 132) (by omega) (by omega) ?_
  refine lv_aload_n hx hb dL_law_454 rfl (lv_at hl 1 rfl) ?_
  refine ctV (rest := [.int (formula_M μ).1]) S hK (m_formula l G o om μ  hI) cw_L_55 rfl ⟨Nat.le_of_ble_eq_true rfl, Nat.le_of_ble_eq_true rfl⟩ ⟨(by show cells + 8 + 0 ≤ 600000; omega), (by show slots + 132 + 0 ≤ 7302250; omega)⟩ (M_rx hK hP.2) hl.1 rfl (Nat.le_of_ble_eq_true rfl) dL_law_455 hP hS (fun _ h => h) (fun H locs hP hz hk hS => ?_)
  exact lv_icmp_eq (tgt := 1169) hx hb dL_law_458 (by decide) (fun _ => kk _ _ hP hS) (fun z => absurd rfl z)

set_option maxHeartbeats 1000000 in
set_option maxRecDepth 100000 in
theorem lc_9 (S : CallFix p m c cL_law 4 s #[.ref b] WT RL) (hK : gK G s) (hX : va_X b L xs s s.heap) (hbl : b < s.heap.size) (hbo : ¬ o ≤ b) (hL : L ≤ 2048) (hi : i + 4 ≤ L) (hc : cells + 8 ≤ 600000) (hd : slots + 132 ≤ 7302250) (hS : va_S (fun q => o ≤ q) s.heap H locs) (hW : LW G o om H) (hl : lv_has ls 4 [(3, .int (nI i)), (2, .ref om), (1, .ref o), (0, .ref b)]) (kk : ∀ (H1 : Heap) (locs1 : List Loc), LW G o om H1 → va_S (fun q => o ≤ q) s.heap H1 locs1 → W p l e room_1 s m #[.ref b] below meth c H1 locs1 (cells + 8) (slots + 132) Q (F0 m 1169 ls [])) : W p l e room_1 s m #[.ref b] below meth c H locs cells slots Q (F0 m 463 ls []) := by
  have hx := S.1
  have hb := S.2.1
  obtain ⟨μ, hI, hCW, hM⟩ := hW
  obtain ⟨a1, ha1⟩ : ∃ a : Int32, xs (nI (i + 1)).toNatClampNeg = a := ⟨_, rfl⟩
  obtain ⟨a2, ha2⟩ : ∃ a : Int32, xs (nI (i + 2)).toNatClampNeg = a := ⟨_, rfl⟩
  refine lv_aload_n hx hb dL_law_463 rfl (lv_at hl 2 rfl) ?_
  refine lv_aload_n hx hb dL_law_464 rfl (lv_at hl 3 rfl) ?_
  refine lv_iload_n hx hb dL_law_465 rfl (lv_at hl 0 rfl) ?_
  refine lv_iconst (v := nI 1) hx hb dL_law_466 (by decide) ?_
  refine n_iadd hx hb dL_law_467 ?_
  refine va_sld hx hb hX hbl hbo hS (vp_in_nI (show i + 1 < L by omega) (by omega)) dL_law_468 ?_
  refine w_top (v' := .int a1) (congrArg Value.int ha1) ?_
  refine lv_aload_n hx hb dL_law_469 rfl (lv_at hl 3 rfl) ?_
  refine lv_iload_n hx hb dL_law_470 rfl (lv_at hl 0 rfl) ?_
  refine lv_iconst (v := nI 2) hx hb dL_law_471 (by decide) ?_
  refine n_iadd hx hb dL_law_472 ?_
  refine va_sld hx hb hX hbl hbo hS (vp_in_nI (show i + 2 < L by omega) (by omega)) dL_law_473 ?_
  refine w_top (v' := .int a2) (congrArg Value.int ha2) ?_
  refine ctV (rest := []) S hK (e_means l G o om μ a1 a2 hI) cw_L_56 rfl ⟨Nat.le_of_ble_eq_true rfl, Nat.le_of_ble_eq_true rfl⟩ ⟨(by show cells + 0 ≤ 600000; omega), (by show slots + 0 ≤ 7302250; omega)⟩ (CW_rx hK hCW) hl.1 rfl (Nat.le_of_ble_eq_true rfl) dL_law_474 ⟨hCW, hM⟩ hS (fun _ h => h) (fun H locs hP hz hk hS => ?_)
  refine W.widen (k := cells + 8) (n := slots + 132) (by omega) (by omega) ?_
  refine lv_aload_n hx hb dL_law_477 rfl (lv_at hl 1 rfl) ?_
  refine lv_aload_n hx hb dL_law_478 rfl (lv_at hl 3 rfl) ?_
  refine lv_iload_n hx hb dL_law_479 rfl (lv_at hl 0 rfl) ?_
  refine lv_iconst (v := nI 1) hx hb dL_law_480 (by decide) ?_
  refine n_iadd hx hb dL_law_481 ?_
  refine va_sld hx hb hX hbl hbo hS (vp_in_nI (show i + 1 < L by omega) (by omega)) dL_law_482 ?_
  refine w_top (v' := .int a1) (congrArg Value.int ha1) ?_
  refine lv_aload_n hx hb dL_law_483 rfl (lv_at hl 3 rfl) ?_
  refine lv_iload_n hx hb dL_law_484 rfl (lv_at hl 0 rfl) ?_
  refine lv_iconst (v := nI 2) hx hb dL_law_485 (by decide) ?_
  refine n_iadd hx hb dL_law_486 ?_
  refine va_sld hx hb hX hbl hbo hS (vp_in_nI (show i + 2 < L by omega) (by omega)) dL_law_487 ?_
  refine w_top (v' := .int a2) (congrArg Value.int ha2) ?_
  refine ctV (rest := [.long (means_M μ a1 a2).1]) S hK (m_means l G o om μ a1 a2 hI) cw_L_60 rfl ⟨Nat.le_of_ble_eq_true rfl, Nat.le_of_ble_eq_true rfl⟩ ⟨(by show cells + 8 + 0 ≤ 600000; omega), (by show slots + 132 + 0 ≤ 7302250; omega)⟩ (M_rx hK hP.2) hl.1 rfl (Nat.le_of_ble_eq_true rfl) dL_law_488 hP hS (fun _ h => h) (fun H locs hP hz hk hS => ?_)
  refine W.lcmp hx hb dL_law_491 ?_
  exact lv_if_eq (tgt := 1169) hx hb dL_law_492 (by decide) (fun _ => kk _ _ hP hS) (fun z => absurd ((lg_cmp_eq _ _).mpr rfl) z)

set_option maxHeartbeats 1000000 in
set_option maxRecDepth 100000 in
theorem lc_10 (S : CallFix p m c cL_law 4 s #[.ref b] WT RL) (hK : gK G s) (hX : va_X b L xs s s.heap) (hbl : b < s.heap.size) (hbo : ¬ o ≤ b) (hL : L ≤ 2048) (hi : i + 4 ≤ L) (hc : cells + 8 ≤ 600000) (hd : slots + 132 ≤ 7302250) (hS : va_S (fun q => o ≤ q) s.heap H locs) (hW : LW G o om H) (hl : lv_has ls 4 [(3, .int (nI i)), (2, .ref om), (1, .ref o), (0, .ref b)]) (kk : ∀ (H1 : Heap) (locs1 : List Loc), LW G o om H1 → va_S (fun q => o ≤ q) s.heap H1 locs1 → W p l e room_1 s m #[.ref b] below meth c H1 locs1 (cells + 8) (slots + 132) Q (F0 m 1169 ls [])) : W p l e room_1 s m #[.ref b] below meth c H locs cells slots Q (F0 m 497 ls []) := by
  have hx := S.1
  have hb := S.2.1
  obtain ⟨μ, hI, hCW, hM⟩ := hW
  obtain ⟨a1, ha1⟩ : ∃ a : Int32, xs (nI (i + 1)).toNatClampNeg = a := ⟨_, rfl⟩
  obtain ⟨a2, ha2⟩ : ∃ a : Int32, xs (nI (i + 2)).toNatClampNeg = a := ⟨_, rfl⟩
  refine lv_aload_n hx hb dL_law_497 rfl (lv_at hl 2 rfl) ?_
  refine lv_aload_n hx hb dL_law_498 rfl (lv_at hl 3 rfl) ?_
  refine lv_iload_n hx hb dL_law_499 rfl (lv_at hl 0 rfl) ?_
  refine lv_iconst (v := nI 1) hx hb dL_law_500 (by decide) ?_
  refine n_iadd hx hb dL_law_501 ?_
  refine va_sld hx hb hX hbl hbo hS (vp_in_nI (show i + 1 < L by omega) (by omega)) dL_law_502 ?_
  refine w_top (v' := .int a1) (congrArg Value.int ha1) ?_
  refine lv_aload_n hx hb dL_law_503 rfl (lv_at hl 3 rfl) ?_
  refine lv_iload_n hx hb dL_law_504 rfl (lv_at hl 0 rfl) ?_
  refine lv_iconst (v := nI 2) hx hb dL_law_505 (by decide) ?_
  refine n_iadd hx hb dL_law_506 ?_
  refine va_sld hx hb hX hbl hbo hS (vp_in_nI (show i + 2 < L by omega) (by omega)) dL_law_507 ?_
  refine w_top (v' := .int a2) (congrArg Value.int ha2) ?_
  refine ctV (rest := []) S hK (e_does l G o om μ a1 a2 hI) cw_L_61 rfl ⟨Nat.le_of_ble_eq_true rfl, Nat.le_of_ble_eq_true rfl⟩ ⟨(by show cells + 0 ≤ 600000; omega), (by show slots + 0 ≤ 7302250; omega)⟩ (CW_rx hK hCW) hl.1 rfl (Nat.le_of_ble_eq_true rfl) dL_law_508 ⟨hCW, hM⟩ hS (fun _ h => h) (fun H locs hP hz hk hS => ?_)
  refine W.widen (k := cells + 8) (n := slots + 132) (by omega) (by omega) ?_
  refine lv_aload_n hx hb dL_law_511 rfl (lv_at hl 1 rfl) ?_
  refine lv_aload_n hx hb dL_law_512 rfl (lv_at hl 3 rfl) ?_
  refine lv_iload_n hx hb dL_law_513 rfl (lv_at hl 0 rfl) ?_
  refine lv_iconst (v := nI 1) hx hb dL_law_514 (by decide) ?_
  refine n_iadd hx hb dL_law_515 ?_
  refine va_sld hx hb hX hbl hbo hS (vp_in_nI (show i + 1 < L by omega) (by omega)) dL_law_516 ?_
  refine w_top (v' := .int a1) (congrArg Value.int ha1) ?_
  refine lv_aload_n hx hb dL_law_517 rfl (lv_at hl 3 rfl) ?_
  refine lv_iload_n hx hb dL_law_518 rfl (lv_at hl 0 rfl) ?_
  refine lv_iconst (v := nI 2) hx hb dL_law_519 (by decide) ?_
  refine n_iadd hx hb dL_law_520 ?_
  refine va_sld hx hb hX hbl hbo hS (vp_in_nI (show i + 2 < L by omega) (by omega)) dL_law_521 ?_
  refine w_top (v' := .int a2) (congrArg Value.int ha2) ?_
  refine ctV (rest := [.int (does_M μ a1 a2).1]) S hK (m_does l G o om μ a1 a2 hI) cw_L_64 rfl ⟨Nat.le_of_ble_eq_true rfl, Nat.le_of_ble_eq_true rfl⟩ ⟨(by show cells + 8 + 0 ≤ 600000; omega), (by show slots + 132 + 0 ≤ 7302250; omega)⟩ (M_rx hK hP.2) hl.1 rfl (Nat.le_of_ble_eq_true rfl) dL_law_522 hP hS (fun _ h => h) (fun H locs hP hz hk hS => ?_)
  exact lv_icmp_eq (tgt := 1169) hx hb dL_law_525 (by decide) (fun _ => kk _ _ hP hS) (fun z => absurd rfl z)

set_option maxHeartbeats 1000000 in
set_option maxRecDepth 100000 in
theorem lc_11 (S : CallFix p m c cL_law 4 s #[.ref b] WT RL) (hK : gK G s) (hX : va_X b L xs s s.heap) (hbl : b < s.heap.size) (hbo : ¬ o ≤ b) (hL : L ≤ 2048) (hi : i + 4 ≤ L) (hc : cells + 8 ≤ 600000) (hd : slots + 132 ≤ 7302250) (hS : va_S (fun q => o ≤ q) s.heap H locs) (hW : LW G o om H) (hl : lv_has ls 4 [(3, .int (nI i)), (2, .ref om), (1, .ref o), (0, .ref b)]) (kk : ∀ (H1 : Heap) (locs1 : List Loc), LW G o om H1 → va_S (fun q => o ≤ q) s.heap H1 locs1 → W p l e room_1 s m #[.ref b] below meth c H1 locs1 (cells + 8) (slots + 132) Q (F0 m 1169 ls [])) : W p l e room_1 s m #[.ref b] below meth c H locs cells slots Q (F0 m 530 ls []) := by
  have hx := S.1
  have hb := S.2.1
  obtain ⟨μ, hI, hCW, hM⟩ := hW
  obtain ⟨a1, ha1⟩ : ∃ a : Int32, xs (nI (i + 1)).toNatClampNeg = a := ⟨_, rfl⟩
  obtain ⟨a2, ha2⟩ : ∃ a : Int32, xs (nI (i + 2)).toNatClampNeg = a := ⟨_, rfl⟩
  refine lv_aload_n hx hb dL_law_530 rfl (lv_at hl 2 rfl) ?_
  refine lv_aload_n hx hb dL_law_531 rfl (lv_at hl 3 rfl) ?_
  refine lv_iload_n hx hb dL_law_532 rfl (lv_at hl 0 rfl) ?_
  refine lv_iconst (v := nI 1) hx hb dL_law_533 (by decide) ?_
  refine n_iadd hx hb dL_law_534 ?_
  refine va_sld hx hb hX hbl hbo hS (vp_in_nI (show i + 1 < L by omega) (by omega)) dL_law_535 ?_
  refine w_top (v' := .int a1) (congrArg Value.int ha1) ?_
  refine lv_aload_n hx hb dL_law_536 rfl (lv_at hl 3 rfl) ?_
  refine lv_iload_n hx hb dL_law_537 rfl (lv_at hl 0 rfl) ?_
  refine lv_iconst (v := nI 2) hx hb dL_law_538 (by decide) ?_
  refine n_iadd hx hb dL_law_539 ?_
  refine va_sld hx hb hX hbl hbo hS (vp_in_nI (show i + 2 < L by omega) (by omega)) dL_law_540 ?_
  refine w_top (v' := .int a2) (congrArg Value.int ha2) ?_
  refine ctV (rest := []) S hK (e_misses l G o om μ a1 a2 hI) cw_L_65 rfl ⟨Nat.le_of_ble_eq_true rfl, Nat.le_of_ble_eq_true rfl⟩ ⟨(by show cells + 0 ≤ 600000; omega), (by show slots + 0 ≤ 7302250; omega)⟩ (CW_rx hK hCW) hl.1 rfl (Nat.le_of_ble_eq_true rfl) dL_law_541 ⟨hCW, hM⟩ hS (fun _ h => h) (fun H locs hP hz hk hS => ?_)
  refine W.widen (k := cells + 8) (n := slots + 132) (by omega) (by omega) ?_
  refine lv_aload_n hx hb dL_law_544 rfl (lv_at hl 1 rfl) ?_
  refine lv_aload_n hx hb dL_law_545 rfl (lv_at hl 3 rfl) ?_
  refine lv_iload_n hx hb dL_law_546 rfl (lv_at hl 0 rfl) ?_
  refine lv_iconst (v := nI 1) hx hb dL_law_547 (by decide) ?_
  refine n_iadd hx hb dL_law_548 ?_
  refine va_sld hx hb hX hbl hbo hS (vp_in_nI (show i + 1 < L by omega) (by omega)) dL_law_549 ?_
  refine w_top (v' := .int a1) (congrArg Value.int ha1) ?_
  refine lv_aload_n hx hb dL_law_550 rfl (lv_at hl 3 rfl) ?_
  refine lv_iload_n hx hb dL_law_551 rfl (lv_at hl 0 rfl) ?_
  refine lv_iconst (v := nI 2) hx hb dL_law_552 (by decide) ?_
  refine n_iadd hx hb dL_law_553 ?_
  refine va_sld hx hb hX hbl hbo hS (vp_in_nI (show i + 2 < L by omega) (by omega)) dL_law_554 ?_
  refine w_top (v' := .int a2) (congrArg Value.int ha2) ?_
  refine ctV (rest := [.int (misses_M μ a1 a2).1]) S hK (m_misses l G o om μ a1 a2 hI) cw_L_68 rfl ⟨Nat.le_of_ble_eq_true rfl, Nat.le_of_ble_eq_true rfl⟩ ⟨(by show cells + 8 + 0 ≤ 600000; omega), (by show slots + 132 + 0 ≤ 7302250; omega)⟩ (M_rx hK hP.2) hl.1 rfl (Nat.le_of_ble_eq_true rfl) dL_law_555 hP hS (fun _ h => h) (fun H locs hP hz hk hS => ?_)
  exact lv_icmp_eq (tgt := 1169) hx hb dL_law_558 (by decide) (fun _ => kk _ _ hP hS) (fun z => absurd rfl z)

set_option maxHeartbeats 1000000 in
set_option maxRecDepth 100000 in
theorem lc_12 (S : CallFix p m c cL_law 4 s #[.ref b] WT RL) (hK : gK G s) (hX : va_X b L xs s s.heap) (hbl : b < s.heap.size) (hbo : ¬ o ≤ b) (hL : L ≤ 2048) (hi : i + 4 ≤ L) (hc : cells + 8 ≤ 600000) (hd : slots + 132 ≤ 7302250) (hS : va_S (fun q => o ≤ q) s.heap H locs) (hW : LW G o om H) (hl : lv_has ls 4 [(3, .int (nI i)), (2, .ref om), (1, .ref o), (0, .ref b)]) (kk : ∀ (H1 : Heap) (locs1 : List Loc), LW G o om H1 → va_S (fun q => o ≤ q) s.heap H1 locs1 → W p l e room_1 s m #[.ref b] below meth c H1 locs1 (cells + 8) (slots + 132) Q (F0 m 1169 ls [])) : W p l e room_1 s m #[.ref b] below meth c H locs cells slots Q (F0 m 563 ls []) := by
  have hx := S.1
  have hb := S.2.1
  obtain ⟨μ, hI, hCW, hM⟩ := hW
  obtain ⟨a1, ha1⟩ : ∃ a : Int32, xs (nI (i + 1)).toNatClampNeg = a := ⟨_, rfl⟩
  refine lv_aload_n hx hb dL_law_563 rfl (lv_at hl 2 rfl) ?_
  refine lv_aload_n hx hb dL_law_564 rfl (lv_at hl 3 rfl) ?_
  refine lv_iload_n hx hb dL_law_565 rfl (lv_at hl 0 rfl) ?_
  refine lv_iconst (v := nI 1) hx hb dL_law_566 (by decide) ?_
  refine n_iadd hx hb dL_law_567 ?_
  refine va_sld hx hb hX hbl hbo hS (vp_in_nI (show i + 1 < L by omega) (by omega)) dL_law_568 ?_
  refine w_top (v' := .int a1) (congrArg Value.int ha1) ?_
  refine ctV (rest := []) S hK (e_turn l G o om μ a1 hI) cw_L_69 rfl ⟨Nat.le_of_ble_eq_true rfl, Nat.le_of_ble_eq_true rfl⟩ ⟨(by show cells + 4 ≤ 600000; omega), (by show slots + 66 ≤ 7302250; omega)⟩ (CW_rx hK hCW) hl.1 rfl (Nat.le_of_ble_eq_true rfl) dL_law_569 ⟨hCW, hM⟩ hS (fun _ h => h) (fun H locs hP hz hk hS => ?_)
  refine W.widen (k := cells + 8) (n := slots + 132) (by omega) (by omega) ?_
  refine lv_aload_n hx hb dL_law_572 rfl (lv_at hl 1 rfl) ?_
  refine lv_aload_n hx hb dL_law_573 rfl (lv_at hl 3 rfl) ?_
  refine lv_iload_n hx hb dL_law_574 rfl (lv_at hl 0 rfl) ?_
  refine lv_iconst (v := nI 1) hx hb dL_law_575 (by decide) ?_
  refine n_iadd hx hb dL_law_576 ?_
  refine va_sld hx hb hX hbl hbo hS (vp_in_nI (show i + 1 < L by omega) (by omega)) dL_law_577 ?_
  refine w_top (v' := .int a1) (congrArg Value.int ha1) ?_
  refine ctV (rest := [.int (turn_M μ a1).1]) S hK (m_turn l G o om μ a1 hI) cw_L_73 rfl ⟨Nat.le_of_ble_eq_true rfl, Nat.le_of_ble_eq_true rfl⟩ ⟨(by show cells + 8 + 0 ≤ 600000; omega), (by show slots + 132 + 0 ≤ 7302250; omega)⟩ (M_rx hK hP.2) hl.1 rfl (Nat.le_of_ble_eq_true rfl) dL_law_578 hP hS (fun _ h => h) (fun H locs hP hz hk hS => ?_)
  exact lv_icmp_eq (tgt := 1169) hx hb dL_law_581 (by decide) (fun _ => kk _ _ hP hS) (fun z => absurd rfl z)

set_option maxHeartbeats 1000000 in
set_option maxRecDepth 100000 in
theorem lc_13 (S : CallFix p m c cL_law 4 s #[.ref b] WT RL) (hK : gK G s) (hX : va_X b L xs s s.heap) (hbl : b < s.heap.size) (hbo : ¬ o ≤ b) (hL : L ≤ 2048) (hi : i + 4 ≤ L) (hc : cells + 8 ≤ 600000) (hd : slots + 132 ≤ 7302250) (hS : va_S (fun q => o ≤ q) s.heap H locs) (hW : LW G o om H) (hl : lv_has ls 4 [(3, .int (nI i)), (2, .ref om), (1, .ref o), (0, .ref b)]) (kk : ∀ (H1 : Heap) (locs1 : List Loc), LW G o om H1 → va_S (fun q => o ≤ q) s.heap H1 locs1 → W p l e room_1 s m #[.ref b] below meth c H1 locs1 (cells + 8) (slots + 132) Q (F0 m 1169 ls [])) : W p l e room_1 s m #[.ref b] below meth c H locs cells slots Q (F0 m 586 ls []) := by
  have hx := S.1
  have hb := S.2.1
  obtain ⟨μ, hI, hCW, hM⟩ := hW
  obtain ⟨a1, ha1⟩ : ∃ a : Int32, xs (nI (i + 1)).toNatClampNeg = a := ⟨_, rfl⟩
  refine lv_aload_n hx hb dL_law_586 rfl (lv_at hl 2 rfl) ?_
  refine lv_aload_n hx hb dL_law_587 rfl (lv_at hl 3 rfl) ?_
  refine lv_iload_n hx hb dL_law_588 rfl (lv_at hl 0 rfl) ?_
  refine lv_iconst (v := nI 1) hx hb dL_law_589 (by decide) ?_
  refine n_iadd hx hb dL_law_590 ?_
  refine va_sld hx hb hX hbl hbo hS (vp_in_nI (show i + 1 < L by omega) (by omega)) dL_law_591 ?_
  refine w_top (v' := .int a1) (congrArg Value.int ha1) ?_
  refine ctV (rest := []) S hK (e_mirror l G o om μ a1 hI) cw_L_74 rfl ⟨Nat.le_of_ble_eq_true rfl, Nat.le_of_ble_eq_true rfl⟩ ⟨(by show cells + 4 ≤ 600000; omega), (by show slots + 66 ≤ 7302250; omega)⟩ (CW_rx hK hCW) hl.1 rfl (Nat.le_of_ble_eq_true rfl) dL_law_592 ⟨hCW, hM⟩ hS (fun _ h => h) (fun H locs hP hz hk hS => ?_)
  refine W.widen (k := cells + 8) (n := slots + 132) (by omega) (by omega) ?_
  refine lv_aload_n hx hb dL_law_595 rfl (lv_at hl 1 rfl) ?_
  refine lv_aload_n hx hb dL_law_596 rfl (lv_at hl 3 rfl) ?_
  refine lv_iload_n hx hb dL_law_597 rfl (lv_at hl 0 rfl) ?_
  refine lv_iconst (v := nI 1) hx hb dL_law_598 (by decide) ?_
  refine n_iadd hx hb dL_law_599 ?_
  refine va_sld hx hb hX hbl hbo hS (vp_in_nI (show i + 1 < L by omega) (by omega)) dL_law_600 ?_
  refine w_top (v' := .int a1) (congrArg Value.int ha1) ?_
  refine ctV (rest := [.int (mirror_M μ a1).1]) S hK (m_mirror l G o om μ a1 hI) cw_L_77 rfl ⟨Nat.le_of_ble_eq_true rfl, Nat.le_of_ble_eq_true rfl⟩ ⟨(by show cells + 8 + 0 ≤ 600000; omega), (by show slots + 132 + 0 ≤ 7302250; omega)⟩ (M_rx hK hP.2) hl.1 rfl (Nat.le_of_ble_eq_true rfl) dL_law_601 hP hS (fun _ h => h) (fun H locs hP hz hk hS => ?_)
  exact lv_icmp_eq (tgt := 1169) hx hb dL_law_604 (by decide) (fun _ => kk _ _ hP hS) (fun z => absurd rfl z)

set_option maxHeartbeats 1000000 in
set_option maxRecDepth 100000 in
theorem lc_14 (S : CallFix p m c cL_law 4 s #[.ref b] WT RL) (hK : gK G s) (hX : va_X b L xs s s.heap) (hbl : b < s.heap.size) (hbo : ¬ o ≤ b) (hL : L ≤ 2048) (hi : i + 4 ≤ L) (hc : cells + 8 ≤ 600000) (hd : slots + 132 ≤ 7302250) (hS : va_S (fun q => o ≤ q) s.heap H locs) (hW : LW G o om H) (hl : lv_has ls 4 [(3, .int (nI i)), (2, .ref om), (1, .ref o), (0, .ref b)]) (kk : ∀ (H1 : Heap) (locs1 : List Loc), LW G o om H1 → va_S (fun q => o ≤ q) s.heap H1 locs1 → W p l e room_1 s m #[.ref b] below meth c H1 locs1 (cells + 8) (slots + 132) Q (F0 m 1169 ls [])) : W p l e room_1 s m #[.ref b] below meth c H locs cells slots Q (F0 m 609 ls []) := by
  have hx := S.1
  have hb := S.2.1
  obtain ⟨μ, hI, hCW, hM⟩ := hW
  obtain ⟨a1, ha1⟩ : ∃ a : Int32, xs (nI (i + 1)).toNatClampNeg = a := ⟨_, rfl⟩
  obtain ⟨a2, ha2⟩ : ∃ a : Int32, xs (nI (i + 2)).toNatClampNeg = a := ⟨_, rfl⟩
  refine lv_aload_n hx hb dL_law_609 rfl (lv_at hl 2 rfl) ?_
  refine lv_aload_n hx hb dL_law_610 rfl (lv_at hl 3 rfl) ?_
  refine lv_iload_n hx hb dL_law_611 rfl (lv_at hl 0 rfl) ?_
  refine lv_iconst (v := nI 1) hx hb dL_law_612 (by decide) ?_
  refine n_iadd hx hb dL_law_613 ?_
  refine va_sld hx hb hX hbl hbo hS (vp_in_nI (show i + 1 < L by omega) (by omega)) dL_law_614 ?_
  refine w_top (v' := .int a1) (congrArg Value.int ha1) ?_
  refine lv_aload_n hx hb dL_law_615 rfl (lv_at hl 3 rfl) ?_
  refine lv_iload_n hx hb dL_law_616 rfl (lv_at hl 0 rfl) ?_
  refine lv_iconst (v := nI 2) hx hb dL_law_617 (by decide) ?_
  refine n_iadd hx hb dL_law_618 ?_
  refine va_sld hx hb hX hbl hbo hS (vp_in_nI (show i + 2 < L by omega) (by omega)) dL_law_619 ?_
  refine w_top (v' := .int a2) (congrArg Value.int ha2) ?_
  refine ctV (rest := []) S hK (e_less l G o om μ a1 a2 hI) cw_L_78 rfl ⟨Nat.le_of_ble_eq_true rfl, Nat.le_of_ble_eq_true rfl⟩ ⟨(by show cells + 4 ≤ 600000; omega), (by show slots + 66 ≤ 7302250; omega)⟩ (CW_rx hK hCW) hl.1 rfl (Nat.le_of_ble_eq_true rfl) dL_law_620 ⟨hCW, hM⟩ hS (fun _ h => h) (fun H locs hP hz hk hS => ?_)
  refine W.widen (k := cells + 8) (n := slots + 132) (by omega) (by omega) ?_
  refine lv_aload_n hx hb dL_law_623 rfl (lv_at hl 1 rfl) ?_
  refine lv_aload_n hx hb dL_law_624 rfl (lv_at hl 3 rfl) ?_
  refine lv_iload_n hx hb dL_law_625 rfl (lv_at hl 0 rfl) ?_
  refine lv_iconst (v := nI 1) hx hb dL_law_626 (by decide) ?_
  refine n_iadd hx hb dL_law_627 ?_
  refine va_sld hx hb hX hbl hbo hS (vp_in_nI (show i + 1 < L by omega) (by omega)) dL_law_628 ?_
  refine w_top (v' := .int a1) (congrArg Value.int ha1) ?_
  refine lv_aload_n hx hb dL_law_629 rfl (lv_at hl 3 rfl) ?_
  refine lv_iload_n hx hb dL_law_630 rfl (lv_at hl 0 rfl) ?_
  refine lv_iconst (v := nI 2) hx hb dL_law_631 (by decide) ?_
  refine n_iadd hx hb dL_law_632 ?_
  refine va_sld hx hb hX hbl hbo hS (vp_in_nI (show i + 2 < L by omega) (by omega)) dL_law_633 ?_
  refine w_top (v' := .int a2) (congrArg Value.int ha2) ?_
  refine ctV (rest := [.int (less_M μ a1 a2).1]) S hK (m_less l G o om μ a1 a2 hI) cw_L_81 rfl ⟨Nat.le_of_ble_eq_true rfl, Nat.le_of_ble_eq_true rfl⟩ ⟨(by show cells + 8 + 0 ≤ 600000; omega), (by show slots + 132 + 0 ≤ 7302250; omega)⟩ (M_rx hK hP.2) hl.1 rfl (Nat.le_of_ble_eq_true rfl) dL_law_634 hP hS (fun _ h => h) (fun H locs hP hz hk hS => ?_)
  exact lv_icmp_eq (tgt := 1169) hx hb dL_law_637 (by decide) (fun _ => kk _ _ hP hS) (fun z => absurd rfl z)

set_option maxHeartbeats 1000000 in
set_option maxRecDepth 100000 in
theorem lc_15 (S : CallFix p m c cL_law 4 s #[.ref b] WT RL) (hK : gK G s) (hX : va_X b L xs s s.heap) (hbl : b < s.heap.size) (hbo : ¬ o ≤ b) (hL : L ≤ 2048) (hi : i + 4 ≤ L) (hc : cells + 8 ≤ 600000) (hd : slots + 132 ≤ 7302250) (hS : va_S (fun q => o ≤ q) s.heap H locs) (hW : LW G o om H) (hl : lv_has ls 4 [(3, .int (nI i)), (2, .ref om), (1, .ref o), (0, .ref b)]) (kk : ∀ (H1 : Heap) (locs1 : List Loc), LW G o om H1 → va_S (fun q => o ≤ q) s.heap H1 locs1 → W p l e room_1 s m #[.ref b] below meth c H1 locs1 (cells + 8) (slots + 132) Q (F0 m 1169 ls [])) : W p l e room_1 s m #[.ref b] below meth c H locs cells slots Q (F0 m 642 ls []) := by
  have hx := S.1
  have hb := S.2.1
  obtain ⟨μ, hI, hCW, hM⟩ := hW
  obtain ⟨a1, ha1⟩ : ∃ a : Int32, xs (nI (i + 1)).toNatClampNeg = a := ⟨_, rfl⟩
  obtain ⟨a2, ha2⟩ : ∃ a : Int32, xs (nI (i + 2)).toNatClampNeg = a := ⟨_, rfl⟩
  refine lv_aload_n hx hb dL_law_642 rfl (lv_at hl 2 rfl) ?_
  refine lv_aload_n hx hb dL_law_643 rfl (lv_at hl 3 rfl) ?_
  refine lv_iload_n hx hb dL_law_644 rfl (lv_at hl 0 rfl) ?_
  refine lv_iconst (v := nI 1) hx hb dL_law_645 (by decide) ?_
  refine n_iadd hx hb dL_law_646 ?_
  refine va_sld hx hb hX hbl hbo hS (vp_in_nI (show i + 1 < L by omega) (by omega)) dL_law_647 ?_
  refine w_top (v' := .int a1) (congrArg Value.int ha1) ?_
  refine lv_aload_n hx hb dL_law_648 rfl (lv_at hl 3 rfl) ?_
  refine lv_iload_n hx hb dL_law_649 rfl (lv_at hl 0 rfl) ?_
  refine lv_iconst (v := nI 2) hx hb dL_law_650 (by decide) ?_
  refine n_iadd hx hb dL_law_651 ?_
  refine va_sld hx hb hX hbl hbo hS (vp_in_nI (show i + 2 < L by omega) (by omega)) dL_law_652 ?_
  refine w_top (v' := .int a2) (congrArg Value.int ha2) ?_
  refine ctV (rest := []) S hK (e_rename l G o om μ a1 a2 hI) cw_L_82 rfl ⟨Nat.le_of_ble_eq_true rfl, Nat.le_of_ble_eq_true rfl⟩ ⟨(by show cells + 5 ≤ 600000; omega), (by show slots + 71 ≤ 7302250; omega)⟩ (CW_rx hK hCW) hl.1 rfl (Nat.le_of_ble_eq_true rfl) dL_law_653 ⟨hCW, hM⟩ hS (fun _ h => h) (fun H locs hP hz hk hS => ?_)
  refine W.widen (k := cells + 8) (n := slots + 132) (by omega) (by omega) ?_
  refine lv_aload_n hx hb dL_law_656 rfl (lv_at hl 1 rfl) ?_
  refine lv_aload_n hx hb dL_law_657 rfl (lv_at hl 3 rfl) ?_
  refine lv_iload_n hx hb dL_law_658 rfl (lv_at hl 0 rfl) ?_
  refine lv_iconst (v := nI 1) hx hb dL_law_659 (by decide) ?_
  refine n_iadd hx hb dL_law_660 ?_
  refine va_sld hx hb hX hbl hbo hS (vp_in_nI (show i + 1 < L by omega) (by omega)) dL_law_661 ?_
  refine w_top (v' := .int a1) (congrArg Value.int ha1) ?_
  refine lv_aload_n hx hb dL_law_662 rfl (lv_at hl 3 rfl) ?_
  refine lv_iload_n hx hb dL_law_663 rfl (lv_at hl 0 rfl) ?_
  refine lv_iconst (v := nI 2) hx hb dL_law_664 (by decide) ?_
  refine n_iadd hx hb dL_law_665 ?_
  refine va_sld hx hb hX hbl hbo hS (vp_in_nI (show i + 2 < L by omega) (by omega)) dL_law_666 ?_
  refine w_top (v' := .int a2) (congrArg Value.int ha2) ?_
  refine ctV (rest := [.int (rename_M μ a1 a2).1]) S hK (m_rename l G o om μ a1 a2 hI) cw_L_85 rfl ⟨Nat.le_of_ble_eq_true rfl, Nat.le_of_ble_eq_true rfl⟩ ⟨(by show cells + 8 + 0 ≤ 600000; omega), (by show slots + 132 + 0 ≤ 7302250; omega)⟩ (M_rx hK hP.2) hl.1 rfl (Nat.le_of_ble_eq_true rfl) dL_law_667 hP hS (fun _ h => h) (fun H locs hP hz hk hS => ?_)
  exact lv_icmp_eq (tgt := 1169) hx hb dL_law_670 (by decide) (fun _ => kk _ _ hP hS) (fun z => absurd rfl z)

set_option maxHeartbeats 1000000 in
set_option maxRecDepth 100000 in
theorem lc_16 (S : CallFix p m c cL_law 4 s #[.ref b] WT RL) (hK : gK G s) (hX : va_X b L xs s s.heap) (hbl : b < s.heap.size) (hbo : ¬ o ≤ b) (hL : L ≤ 2048) (hi : i + 4 ≤ L) (hc : cells + 8 ≤ 600000) (hd : slots + 132 ≤ 7302250) (hS : va_S (fun q => o ≤ q) s.heap H locs) (hW : LW G o om H) (hl : lv_has ls 4 [(3, .int (nI i)), (2, .ref om), (1, .ref o), (0, .ref b)]) (kk : ∀ (H1 : Heap) (locs1 : List Loc), LW G o om H1 → va_S (fun q => o ≤ q) s.heap H1 locs1 → W p l e room_1 s m #[.ref b] below meth c H1 locs1 (cells + 8) (slots + 132) Q (F0 m 1169 ls [])) : W p l e room_1 s m #[.ref b] below meth c H locs cells slots Q (F0 m 675 ls []) := by
  have hx := S.1
  have hb := S.2.1
  obtain ⟨μ, hI, hCW, hM⟩ := hW
  obtain ⟨a1, ha1⟩ : ∃ a : Int32, xs (nI (i + 1)).toNatClampNeg = a := ⟨_, rfl⟩
  obtain ⟨a2, ha2⟩ : ∃ a : Int32, xs (nI (i + 2)).toNatClampNeg = a := ⟨_, rfl⟩
  refine lv_aload_n hx hb dL_law_675 rfl (lv_at hl 2 rfl) ?_
  refine lv_aload_n hx hb dL_law_676 rfl (lv_at hl 3 rfl) ?_
  refine lv_iload_n hx hb dL_law_677 rfl (lv_at hl 0 rfl) ?_
  refine lv_iconst (v := nI 1) hx hb dL_law_678 (by decide) ?_
  refine n_iadd hx hb dL_law_679 ?_
  refine va_sld hx hb hX hbl hbo hS (vp_in_nI (show i + 1 < L by omega) (by omega)) dL_law_680 ?_
  refine w_top (v' := .int a1) (congrArg Value.int ha1) ?_
  refine lv_aload_n hx hb dL_law_681 rfl (lv_at hl 3 rfl) ?_
  refine lv_iload_n hx hb dL_law_682 rfl (lv_at hl 0 rfl) ?_
  refine lv_iconst (v := nI 2) hx hb dL_law_683 (by decide) ?_
  refine n_iadd hx hb dL_law_684 ?_
  refine va_sld hx hb hX hbl hbo hS (vp_in_nI (show i + 2 < L by omega) (by omega)) dL_law_685 ?_
  refine w_top (v' := .int a2) (congrArg Value.int ha2) ?_
  refine ctV (rest := []) S hK (e_alike l G o om μ a1 a2 hI) cw_L_86 rfl ⟨Nat.le_of_ble_eq_true rfl, Nat.le_of_ble_eq_true rfl⟩ ⟨(by show cells + 0 ≤ 600000; omega), (by show slots + 0 ≤ 7302250; omega)⟩ (CW_rx hK hCW) hl.1 rfl (Nat.le_of_ble_eq_true rfl) dL_law_686 ⟨hCW, hM⟩ hS (fun _ h => h) (fun H locs hP hz hk hS => ?_)
  refine W.widen (k := cells + 8) (n := slots + 132) (by omega) (by omega) ?_
  refine lv_aload_n hx hb dL_law_689 rfl (lv_at hl 1 rfl) ?_
  refine lv_aload_n hx hb dL_law_690 rfl (lv_at hl 3 rfl) ?_
  refine lv_iload_n hx hb dL_law_691 rfl (lv_at hl 0 rfl) ?_
  refine lv_iconst (v := nI 1) hx hb dL_law_692 (by decide) ?_
  refine n_iadd hx hb dL_law_693 ?_
  refine va_sld hx hb hX hbl hbo hS (vp_in_nI (show i + 1 < L by omega) (by omega)) dL_law_694 ?_
  refine w_top (v' := .int a1) (congrArg Value.int ha1) ?_
  refine lv_aload_n hx hb dL_law_695 rfl (lv_at hl 3 rfl) ?_
  refine lv_iload_n hx hb dL_law_696 rfl (lv_at hl 0 rfl) ?_
  refine lv_iconst (v := nI 2) hx hb dL_law_697 (by decide) ?_
  refine n_iadd hx hb dL_law_698 ?_
  refine va_sld hx hb hX hbl hbo hS (vp_in_nI (show i + 2 < L by omega) (by omega)) dL_law_699 ?_
  refine w_top (v' := .int a2) (congrArg Value.int ha2) ?_
  refine ctV (rest := [.int (alike_M μ a1 a2).1]) S hK (m_alike l G o om μ a1 a2 hI) cw_L_89 rfl ⟨Nat.le_of_ble_eq_true rfl, Nat.le_of_ble_eq_true rfl⟩ ⟨(by show cells + 8 + 0 ≤ 600000; omega), (by show slots + 132 + 0 ≤ 7302250; omega)⟩ (M_rx hK hP.2) hl.1 rfl (Nat.le_of_ble_eq_true rfl) dL_law_700 hP hS (fun _ h => h) (fun H locs hP hz hk hS => ?_)
  exact lv_icmp_eq (tgt := 1169) hx hb dL_law_703 (by decide) (fun _ => kk _ _ hP hS) (fun z => absurd rfl z)

set_option maxHeartbeats 1000000 in
set_option maxRecDepth 100000 in
theorem lc_17 (S : CallFix p m c cL_law 4 s #[.ref b] WT RL) (hK : gK G s) (hX : va_X b L xs s s.heap) (hbl : b < s.heap.size) (hbo : ¬ o ≤ b) (hL : L ≤ 2048) (hi : i + 4 ≤ L) (hc : cells + 8 ≤ 600000) (hd : slots + 132 ≤ 7302250) (hS : va_S (fun q => o ≤ q) s.heap H locs) (hW : LW G o om H) (hl : lv_has ls 4 [(3, .int (nI i)), (2, .ref om), (1, .ref o), (0, .ref b)]) (kk : ∀ (H1 : Heap) (locs1 : List Loc), LW G o om H1 → va_S (fun q => o ≤ q) s.heap H1 locs1 → W p l e room_1 s m #[.ref b] below meth c H1 locs1 (cells + 8) (slots + 132) Q (F0 m 1169 ls [])) : W p l e room_1 s m #[.ref b] below meth c H locs cells slots Q (F0 m 708 ls []) := by
  have hx := S.1
  have hb := S.2.1
  obtain ⟨μ, hI, hCW, hM⟩ := hW
  obtain ⟨a1, ha1⟩ : ∃ a : Int32, xs (nI (i + 1)).toNatClampNeg = a := ⟨_, rfl⟩
  refine lv_aload_n hx hb dL_law_708 rfl (lv_at hl 2 rfl) ?_
  refine lv_aload_n hx hb dL_law_709 rfl (lv_at hl 3 rfl) ?_
  refine lv_iload_n hx hb dL_law_710 rfl (lv_at hl 0 rfl) ?_
  refine lv_iconst (v := nI 1) hx hb dL_law_711 (by decide) ?_
  refine n_iadd hx hb dL_law_712 ?_
  refine va_sld hx hb hX hbl hbo hS (vp_in_nI (show i + 1 < L by omega) (by omega)) dL_law_713 ?_
  refine w_top (v' := .int a1) (congrArg Value.int ha1) ?_
  refine ctV (rest := []) S hK (e_needless l G o om μ a1 hI) cw_L_90 rfl ⟨Nat.le_of_ble_eq_true rfl, Nat.le_of_ble_eq_true rfl⟩ ⟨(by show cells + 0 ≤ 600000; omega), (by show slots + 0 ≤ 7302250; omega)⟩ (CW_rx hK hCW) hl.1 rfl (Nat.le_of_ble_eq_true rfl) dL_law_714 ⟨hCW, hM⟩ hS (fun _ h => h) (fun H locs hP hz hk hS => ?_)
  refine W.widen (k := cells + 8) (n := slots + 132) (by omega) (by omega) ?_
  refine lv_aload_n hx hb dL_law_717 rfl (lv_at hl 1 rfl) ?_
  refine lv_aload_n hx hb dL_law_718 rfl (lv_at hl 3 rfl) ?_
  refine lv_iload_n hx hb dL_law_719 rfl (lv_at hl 0 rfl) ?_
  refine lv_iconst (v := nI 1) hx hb dL_law_720 (by decide) ?_
  refine n_iadd hx hb dL_law_721 ?_
  refine va_sld hx hb hX hbl hbo hS (vp_in_nI (show i + 1 < L by omega) (by omega)) dL_law_722 ?_
  refine w_top (v' := .int a1) (congrArg Value.int ha1) ?_
  refine ctV (rest := [.int (needless_M μ a1).1]) S hK (m_needless l G o om μ a1 hI) cw_L_93 rfl ⟨Nat.le_of_ble_eq_true rfl, Nat.le_of_ble_eq_true rfl⟩ ⟨(by show cells + 8 + 0 ≤ 600000; omega), (by show slots + 132 + 0 ≤ 7302250; omega)⟩ (M_rx hK hP.2) hl.1 rfl (Nat.le_of_ble_eq_true rfl) dL_law_723 hP hS (fun _ h => h) (fun H locs hP hz hk hS => ?_)
  exact lv_icmp_eq (tgt := 1169) hx hb dL_law_726 (by decide) (fun _ => kk _ _ hP hS) (fun z => absurd rfl z)

set_option maxHeartbeats 1000000 in
set_option maxRecDepth 100000 in
theorem lc_18 (S : CallFix p m c cL_law 4 s #[.ref b] WT RL) (hK : gK G s) (hX : va_X b L xs s s.heap) (hbl : b < s.heap.size) (hbo : ¬ o ≤ b) (hL : L ≤ 2048) (hi : i + 4 ≤ L) (hc : cells + 8 ≤ 600000) (hd : slots + 132 ≤ 7302250) (hS : va_S (fun q => o ≤ q) s.heap H locs) (hW : LW G o om H) (hl : lv_has ls 4 [(3, .int (nI i)), (2, .ref om), (1, .ref o), (0, .ref b)]) (kk : ∀ (H1 : Heap) (locs1 : List Loc), LW G o om H1 → va_S (fun q => o ≤ q) s.heap H1 locs1 → W p l e room_1 s m #[.ref b] below meth c H1 locs1 (cells + 8) (slots + 132) Q (F0 m 1169 ls [])) : W p l e room_1 s m #[.ref b] below meth c H locs cells slots Q (F0 m 731 ls []) := by
  have hx := S.1
  have hb := S.2.1
  obtain ⟨μ, hI, hCW, hM⟩ := hW
  obtain ⟨a1, ha1⟩ : ∃ a : Int32, xs (nI (i + 1)).toNatClampNeg = a := ⟨_, rfl⟩
  refine lv_aload_n hx hb dL_law_731 rfl (lv_at hl 2 rfl) ?_
  refine lv_aload_n hx hb dL_law_732 rfl (lv_at hl 3 rfl) ?_
  refine lv_iload_n hx hb dL_law_733 rfl (lv_at hl 0 rfl) ?_
  refine lv_iconst (v := nI 1) hx hb dL_law_734 (by decide) ?_
  refine n_iadd hx hb dL_law_735 ?_
  refine va_sld hx hb hX hbl hbo hS (vp_in_nI (show i + 1 < L by omega) (by omega)) dL_law_736 ?_
  refine w_top (v' := .int a1) (congrArg Value.int ha1) ?_
  refine ctV (rest := []) S hK (e_put l G o om μ a1 hI) cw_L_94 rfl ⟨Nat.le_of_ble_eq_true rfl, Nat.le_of_ble_eq_true rfl⟩ ⟨(by show cells + 0 ≤ 600000; omega), (by show slots + 0 ≤ 7302250; omega)⟩ (CW_rx hK hCW) hl.1 rfl (Nat.le_of_ble_eq_true rfl) dL_law_737 ⟨hCW, hM⟩ hS (fun _ h => h) (fun H locs hP hz hk hS => ?_)
  refine W.widen (k := cells + 8) (n := slots + 132) (by omega) (by omega) ?_
  refine lv_aload_n hx hb dL_law_740 rfl (lv_at hl 1 rfl) ?_
  refine lv_aload_n hx hb dL_law_741 rfl (lv_at hl 3 rfl) ?_
  refine lv_iload_n hx hb dL_law_742 rfl (lv_at hl 0 rfl) ?_
  refine lv_iconst (v := nI 1) hx hb dL_law_743 (by decide) ?_
  refine n_iadd hx hb dL_law_744 ?_
  refine va_sld hx hb hX hbl hbo hS (vp_in_nI (show i + 1 < L by omega) (by omega)) dL_law_745 ?_
  refine w_top (v' := .int a1) (congrArg Value.int ha1) ?_
  refine ctV (rest := [.int (put_M μ a1).1]) S hK (m_put l G o om μ a1 hI) cw_L_97 rfl ⟨Nat.le_of_ble_eq_true rfl, Nat.le_of_ble_eq_true rfl⟩ ⟨(by show cells + 8 + 0 ≤ 600000; omega), (by show slots + 132 + 0 ≤ 7302250; omega)⟩ (M_rx hK hP.2) hl.1 rfl (Nat.le_of_ble_eq_true rfl) dL_law_746 hP hS (fun _ h => h) (fun H locs hP hz hk hS => ?_)
  exact lv_icmp_eq (tgt := 1169) hx hb dL_law_749 (by decide) (fun _ => kk _ _ hP hS) (fun z => absurd rfl z)

set_option maxHeartbeats 1000000 in
set_option maxRecDepth 100000 in
theorem lc_19 (S : CallFix p m c cL_law 4 s #[.ref b] WT RL) (hK : gK G s) (hX : va_X b L xs s s.heap) (hbl : b < s.heap.size) (hbo : ¬ o ≤ b) (hL : L ≤ 2048) (hi : i + 4 ≤ L) (hc : cells + 8 ≤ 600000) (hd : slots + 132 ≤ 7302250) (hS : va_S (fun q => o ≤ q) s.heap H locs) (hW : LW G o om H) (hl : lv_has ls 4 [(3, .int (nI i)), (2, .ref om), (1, .ref o), (0, .ref b)]) (kk : ∀ (H1 : Heap) (locs1 : List Loc), LW G o om H1 → va_S (fun q => o ≤ q) s.heap H1 locs1 → W p l e room_1 s m #[.ref b] below meth c H1 locs1 (cells + 8) (slots + 132) Q (F0 m 1169 ls [])) : W p l e room_1 s m #[.ref b] below meth c H locs cells slots Q (F0 m 754 ls []) := by
  have hx := S.1
  have hb := S.2.1
  obtain ⟨μ, hI, hCW, hM⟩ := hW
  obtain ⟨a1, ha1⟩ : ∃ a : Int32, xs (nI (i + 1)).toNatClampNeg = a := ⟨_, rfl⟩
  obtain ⟨a2, ha2⟩ : ∃ a : Int32, xs (nI (i + 2)).toNatClampNeg = a := ⟨_, rfl⟩
  obtain ⟨a3, ha3⟩ : ∃ a : Int32, xs (nI (i + 3)).toNatClampNeg = a := ⟨_, rfl⟩
  refine lv_aload_n hx hb dL_law_754 rfl (lv_at hl 2 rfl) ?_
  refine lv_aload_n hx hb dL_law_755 rfl (lv_at hl 3 rfl) ?_
  refine lv_iload_n hx hb dL_law_756 rfl (lv_at hl 0 rfl) ?_
  refine lv_iconst (v := nI 1) hx hb dL_law_757 (by decide) ?_
  refine n_iadd hx hb dL_law_758 ?_
  refine va_sld hx hb hX hbl hbo hS (vp_in_nI (show i + 1 < L by omega) (by omega)) dL_law_759 ?_
  refine w_top (v' := .int a1) (congrArg Value.int ha1) ?_
  refine lv_aload_n hx hb dL_law_760 rfl (lv_at hl 3 rfl) ?_
  refine lv_iload_n hx hb dL_law_761 rfl (lv_at hl 0 rfl) ?_
  refine lv_iconst (v := nI 2) hx hb dL_law_762 (by decide) ?_
  refine n_iadd hx hb dL_law_763 ?_
  refine va_sld hx hb hX hbl hbo hS (vp_in_nI (show i + 2 < L by omega) (by omega)) dL_law_764 ?_
  refine w_top (v' := .int a2) (congrArg Value.int ha2) ?_
  refine lv_aload_n hx hb dL_law_765 rfl (lv_at hl 3 rfl) ?_
  refine lv_iload_n hx hb dL_law_766 rfl (lv_at hl 0 rfl) ?_
  refine lv_iconst (v := nI 3) hx hb dL_law_767 (by decide) ?_
  refine n_iadd hx hb dL_law_768 ?_
  refine va_sld hx hb hX hbl hbo hS (vp_in_nI (show i + 3 < L by omega) (by omega)) dL_law_769 ?_
  refine w_top (v' := .int a3) (congrArg Value.int ha3) ?_
  refine ctV (rest := []) S hK (e_find l G o om μ a1 a2 a3 hI) cw_L_98 rfl ⟨Nat.le_of_ble_eq_true rfl, Nat.le_of_ble_eq_true rfl⟩ ⟨(by show cells + 8 ≤ 600000; omega), (by show slots + 132 ≤ 7302250; omega)⟩ (CW_rx hK hCW) hl.1 rfl (Nat.le_of_ble_eq_true rfl) dL_law_770 ⟨hCW, hM⟩ hS (fun _ h => h) (fun H locs hP hz hk hS => ?_)
  refine W.widen (k := cells + 8) (n := slots + 132) (by omega) (by omega) ?_
  refine lv_aload_n hx hb dL_law_773 rfl (lv_at hl 1 rfl) ?_
  refine lv_aload_n hx hb dL_law_774 rfl (lv_at hl 3 rfl) ?_
  refine lv_iload_n hx hb dL_law_775 rfl (lv_at hl 0 rfl) ?_
  refine lv_iconst (v := nI 1) hx hb dL_law_776 (by decide) ?_
  refine n_iadd hx hb dL_law_777 ?_
  refine va_sld hx hb hX hbl hbo hS (vp_in_nI (show i + 1 < L by omega) (by omega)) dL_law_778 ?_
  refine w_top (v' := .int a1) (congrArg Value.int ha1) ?_
  refine lv_aload_n hx hb dL_law_779 rfl (lv_at hl 3 rfl) ?_
  refine lv_iload_n hx hb dL_law_780 rfl (lv_at hl 0 rfl) ?_
  refine lv_iconst (v := nI 2) hx hb dL_law_781 (by decide) ?_
  refine n_iadd hx hb dL_law_782 ?_
  refine va_sld hx hb hX hbl hbo hS (vp_in_nI (show i + 2 < L by omega) (by omega)) dL_law_783 ?_
  refine w_top (v' := .int a2) (congrArg Value.int ha2) ?_
  refine lv_aload_n hx hb dL_law_784 rfl (lv_at hl 3 rfl) ?_
  refine lv_iload_n hx hb dL_law_785 rfl (lv_at hl 0 rfl) ?_
  refine lv_iconst (v := nI 3) hx hb dL_law_786 (by decide) ?_
  refine n_iadd hx hb dL_law_787 ?_
  refine va_sld hx hb hX hbl hbo hS (vp_in_nI (show i + 3 < L by omega) (by omega)) dL_law_788 ?_
  refine w_top (v' := .int a3) (congrArg Value.int ha3) ?_
  refine ctV (rest := [.int (find_M μ a1 a2 a3).1]) S hK (m_find l G o om μ a1 a2 a3 hI) cw_L_101 rfl ⟨Nat.le_of_ble_eq_true rfl, Nat.le_of_ble_eq_true rfl⟩ ⟨(by show cells + 8 + 0 ≤ 600000; omega), (by show slots + 132 + 0 ≤ 7302250; omega)⟩ (M_rx hK hP.2) hl.1 rfl (Nat.le_of_ble_eq_true rfl) dL_law_789 hP hS (fun _ h => h) (fun H locs hP hz hk hS => ?_)
  exact lv_icmp_eq (tgt := 1169) hx hb dL_law_792 (by decide) (fun _ => kk _ _ hP hS) (fun z => absurd rfl z)

set_option maxHeartbeats 1000000 in
set_option maxRecDepth 100000 in
theorem lc_20 (S : CallFix p m c cL_law 4 s #[.ref b] WT RL) (hK : gK G s) (hX : va_X b L xs s s.heap) (hbl : b < s.heap.size) (hbo : ¬ o ≤ b) (hL : L ≤ 2048) (hi : i + 4 ≤ L) (hc : cells + 8 ≤ 600000) (hd : slots + 132 ≤ 7302250) (hS : va_S (fun q => o ≤ q) s.heap H locs) (hW : LW G o om H) (hl : lv_has ls 4 [(3, .int (nI i)), (2, .ref om), (1, .ref o), (0, .ref b)]) (kk : ∀ (H1 : Heap) (locs1 : List Loc), LW G o om H1 → va_S (fun q => o ≤ q) s.heap H1 locs1 → W p l e room_1 s m #[.ref b] below meth c H1 locs1 (cells + 8) (slots + 132) Q (F0 m 1169 ls [])) : W p l e room_1 s m #[.ref b] below meth c H locs cells slots Q (F0 m 797 ls []) := by
  have hx := S.1
  have hb := S.2.1
  obtain ⟨μ, hI, hCW, hM⟩ := hW
  refine lv_aload_n hx hb dL_law_797 rfl (lv_at hl 2 rfl) ?_
  refine ctV (rest := []) S hK (e_net l G o om μ  hI) cw_L_102 rfl ⟨Nat.le_of_ble_eq_true rfl, Nat.le_of_ble_eq_true rfl⟩ ⟨(by show cells + 4 ≤ 600000; omega), (by show slots + 93 ≤ 7302250; omega)⟩ (CW_rx hK hCW) hl.1 rfl (Nat.le_of_ble_eq_true rfl) dL_law_798 ⟨hCW, hM⟩ hS (fun _ h => h) (fun H locs hP hz hk hS => ?_)
  refine W.widen (k := cells + 8) (n := slots + 132) (by omega) (by omega) ?_
  refine lv_aload_n hx hb dL_law_801 rfl (lv_at hl 1 rfl) ?_
  refine ctV (rest := [.int (net_M μ).1]) S hK (m_net l G o om μ  hI) cw_L_105 rfl ⟨Nat.le_of_ble_eq_true rfl, Nat.le_of_ble_eq_true rfl⟩ ⟨(by show cells + 8 + 0 ≤ 600000; omega), (by show slots + 132 + 0 ≤ 7302250; omega)⟩ (M_rx hK hP.2) hl.1 rfl (Nat.le_of_ble_eq_true rfl) dL_law_802 hP hS (fun _ h => h) (fun H locs hP hz hk hS => ?_)
  exact lv_icmp_eq (tgt := 1169) hx hb dL_law_805 (by decide) (fun _ => kk _ _ hP hS) (fun z => absurd rfl z)

set_option maxHeartbeats 1000000 in
set_option maxRecDepth 100000 in
theorem lc_21 (S : CallFix p m c cL_law 4 s #[.ref b] WT RL) (hK : gK G s) (hX : va_X b L xs s s.heap) (hbl : b < s.heap.size) (hbo : ¬ o ≤ b) (hL : L ≤ 2048) (hi : i + 4 ≤ L) (hc : cells + 8 ≤ 600000) (hd : slots + 132 ≤ 7302250) (hS : va_S (fun q => o ≤ q) s.heap H locs) (hW : LW G o om H) (hl : lv_has ls 4 [(3, .int (nI i)), (2, .ref om), (1, .ref o), (0, .ref b)]) (kk : ∀ (H1 : Heap) (locs1 : List Loc), LW G o om H1 → va_S (fun q => o ≤ q) s.heap H1 locs1 → W p l e room_1 s m #[.ref b] below meth c H1 locs1 (cells + 8) (slots + 132) Q (F0 m 1169 ls [])) : W p l e room_1 s m #[.ref b] below meth c H locs cells slots Q (F0 m 810 ls []) := by
  have hx := S.1
  have hb := S.2.1
  obtain ⟨μ, hI, hCW, hM⟩ := hW
  obtain ⟨a1, ha1⟩ : ∃ a : Int32, xs (nI (i + 1)).toNatClampNeg = a := ⟨_, rfl⟩
  obtain ⟨a2, ha2⟩ : ∃ a : Int32, xs (nI (i + 2)).toNatClampNeg = a := ⟨_, rfl⟩
  refine lv_aload_n hx hb dL_law_810 rfl (lv_at hl 2 rfl) ?_
  refine lv_aload_n hx hb dL_law_811 rfl (lv_at hl 3 rfl) ?_
  refine lv_iload_n hx hb dL_law_812 rfl (lv_at hl 0 rfl) ?_
  refine lv_iconst (v := nI 1) hx hb dL_law_813 (by decide) ?_
  refine n_iadd hx hb dL_law_814 ?_
  refine va_sld hx hb hX hbl hbo hS (vp_in_nI (show i + 1 < L by omega) (by omega)) dL_law_815 ?_
  refine w_top (v' := .int a1) (congrArg Value.int ha1) ?_
  refine lv_aload_n hx hb dL_law_816 rfl (lv_at hl 3 rfl) ?_
  refine lv_iload_n hx hb dL_law_817 rfl (lv_at hl 0 rfl) ?_
  refine lv_iconst (v := nI 2) hx hb dL_law_818 (by decide) ?_
  refine n_iadd hx hb dL_law_819 ?_
  refine va_sld hx hb hX hbl hbo hS (vp_in_nI (show i + 2 < L by omega) (by omega)) dL_law_820 ?_
  refine w_top (v' := .int a2) (congrArg Value.int ha2) ?_
  refine ctV (rest := []) S hK (e_piece l G o om μ a1 a2 hI) cw_L_106 rfl ⟨Nat.le_of_ble_eq_true rfl, Nat.le_of_ble_eq_true rfl⟩ ⟨(by show cells + 0 ≤ 600000; omega), (by show slots + 0 ≤ 7302250; omega)⟩ (CW_rx hK hCW) hl.1 rfl (Nat.le_of_ble_eq_true rfl) dL_law_821 ⟨hCW, hM⟩ hS (fun _ h => h) (fun H locs hP hz hk hS => ?_)
  refine W.widen (k := cells + 8) (n := slots + 132) (by omega) (by omega) ?_
  refine lv_aload_n hx hb dL_law_824 rfl (lv_at hl 1 rfl) ?_
  refine lv_aload_n hx hb dL_law_825 rfl (lv_at hl 3 rfl) ?_
  refine lv_iload_n hx hb dL_law_826 rfl (lv_at hl 0 rfl) ?_
  refine lv_iconst (v := nI 1) hx hb dL_law_827 (by decide) ?_
  refine n_iadd hx hb dL_law_828 ?_
  refine va_sld hx hb hX hbl hbo hS (vp_in_nI (show i + 1 < L by omega) (by omega)) dL_law_829 ?_
  refine w_top (v' := .int a1) (congrArg Value.int ha1) ?_
  refine lv_aload_n hx hb dL_law_830 rfl (lv_at hl 3 rfl) ?_
  refine lv_iload_n hx hb dL_law_831 rfl (lv_at hl 0 rfl) ?_
  refine lv_iconst (v := nI 2) hx hb dL_law_832 (by decide) ?_
  refine n_iadd hx hb dL_law_833 ?_
  refine va_sld hx hb hX hbl hbo hS (vp_in_nI (show i + 2 < L by omega) (by omega)) dL_law_834 ?_
  refine w_top (v' := .int a2) (congrArg Value.int ha2) ?_
  refine ctV (rest := [.int (piece_M μ a1 a2).1]) S hK (m_piece l G o om μ a1 a2 hI) cw_L_109 rfl ⟨Nat.le_of_ble_eq_true rfl, Nat.le_of_ble_eq_true rfl⟩ ⟨(by show cells + 8 + 0 ≤ 600000; omega), (by show slots + 132 + 0 ≤ 7302250; omega)⟩ (M_rx hK hP.2) hl.1 rfl (Nat.le_of_ble_eq_true rfl) dL_law_835 hP hS (fun _ h => h) (fun H locs hP hz hk hS => ?_)
  exact lv_icmp_eq (tgt := 1169) hx hb dL_law_838 (by decide) (fun _ => kk _ _ hP hS) (fun z => absurd rfl z)

set_option maxHeartbeats 1000000 in
set_option maxRecDepth 100000 in
theorem lc_22 (S : CallFix p m c cL_law 4 s #[.ref b] WT RL) (hK : gK G s) (hX : va_X b L xs s s.heap) (hbl : b < s.heap.size) (hbo : ¬ o ≤ b) (hL : L ≤ 2048) (hi : i + 4 ≤ L) (hc : cells + 8 ≤ 600000) (hd : slots + 132 ≤ 7302250) (hS : va_S (fun q => o ≤ q) s.heap H locs) (hW : LW G o om H) (hl : lv_has ls 4 [(3, .int (nI i)), (2, .ref om), (1, .ref o), (0, .ref b)]) (kk : ∀ (H1 : Heap) (locs1 : List Loc), LW G o om H1 → va_S (fun q => o ≤ q) s.heap H1 locs1 → W p l e room_1 s m #[.ref b] below meth c H1 locs1 (cells + 8) (slots + 132) Q (F0 m 1169 ls [])) : W p l e room_1 s m #[.ref b] below meth c H locs cells slots Q (F0 m 843 ls []) := by
  have hx := S.1
  have hb := S.2.1
  obtain ⟨μ, hI, hCW, hM⟩ := hW
  obtain ⟨a1, ha1⟩ : ∃ a : Int32, xs (nI (i + 1)).toNatClampNeg = a := ⟨_, rfl⟩
  obtain ⟨a2, ha2⟩ : ∃ a : Int32, xs (nI (i + 2)).toNatClampNeg = a := ⟨_, rfl⟩
  obtain ⟨a3, ha3⟩ : ∃ a : Int32, xs (nI (i + 3)).toNatClampNeg = a := ⟨_, rfl⟩
  refine lv_aload_n hx hb dL_law_843 rfl (lv_at hl 2 rfl) ?_
  refine lv_aload_n hx hb dL_law_844 rfl (lv_at hl 3 rfl) ?_
  refine lv_iload_n hx hb dL_law_845 rfl (lv_at hl 0 rfl) ?_
  refine lv_iconst (v := nI 1) hx hb dL_law_846 (by decide) ?_
  refine n_iadd hx hb dL_law_847 ?_
  refine va_sld hx hb hX hbl hbo hS (vp_in_nI (show i + 1 < L by omega) (by omega)) dL_law_848 ?_
  refine w_top (v' := .int a1) (congrArg Value.int ha1) ?_
  refine lv_aload_n hx hb dL_law_849 rfl (lv_at hl 3 rfl) ?_
  refine lv_iload_n hx hb dL_law_850 rfl (lv_at hl 0 rfl) ?_
  refine lv_iconst (v := nI 2) hx hb dL_law_851 (by decide) ?_
  refine n_iadd hx hb dL_law_852 ?_
  refine va_sld hx hb hX hbl hbo hS (vp_in_nI (show i + 2 < L by omega) (by omega)) dL_law_853 ?_
  refine w_top (v' := .int a2) (congrArg Value.int ha2) ?_
  refine lv_aload_n hx hb dL_law_854 rfl (lv_at hl 3 rfl) ?_
  refine lv_iload_n hx hb dL_law_855 rfl (lv_at hl 0 rfl) ?_
  refine lv_iconst (v := nI 3) hx hb dL_law_856 (by decide) ?_
  refine n_iadd hx hb dL_law_857 ?_
  refine va_sld hx hb hX hbl hbo hS (vp_in_nI (show i + 3 < L by omega) (by omega)) dL_law_858 ?_
  refine w_top (v' := .int a3) (congrArg Value.int ha3) ?_
  refine ctV (rest := []) S hK (e_link l G o om μ a1 a2 a3 hI) cw_L_110 rfl ⟨Nat.le_of_ble_eq_true rfl, Nat.le_of_ble_eq_true rfl⟩ ⟨(by show cells + 0 ≤ 600000; omega), (by show slots + 0 ≤ 7302250; omega)⟩ (CW_rx hK hCW) hl.1 rfl (Nat.le_of_ble_eq_true rfl) dL_law_859 ⟨hCW, hM⟩ hS (fun _ h => h) (fun H locs hP hz hk hS => ?_)
  refine W.widen (k := cells + 8) (n := slots + 132) (by omega) (by omega) ?_
  refine lv_aload_n hx hb dL_law_862 rfl (lv_at hl 1 rfl) ?_
  refine lv_aload_n hx hb dL_law_863 rfl (lv_at hl 3 rfl) ?_
  refine lv_iload_n hx hb dL_law_864 rfl (lv_at hl 0 rfl) ?_
  refine lv_iconst (v := nI 1) hx hb dL_law_865 (by decide) ?_
  refine n_iadd hx hb dL_law_866 ?_
  refine va_sld hx hb hX hbl hbo hS (vp_in_nI (show i + 1 < L by omega) (by omega)) dL_law_867 ?_
  refine w_top (v' := .int a1) (congrArg Value.int ha1) ?_
  refine lv_aload_n hx hb dL_law_868 rfl (lv_at hl 3 rfl) ?_
  refine lv_iload_n hx hb dL_law_869 rfl (lv_at hl 0 rfl) ?_
  refine lv_iconst (v := nI 2) hx hb dL_law_870 (by decide) ?_
  refine n_iadd hx hb dL_law_871 ?_
  refine va_sld hx hb hX hbl hbo hS (vp_in_nI (show i + 2 < L by omega) (by omega)) dL_law_872 ?_
  refine w_top (v' := .int a2) (congrArg Value.int ha2) ?_
  refine lv_aload_n hx hb dL_law_873 rfl (lv_at hl 3 rfl) ?_
  refine lv_iload_n hx hb dL_law_874 rfl (lv_at hl 0 rfl) ?_
  refine lv_iconst (v := nI 3) hx hb dL_law_875 (by decide) ?_
  refine n_iadd hx hb dL_law_876 ?_
  refine va_sld hx hb hX hbl hbo hS (vp_in_nI (show i + 3 < L by omega) (by omega)) dL_law_877 ?_
  refine w_top (v' := .int a3) (congrArg Value.int ha3) ?_
  refine ctV (rest := [.int (link_M μ a1 a2 a3).1]) S hK (m_link l G o om μ a1 a2 a3 hI) cw_L_113 rfl ⟨Nat.le_of_ble_eq_true rfl, Nat.le_of_ble_eq_true rfl⟩ ⟨(by show cells + 8 + 0 ≤ 600000; omega), (by show slots + 132 + 0 ≤ 7302250; omega)⟩ (M_rx hK hP.2) hl.1 rfl (Nat.le_of_ble_eq_true rfl) dL_law_878 hP hS (fun _ h => h) (fun H locs hP hz hk hS => ?_)
  exact lv_icmp_eq (tgt := 1169) hx hb dL_law_881 (by decide) (fun _ => kk _ _ hP hS) (fun z => absurd rfl z)

set_option maxHeartbeats 1000000 in
set_option maxRecDepth 100000 in
theorem lc_23 (S : CallFix p m c cL_law 4 s #[.ref b] WT RL) (hK : gK G s) (hX : va_X b L xs s s.heap) (hbl : b < s.heap.size) (hbo : ¬ o ≤ b) (hL : L ≤ 2048) (hi : i + 4 ≤ L) (hc : cells + 8 ≤ 600000) (hd : slots + 132 ≤ 7302250) (hS : va_S (fun q => o ≤ q) s.heap H locs) (hW : LW G o om H) (hl : lv_has ls 4 [(3, .int (nI i)), (2, .ref om), (1, .ref o), (0, .ref b)]) (kk : ∀ (H1 : Heap) (locs1 : List Loc), LW G o om H1 → va_S (fun q => o ≤ q) s.heap H1 locs1 → W p l e room_1 s m #[.ref b] below meth c H1 locs1 (cells + 8) (slots + 132) Q (F0 m 1169 ls [])) : W p l e room_1 s m #[.ref b] below meth c H locs cells slots Q (F0 m 886 ls []) := by
  have hx := S.1
  have hb := S.2.1
  obtain ⟨μ, hI, hCW, hM⟩ := hW
  obtain ⟨a1, ha1⟩ : ∃ a : Int32, xs (nI (i + 1)).toNatClampNeg = a := ⟨_, rfl⟩
  obtain ⟨a2, ha2⟩ : ∃ a : Int32, xs (nI (i + 2)).toNatClampNeg = a := ⟨_, rfl⟩
  refine lv_aload_n hx hb dL_law_886 rfl (lv_at hl 2 rfl) ?_
  refine lv_aload_n hx hb dL_law_887 rfl (lv_at hl 3 rfl) ?_
  refine lv_iload_n hx hb dL_law_888 rfl (lv_at hl 0 rfl) ?_
  refine lv_iconst (v := nI 1) hx hb dL_law_889 (by decide) ?_
  refine n_iadd hx hb dL_law_890 ?_
  refine va_sld hx hb hX hbl hbo hS (vp_in_nI (show i + 1 < L by omega) (by omega)) dL_law_891 ?_
  refine w_top (v' := .int a1) (congrArg Value.int ha1) ?_
  refine lv_aload_n hx hb dL_law_892 rfl (lv_at hl 3 rfl) ?_
  refine lv_iload_n hx hb dL_law_893 rfl (lv_at hl 0 rfl) ?_
  refine lv_iconst (v := nI 2) hx hb dL_law_894 (by decide) ?_
  refine n_iadd hx hb dL_law_895 ?_
  refine va_sld hx hb hX hbl hbo hS (vp_in_nI (show i + 2 < L by omega) (by omega)) dL_law_896 ?_
  refine w_top (v' := .int a2) (congrArg Value.int ha2) ?_
  refine ctV (rest := []) S hK (e_free l G o om μ a1 a2 hI) cw_L_114 rfl ⟨Nat.le_of_ble_eq_true rfl, Nat.le_of_ble_eq_true rfl⟩ ⟨(by show cells + 0 ≤ 600000; omega), (by show slots + 0 ≤ 7302250; omega)⟩ (CW_rx hK hCW) hl.1 rfl (Nat.le_of_ble_eq_true rfl) dL_law_897 ⟨hCW, hM⟩ hS (fun _ h => h) (fun H locs hP hz hk hS => ?_)
  refine W.widen (k := cells + 8) (n := slots + 132) (by omega) (by omega) ?_
  refine lv_aload_n hx hb dL_law_900 rfl (lv_at hl 1 rfl) ?_
  refine lv_aload_n hx hb dL_law_901 rfl (lv_at hl 3 rfl) ?_
  refine lv_iload_n hx hb dL_law_902 rfl (lv_at hl 0 rfl) ?_
  refine lv_iconst (v := nI 1) hx hb dL_law_903 (by decide) ?_
  refine n_iadd hx hb dL_law_904 ?_
  refine va_sld hx hb hX hbl hbo hS (vp_in_nI (show i + 1 < L by omega) (by omega)) dL_law_905 ?_
  refine w_top (v' := .int a1) (congrArg Value.int ha1) ?_
  refine lv_aload_n hx hb dL_law_906 rfl (lv_at hl 3 rfl) ?_
  refine lv_iload_n hx hb dL_law_907 rfl (lv_at hl 0 rfl) ?_
  refine lv_iconst (v := nI 2) hx hb dL_law_908 (by decide) ?_
  refine n_iadd hx hb dL_law_909 ?_
  refine va_sld hx hb hX hbl hbo hS (vp_in_nI (show i + 2 < L by omega) (by omega)) dL_law_910 ?_
  refine w_top (v' := .int a2) (congrArg Value.int ha2) ?_
  refine ctV (rest := [.int (free_M μ a1 a2).1]) S hK (m_free l G o om μ a1 a2 hI) cw_L_117 rfl ⟨Nat.le_of_ble_eq_true rfl, Nat.le_of_ble_eq_true rfl⟩ ⟨(by show cells + 8 + 0 ≤ 600000; omega), (by show slots + 132 + 0 ≤ 7302250; omega)⟩ (M_rx hK hP.2) hl.1 rfl (Nat.le_of_ble_eq_true rfl) dL_law_911 hP hS (fun _ h => h) (fun H locs hP hz hk hS => ?_)
  exact lv_icmp_eq (tgt := 1169) hx hb dL_law_914 (by decide) (fun _ => kk _ _ hP hS) (fun z => absurd rfl z)

set_option maxHeartbeats 1000000 in
set_option maxRecDepth 100000 in
theorem lc_24 (S : CallFix p m c cL_law 4 s #[.ref b] WT RL) (hK : gK G s) (hX : va_X b L xs s s.heap) (hbl : b < s.heap.size) (hbo : ¬ o ≤ b) (hL : L ≤ 2048) (hi : i + 4 ≤ L) (hc : cells + 8 ≤ 600000) (hd : slots + 132 ≤ 7302250) (hS : va_S (fun q => o ≤ q) s.heap H locs) (hW : LW G o om H) (hl : lv_has ls 4 [(3, .int (nI i)), (2, .ref om), (1, .ref o), (0, .ref b)]) (kk : ∀ (H1 : Heap) (locs1 : List Loc), LW G o om H1 → va_S (fun q => o ≤ q) s.heap H1 locs1 → W p l e room_1 s m #[.ref b] below meth c H1 locs1 (cells + 8) (slots + 132) Q (F0 m 1169 ls [])) : W p l e room_1 s m #[.ref b] below meth c H locs cells slots Q (F0 m 919 ls []) := by
  have hx := S.1
  have hb := S.2.1
  obtain ⟨μ, hI, hCW, hM⟩ := hW
  obtain ⟨a1, ha1⟩ : ∃ a : Int32, xs (nI (i + 1)).toNatClampNeg = a := ⟨_, rfl⟩
  obtain ⟨a2, ha2⟩ : ∃ a : Int32, xs (nI (i + 2)).toNatClampNeg = a := ⟨_, rfl⟩
  refine lv_aload_n hx hb dL_law_919 rfl (lv_at hl 2 rfl) ?_
  refine lv_aload_n hx hb dL_law_920 rfl (lv_at hl 3 rfl) ?_
  refine lv_iload_n hx hb dL_law_921 rfl (lv_at hl 0 rfl) ?_
  refine lv_iconst (v := nI 1) hx hb dL_law_922 (by decide) ?_
  refine n_iadd hx hb dL_law_923 ?_
  refine va_sld hx hb hX hbl hbo hS (vp_in_nI (show i + 1 < L by omega) (by omega)) dL_law_924 ?_
  refine w_top (v' := .int a1) (congrArg Value.int ha1) ?_
  refine lv_aload_n hx hb dL_law_925 rfl (lv_at hl 3 rfl) ?_
  refine lv_iload_n hx hb dL_law_926 rfl (lv_at hl 0 rfl) ?_
  refine lv_iconst (v := nI 2) hx hb dL_law_927 (by decide) ?_
  refine n_iadd hx hb dL_law_928 ?_
  refine va_sld hx hb hX hbl hbo hS (vp_in_nI (show i + 2 < L by omega) (by omega)) dL_law_929 ?_
  refine w_top (v' := .int a2) (congrArg Value.int ha2) ?_
  refine ctV (rest := []) S hK (e_netLets l G o om μ a1 a2 hI) cw_L_118 rfl ⟨Nat.le_of_ble_eq_true rfl, Nat.le_of_ble_eq_true rfl⟩ ⟨(by show cells + 0 ≤ 600000; omega), (by show slots + 0 ≤ 7302250; omega)⟩ (CW_rx hK hCW) hl.1 rfl (Nat.le_of_ble_eq_true rfl) dL_law_930 ⟨hCW, hM⟩ hS (fun _ h => h) (fun H locs hP hz hk hS => ?_)
  refine W.widen (k := cells + 8) (n := slots + 132) (by omega) (by omega) ?_
  refine lv_aload_n hx hb dL_law_933 rfl (lv_at hl 1 rfl) ?_
  refine lv_aload_n hx hb dL_law_934 rfl (lv_at hl 3 rfl) ?_
  refine lv_iload_n hx hb dL_law_935 rfl (lv_at hl 0 rfl) ?_
  refine lv_iconst (v := nI 1) hx hb dL_law_936 (by decide) ?_
  refine n_iadd hx hb dL_law_937 ?_
  refine va_sld hx hb hX hbl hbo hS (vp_in_nI (show i + 1 < L by omega) (by omega)) dL_law_938 ?_
  refine w_top (v' := .int a1) (congrArg Value.int ha1) ?_
  refine lv_aload_n hx hb dL_law_939 rfl (lv_at hl 3 rfl) ?_
  refine lv_iload_n hx hb dL_law_940 rfl (lv_at hl 0 rfl) ?_
  refine lv_iconst (v := nI 2) hx hb dL_law_941 (by decide) ?_
  refine n_iadd hx hb dL_law_942 ?_
  refine va_sld hx hb hX hbl hbo hS (vp_in_nI (show i + 2 < L by omega) (by omega)) dL_law_943 ?_
  refine w_top (v' := .int a2) (congrArg Value.int ha2) ?_
  refine ctV (rest := [.int (netLets_M μ a1 a2).1]) S hK (m_netLets l G o om μ a1 a2 hI) cw_L_121 rfl ⟨Nat.le_of_ble_eq_true rfl, Nat.le_of_ble_eq_true rfl⟩ ⟨(by show cells + 8 + 0 ≤ 600000; omega), (by show slots + 132 + 0 ≤ 7302250; omega)⟩ (M_rx hK hP.2) hl.1 rfl (Nat.le_of_ble_eq_true rfl) dL_law_944 hP hS (fun _ h => h) (fun H locs hP hz hk hS => ?_)
  exact lv_icmp_eq (tgt := 1169) hx hb dL_law_947 (by decide) (fun _ => kk _ _ hP hS) (fun z => absurd rfl z)

set_option maxHeartbeats 1000000 in
set_option maxRecDepth 100000 in
theorem lc_25 (S : CallFix p m c cL_law 4 s #[.ref b] WT RL) (hK : gK G s) (hX : va_X b L xs s s.heap) (hbl : b < s.heap.size) (hbo : ¬ o ≤ b) (hL : L ≤ 2048) (hi : i + 4 ≤ L) (hc : cells + 8 ≤ 600000) (hd : slots + 132 ≤ 7302250) (hS : va_S (fun q => o ≤ q) s.heap H locs) (hW : LW G o om H) (hl : lv_has ls 4 [(3, .int (nI i)), (2, .ref om), (1, .ref o), (0, .ref b)]) (kk : ∀ (H1 : Heap) (locs1 : List Loc), LW G o om H1 → va_S (fun q => o ≤ q) s.heap H1 locs1 → W p l e room_1 s m #[.ref b] below meth c H1 locs1 (cells + 8) (slots + 132) Q (F0 m 1169 ls [])) : W p l e room_1 s m #[.ref b] below meth c H locs cells slots Q (F0 m 952 ls []) := by
  have hx := S.1
  have hb := S.2.1
  obtain ⟨μ, hI, hCW, hM⟩ := hW
  obtain ⟨a1, ha1⟩ : ∃ a : Int32, xs (nI (i + 1)).toNatClampNeg = a := ⟨_, rfl⟩
  obtain ⟨a2, ha2⟩ : ∃ a : Int32, xs (nI (i + 2)).toNatClampNeg = a := ⟨_, rfl⟩
  refine lv_aload_n hx hb dL_law_952 rfl (lv_at hl 2 rfl) ?_
  refine lv_aload_n hx hb dL_law_953 rfl (lv_at hl 3 rfl) ?_
  refine lv_iload_n hx hb dL_law_954 rfl (lv_at hl 0 rfl) ?_
  refine lv_iconst (v := nI 1) hx hb dL_law_955 (by decide) ?_
  refine n_iadd hx hb dL_law_956 ?_
  refine va_sld hx hb hX hbl hbo hS (vp_in_nI (show i + 1 < L by omega) (by omega)) dL_law_957 ?_
  refine w_top (v' := .int a1) (congrArg Value.int ha1) ?_
  refine lv_aload_n hx hb dL_law_958 rfl (lv_at hl 3 rfl) ?_
  refine lv_iload_n hx hb dL_law_959 rfl (lv_at hl 0 rfl) ?_
  refine lv_iconst (v := nI 2) hx hb dL_law_960 (by decide) ?_
  refine n_iadd hx hb dL_law_961 ?_
  refine va_sld hx hb hX hbl hbo hS (vp_in_nI (show i + 2 < L by omega) (by omega)) dL_law_962 ?_
  refine w_top (v' := .int a2) (congrArg Value.int ha2) ?_
  refine ctV (rest := []) S hK (e_howMany l G o om μ a1 a2 hI) cw_L_122 rfl ⟨Nat.le_of_ble_eq_true rfl, Nat.le_of_ble_eq_true rfl⟩ ⟨(by show cells + 0 ≤ 600000; omega), (by show slots + 0 ≤ 7302250; omega)⟩ (CW_rx hK hCW) hl.1 rfl (Nat.le_of_ble_eq_true rfl) dL_law_963 ⟨hCW, hM⟩ hS (fun _ h => h) (fun H locs hP hz hk hS => ?_)
  refine W.widen (k := cells + 8) (n := slots + 132) (by omega) (by omega) ?_
  refine lv_aload_n hx hb dL_law_966 rfl (lv_at hl 1 rfl) ?_
  refine lv_aload_n hx hb dL_law_967 rfl (lv_at hl 3 rfl) ?_
  refine lv_iload_n hx hb dL_law_968 rfl (lv_at hl 0 rfl) ?_
  refine lv_iconst (v := nI 1) hx hb dL_law_969 (by decide) ?_
  refine n_iadd hx hb dL_law_970 ?_
  refine va_sld hx hb hX hbl hbo hS (vp_in_nI (show i + 1 < L by omega) (by omega)) dL_law_971 ?_
  refine w_top (v' := .int a1) (congrArg Value.int ha1) ?_
  refine lv_aload_n hx hb dL_law_972 rfl (lv_at hl 3 rfl) ?_
  refine lv_iload_n hx hb dL_law_973 rfl (lv_at hl 0 rfl) ?_
  refine lv_iconst (v := nI 2) hx hb dL_law_974 (by decide) ?_
  refine n_iadd hx hb dL_law_975 ?_
  refine va_sld hx hb hX hbl hbo hS (vp_in_nI (show i + 2 < L by omega) (by omega)) dL_law_976 ?_
  refine w_top (v' := .int a2) (congrArg Value.int ha2) ?_
  refine ctV (rest := [.int (howMany_M μ a1 a2).1]) S hK (m_howMany l G o om μ a1 a2 hI) cw_L_125 rfl ⟨Nat.le_of_ble_eq_true rfl, Nat.le_of_ble_eq_true rfl⟩ ⟨(by show cells + 8 + 0 ≤ 600000; omega), (by show slots + 132 + 0 ≤ 7302250; omega)⟩ (M_rx hK hP.2) hl.1 rfl (Nat.le_of_ble_eq_true rfl) dL_law_977 hP hS (fun _ h => h) (fun H locs hP hz hk hS => ?_)
  exact lv_icmp_eq (tgt := 1169) hx hb dL_law_980 (by decide) (fun _ => kk _ _ hP hS) (fun z => absurd rfl z)

set_option maxHeartbeats 1000000 in
set_option maxRecDepth 100000 in
theorem lc_26 (S : CallFix p m c cL_law 4 s #[.ref b] WT RL) (hK : gK G s) (hX : va_X b L xs s s.heap) (hbl : b < s.heap.size) (hbo : ¬ o ≤ b) (hL : L ≤ 2048) (hi : i + 4 ≤ L) (hc : cells + 8 ≤ 600000) (hd : slots + 132 ≤ 7302250) (hS : va_S (fun q => o ≤ q) s.heap H locs) (hW : LW G o om H) (hl : lv_has ls 4 [(3, .int (nI i)), (2, .ref om), (1, .ref o), (0, .ref b)]) (kk : ∀ (H1 : Heap) (locs1 : List Loc), LW G o om H1 → va_S (fun q => o ≤ q) s.heap H1 locs1 → W p l e room_1 s m #[.ref b] below meth c H1 locs1 (cells + 8) (slots + 132) Q (F0 m 1169 ls [])) : W p l e room_1 s m #[.ref b] below meth c H locs cells slots Q (F0 m 985 ls []) := by
  have hx := S.1
  have hb := S.2.1
  obtain ⟨μ, hI, hCW, hM⟩ := hW
  obtain ⟨a1, ha1⟩ : ∃ a : Int32, xs (nI (i + 1)).toNatClampNeg = a := ⟨_, rfl⟩
  obtain ⟨a2, ha2⟩ : ∃ a : Int32, xs (nI (i + 2)).toNatClampNeg = a := ⟨_, rfl⟩
  refine lv_aload_n hx hb dL_law_985 rfl (lv_at hl 2 rfl) ?_
  refine lv_aload_n hx hb dL_law_986 rfl (lv_at hl 3 rfl) ?_
  refine lv_iload_n hx hb dL_law_987 rfl (lv_at hl 0 rfl) ?_
  refine lv_iconst (v := nI 1) hx hb dL_law_988 (by decide) ?_
  refine n_iadd hx hb dL_law_989 ?_
  refine va_sld hx hb hX hbl hbo hS (vp_in_nI (show i + 1 < L by omega) (by omega)) dL_law_990 ?_
  refine w_top (v' := .int a1) (congrArg Value.int ha1) ?_
  refine lv_aload_n hx hb dL_law_991 rfl (lv_at hl 3 rfl) ?_
  refine lv_iload_n hx hb dL_law_992 rfl (lv_at hl 0 rfl) ?_
  refine lv_iconst (v := nI 2) hx hb dL_law_993 (by decide) ?_
  refine n_iadd hx hb dL_law_994 ?_
  refine va_sld hx hb hX hbl hbo hS (vp_in_nI (show i + 2 < L by omega) (by omega)) dL_law_995 ?_
  refine w_top (v' := .int a2) (congrArg Value.int ha2) ?_
  refine ctV (rest := []) S hK (e_netDoes l G o om μ a1 a2 hI) cw_L_126 rfl ⟨Nat.le_of_ble_eq_true rfl, Nat.le_of_ble_eq_true rfl⟩ ⟨(by show cells + 0 ≤ 600000; omega), (by show slots + 0 ≤ 7302250; omega)⟩ (CW_rx hK hCW) hl.1 rfl (Nat.le_of_ble_eq_true rfl) dL_law_996 ⟨hCW, hM⟩ hS (fun _ h => h) (fun H locs hP hz hk hS => ?_)
  refine W.widen (k := cells + 8) (n := slots + 132) (by omega) (by omega) ?_
  refine lv_aload_n hx hb dL_law_999 rfl (lv_at hl 1 rfl) ?_
  refine lv_aload_n hx hb dL_law_1000 rfl (lv_at hl 3 rfl) ?_
  refine lv_iload_n hx hb dL_law_1001 rfl (lv_at hl 0 rfl) ?_
  refine lv_iconst (v := nI 1) hx hb dL_law_1002 (by decide) ?_
  refine n_iadd hx hb dL_law_1003 ?_
  refine va_sld hx hb hX hbl hbo hS (vp_in_nI (show i + 1 < L by omega) (by omega)) dL_law_1004 ?_
  refine w_top (v' := .int a1) (congrArg Value.int ha1) ?_
  refine lv_aload_n hx hb dL_law_1005 rfl (lv_at hl 3 rfl) ?_
  refine lv_iload_n hx hb dL_law_1006 rfl (lv_at hl 0 rfl) ?_
  refine lv_iconst (v := nI 2) hx hb dL_law_1007 (by decide) ?_
  refine n_iadd hx hb dL_law_1008 ?_
  refine va_sld hx hb hX hbl hbo hS (vp_in_nI (show i + 2 < L by omega) (by omega)) dL_law_1009 ?_
  refine w_top (v' := .int a2) (congrArg Value.int ha2) ?_
  refine ctV (rest := [.int (netDoes_M μ a1 a2).1]) S hK (m_netDoes l G o om μ a1 a2 hI) cw_L_129 rfl ⟨Nat.le_of_ble_eq_true rfl, Nat.le_of_ble_eq_true rfl⟩ ⟨(by show cells + 8 + 0 ≤ 600000; omega), (by show slots + 132 + 0 ≤ 7302250; omega)⟩ (M_rx hK hP.2) hl.1 rfl (Nat.le_of_ble_eq_true rfl) dL_law_1010 hP hS (fun _ h => h) (fun H locs hP hz hk hS => ?_)
  exact lv_icmp_eq (tgt := 1169) hx hb dL_law_1013 (by decide) (fun _ => kk _ _ hP hS) (fun z => absurd rfl z)

set_option maxHeartbeats 1000000 in
set_option maxRecDepth 100000 in
theorem lc_27 (S : CallFix p m c cL_law 4 s #[.ref b] WT RL) (hK : gK G s) (hX : va_X b L xs s s.heap) (hbl : b < s.heap.size) (hbo : ¬ o ≤ b) (hL : L ≤ 2048) (hi : i + 4 ≤ L) (hc : cells + 8 ≤ 600000) (hd : slots + 132 ≤ 7302250) (hS : va_S (fun q => o ≤ q) s.heap H locs) (hW : LW G o om H) (hl : lv_has ls 4 [(3, .int (nI i)), (2, .ref om), (1, .ref o), (0, .ref b)]) (kk : ∀ (H1 : Heap) (locs1 : List Loc), LW G o om H1 → va_S (fun q => o ≤ q) s.heap H1 locs1 → W p l e room_1 s m #[.ref b] below meth c H1 locs1 (cells + 8) (slots + 132) Q (F0 m 1169 ls [])) : W p l e room_1 s m #[.ref b] below meth c H locs cells slots Q (F0 m 1018 ls []) := by
  have hx := S.1
  have hb := S.2.1
  obtain ⟨μ, hI, hCW, hM⟩ := hW
  obtain ⟨a1, ha1⟩ : ∃ a : Int32, xs (nI (i + 1)).toNatClampNeg = a := ⟨_, rfl⟩
  obtain ⟨a2, ha2⟩ : ∃ a : Int32, xs (nI (i + 2)).toNatClampNeg = a := ⟨_, rfl⟩
  obtain ⟨a3, ha3⟩ : ∃ a : Int32, xs (nI (i + 3)).toNatClampNeg = a := ⟨_, rfl⟩
  refine lv_aload_n hx hb dL_law_1018 rfl (lv_at hl 2 rfl) ?_
  refine lv_aload_n hx hb dL_law_1019 rfl (lv_at hl 3 rfl) ?_
  refine lv_iload_n hx hb dL_law_1020 rfl (lv_at hl 0 rfl) ?_
  refine lv_iconst (v := nI 1) hx hb dL_law_1021 (by decide) ?_
  refine n_iadd hx hb dL_law_1022 ?_
  refine va_sld hx hb hX hbl hbo hS (vp_in_nI (show i + 1 < L by omega) (by omega)) dL_law_1023 ?_
  refine w_top (v' := .int a1) (congrArg Value.int ha1) ?_
  refine lv_aload_n hx hb dL_law_1024 rfl (lv_at hl 3 rfl) ?_
  refine lv_iload_n hx hb dL_law_1025 rfl (lv_at hl 0 rfl) ?_
  refine lv_iconst (v := nI 2) hx hb dL_law_1026 (by decide) ?_
  refine n_iadd hx hb dL_law_1027 ?_
  refine va_sld hx hb hX hbl hbo hS (vp_in_nI (show i + 2 < L by omega) (by omega)) dL_law_1028 ?_
  refine w_top (v' := .int a2) (congrArg Value.int ha2) ?_
  refine lv_aload_n hx hb dL_law_1029 rfl (lv_at hl 3 rfl) ?_
  refine lv_iload_n hx hb dL_law_1030 rfl (lv_at hl 0 rfl) ?_
  refine lv_iconst (v := nI 3) hx hb dL_law_1031 (by decide) ?_
  refine n_iadd hx hb dL_law_1032 ?_
  refine va_sld hx hb hX hbl hbo hS (vp_in_nI (show i + 3 < L by omega) (by omega)) dL_law_1033 ?_
  refine w_top (v' := .int a3) (congrArg Value.int ha3) ?_
  refine ctV (rest := []) S hK (e_lay l G o om μ a1 a2 a3 hI) cw_L_130 rfl ⟨Nat.le_of_ble_eq_true rfl, Nat.le_of_ble_eq_true rfl⟩ ⟨(by show cells + 0 ≤ 600000; omega), (by show slots + 0 ≤ 7302250; omega)⟩ (CW_rx hK hCW) hl.1 rfl (Nat.le_of_ble_eq_true rfl) dL_law_1034 ⟨hCW, hM⟩ hS (fun _ h => h) (fun H locs hP hz hk hS => ?_)
  refine W.widen (k := cells + 8) (n := slots + 132) (by omega) (by omega) ?_
  refine lv_aload_n hx hb dL_law_1037 rfl (lv_at hl 1 rfl) ?_
  refine lv_aload_n hx hb dL_law_1038 rfl (lv_at hl 3 rfl) ?_
  refine lv_iload_n hx hb dL_law_1039 rfl (lv_at hl 0 rfl) ?_
  refine lv_iconst (v := nI 1) hx hb dL_law_1040 (by decide) ?_
  refine n_iadd hx hb dL_law_1041 ?_
  refine va_sld hx hb hX hbl hbo hS (vp_in_nI (show i + 1 < L by omega) (by omega)) dL_law_1042 ?_
  refine w_top (v' := .int a1) (congrArg Value.int ha1) ?_
  refine lv_aload_n hx hb dL_law_1043 rfl (lv_at hl 3 rfl) ?_
  refine lv_iload_n hx hb dL_law_1044 rfl (lv_at hl 0 rfl) ?_
  refine lv_iconst (v := nI 2) hx hb dL_law_1045 (by decide) ?_
  refine n_iadd hx hb dL_law_1046 ?_
  refine va_sld hx hb hX hbl hbo hS (vp_in_nI (show i + 2 < L by omega) (by omega)) dL_law_1047 ?_
  refine w_top (v' := .int a2) (congrArg Value.int ha2) ?_
  refine lv_aload_n hx hb dL_law_1048 rfl (lv_at hl 3 rfl) ?_
  refine lv_iload_n hx hb dL_law_1049 rfl (lv_at hl 0 rfl) ?_
  refine lv_iconst (v := nI 3) hx hb dL_law_1050 (by decide) ?_
  refine n_iadd hx hb dL_law_1051 ?_
  refine va_sld hx hb hX hbl hbo hS (vp_in_nI (show i + 3 < L by omega) (by omega)) dL_law_1052 ?_
  refine w_top (v' := .int a3) (congrArg Value.int ha3) ?_
  refine ctV (rest := [.int (lay_M μ a1 a2 a3).1]) S hK (m_lay l G o om μ a1 a2 a3 hI) cw_L_133 rfl ⟨Nat.le_of_ble_eq_true rfl, Nat.le_of_ble_eq_true rfl⟩ ⟨(by show cells + 8 + 0 ≤ 600000; omega), (by show slots + 132 + 0 ≤ 7302250; omega)⟩ (M_rx hK hP.2) hl.1 rfl (Nat.le_of_ble_eq_true rfl) dL_law_1053 hP hS (fun _ h => h) (fun H locs hP hz hk hS => ?_)
  exact lv_icmp_eq (tgt := 1169) hx hb dL_law_1056 (by decide) (fun _ => kk _ _ hP hS) (fun z => absurd rfl z)

set_option maxHeartbeats 1000000 in
set_option maxRecDepth 100000 in
theorem lc_28 (S : CallFix p m c cL_law 4 s #[.ref b] WT RL) (hK : gK G s) (hX : va_X b L xs s s.heap) (hbl : b < s.heap.size) (hbo : ¬ o ≤ b) (hL : L ≤ 2048) (hi : i + 4 ≤ L) (hc : cells + 8 ≤ 600000) (hd : slots + 132 ≤ 7302250) (hS : va_S (fun q => o ≤ q) s.heap H locs) (hW : LW G o om H) (hl : lv_has ls 4 [(3, .int (nI i)), (2, .ref om), (1, .ref o), (0, .ref b)]) (kk : ∀ (H1 : Heap) (locs1 : List Loc), LW G o om H1 → va_S (fun q => o ≤ q) s.heap H1 locs1 → W p l e room_1 s m #[.ref b] below meth c H1 locs1 (cells + 8) (slots + 132) Q (F0 m 1169 ls [])) : W p l e room_1 s m #[.ref b] below meth c H locs cells slots Q (F0 m 1061 ls []) := by
  have hx := S.1
  have hb := S.2.1
  obtain ⟨μ, hI, hCW, hM⟩ := hW
  refine lv_aload_n hx hb dL_law_1061 rfl (lv_at hl 2 rfl) ?_
  refine ctV (rest := []) S hK (e_overlap l G o om μ  hI) cw_L_134 rfl ⟨Nat.le_of_ble_eq_true rfl, Nat.le_of_ble_eq_true rfl⟩ ⟨(by show cells + 0 ≤ 600000; omega), (by show slots + 0 ≤ 7302250; omega)⟩ (CW_rx hK hCW) hl.1 rfl (Nat.le_of_ble_eq_true rfl) dL_law_1062 ⟨hCW, hM⟩ hS (fun _ h => h) (fun H locs hP hz hk hS => ?_)
  refine W.widen (k := cells + 8) (n := slots + 132) (by omega) (by omega) ?_
  refine lv_aload_n hx hb dL_law_1065 rfl (lv_at hl 1 rfl) ?_
  refine ctV (rest := [.int (overlap_M μ)]) S hK (m_overlap l G o om μ  hI) cw_L_137 rfl ⟨Nat.le_of_ble_eq_true rfl, Nat.le_of_ble_eq_true rfl⟩ ⟨(by show cells + 8 + 0 ≤ 600000; omega), (by show slots + 132 + 0 ≤ 7302250; omega)⟩ (M_rx hK hP.2) hl.1 rfl (Nat.le_of_ble_eq_true rfl) dL_law_1066 hP hS (fun _ h => h) (fun H locs hP hz hk hS => ?_)
  exact lv_icmp_eq (tgt := 1169) hx hb dL_law_1069 (by decide) (fun _ => kk _ _ hP hS) (fun z => absurd rfl z)

set_option maxHeartbeats 1000000 in
set_option maxRecDepth 100000 in
theorem lc_29 (S : CallFix p m c cL_law 4 s #[.ref b] WT RL) (hK : gK G s) (hX : va_X b L xs s s.heap) (hbl : b < s.heap.size) (hbo : ¬ o ≤ b) (hL : L ≤ 2048) (hi : i + 4 ≤ L) (hc : cells + 8 ≤ 600000) (hd : slots + 132 ≤ 7302250) (hS : va_S (fun q => o ≤ q) s.heap H locs) (hW : LW G o om H) (hl : lv_has ls 4 [(3, .int (nI i)), (2, .ref om), (1, .ref o), (0, .ref b)]) (kk : ∀ (H1 : Heap) (locs1 : List Loc), LW G o om H1 → va_S (fun q => o ≤ q) s.heap H1 locs1 → W p l e room_1 s m #[.ref b] below meth c H1 locs1 (cells + 8) (slots + 132) Q (F0 m 1169 ls [])) : W p l e room_1 s m #[.ref b] below meth c H locs cells slots Q (F0 m 1074 ls []) := by
  have hx := S.1
  have hb := S.2.1
  obtain ⟨μ, hI, hCW, hM⟩ := hW
  obtain ⟨a1, ha1⟩ : ∃ a : Int32, xs (nI (i + 1)).toNatClampNeg = a := ⟨_, rfl⟩
  obtain ⟨a2, ha2⟩ : ∃ a : Int32, xs (nI (i + 2)).toNatClampNeg = a := ⟨_, rfl⟩
  refine lv_aload_n hx hb dL_law_1074 rfl (lv_at hl 2 rfl) ?_
  refine lv_aload_n hx hb dL_law_1075 rfl (lv_at hl 3 rfl) ?_
  refine lv_iload_n hx hb dL_law_1076 rfl (lv_at hl 0 rfl) ?_
  refine lv_iconst (v := nI 1) hx hb dL_law_1077 (by decide) ?_
  refine n_iadd hx hb dL_law_1078 ?_
  refine va_sld hx hb hX hbl hbo hS (vp_in_nI (show i + 1 < L by omega) (by omega)) dL_law_1079 ?_
  refine w_top (v' := .int a1) (congrArg Value.int ha1) ?_
  refine lv_aload_n hx hb dL_law_1080 rfl (lv_at hl 3 rfl) ?_
  refine lv_iload_n hx hb dL_law_1081 rfl (lv_at hl 0 rfl) ?_
  refine lv_iconst (v := nI 2) hx hb dL_law_1082 (by decide) ?_
  refine n_iadd hx hb dL_law_1083 ?_
  refine va_sld hx hb hX hbl hbo hS (vp_in_nI (show i + 2 < L by omega) (by omega)) dL_law_1084 ?_
  refine w_top (v' := .int a2) (congrArg Value.int ha2) ?_
  refine ctV (rest := []) S hK (e_meets l G o om μ a1 a2 hI) cw_L_138 rfl ⟨Nat.le_of_ble_eq_true rfl, Nat.le_of_ble_eq_true rfl⟩ ⟨(by show cells + 0 ≤ 600000; omega), (by show slots + 0 ≤ 7302250; omega)⟩ (CW_rx hK hCW) hl.1 rfl (Nat.le_of_ble_eq_true rfl) dL_law_1085 ⟨hCW, hM⟩ hS (fun _ h => h) (fun H locs hP hz hk hS => ?_)
  refine W.widen (k := cells + 8) (n := slots + 132) (by omega) (by omega) ?_
  refine lv_aload_n hx hb dL_law_1088 rfl (lv_at hl 1 rfl) ?_
  refine lv_aload_n hx hb dL_law_1089 rfl (lv_at hl 3 rfl) ?_
  refine lv_iload_n hx hb dL_law_1090 rfl (lv_at hl 0 rfl) ?_
  refine lv_iconst (v := nI 1) hx hb dL_law_1091 (by decide) ?_
  refine n_iadd hx hb dL_law_1092 ?_
  refine va_sld hx hb hX hbl hbo hS (vp_in_nI (show i + 1 < L by omega) (by omega)) dL_law_1093 ?_
  refine w_top (v' := .int a1) (congrArg Value.int ha1) ?_
  refine lv_aload_n hx hb dL_law_1094 rfl (lv_at hl 3 rfl) ?_
  refine lv_iload_n hx hb dL_law_1095 rfl (lv_at hl 0 rfl) ?_
  refine lv_iconst (v := nI 2) hx hb dL_law_1096 (by decide) ?_
  refine n_iadd hx hb dL_law_1097 ?_
  refine va_sld hx hb hX hbl hbo hS (vp_in_nI (show i + 2 < L by omega) (by omega)) dL_law_1098 ?_
  refine w_top (v' := .int a2) (congrArg Value.int ha2) ?_
  refine ctV (rest := [.int (meets_M μ a1 a2).1]) S hK (m_meets l G o om μ a1 a2 hI) cw_L_141 rfl ⟨Nat.le_of_ble_eq_true rfl, Nat.le_of_ble_eq_true rfl⟩ ⟨(by show cells + 8 + 0 ≤ 600000; omega), (by show slots + 132 + 0 ≤ 7302250; omega)⟩ (M_rx hK hP.2) hl.1 rfl (Nat.le_of_ble_eq_true rfl) dL_law_1099 hP hS (fun _ h => h) (fun H locs hP hz hk hS => ?_)
  exact lv_icmp_eq (tgt := 1169) hx hb dL_law_1102 (by decide) (fun _ => kk _ _ hP hS) (fun z => absurd rfl z)

set_option maxHeartbeats 1000000 in
set_option maxRecDepth 100000 in
theorem lc_30 (S : CallFix p m c cL_law 4 s #[.ref b] WT RL) (hK : gK G s) (hX : va_X b L xs s s.heap) (hbl : b < s.heap.size) (hbo : ¬ o ≤ b) (hL : L ≤ 2048) (hi : i + 4 ≤ L) (hc : cells + 8 ≤ 600000) (hd : slots + 132 ≤ 7302250) (hS : va_S (fun q => o ≤ q) s.heap H locs) (hW : LW G o om H) (hl : lv_has ls 4 [(3, .int (nI i)), (2, .ref om), (1, .ref o), (0, .ref b)]) (kk : ∀ (H1 : Heap) (locs1 : List Loc), LW G o om H1 → va_S (fun q => o ≤ q) s.heap H1 locs1 → W p l e room_1 s m #[.ref b] below meth c H1 locs1 (cells + 8) (slots + 132) Q (F0 m 1169 ls [])) : W p l e room_1 s m #[.ref b] below meth c H locs cells slots Q (F0 m 1107 ls []) := by
  have hx := S.1
  have hb := S.2.1
  obtain ⟨μ, hI, hCW, hM⟩ := hW
  refine lv_aload_n hx hb dL_law_1107 rfl (lv_at hl 2 rfl) ?_
  refine ctV (rest := []) S hK (e_leak l G o om μ  hI) cw_L_142 rfl ⟨Nat.le_of_ble_eq_true rfl, Nat.le_of_ble_eq_true rfl⟩ ⟨(by show cells + 0 ≤ 600000; omega), (by show slots + 0 ≤ 7302250; omega)⟩ (CW_rx hK hCW) hl.1 rfl (Nat.le_of_ble_eq_true rfl) dL_law_1108 ⟨hCW, hM⟩ hS (fun _ h => h) (fun H locs hP hz hk hS => ?_)
  refine W.widen (k := cells + 8) (n := slots + 132) (by omega) (by omega) ?_
  refine lv_aload_n hx hb dL_law_1111 rfl (lv_at hl 1 rfl) ?_
  refine ctV (rest := [.int (leak_M μ)]) S hK (m_leak l G o om μ  hI) cw_L_145 rfl ⟨Nat.le_of_ble_eq_true rfl, Nat.le_of_ble_eq_true rfl⟩ ⟨(by show cells + 8 + 0 ≤ 600000; omega), (by show slots + 132 + 0 ≤ 7302250; omega)⟩ (M_rx hK hP.2) hl.1 rfl (Nat.le_of_ble_eq_true rfl) dL_law_1112 hP hS (fun _ h => h) (fun H locs hP hz hk hS => ?_)
  exact lv_icmp_eq (tgt := 1169) hx hb dL_law_1115 (by decide) (fun _ => kk _ _ hP hS) (fun z => absurd rfl z)

set_option maxHeartbeats 1000000 in
set_option maxRecDepth 100000 in
theorem lc_31 (S : CallFix p m c cL_law 4 s #[.ref b] WT RL) (hK : gK G s) (hX : va_X b L xs s s.heap) (hbl : b < s.heap.size) (hbo : ¬ o ≤ b) (hL : L ≤ 2048) (hi : i + 4 ≤ L) (hc : cells + 8 ≤ 600000) (hd : slots + 132 ≤ 7302250) (hS : va_S (fun q => o ≤ q) s.heap H locs) (hW : LW G o om H) (hl : lv_has ls 4 [(3, .int (nI i)), (2, .ref om), (1, .ref o), (0, .ref b)]) (kk : ∀ (H1 : Heap) (locs1 : List Loc), LW G o om H1 → va_S (fun q => o ≤ q) s.heap H1 locs1 → W p l e room_1 s m #[.ref b] below meth c H1 locs1 (cells + 8) (slots + 132) Q (F0 m 1169 ls [])) : W p l e room_1 s m #[.ref b] below meth c H locs cells slots Q (F0 m 1120 ls []) := by
  have hx := S.1
  have hb := S.2.1
  obtain ⟨μ, hI, hCW, hM⟩ := hW
  refine lv_aload_n hx hb dL_law_1120 rfl (lv_at hl 2 rfl) ?_
  refine ctV (rest := []) S hK (e_floorNet l G o om μ  hI) cw_L_146 rfl ⟨Nat.le_of_ble_eq_true rfl, Nat.le_of_ble_eq_true rfl⟩ ⟨(by show cells + 4 ≤ 600000; omega), (by show slots + 93 ≤ 7302250; omega)⟩ (CW_rx hK hCW) hl.1 rfl (Nat.le_of_ble_eq_true rfl) dL_law_1121 ⟨hCW, hM⟩ hS (fun _ h => h) (fun H locs hP hz hk hS => ?_)
  refine W.widen (k := cells + 8) (n := slots + 132) (by omega) (by omega) ?_
  refine lv_aload_n hx hb dL_law_1124 rfl (lv_at hl 1 rfl) ?_
  refine ctV (rest := [.int (floorNet_M μ).1]) S hK (m_floorNet l G o om μ  hI) cw_L_149 rfl ⟨Nat.le_of_ble_eq_true rfl, Nat.le_of_ble_eq_true rfl⟩ ⟨(by show cells + 8 + 0 ≤ 600000; omega), (by show slots + 132 + 0 ≤ 7302250; omega)⟩ (M_rx hK hP.2) hl.1 rfl (Nat.le_of_ble_eq_true rfl) dL_law_1125 hP hS (fun _ h => h) (fun H locs hP hz hk hS => ?_)
  exact lv_icmp_eq (tgt := 1169) hx hb dL_law_1128 (by decide) (fun _ => kk _ _ hP hS) (fun z => absurd rfl z)

set_option maxHeartbeats 1000000 in
set_option maxRecDepth 100000 in
theorem lc_32 (S : CallFix p m c cL_law 4 s #[.ref b] WT RL) (hK : gK G s) (hX : va_X b L xs s s.heap) (hbl : b < s.heap.size) (hbo : ¬ o ≤ b) (hL : L ≤ 2048) (hi : i + 4 ≤ L) (hc : cells + 8 ≤ 600000) (hd : slots + 132 ≤ 7302250) (hS : va_S (fun q => o ≤ q) s.heap H locs) (hW : LW G o om H) (hl : lv_has ls 4 [(3, .int (nI i)), (2, .ref om), (1, .ref o), (0, .ref b)]) (kk : ∀ (H1 : Heap) (locs1 : List Loc), LW G o om H1 → va_S (fun q => o ≤ q) s.heap H1 locs1 → W p l e room_1 s m #[.ref b] below meth c H1 locs1 (cells + 8) (slots + 132) Q (F0 m 1169 ls [])) : W p l e room_1 s m #[.ref b] below meth c H locs cells slots Q (F0 m 1133 ls []) := by
  have hx := S.1
  have hb := S.2.1
  obtain ⟨μ, hI, hCW, hM⟩ := hW
  refine lv_aload_n hx hb dL_law_1133 rfl (lv_at hl 2 rfl) ?_
  refine ctV (rest := []) S hK (e_clear l G o om μ  hI) cw_L_150 rfl ⟨Nat.le_of_ble_eq_true rfl, Nat.le_of_ble_eq_true rfl⟩ ⟨(by show cells + 0 ≤ 600000; omega), (by show slots + 0 ≤ 7302250; omega)⟩ (CW_rx hK hCW) hl.1 rfl (Nat.le_of_ble_eq_true rfl) dL_law_1134 ⟨hCW, hM⟩ hS (fun _ h => h) (fun H locs hP hz hk hS => ?_)
  refine W.widen (k := cells + 8) (n := slots + 132) (by omega) (by omega) ?_
  refine lv_aload_n hx hb dL_law_1137 rfl (lv_at hl 1 rfl) ?_
  refine ctV (rest := [.int (clear_M μ).1]) S hK (m_clear l G o om μ  hI) cw_L_153 rfl ⟨Nat.le_of_ble_eq_true rfl, Nat.le_of_ble_eq_true rfl⟩ ⟨(by show cells + 8 + 0 ≤ 600000; omega), (by show slots + 132 + 0 ≤ 7302250; omega)⟩ (M_rx hK hP.2) hl.1 rfl (Nat.le_of_ble_eq_true rfl) dL_law_1138 hP hS (fun _ h => h) (fun H locs hP hz hk hS => ?_)
  exact lv_icmp_eq (tgt := 1169) hx hb dL_law_1141 (by decide) (fun _ => kk _ _ hP hS) (fun z => absurd rfl z)

set_option maxHeartbeats 1000000 in
set_option maxRecDepth 100000 in
theorem lc_33 (S : CallFix p m c cL_law 4 s #[.ref b] WT RL) (hK : gK G s) (hX : va_X b L xs s s.heap) (hbl : b < s.heap.size) (hbo : ¬ o ≤ b) (hL : L ≤ 2048) (hi : i + 4 ≤ L) (hc : cells + 8 ≤ 600000) (hd : slots + 132 ≤ 7302250) (hS : va_S (fun q => o ≤ q) s.heap H locs) (hW : LW G o om H) (hl : lv_has ls 4 [(3, .int (nI i)), (2, .ref om), (1, .ref o), (0, .ref b)]) (kk : ∀ (H1 : Heap) (locs1 : List Loc), LW G o om H1 → va_S (fun q => o ≤ q) s.heap H1 locs1 → W p l e room_1 s m #[.ref b] below meth c H1 locs1 (cells + 8) (slots + 132) Q (F0 m 1169 ls [])) : W p l e room_1 s m #[.ref b] below meth c H locs cells slots Q (F0 m 1146 ls []) := by
  have hx := S.1
  have hb := S.2.1
  obtain ⟨μ, hI, hCW, hM⟩ := hW
  obtain ⟨a1, ha1⟩ : ∃ a : Int32, xs (nI (i + 1)).toNatClampNeg = a := ⟨_, rfl⟩
  refine lv_aload_n hx hb dL_law_1146 rfl (lv_at hl 2 rfl) ?_
  refine lv_aload_n hx hb dL_law_1147 rfl (lv_at hl 3 rfl) ?_
  refine lv_iload_n hx hb dL_law_1148 rfl (lv_at hl 0 rfl) ?_
  refine lv_iconst (v := nI 1) hx hb dL_law_1149 (by decide) ?_
  refine n_iadd hx hb dL_law_1150 ?_
  refine va_sld hx hb hX hbl hbo hS (vp_in_nI (show i + 1 < L by omega) (by omega)) dL_law_1151 ?_
  refine w_top (v' := .int a1) (congrArg Value.int ha1) ?_
  refine ctV (rest := []) S hK (e_count l G o om μ a1 hI) cw_L_154 rfl ⟨Nat.le_of_ble_eq_true rfl, Nat.le_of_ble_eq_true rfl⟩ ⟨(by show cells + 0 ≤ 600000; omega), (by show slots + 0 ≤ 7302250; omega)⟩ (CW_rx hK hCW) hl.1 rfl (Nat.le_of_ble_eq_true rfl) dL_law_1152 ⟨hCW, hM⟩ hS (fun _ h => h) (fun H locs hP hz hk hS => ?_)
  refine W.widen (k := cells + 8) (n := slots + 132) (by omega) (by omega) ?_
  refine lv_aload_n hx hb dL_law_1155 rfl (lv_at hl 1 rfl) ?_
  refine lv_aload_n hx hb dL_law_1156 rfl (lv_at hl 3 rfl) ?_
  refine lv_iload_n hx hb dL_law_1157 rfl (lv_at hl 0 rfl) ?_
  refine lv_iconst (v := nI 1) hx hb dL_law_1158 (by decide) ?_
  refine n_iadd hx hb dL_law_1159 ?_
  refine va_sld hx hb hX hbl hbo hS (vp_in_nI (show i + 1 < L by omega) (by omega)) dL_law_1160 ?_
  refine w_top (v' := .int a1) (congrArg Value.int ha1) ?_
  refine ctV (rest := [.int (count_M μ a1)]) S hK (m_count l G o om μ a1 hI) cw_L_157 rfl ⟨Nat.le_of_ble_eq_true rfl, Nat.le_of_ble_eq_true rfl⟩ ⟨(by show cells + 8 + 0 ≤ 600000; omega), (by show slots + 132 + 0 ≤ 7302250; omega)⟩ (M_rx hK hP.2) hl.1 rfl (Nat.le_of_ble_eq_true rfl) dL_law_1161 hP hS (fun _ h => h) (fun H locs hP hz hk hS => ?_)
  exact lv_icmp_eq (tgt := 1169) hx hb dL_law_1164 (by decide) (fun _ => kk _ _ hP hS) (fun z => absurd rfl z)

end LKC
