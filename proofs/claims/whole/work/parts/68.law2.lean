
/-! every call, in the law's form -/

set_option maxRecDepth 100000 in
theorem e_feed (l : Launch) (G : Gt) (o om : Nat) (μ : Sx) (n : Int32) (bv : Int64) (hI : IV μ) : Ct l G yX6_feed cX6_feed 5 (some .int) 1 0 0 [.ref o, .int n, .long bv] (fun H => LM G o om μ μ H) (some (.int (feed_M μ n bv).1)) (fun H => LM G o om μ ((feed_M μ n bv).2) H) (fun q => o ≤ q) :=
  lx_0 (fun pa na => c_X6_feed l G o om μ pa na n bv hI.1 hI.2.1 hI.2.2.2.1 hI.2.2.2.2.1 hI.2.2.2.2.2.1 hI.2.2.2.2.2.2)

set_option maxRecDepth 100000 in
theorem m_feed (l : Launch) (G : Gt) (o om : Nat) (μ : Sx) (n : Int32) (bv : Int64) (hI : IV μ) : Ct l G yX7_feed cX7_feed 5 (some .int) 1 0 0 [.ref om, .int n, .long bv] (fun H => LM G o om μ ((feed_M μ n bv).2) H) (some (.int (feed_M μ n bv).1)) (fun H => LW G o om H) (fun q => o ≤ q) :=
  lm_e (I_feed hI n bv) (c_X7_feed l G om μ n bv hI.2.2.2.2.1.1)

set_option maxRecDepth 100000 in
theorem e_part (l : Launch) (G : Gt) (o om : Nat) (μ : Sx)  (hI : IV μ) : Ct l G yX6_part cX6_part 3 (some .int) 16 4 66 [.ref o] (fun H => LM G o om μ μ H) (some (.int (part_M μ).1)) (fun H => LM G o om μ ((part_M μ).2) H) (fun q => o ≤ q) :=
  lx_n (fun pa na nb => c_X6_part l G o om μ pa na nb  hI.1 hI.2.1 hI.2.2.2.1 hI.2.2.2.2.1 hI.2.2.2.2.2.1 hI.2.2.2.2.2.2)

set_option maxRecDepth 100000 in
theorem m_part (l : Launch) (G : Gt) (o om : Nat) (μ : Sx)  (hI : IV μ) : Ct l G yX7_part cX7_part 2 (some .int) 2 0 0 [.ref om] (fun H => LM G o om μ ((part_M μ).2) H) (some (.int (part_M μ).1)) (fun H => LW G o om H) (fun q => o ≤ q) :=
  lm_v (I_part hI ) (c_X7_part l G om μ  (mi0 hI.1) hI.2.2.2.2.1)

set_option maxRecDepth 100000 in
theorem e_partOf (l : Launch) (G : Gt) (o om : Nat) (μ : Sx) (p : Int32) (what : Int32) (hI : IV μ) : Ct l G yX6_partOf cX6_partOf 4 (some .int) 4 0 0 [.ref o, .int p, .int what] (fun H => LM G o om μ μ H) (some (.int (partOf_M μ p what).1)) (fun H => LM G o om μ ((partOf_M μ p what).2) H) (fun q => o ≤ q) :=
  lx_0 (fun pa na => c_X6_partOf l G o om μ pa na p what hI.1 hI.2.1 hI.2.2.2.1 hI.2.2.2.2.1 hI.2.2.2.2.2.1 hI.2.2.2.2.2.2)

set_option maxRecDepth 100000 in
theorem m_partOf (l : Launch) (G : Gt) (o om : Nat) (μ : Sx) (p : Int32) (what : Int32) (hI : IV μ) : Ct l G yX7_partOf cX7_partOf 3 (some .int) 5 0 0 [.ref om, .int p, .int what] (fun H => LM G o om μ ((partOf_M μ p what).2) H) (some (.int (partOf_M μ p what).1)) (fun H => LW G o om H) (fun q => o ≤ q) :=
  lm_e (I_partOf hI p what) (c_X7_partOf l G om μ p what (mi0 hI.1))

set_option maxRecDepth 100000 in
theorem e_cell (l : Launch) (G : Gt) (o om : Nat) (μ : Sx) (p : Int32) (xy : Int32) (hI : IV μ) : Ct l G yX6_cell cX6_cell 4 (some .int) 3 0 0 [.ref o, .int p, .int xy] (fun H => LM G o om μ μ H) (some (.int (cell_M μ p xy).1)) (fun H => LM G o om μ ((cell_M μ p xy).2) H) (fun q => o ≤ q) :=
  lx_0 (fun pa na => c_X6_cell l G o om μ pa na p xy hI.1 hI.2.1 hI.2.2.2.1 hI.2.2.2.2.1 hI.2.2.2.2.2.1 hI.2.2.2.2.2.2)

set_option maxRecDepth 100000 in
theorem m_cell (l : Launch) (G : Gt) (o om : Nat) (μ : Sx) (p : Int32) (xy : Int32) (hI : IV μ) : Ct l G yX7_cell cX7_cell 3 (some .int) 5 0 0 [.ref om, .int p, .int xy] (fun H => LM G o om μ ((cell_M μ p xy).2) H) (some (.int (cell_M μ p xy).1)) (fun H => LW G o om H) (fun q => o ≤ q) :=
  lm_e (I_cell hI p xy) (c_X7_cell l G om μ p xy (mi0 hI.1))

set_option maxRecDepth 100000 in
theorem e_lets (l : Launch) (G : Gt) (o om : Nat) (μ : Sx) (p : Int32) (hI : IV μ) : Ct l G yX6_lets cX6_lets 3 (some .long) 2 0 0 [.ref o, .int p] (fun H => LM G o om μ μ H) (some (.long (lets_M μ p).1)) (fun H => LM G o om μ ((lets_M μ p).2) H) (fun q => o ≤ q) :=
  lx_0 (fun pa na => c_X6_lets l G o om μ pa na p hI.1 hI.2.1 hI.2.2.2.1 hI.2.2.2.2.1 hI.2.2.2.2.2.1 hI.2.2.2.2.2.2)

set_option maxRecDepth 100000 in
theorem m_lets (l : Launch) (G : Gt) (o om : Nat) (μ : Sx) (p : Int32) (hI : IV μ) : Ct l G yX7_lets cX7_lets 2 (some .long) 25 0 0 [.ref om, .int p] (fun H => LM G o om μ ((lets_M μ p).2) H) (some (.long (lets_M μ p).1)) (fun H => LW G o om H) (fun q => o ≤ q) :=
  lm_e (I_lets hI p) (c_X7_lets l G om μ p (mi0 hI.1))

set_option maxRecDepth 100000 in
theorem e_ways (l : Launch) (G : Gt) (o om : Nat) (μ : Sx) (p : Int32) (st : Int32) (hI : IV μ) : Ct l G yX6_ways cX6_ways 4 (some .int) 3 0 0 [.ref o, .int p, .int st] (fun H => LM G o om μ μ H) (some (.int (ways_M μ p st).1)) (fun H => LM G o om μ ((ways_M μ p st).2) H) (fun q => o ≤ q) :=
  lx_0 (fun pa na => c_X6_ways l G o om μ pa na p st hI.1 hI.2.1 hI.2.2.2.1 hI.2.2.2.2.1 hI.2.2.2.2.2.1 hI.2.2.2.2.2.2)

set_option maxRecDepth 100000 in
theorem m_ways (l : Launch) (G : Gt) (o om : Nat) (μ : Sx) (p : Int32) (st : Int32) (hI : IV μ) : Ct l G yX7_ways cX7_ways 3 (some .int) 25 0 0 [.ref om, .int p, .int st] (fun H => LM G o om μ ((ways_M μ p st).2) H) (some (.int (ways_M μ p st).1)) (fun H => LW G o om H) (fun q => o ≤ q) :=
  lm_e (I_ways hI p st) (c_X7_ways l G om μ p st (mi0 hI.1))

set_option maxRecDepth 100000 in
theorem e_covered (l : Launch) (G : Gt) (o om : Nat) (μ : Sx) (p : Int32) (st : Int32) (xy : Int32) (hI : IV μ) : Ct l G yX6_covered cX6_covered 5 (some .int) 16 0 0 [.ref o, .int p, .int st, .int xy] (fun H => LM G o om μ μ H) (some (.int (covered_M μ p st xy).1)) (fun H => LM G o om μ ((covered_M μ p st xy).2) H) (fun q => o ≤ q) :=
  lx_0 (fun pa na => c_X6_covered l G o om μ pa na p st xy hI.1 hI.2.1 hI.2.2.2.1 hI.2.2.2.2.1 hI.2.2.2.2.2.1 hI.2.2.2.2.2.2)

set_option maxRecDepth 100000 in
theorem m_covered (l : Launch) (G : Gt) (o om : Nat) (μ : Sx) (p : Int32) (st : Int32) (xy : Int32) (hI : IV μ) : Ct l G yX7_covered cX7_covered 9 (some .int) 25 0 0 [.ref om, .int p, .int st, .int xy] (fun H => LM G o om μ ((covered_M μ p st xy).2) H) (some (.int (covered_M μ p st xy).1)) (fun H => LW G o om H) (fun q => o ≤ q) :=
  lm_e (I_covered hI p st xy) (c_X7_covered l G om μ p st xy (mi0 hI.1))

set_option maxRecDepth 100000 in
theorem e_barred (l : Launch) (G : Gt) (o om : Nat) (μ : Sx) (p : Int32) (hI : IV μ) : Ct l G yX6_barred cX6_barred 3 (some .long) 2 0 0 [.ref o, .int p] (fun H => LM G o om μ μ H) (some (.long (barred_M μ p).1)) (fun H => LM G o om μ ((barred_M μ p).2) H) (fun q => o ≤ q) :=
  lx_0 (fun pa na => c_X6_barred l G o om μ pa na p hI.1 hI.2.1 hI.2.2.2.1 hI.2.2.2.2.1 hI.2.2.2.2.2.1 hI.2.2.2.2.2.2)

set_option maxRecDepth 100000 in
theorem m_barred (l : Launch) (G : Gt) (o om : Nat) (μ : Sx) (p : Int32) (hI : IV μ) : Ct l G yX7_barred cX7_barred 8 (some .long) 25 0 0 [.ref om, .int p] (fun H => LM G o om μ ((barred_M μ p).2) H) (some (.long (barred_M μ p).1)) (fun H => LW G o om H) (fun q => o ≤ q) :=
  lm_e (I_barred hI p) (c_X7_barred l G om μ p (mi0 hI.1))

set_option maxRecDepth 100000 in
theorem e_formula (l : Launch) (G : Gt) (o om : Nat) (μ : Sx)  (hI : IV μ) : Ct l G yX6_formula cX6_formula 4 (some .int) 27 1 4 [.ref o] (fun H => LM G o om μ μ H) (some (.int (formula_M μ).1)) (fun H => LM G o om μ ((formula_M μ).2) H) (fun q => o ≤ q) :=
  lx_n (fun pa na nb => c_X6_formula l G o om μ pa na nb  hI.1 hI.2.1 hI.2.2.2.1 hI.2.2.2.2.1 hI.2.2.2.2.2.1 hI.2.2.2.2.2.2)

set_option maxRecDepth 100000 in
theorem m_formula (l : Launch) (G : Gt) (o om : Nat) (μ : Sx)  (hI : IV μ) : Ct l G yX7_formula cX7_formula 5 (some .int) 21 0 0 [.ref om] (fun H => LM G o om μ ((formula_M μ).2) H) (some (.int (formula_M μ).1)) (fun H => LW G o om H) (fun q => o ≤ q) :=
  lm_s (I_formula hI ) (c_X7_formula l G om μ  hI.2.2.2.1 hI.2.2.2.2.1)

set_option maxRecDepth 100000 in
theorem e_means (l : Launch) (G : Gt) (o om : Nat) (μ : Sx) (f : Int32) (m : Int32) (hI : IV μ) : Ct l G yX6_means cX6_means 3 (some .long) 2 0 0 [.ref o, .int f, .int m] (fun H => LM G o om μ μ H) (some (.long (means_M μ f m).1)) (fun H => LM G o om μ ((means_M μ f m).2) H) (fun q => o ≤ q) :=
  lx_0 (fun pa na => c_X6_means l G o om μ pa na f m hI.1 hI.2.1 hI.2.2.2.1 hI.2.2.2.2.1 hI.2.2.2.2.2.1 hI.2.2.2.2.2.2)

set_option maxRecDepth 100000 in
theorem m_means (l : Launch) (G : Gt) (o om : Nat) (μ : Sx) (f : Int32) (m : Int32) (hI : IV μ) : Ct l G yX7_means cX7_means 4 (some .long) 23 0 0 [.ref om, .int f, .int m] (fun H => LM G o om μ ((means_M μ f m).2) H) (some (.long (means_M μ f m).1)) (fun H => LW G o om H) (fun q => o ≤ q) :=
  lm_s (I_means hI f m) (c_X7_means l G om μ f m hI.2.2.2.1)

set_option maxRecDepth 100000 in
theorem e_does (l : Launch) (G : Gt) (o om : Nat) (μ : Sx) (p : Int32) (f : Int32) (hI : IV μ) : Ct l G yX6_does cX6_does 4 (some .int) 3 0 0 [.ref o, .int p, .int f] (fun H => LM G o om μ μ H) (some (.int (does_M μ p f).1)) (fun H => LM G o om μ ((does_M μ p f).2) H) (fun q => o ≤ q) :=
  lx_0 (fun pa na => c_X6_does l G o om μ pa na p f hI.1 hI.2.1 hI.2.2.2.1 hI.2.2.2.2.1 hI.2.2.2.2.2.1 hI.2.2.2.2.2.2)

set_option maxRecDepth 100000 in
theorem m_does (l : Launch) (G : Gt) (o om : Nat) (μ : Sx) (p : Int32) (f : Int32) (hI : IV μ) : Ct l G yX7_does cX7_does 3 (some .int) 24 0 0 [.ref om, .int p, .int f] (fun H => LM G o om μ ((does_M μ p f).2) H) (some (.int (does_M μ p f).1)) (fun H => LW G o om H) (fun q => o ≤ q) :=
  lm_s (I_does hI p f) (c_X7_does l G om μ p f (mi0 hI.1) hI.2.2.2.1)

set_option maxRecDepth 100000 in
theorem e_misses (l : Launch) (G : Gt) (o om : Nat) (μ : Sx) (p : Int32) (f : Int32) (hI : IV μ) : Ct l G yX6_misses cX6_misses 7 (some .int) 3 0 0 [.ref o, .int p, .int f] (fun H => LM G o om μ μ H) (some (.int (misses_M μ p f).1)) (fun H => LM G o om μ ((misses_M μ p f).2) H) (fun q => o ≤ q) :=
  lx_0 (fun pa na => c_X6_misses l G o om μ pa na p f hI.1 hI.2.1 hI.2.2.2.1 hI.2.2.2.2.1 hI.2.2.2.2.2.1 hI.2.2.2.2.2.2)

set_option maxRecDepth 100000 in
theorem m_misses (l : Launch) (G : Gt) (o om : Nat) (μ : Sx) (p : Int32) (f : Int32) (hI : IV μ) : Ct l G yX7_misses cX7_misses 6 (some .int) 24 0 0 [.ref om, .int p, .int f] (fun H => LM G o om μ ((misses_M μ p f).2) H) (some (.int (misses_M μ p f).1)) (fun H => LW G o om H) (fun q => o ≤ q) :=
  lm_s (I_misses hI p f) (c_X7_misses l G om μ p f (mi0 hI.1) hI.2.2.2.1)

set_option maxRecDepth 100000 in
theorem e_turn (l : Launch) (G : Gt) (o om : Nat) (μ : Sx) (p : Int32) (hI : IV μ) : Ct l G yX6_turn cX6_turn 3 (some .int) 15 4 66 [.ref o, .int p] (fun H => LM G o om μ μ H) (some (.int (turn_M μ p).1)) (fun H => LM G o om μ ((turn_M μ p).2) H) (fun q => o ≤ q) :=
  lx_n (fun pa na nb => c_X6_turn l G o om μ pa na nb p hI.1 hI.2.1 hI.2.2.2.1 hI.2.2.2.2.1 hI.2.2.2.2.2.1 hI.2.2.2.2.2.2)

set_option maxRecDepth 100000 in
theorem m_turn (l : Launch) (G : Gt) (o om : Nat) (μ : Sx) (p : Int32) (hI : IV μ) : Ct l G yX7_turn cX7_turn 3 (some .int) 5 0 0 [.ref om, .int p] (fun H => LM G o om μ ((turn_M μ p).2) H) (some (.int (turn_M μ p).1)) (fun H => LW G o om H) (fun q => o ≤ q) :=
  lm_v (I_turn hI p) (c_X7_turn l G om μ p (mi0 hI.1))

set_option maxRecDepth 100000 in
theorem e_mirror (l : Launch) (G : Gt) (o om : Nat) (μ : Sx) (p : Int32) (hI : IV μ) : Ct l G yX6_mirror cX6_mirror 3 (some .int) 15 4 66 [.ref o, .int p] (fun H => LM G o om μ μ H) (some (.int (mirror_M μ p).1)) (fun H => LM G o om μ ((mirror_M μ p).2) H) (fun q => o ≤ q) :=
  lx_n (fun pa na nb => c_X6_mirror l G o om μ pa na nb p hI.1 hI.2.1 hI.2.2.2.1 hI.2.2.2.2.1 hI.2.2.2.2.2.1 hI.2.2.2.2.2.2)

set_option maxRecDepth 100000 in
theorem m_mirror (l : Launch) (G : Gt) (o om : Nat) (μ : Sx) (p : Int32) (hI : IV μ) : Ct l G yX7_mirror cX7_mirror 3 (some .int) 5 0 0 [.ref om, .int p] (fun H => LM G o om μ ((mirror_M μ p).2) H) (some (.int (mirror_M μ p).1)) (fun H => LW G o om H) (fun q => o ≤ q) :=
  lm_v (I_mirror hI p) (c_X7_mirror l G om μ p (mi0 hI.1))

set_option maxRecDepth 100000 in
theorem e_less (l : Launch) (G : Gt) (o om : Nat) (μ : Sx) (p : Int32) (xy : Int32) (hI : IV μ) : Ct l G yX6_less cX6_less 4 (some .int) 15 4 66 [.ref o, .int p, .int xy] (fun H => LM G o om μ μ H) (some (.int (less_M μ p xy).1)) (fun H => LM G o om μ ((less_M μ p xy).2) H) (fun q => o ≤ q) :=
  lx_n (fun pa na nb => c_X6_less l G o om μ pa na nb p xy hI.1 hI.2.1 hI.2.2.2.1 hI.2.2.2.2.1 hI.2.2.2.2.2.1 hI.2.2.2.2.2.2)

set_option maxRecDepth 100000 in
theorem m_less (l : Launch) (G : Gt) (o om : Nat) (μ : Sx) (p : Int32) (xy : Int32) (hI : IV μ) : Ct l G yX7_less cX7_less 5 (some .int) 5 0 0 [.ref om, .int p, .int xy] (fun H => LM G o om μ ((less_M μ p xy).2) H) (some (.int (less_M μ p xy).1)) (fun H => LW G o om H) (fun q => o ≤ q) :=
  lm_v (I_less hI p xy) (c_X7_less l G om μ p xy (mi0 hI.1))

set_option maxRecDepth 100000 in
theorem e_rename (l : Launch) (G : Gt) (o om : Nat) (μ : Sx) (p : Int32) (d : Int32) (hI : IV μ) : Ct l G yX6_rename cX6_rename 4 (some .int) 15 5 71 [.ref o, .int p, .int d] (fun H => LM G o om μ μ H) (some (.int (rename_M μ p d).1)) (fun H => LM G o om μ ((rename_M μ p d).2) H) (fun q => o ≤ q) :=
  lx_n (fun pa na nb => c_X6_rename l G o om μ pa na nb p d hI.1 hI.2.1 hI.2.2.2.1 hI.2.2.2.2.1 hI.2.2.2.2.2.1 hI.2.2.2.2.2.2)

set_option maxRecDepth 100000 in
theorem m_rename (l : Launch) (G : Gt) (o om : Nat) (μ : Sx) (p : Int32) (d : Int32) (hI : IV μ) : Ct l G yX7_rename cX7_rename 9 (some .int) 3 0 0 [.ref om, .int p, .int d] (fun H => LM G o om μ ((rename_M μ p d).2) H) (some (.int (rename_M μ p d).1)) (fun H => LW G o om H) (fun q => o ≤ q) :=
  lm_v (I_rename hI p d) (c_X7_rename l G om μ p d hI.1)

set_option maxRecDepth 100000 in
theorem e_alike (l : Launch) (G : Gt) (o om : Nat) (μ : Sx) (a : Int32) (b : Int32) (hI : IV μ) : Ct l G yX6_alike cX6_alike 6 (some .int) 4 0 0 [.ref o, .int a, .int b] (fun H => LM G o om μ μ H) (some (.int (alike_M μ a b).1)) (fun H => LM G o om μ ((alike_M μ a b).2) H) (fun q => o ≤ q) :=
  lx_0 (fun pa na => c_X6_alike l G o om μ pa na a b hI.1 hI.2.1 hI.2.2.2.1 hI.2.2.2.2.1 hI.2.2.2.2.2.1 hI.2.2.2.2.2.2)

set_option maxRecDepth 100000 in
theorem m_alike (l : Launch) (G : Gt) (o om : Nat) (μ : Sx) (a : Int32) (b : Int32) (hI : IV μ) : Ct l G yX7_alike cX7_alike 4 (some .int) 5 0 0 [.ref om, .int a, .int b] (fun H => LM G o om μ ((alike_M μ a b).2) H) (some (.int (alike_M μ a b).1)) (fun H => LW G o om H) (fun q => o ≤ q) :=
  lm_e (I_alike hI a b) (c_X7_alike l G om μ a b (mi0 hI.1))

set_option maxRecDepth 100000 in
theorem e_needless (l : Launch) (G : Gt) (o om : Nat) (μ : Sx) (p : Int32) (hI : IV μ) : Ct l G yX6_needless cX6_needless 3 (some .int) 15 0 0 [.ref o, .int p] (fun H => LM G o om μ μ H) (some (.int (needless_M μ p).1)) (fun H => LM G o om μ ((needless_M μ p).2) H) (fun q => o ≤ q) :=
  lx_0 (fun pa na => c_X6_needless l G o om μ pa na p hI.1 hI.2.1 hI.2.2.2.1 hI.2.2.2.2.1 hI.2.2.2.2.2.1 hI.2.2.2.2.2.2)

set_option maxRecDepth 100000 in
theorem m_needless (l : Launch) (G : Gt) (o om : Nat) (μ : Sx) (p : Int32) (hI : IV μ) : Ct l G yX7_needless cX7_needless 6 (some .int) 25 0 0 [.ref om, .int p] (fun H => LM G o om μ ((needless_M μ p).2) H) (some (.int (needless_M μ p).1)) (fun H => LW G o om H) (fun q => o ≤ q) :=
  lm_e (I_needless hI p) (c_X7_needless l G om μ p (mi0 hI.1))

set_option maxRecDepth 100000 in
theorem e_put (l : Launch) (G : Gt) (o om : Nat) (μ : Sx) (xy : Int32) (hI : IV μ) : Ct l G yX6_put cX6_put 2 (some .int) 1 0 0 [.ref o, .int xy] (fun H => LM G o om μ μ H) (some (.int (put_M μ xy).1)) (fun H => LM G o om μ ((put_M μ xy).2) H) (fun q => o ≤ q) :=
  lx_0 (fun pa na => c_X6_put l G o om μ pa na xy hI.1 hI.2.1 hI.2.2.2.1 hI.2.2.2.2.1 hI.2.2.2.2.2.1 hI.2.2.2.2.2.2)

set_option maxRecDepth 100000 in
theorem m_put (l : Launch) (G : Gt) (o om : Nat) (μ : Sx) (xy : Int32) (hI : IV μ) : Ct l G yX7_put cX7_put 3 (some .int) 1 0 0 [.ref om, .int xy] (fun H => LM G o om μ ((put_M μ xy).2) H) (some (.int (put_M μ xy).1)) (fun H => LW G o om H) (fun q => o ≤ q) :=
  lm_e (I_put hI xy) (c_X7_put l G om μ xy hI.2.2.2.2.2.2.1)

set_option maxRecDepth 100000 in
theorem e_find (l : Launch) (G : Gt) (o om : Nat) (μ : Sx) (w : Int32) (h : Int32) (f : Int32) (hI : IV μ) : Ct l G yX6_find cX6_find 5 (some .int) 17 8 132 [.ref o, .int w, .int h, .int f] (fun H => LM G o om μ μ H) (some (.int (find_M μ w h f).1)) (fun H => LM G o om μ ((find_M μ w h f).2) H) (fun q => o ≤ q) :=
  lx_n (fun pa na nb => c_X6_find l G o om μ pa na nb w h f hI.1 hI.2.1 hI.2.2.2.1 hI.2.2.2.2.1 hI.2.2.2.2.2.1 hI.2.2.2.2.2.2)

set_option maxRecDepth 100000 in
theorem m_find (l : Launch) (G : Gt) (o om : Nat) (μ : Sx) (w : Int32) (h : Int32) (f : Int32) (hI : IV μ) : Ct l G yX7_find cX7_find 8 (some .int) 25 0 0 [.ref om, .int w, .int h, .int f] (fun H => LM G o om μ ((find_M μ w h f).2) H) (some (.int (find_M μ w h f).1)) (fun H => LW G o om H) (fun q => o ≤ q) :=
  lm_v (I_find hI w h f) (c_X7_find l G om μ w h f hI.1 hI.2.2.2.1 hI.2.2.2.2.2.2)

set_option maxRecDepth 100000 in
theorem e_net (l : Launch) (G : Gt) (o om : Nat) (μ : Sx)  (hI : IV μ) : Ct l G yX6_net cX6_net 1 (some .int) 4 4 93 [.ref o] (fun H => LM G o om μ μ H) (some (.int (net_M μ).1)) (fun H => LM G o om μ ((net_M μ).2) H) (fun q => o ≤ q) :=
  lx_n (fun pa na nb => c_X6_net l G o om μ pa na nb  hI.1 hI.2.1 hI.2.2.2.1 hI.2.2.2.2.1 hI.2.2.2.2.2.1 hI.2.2.2.2.2.2)

set_option maxRecDepth 100000 in
theorem m_net (l : Launch) (G : Gt) (o om : Nat) (μ : Sx)  (hI : IV μ) : Ct l G yX7_net cX7_net 1 (some .int) 1 0 0 [.ref om] (fun H => LM G o om μ ((net_M μ).2) H) (some (.int (net_M μ).1)) (fun H => LW G o om H) (fun q => o ≤ q) :=
  lm_e (I_net hI ) (c_X7_net l G om μ  hI.2.1)

set_option maxRecDepth 100000 in
theorem e_piece (l : Launch) (G : Gt) (o om : Nat) (μ : Sx) (n : Int32) (p : Int32) (hI : IV μ) : Ct l G yX6_piece cX6_piece 5 (some .int) 1 0 0 [.ref o, .int n, .int p] (fun H => LM G o om μ μ H) (some (.int (piece_M μ n p).1)) (fun H => LM G o om μ ((piece_M μ n p).2) H) (fun q => o ≤ q) :=
  lx_p (n := n) (fun pa na => c_X6_piece l G o om μ pa na n p hI.1 hI.2.1 hI.2.2.2.1 hI.2.2.2.2.1 hI.2.2.2.2.2.1 hI.2.2.2.2.2.2)

set_option maxRecDepth 100000 in
theorem m_piece (l : Launch) (G : Gt) (o om : Nat) (μ : Sx) (n : Int32) (p : Int32) (hI : IV μ) : Ct l G yX7_piece cX7_piece 4 (some .int) 3 0 0 [.ref om, .int n, .int p] (fun H => LM G o om μ ((piece_M μ n p).2) H) (some (.int (piece_M μ n p).1)) (fun H => LW G o om H) (fun q => o ≤ q) :=
  lm_e (I_piece hI n p) (c_X7_piece l G om μ n p hI.2.1 hI.1.1)

set_option maxRecDepth 100000 in
theorem e_link (l : Launch) (G : Gt) (o om : Nat) (μ : Sx) (n : Int32) (a : Int32) (b : Int32) (hI : IV μ) : Ct l G yX6_link cX6_link 5 (some .int) 3 0 0 [.ref o, .int n, .int a, .int b] (fun H => LM G o om μ μ H) (some (.int (link_M μ n a b).1)) (fun H => LM G o om μ ((link_M μ n a b).2) H) (fun q => o ≤ q) :=
  lx_p (n := n) (fun pa na => c_X6_link l G o om μ pa na n a b hI.1 hI.2.1 hI.2.2.2.1 hI.2.2.2.2.1 hI.2.2.2.2.2.1 hI.2.2.2.2.2.2)

set_option maxRecDepth 100000 in
theorem m_link (l : Launch) (G : Gt) (o om : Nat) (μ : Sx) (n : Int32) (a : Int32) (b : Int32) (hI : IV μ) : Ct l G yX7_link cX7_link 5 (some .int) 3 0 0 [.ref om, .int n, .int a, .int b] (fun H => LM G o om μ ((link_M μ n a b).2) H) (some (.int (link_M μ n a b).1)) (fun H => LW G o om H) (fun q => o ≤ q) :=
  lm_e (I_link hI n a b) (c_X7_link l G om μ n a b (mi0 hI.1) hI.2.1)

set_option maxRecDepth 100000 in
theorem e_free (l : Launch) (G : Gt) (o om : Nat) (μ : Sx) (n : Int32) (i : Int32) (hI : IV μ) : Ct l G yX6_free cX6_free 4 (some .int) 2 0 0 [.ref o, .int n, .int i] (fun H => LM G o om μ μ H) (some (.int (free_M μ n i).1)) (fun H => LM G o om μ ((free_M μ n i).2) H) (fun q => o ≤ q) :=
  lx_0 (fun pa na => c_X6_free l G o om μ pa na n i hI.1 hI.2.1 hI.2.2.2.1 hI.2.2.2.2.1 hI.2.2.2.2.2.1 hI.2.2.2.2.2.2)

set_option maxRecDepth 100000 in
theorem m_free (l : Launch) (G : Gt) (o om : Nat) (μ : Sx) (n : Int32) (i : Int32) (hI : IV μ) : Ct l G yX7_free cX7_free 3 (some .int) 3 0 0 [.ref om, .int n, .int i] (fun H => LM G o om μ ((free_M μ n i).2) H) (some (.int (free_M μ n i).1)) (fun H => LW G o om H) (fun q => o ≤ q) :=
  lm_e (I_free hI n i) (c_X7_free l G om μ n i (mi0 hI.1) hI.2.1)

set_option maxRecDepth 100000 in
theorem e_netLets (l : Launch) (G : Gt) (o om : Nat) (μ : Sx) (n : Int32) (st : Int32) (hI : IV μ) : Ct l G yX6_netLets cX6_netLets 5 (some .int) 14 0 0 [.ref o, .int n, .int st] (fun H => LM G o om μ μ H) (some (.int (netLets_M μ n st).1)) (fun H => LM G o om μ ((netLets_M μ n st).2) H) (fun q => o ≤ q) :=
  lx_p (n := n) (fun pa na => c_X6_netLets l G o om μ pa na n st hI.1 hI.2.1 hI.2.2.2.1 hI.2.2.2.2.1 hI.2.2.2.2.2.1 hI.2.2.2.2.2.2 (QA_M hI.1 hI.2.1 hI.2.2.1))

set_option maxRecDepth 100000 in
theorem m_netLets (l : Launch) (G : Gt) (o om : Nat) (μ : Sx) (n : Int32) (st : Int32) (hI : IV μ) : Ct l G yX7_netLets cX7_netLets 4 (some .int) 26 0 0 [.ref om, .int n, .int st] (fun H => LM G o om μ ((netLets_M μ n st).2) H) (some (.int (netLets_M μ n st).1)) (fun H => LW G o om H) (fun q => o ≤ q) :=
  lm_s (I_netLets hI n st) (c_X7_netLets l G om μ n st (mi0 hI.1) hI.2.1)

set_option maxRecDepth 100000 in
theorem e_howMany (l : Launch) (G : Gt) (o om : Nat) (μ : Sx) (n : Int32) (st : Int32) (hI : IV μ) : Ct l G yX6_howMany cX6_howMany 5 (some .int) 14 0 0 [.ref o, .int n, .int st] (fun H => LM G o om μ μ H) (some (.int (howMany_M μ n st).1)) (fun H => LM G o om μ ((howMany_M μ n st).2) H) (fun q => o ≤ q) :=
  lx_p (n := n) (fun pa na => c_X6_howMany l G o om μ pa na n st hI.1 hI.2.1 hI.2.2.2.1 hI.2.2.2.2.1 hI.2.2.2.2.2.1 hI.2.2.2.2.2.2 (QH_M hI.1 hI.2.1 hI.2.2.1))

set_option maxRecDepth 100000 in
theorem m_howMany (l : Launch) (G : Gt) (o om : Nat) (μ : Sx) (n : Int32) (st : Int32) (hI : IV μ) : Ct l G yX7_howMany cX7_howMany 4 (some .int) 26 0 0 [.ref om, .int n, .int st] (fun H => LM G o om μ ((howMany_M μ n st).2) H) (some (.int (howMany_M μ n st).1)) (fun H => LW G o om H) (fun q => o ≤ q) :=
  lm_s (I_howMany hI n st) (c_X7_howMany l G om μ n st (mi0 hI.1) hI.2.1)

set_option maxRecDepth 100000 in
theorem e_netDoes (l : Launch) (G : Gt) (o om : Nat) (μ : Sx) (n : Int32) (f : Int32) (hI : IV μ) : Ct l G yX6_netDoes cX6_netDoes 8 (some .int) 14 0 0 [.ref o, .int n, .int f] (fun H => LM G o om μ μ H) (some (.int (netDoes_M μ n f).1)) (fun H => LM G o om μ ((netDoes_M μ n f).2) H) (fun q => o ≤ q) :=
  lx_p (n := n) (fun pa na => c_X6_netDoes l G o om μ pa na n f hI.1 hI.2.1 hI.2.2.2.1 hI.2.2.2.2.1 hI.2.2.2.2.2.1 hI.2.2.2.2.2.2 (QA_M hI.1 hI.2.1 hI.2.2.1))

set_option maxRecDepth 100000 in
theorem m_netDoes (l : Launch) (G : Gt) (o om : Nat) (μ : Sx) (n : Int32) (f : Int32) (hI : IV μ) : Ct l G yX7_netDoes cX7_netDoes 5 (some .int) 26 0 0 [.ref om, .int n, .int f] (fun H => LM G o om μ ((netDoes_M μ n f).2) H) (some (.int (netDoes_M μ n f).1)) (fun H => LW G o om H) (fun q => o ≤ q) :=
  lm_s (I_netDoes hI n f) (c_X7_netDoes l G om μ n f (mi0 hI.1) hI.2.1 hI.2.2.2.1)

set_option maxRecDepth 100000 in
theorem e_lay (l : Launch) (G : Gt) (o om : Nat) (μ : Sx) (p : Int32) (x : Int32) (y : Int32) (hI : IV μ) : Ct l G yX6_lay cX6_lay 5 (some .int) 2 0 0 [.ref o, .int p, .int x, .int y] (fun H => LM G o om μ μ H) (some (.int (lay_M μ p x y).1)) (fun H => LM G o om μ ((lay_M μ p x y).2) H) (fun q => o ≤ q) :=
  lx_0 (fun pa na => c_X6_lay l G o om μ pa na p x y hI.1 hI.2.1 hI.2.2.2.1 hI.2.2.2.2.1 hI.2.2.2.2.2.1 hI.2.2.2.2.2.2)

set_option maxRecDepth 100000 in
theorem m_lay (l : Launch) (G : Gt) (o om : Nat) (μ : Sx) (p : Int32) (x : Int32) (y : Int32) (hI : IV μ) : Ct l G yX7_lay cX7_lay 4 (some .int) 2 0 0 [.ref om, .int p, .int x, .int y] (fun H => LM G o om μ ((lay_M μ p x y).2) H) (some (.int (lay_M μ p x y).1)) (fun H => LW G o om H) (fun q => o ≤ q) :=
  lm_e (I_lay hI p x y) (c_X7_lay l G om μ p x y (mi0 hI.1) hI.2.2.2.2.2.1)

set_option maxRecDepth 100000 in
theorem e_overlap (l : Launch) (G : Gt) (o om : Nat) (μ : Sx)  (hI : IV μ) : Ct l G yX6_overlap cX6_overlap 1 (some .int) 5 0 0 [.ref o] (fun H => LM G o om μ μ H) (some (.int (overlap_M μ))) (fun H => LM G o om μ μ H) (fun q => o ≤ q) :=
  lx_0 (fun pa na => c_X6_overlap l G o om μ pa na  hI.1 hI.2.1 hI.2.2.2.1 hI.2.2.2.2.1 hI.2.2.2.2.2.1 hI.2.2.2.2.2.2)

set_option maxRecDepth 100000 in
theorem m_overlap (l : Launch) (G : Gt) (o om : Nat) (μ : Sx)  (hI : IV μ) : Ct l G yX7_overlap cX7_overlap 1 (some .int) 3 0 0 [.ref om] (fun H => LM G o om μ μ H) (some (.int (overlap_M μ))) (fun H => LW G o om H) (fun q => o ≤ q) :=
  lm_r hI (c_X7_overlap l G om μ  (mi0 hI.1) hI.2.2.2.2.2.1)

set_option maxRecDepth 100000 in
theorem e_meets (l : Launch) (G : Gt) (o om : Nat) (μ : Sx) (k : Int32) (f : Int32) (hI : IV μ) : Ct l G yX6_meets cX6_meets 3 (some .int) 4 0 0 [.ref o, .int k, .int f] (fun H => LM G o om μ μ H) (some (.int (meets_M μ k f).1)) (fun H => LM G o om μ ((meets_M μ k f).2) H) (fun q => o ≤ q) :=
  lx_0 (fun pa na => c_X6_meets l G o om μ pa na k f hI.1 hI.2.1 hI.2.2.2.1 hI.2.2.2.2.1 hI.2.2.2.2.2.1 hI.2.2.2.2.2.2)

set_option maxRecDepth 100000 in
theorem m_meets (l : Launch) (G : Gt) (o om : Nat) (μ : Sx) (k : Int32) (f : Int32) (hI : IV μ) : Ct l G yX7_meets cX7_meets 3 (some .int) 4 0 0 [.ref om, .int k, .int f] (fun H => LM G o om μ ((meets_M μ k f).2) H) (some (.int (meets_M μ k f).1)) (fun H => LW G o om H) (fun q => o ≤ q) :=
  lm_e (I_meets hI k f) (c_X7_meets l G om μ k f (mi0 hI.1) hI.2.2.2.2.2.1 (mig hI.1 hI.2.2.2.2.2.1))

set_option maxRecDepth 100000 in
theorem e_leak (l : Launch) (G : Gt) (o om : Nat) (μ : Sx)  (hI : IV μ) : Ct l G yX6_leak cX6_leak 1 (some .int) 6 0 0 [.ref o] (fun H => LM G o om μ μ H) (some (.int (leak_M μ))) (fun H => LM G o om μ μ H) (fun q => o ≤ q) :=
  lx_0 (fun pa na => c_X6_leak l G o om μ pa na  hI.1 hI.2.1 hI.2.2.2.1 hI.2.2.2.2.1 hI.2.2.2.2.2.1 hI.2.2.2.2.2.2)

set_option maxRecDepth 100000 in
theorem m_leak (l : Launch) (G : Gt) (o om : Nat) (μ : Sx)  (hI : IV μ) : Ct l G yX7_leak cX7_leak 1 (some .int) 5 0 0 [.ref om] (fun H => LM G o om μ μ H) (some (.int (leak_M μ))) (fun H => LW G o om H) (fun q => o ≤ q) :=
  lm_r hI (c_X7_leak l G om μ  (mi0 hI.1) hI.2.2.2.2.2.1 (mig hI.1 hI.2.2.2.2.2.1))

set_option maxRecDepth 100000 in
theorem e_floorNet (l : Launch) (G : Gt) (o om : Nat) (μ : Sx)  (hI : IV μ) : Ct l G yX6_floorNet cX6_floorNet 1 (some .int) 7 4 93 [.ref o] (fun H => LM G o om μ μ H) (some (.int (floorNet_M μ).1)) (fun H => LM G o om μ ((floorNet_M μ).2) H) (fun q => o ≤ q) :=
  lx_n (fun pa na nb => c_X6_floorNet l G o om μ pa na nb  hI.1 hI.2.1 hI.2.2.2.1 hI.2.2.2.2.1 hI.2.2.2.2.2.1 hI.2.2.2.2.2.2)

set_option maxRecDepth 100000 in
theorem m_floorNet (l : Launch) (G : Gt) (o om : Nat) (μ : Sx)  (hI : IV μ) : Ct l G yX7_floorNet cX7_floorNet 5 (some .int) 6 0 0 [.ref om] (fun H => LM G o om μ ((floorNet_M μ).2) H) (some (.int (floorNet_M μ).1)) (fun H => LW G o om H) (fun q => o ≤ q) :=
  lm_e (I_floorNet hI ) (c_X7_floorNet l G om μ  (mi0 hI.1) hI.2.2.2.2.2.1 hI.1 hI.2.1)

set_option maxRecDepth 100000 in
theorem e_clear (l : Launch) (G : Gt) (o om : Nat) (μ : Sx)  (hI : IV μ) : Ct l G yX6_clear cX6_clear 2 (some .int) 0 0 0 [.ref o] (fun H => LM G o om μ μ H) (some (.int (clear_M μ).1)) (fun H => LM G o om μ ((clear_M μ).2) H) (fun q => o ≤ q) :=
  lx_0 (fun pa na => c_X6_clear l G o om μ pa na  hI.1 hI.2.1 hI.2.2.2.1 hI.2.2.2.2.1 hI.2.2.2.2.2.1 hI.2.2.2.2.2.2)

set_option maxRecDepth 100000 in
theorem m_clear (l : Launch) (G : Gt) (o om : Nat) (μ : Sx)  (hI : IV μ) : Ct l G yX7_clear cX7_clear 2 (some .int) 0 0 0 [.ref om] (fun H => LM G o om μ ((clear_M μ).2) H) (some (.int (clear_M μ).1)) (fun H => LW G o om H) (fun q => o ≤ q) :=
  lm_e (IV_19 hI) (c_X7_clear l G om μ  )

set_option maxRecDepth 100000 in
theorem e_count (l : Launch) (G : Gt) (o om : Nat) (μ : Sx) (w : Int32) (hI : IV μ) : Ct l G yX6_count cX6_count 2 (some .int) 0 0 0 [.ref o, .int w] (fun H => LM G o om μ μ H) (some (.int (count_M μ w))) (fun H => LM G o om μ μ H) (fun q => o ≤ q) :=
  lx_0 (fun pa na => c_X6_count l G o om μ pa na w hI.1 hI.2.1 hI.2.2.2.1 hI.2.2.2.2.1 hI.2.2.2.2.2.1 hI.2.2.2.2.2.2)

set_option maxRecDepth 100000 in
theorem m_count (l : Launch) (G : Gt) (o om : Nat) (μ : Sx) (w : Int32) (hI : IV μ) : Ct l G yX7_count cX7_count 2 (some .int) 0 0 0 [.ref om, .int w] (fun H => LM G o om μ μ H) (some (.int (count_M μ w))) (fun H => LW G o om H) (fun q => o ≤ q) :=
  lm_r hI (c_X7_count l G om μ w )
