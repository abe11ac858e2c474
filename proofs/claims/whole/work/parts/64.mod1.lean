set_option maxHeartbeats 4000000 in
set_option maxRecDepth 100000 in
theorem m_isGood (E : KE) (J : Nat → Nat) (cd n b y o : Nat) (Wm Pm Rm Ym Tm Cm Km : Nat → Nat) (c9 : Nat) (H0 : c9 ≤ 2) : kMz E yX1_isGood cX1_isGood 2 (rk 0 0) [.ref (J 0), .int (nI (c9))] (kmW E J cd n b y o Wm Pm Rm Ym Tm Cm Km) (fun r w => r = nI (if c9 = 0 then 1 else 0) ∧ w = (kmW E J c9 n b y o Wm Pm Rm Ym Tm Cm Km)) := by
  refine kMz_of (cc := cX1_isGood) (maxL := 2) (by decide) (Nat.le_of_ble_eq_true rfl) ?_
  intro G C hE
  refine kx_aload_n C dX1_isGood_0 rfl 0 rfl ?_
  refine kx_iload_n C dX1_isGood_1 rfl 1 rfl ?_
  refine kx_put (ws2 := (kmW E J c9 n b y o Wm Pm Rm Ym Tm Cm Km)) (ci := 1) C kin1 tyX1_ok nmX1 0 rfl rfl 0 (by decide) fl1_35 rfl rfl rfl rfl (Nat.le_of_ble_eq_true rfl) rfl dX1_isGood_2 ?_
  refine kx_iload_n C dX1_isGood_5 rfl 1 rfl ?_
  refine kx_if_ne (tgt := 13) C (by omega) dX1_isGood_6 (by decide) (fun c1 => ?_) (fun c1 => ?_)
  · skip
    refine kx_iconst (v := nI 0) C dX1_isGood_13 (by decide +kernel) ?_
    exact hE (Nat.le_of_ble_eq_true rfl) (Nat.le_of_ble_eq_true rfl) dX1_isGood_14 (by decide +kernel) ⟨congrArg nI (by simp [*]), rfl⟩
  · skip
    refine kx_iconst (v := nI 1) C dX1_isGood_9 (by decide +kernel) ?_
    refine kx_goto (tgt := 14) C dX1_isGood_10 (by decide) ?_
    exact hE (Nat.le_of_ble_eq_true rfl) (Nat.le_of_ble_eq_true rfl) dX1_isGood_14 (by decide +kernel) ⟨congrArg nI (by simp [*]), rfl⟩

set_option maxHeartbeats 4000000 in
set_option maxRecDepth 100000 in
theorem m_thrown (E : KE) (J : Nat → Nat) (cd n b y o : Nat) (Wm Pm Rm Ym Tm Cm Km : Nat → Nat) : kMi E yX1_thrown cX1_thrown 1 (rk 0 0) [.ref (J 0)] (kmW E J cd n b y o Wm Pm Rm Ym Tm Cm Km) (fun r w => r = nI cd ∧ w = (kmW E J cd n b y o Wm Pm Rm Ym Tm Cm Km)) := by
  refine kMi_of (cc := cX1_thrown) (maxL := 1) (by decide) (Nat.le_of_ble_eq_true rfl) ?_
  intro G C hE
  refine kx_aload_n C dX1_thrown_0 rfl 0 rfl ?_
  refine kx_get (v := .int (nI (cd))) (ci := 1) C kin1 0 rfl rfl 0 (by decide) fl1_35 rfl rfl dX1_thrown_1 ?_
  exact hE (Nat.le_of_ble_eq_true rfl) (Nat.le_of_ble_eq_true rfl) dX1_thrown_4 ⟨rfl, rfl⟩

theorem kIL1 {x : Int32} {m : Nat} (hm : m < 2 ^ 31) (h1 : ¬ x.toInt64 < lN 0) (h2 : ¬ lN m < x.toInt64) : ∃ j, j ≤ m ∧ x = nI j := kIn1 hm (fun z => h1 (k_l0.mpr z)) (fun z => h2 ((k_lm hm).mpr z))
theorem kIL2 {x : Int32} {m : Nat} (hm : m < 2 ^ 31) (h : x.toInt64 < lN 0 ∨ lN m < x.toInt64) : ¬ ∃ j, j ≤ m ∧ x = nI j := kIn2 hm (h.elim (fun z => Or.inl (k_l0.mp z)) (fun z => Or.inr ((k_lm hm).mp z)))
theorem kIL3 {x : Int32} {m : Nat} (hm : m < 2 ^ 31) (h1 : ¬ x.toInt64 < lN 1) (h2 : ¬ lN m < x.toInt64) : ∃ j, 1 ≤ j ∧ j ≤ m ∧ x = nI j := by
  obtain ⟨j, ⟨a, b⟩, c⟩ := kIn3 hm (fun z => h1 ((k_l1 (by decide)).mpr z)) (fun z => h2 ((k_lm hm).mpr z))
  exact ⟨j, a, b, c⟩
theorem kIL4 {x : Int32} {m : Nat} (hm : m < 2 ^ 31) (h : x.toInt64 < lN 1 ∨ lN m < x.toInt64) : ¬ ∃ j, 1 ≤ j ∧ j ≤ m ∧ x = nI j := kIn4 hm (h.elim (fun z => Or.inl ((k_l1 (by decide)).mp z)) (fun z => Or.inr ((k_lm hm).mp z)))
theorem kIL5 {x : Int32} {n : Nat} (hn : n ≤ 40) (h1 : ¬ x.toInt64 < lN 0) (h2 : ¬ (nI n - nI 1).toInt64 < x.toInt64) : ∃ j, j < n ∧ x = nI j := kSl1 hn (fun z => h1 (k_l0.mpr z)) (fun z => h2 (k_lx.mpr z))
theorem kIL6 {x : Int32} {n : Nat} (hn : n ≤ 40) (h : x.toInt64 < lN 0 ∨ (nI n - nI 1).toInt64 < x.toInt64) : ¬ ∃ j, j < n ∧ x = nI j := kSl2 hn (h.elim (fun z => Or.inl (k_l0.mp z)) (fun z => Or.inr (k_lx.mp z)))
theorem kIL7 {x : Int64} (h1 : ¬ x < lN 0) (h2 : ¬ lN 999999999999999999 < x) : ∃ j, j < 1000000000000000000 ∧ x = lN j := by
  obtain ⟨i, hi, rfl⟩ := pk_lOf (x := x) h1
  exact ⟨i, by have h3 : ¬ 999999999999999999 < i := fun z => h2 ((pk_lLT (by decide) hi).mpr z); omega, rfl⟩
theorem kIL8 {x : Int64} (h : x < lN 0 ∨ lN 999999999999999999 < x) : ¬ ∃ j, j < 1000000000000000000 ∧ x = lN j := by
  rintro ⟨j, hj, rfl⟩
  rcases h with h | h
  · have := (pk_lLT (by omega) (by decide)).mp h
    omega
  · have := (pk_lLT (by decide) (by omega)).mp h
    omega

set_option maxHeartbeats 4000000 in
set_option maxRecDepth 100000 in
theorem m_isIn0 (E : KE) (x : Int32) (m : Nat) (H0 : m < 2 ^ 31) : kMz E yX1_isIn cX1_isIn 6 (rk 0 0) [.long (x.toInt64), .long (lN (0)), .long (lN (m))] [] (fun r w => ((∃ j, j ≤ m ∧ x = nI j) ∧ r = nI 1 ∧ w = []) ∨ ((¬ (∃ j, j ≤ m ∧ x = nI j)) ∧ r = nI 0 ∧ w = [])) := by
  refine kMz_of (cc := cX1_isIn) (maxL := 6) (by decide) (Nat.le_of_ble_eq_true rfl) ?_
  intro G C hE
  refine kx_lload_n C dX1_isIn_0 rfl 0 rfl ?_
  refine kx_lload_n C dX1_isIn_1 rfl 1 rfl ?_
  refine kx_lcmp_ltR (tgt := 17) C dX1_isIn_2 dX1_isIn_3 (by decide) (fun c1 => ?_) (fun c1 => ?_)
  · skip
    refine kx_iconst (v := nI 0) C dX1_isIn_17 (by decide +kernel) ?_
    exact hE (Nat.le_of_ble_eq_true rfl) (Nat.le_of_ble_eq_true rfl) dX1_isIn_18 (by decide +kernel) (Or.inr ⟨kIL2 H0 (Or.inl c1), rfl, rfl⟩)
  · skip
    refine kx_lload_n C dX1_isIn_6 rfl 0 rfl ?_
    refine kx_lload C dX1_isIn_7 2 rfl ?_
    refine kx_lcmp_gtR (tgt := 17) C dX1_isIn_9 dX1_isIn_10 (by decide) (fun c2 => ?_) (fun c2 => ?_)
    · skip
      refine kx_iconst (v := nI 0) C dX1_isIn_17 (by decide +kernel) ?_
      exact hE (Nat.le_of_ble_eq_true rfl) (Nat.le_of_ble_eq_true rfl) dX1_isIn_18 (by decide +kernel) (Or.inr ⟨kIL2 H0 (Or.inr c2), rfl, rfl⟩)
    · skip
      refine kx_iconst (v := nI 1) C dX1_isIn_13 (by decide +kernel) ?_
      refine kx_goto (tgt := 18) C dX1_isIn_14 (by decide) ?_
      exact hE (Nat.le_of_ble_eq_true rfl) (Nat.le_of_ble_eq_true rfl) dX1_isIn_18 (by decide +kernel) (Or.inl ⟨kIL1 H0 c1 c2, rfl, rfl⟩)

set_option maxHeartbeats 4000000 in
set_option maxRecDepth 100000 in
theorem m_isIn1 (E : KE) (x : Int32) (m : Nat) (H0 : m < 2 ^ 31) : kMz E yX1_isIn cX1_isIn 6 (rk 0 0) [.long (x.toInt64), .long (lN (1)), .long (lN (m))] [] (fun r w => ((∃ j, 1 ≤ j ∧ j ≤ m ∧ x = nI j) ∧ r = nI 1 ∧ w = []) ∨ ((¬ (∃ j, 1 ≤ j ∧ j ≤ m ∧ x = nI j)) ∧ r = nI 0 ∧ w = [])) := by
  refine kMz_of (cc := cX1_isIn) (maxL := 6) (by decide) (Nat.le_of_ble_eq_true rfl) ?_
  intro G C hE
  refine kx_lload_n C dX1_isIn_0 rfl 0 rfl ?_
  refine kx_lload_n C dX1_isIn_1 rfl 1 rfl ?_
  refine kx_lcmp_ltR (tgt := 17) C dX1_isIn_2 dX1_isIn_3 (by decide) (fun c1 => ?_) (fun c1 => ?_)
  · skip
    refine kx_iconst (v := nI 0) C dX1_isIn_17 (by decide +kernel) ?_
    exact hE (Nat.le_of_ble_eq_true rfl) (Nat.le_of_ble_eq_true rfl) dX1_isIn_18 (by decide +kernel) (Or.inr ⟨kIL4 H0 (Or.inl c1), rfl, rfl⟩)
  · skip
    refine kx_lload_n C dX1_isIn_6 rfl 0 rfl ?_
    refine kx_lload C dX1_isIn_7 2 rfl ?_
    refine kx_lcmp_gtR (tgt := 17) C dX1_isIn_9 dX1_isIn_10 (by decide) (fun c2 => ?_) (fun c2 => ?_)
    · skip
      refine kx_iconst (v := nI 0) C dX1_isIn_17 (by decide +kernel) ?_
      exact hE (Nat.le_of_ble_eq_true rfl) (Nat.le_of_ble_eq_true rfl) dX1_isIn_18 (by decide +kernel) (Or.inr ⟨kIL4 H0 (Or.inr c2), rfl, rfl⟩)
    · skip
      refine kx_iconst (v := nI 1) C dX1_isIn_13 (by decide +kernel) ?_
      refine kx_goto (tgt := 18) C dX1_isIn_14 (by decide) ?_
      exact hE (Nat.le_of_ble_eq_true rfl) (Nat.le_of_ble_eq_true rfl) dX1_isIn_18 (by decide +kernel) (Or.inl ⟨kIL3 H0 c1 c2, rfl, rfl⟩)

set_option maxHeartbeats 4000000 in
set_option maxRecDepth 100000 in
theorem m_isInS (E : KE) (x : Int32) (n : Nat) (H0 : n ≤ 40) : kMz E yX1_isIn cX1_isIn 6 (rk 0 0) [.long (x.toInt64), .long (lN (0)), .long ((nI n - nI 1).toInt64)] [] (fun r w => ((∃ j, j < n ∧ x = nI j) ∧ r = nI 1 ∧ w = []) ∨ ((¬ (∃ j, j < n ∧ x = nI j)) ∧ r = nI 0 ∧ w = [])) := by
  refine kMz_of (cc := cX1_isIn) (maxL := 6) (by decide) (Nat.le_of_ble_eq_true rfl) ?_
  intro G C hE
  refine kx_lload_n C dX1_isIn_0 rfl 0 rfl ?_
  refine kx_lload_n C dX1_isIn_1 rfl 1 rfl ?_
  refine kx_lcmp_ltR (tgt := 17) C dX1_isIn_2 dX1_isIn_3 (by decide) (fun c1 => ?_) (fun c1 => ?_)
  · skip
    refine kx_iconst (v := nI 0) C dX1_isIn_17 (by decide +kernel) ?_
    exact hE (Nat.le_of_ble_eq_true rfl) (Nat.le_of_ble_eq_true rfl) dX1_isIn_18 (by decide +kernel) (Or.inr ⟨kIL6 H0 (Or.inl c1), rfl, rfl⟩)
  · skip
    refine kx_lload_n C dX1_isIn_6 rfl 0 rfl ?_
    refine kx_lload C dX1_isIn_7 2 rfl ?_
    refine kx_lcmp_gtR (tgt := 17) C dX1_isIn_9 dX1_isIn_10 (by decide) (fun c2 => ?_) (fun c2 => ?_)
    · skip
      refine kx_iconst (v := nI 0) C dX1_isIn_17 (by decide +kernel) ?_
      exact hE (Nat.le_of_ble_eq_true rfl) (Nat.le_of_ble_eq_true rfl) dX1_isIn_18 (by decide +kernel) (Or.inr ⟨kIL6 H0 (Or.inr c2), rfl, rfl⟩)
    · skip
      refine kx_iconst (v := nI 1) C dX1_isIn_13 (by decide +kernel) ?_
      refine kx_goto (tgt := 18) C dX1_isIn_14 (by decide) ?_
      exact hE (Nat.le_of_ble_eq_true rfl) (Nat.le_of_ble_eq_true rfl) dX1_isIn_18 (by decide +kernel) (Or.inl ⟨kIL5 H0 c1 c2, rfl, rfl⟩)

set_option maxHeartbeats 4000000 in
set_option maxRecDepth 100000 in
theorem m_isInL (E : KE) (x : Int64) : kMz E yX1_isIn cX1_isIn 6 (rk 0 0) [.long (x), .long (lN (0)), .long (lN (999999999999999999))] [] (fun r w => ((∃ j, j < 1000000000000000000 ∧ x = lN j) ∧ r = nI 1 ∧ w = []) ∨ ((¬ (∃ j, j < 1000000000000000000 ∧ x = lN j)) ∧ r = nI 0 ∧ w = [])) := by
  refine kMz_of (cc := cX1_isIn) (maxL := 6) (by decide) (Nat.le_of_ble_eq_true rfl) ?_
  intro G C hE
  refine kx_lload_n C dX1_isIn_0 rfl 0 rfl ?_
  refine kx_lload_n C dX1_isIn_1 rfl 1 rfl ?_
  refine kx_lcmp_ltR (tgt := 17) C dX1_isIn_2 dX1_isIn_3 (by decide) (fun c1 => ?_) (fun c1 => ?_)
  · skip
    refine kx_iconst (v := nI 0) C dX1_isIn_17 (by decide +kernel) ?_
    exact hE (Nat.le_of_ble_eq_true rfl) (Nat.le_of_ble_eq_true rfl) dX1_isIn_18 (by decide +kernel) (Or.inr ⟨kIL8 (Or.inl c1), rfl, rfl⟩)
  · skip
    refine kx_lload_n C dX1_isIn_6 rfl 0 rfl ?_
    refine kx_lload C dX1_isIn_7 2 rfl ?_
    refine kx_lcmp_gtR (tgt := 17) C dX1_isIn_9 dX1_isIn_10 (by decide) (fun c2 => ?_) (fun c2 => ?_)
    · skip
      refine kx_iconst (v := nI 0) C dX1_isIn_17 (by decide +kernel) ?_
      exact hE (Nat.le_of_ble_eq_true rfl) (Nat.le_of_ble_eq_true rfl) dX1_isIn_18 (by decide +kernel) (Or.inr ⟨kIL8 (Or.inr c2), rfl, rfl⟩)
    · skip
      refine kx_iconst (v := nI 1) C dX1_isIn_13 (by decide +kernel) ?_
      refine kx_goto (tgt := 18) C dX1_isIn_14 (by decide) ?_
      exact hE (Nat.le_of_ble_eq_true rfl) (Nat.le_of_ble_eq_true rfl) dX1_isIn_18 (by decide +kernel) (Or.inl ⟨kIL7 c1 c2, rfl, rfl⟩)

set_option maxHeartbeats 4000000 in
set_option maxRecDepth 100000 in
theorem m_isSlice (E : KE) (J : Nat → Nat) (cd n b y o : Nat) (Wm Pm Rm Ym Tm Cm Km : Nat → Nat) (x : Int32) (H1 : n ≤ 40) : kMz E yX1_isSlice cX1_isSlice 2 (rk 1 0) [.ref (J 0), .int (x)] (kmW E J cd n b y o Wm Pm Rm Ym Tm Cm Km) (fun r w => ((∃ j, j < n ∧ x = nI j) ∧ r = nI 1 ∧ w = (kmW E J cd n b y o Wm Pm Rm Ym Tm Cm Km)) ∨ ((¬ (∃ j, j < n ∧ x = nI j)) ∧ r = nI 0 ∧ w = (kmW E J cd n b y o Wm Pm Rm Ym Tm Cm Km))) := by
  refine kMz_of (cc := cX1_isSlice) (maxL := 2) (by decide) (Nat.le_of_ble_eq_true rfl) ?_
  intro G C hE
  refine kx_iload_n C dX1_isSlice_0 rfl 1 rfl ?_
  refine kx_i2l (v := (x).toInt64) C dX1_isSlice_1 rfl ?_
  refine kx_lconst (v := lN 0) C dX1_isSlice_2 (by decide +kernel) ?_
  refine kx_aload_n C dX1_isSlice_3 rfl 0 rfl ?_
  refine kx_get (v := .int (nI (n))) (ci := 1) C kin1 0 rfl rfl 1 (by decide) fl1_39 rfl rfl dX1_isSlice_4 ?_
  refine kx_iconst (v := nI 1) C dX1_isSlice_7 (by decide +kernel) ?_
  refine kx_isubR C dX1_isSlice_8 ?_
  refine kx_i2l (v := ((nI (n)) - (nI (1))).toInt64) C dX1_isSlice_9 rfl ?_
  refine kx_callSz (rest := []) (wr := (kmW E J cd n b y o Wm Pm Rm Ym Tm Cm Km)) C (m_isInS E x n H1) g1_51 3 rfl (by decide +kernel) ⟨Nat.le_of_ble_eq_true rfl, Nat.le_of_ble_eq_true rfl⟩ ⟨Nat.le_of_ble_eq_true rfl, Nat.le_of_ble_eq_true rfl⟩ [] [0, 1, 2, 3, 4, 5, 6, 7] rfl rfl (by decide) (by decide) (by decide) rfl (Nat.le_of_ble_eq_true rfl) dX1_isSlice_10 (fun v w q1 => ?_)
  rcases q1 with ⟨q1, rfl, rfl⟩ | ⟨q1, rfl, rfl⟩
  · skip
    refine kx_eqw (ws2 := (kmW E J cd n b y o Wm Pm Rm Ym Tm Cm Km)) (List.append_nil _) ?_
    exact hE (Nat.le_of_ble_eq_true rfl) (Nat.le_of_ble_eq_true rfl) dX1_isSlice_13 (by decide +kernel) (Or.inl ⟨q1, rfl, rfl⟩)
  · skip
    refine kx_eqw (ws2 := (kmW E J cd n b y o Wm Pm Rm Ym Tm Cm Km)) (List.append_nil _) ?_
    exact hE (Nat.le_of_ble_eq_true rfl) (Nat.le_of_ble_eq_true rfl) dX1_isSlice_13 (by decide +kernel) (Or.inr ⟨q1, rfl, rfl⟩)

set_option maxHeartbeats 4000000 in
set_option maxRecDepth 100000 in
theorem m_isKey (E : KE) (x : Int32) : kMz E yX1_isKey cX1_isKey 1 (rk 1 0) [.int (x)] [] (fun r w => ((∃ j, j ≤ 23 ∧ x = nI j) ∧ r = nI 1 ∧ w = []) ∨ ((¬ (∃ j, j ≤ 23 ∧ x = nI j)) ∧ r = nI 0 ∧ w = [])) := by
  refine kMz_of (cc := cX1_isKey) (maxL := 1) (by decide) (Nat.le_of_ble_eq_true rfl) ?_
  intro G C hE
  refine kx_iload_n C dX1_isKey_0 rfl 0 rfl ?_
  refine kx_i2l (v := (x).toInt64) C dX1_isKey_1 rfl ?_
  refine kx_lconst (v := lN 0) C dX1_isKey_2 (by decide +kernel) ?_
  refine kx_ldc2 (v := lN 23) C kc1_55 dX1_isKey_3 ?_
  refine kx_callSz (rest := []) (wr := []) C (m_isIn0 E x 23 (by decide)) g1_51 3 rfl (by decide +kernel) ⟨Nat.le_of_ble_eq_true rfl, Nat.le_of_ble_eq_true rfl⟩ ⟨Nat.le_of_ble_eq_true rfl, Nat.le_of_ble_eq_true rfl⟩ [] [] rfl rfl (by decide) (by decide) (by decide) rfl (Nat.le_of_ble_eq_true rfl) dX1_isKey_6 (fun v w q1 => ?_)
  rcases q1 with ⟨q1, rfl, rfl⟩ | ⟨q1, rfl, rfl⟩
  · skip
    refine kx_eqw (ws2 := []) (List.append_nil _) ?_
    exact hE (Nat.le_of_ble_eq_true rfl) (Nat.le_of_ble_eq_true rfl) dX1_isKey_9 (by decide +kernel) (Or.inl ⟨q1, rfl, rfl⟩)
  · skip
    refine kx_eqw (ws2 := []) (List.append_nil _) ?_
    exact hE (Nat.le_of_ble_eq_true rfl) (Nat.le_of_ble_eq_true rfl) dX1_isKey_9 (by decide +kernel) (Or.inr ⟨q1, rfl, rfl⟩)
