set_option maxHeartbeats 4000000 in
set_option maxRecDepth 100000 in
theorem m_changeAt (E : KE) (J : Nat → Nat) (cd n b y o : Nat) (Wm Pm Rm Ym Tm Cm Km : Nat → Nat) (q : Nat) (HQ : q < 2 ^ 31) (HM : kMo n b y o Wm Pm Rm Ym Km) : kMi E yX1_changeAt cX1_changeAt 4 (rk 9 0) [.ref (J 0), .int (nI (q))] (kmW E J cd n b y o Wm Pm Rm Ym Tm Cm Km) (fun r w => ∃ (Rv Yv Tv Cv Kv : Nat → Nat), (∀ j, j < n → Kv j = fsN n b y o Pm Wm j) ∧ ((∃ s, 1 ≤ s ∧ s < n ∧ Kv s ≠ Kv (s - 1) ∧ chN Kv s = q ∧ r = nI s) ∨ (chN Kv n ≤ q ∧ r = -1)) ∧ kMo n b y o Wm Pm Rv Yv Kv ∧ w = (kmW E J cd n b y o Wm Pm Rv Yv Tv Cv Kv)) := by
  refine kMi_of (cc := cX1_changeAt) (maxL := 4) (by decide) (Nat.le_of_ble_eq_true rfl) ?_
  intro G C hE
  obtain ⟨H1, Hb, Hy, Ho, HP, HW, HRm, HYm, HKm⟩ := id HM
  refine kx_aload_n C dX1_changeAt_0 rfl 0 rfl ?_
  refine kx_lconst (v := lN 0) C dX1_changeAt_1 (by decide +kernel) ?_
  refine kx_callVz (rest := []) (wr := []) C (m_walkBehind E J cd n b y o Wm Pm Rm Ym Tm Cm Km 0 (by decide) HM) g1_101 1 rfl (by decide +kernel) ⟨Nat.le_of_ble_eq_true rfl, Nat.le_of_ble_eq_true rfl⟩ ⟨Nat.le_of_ble_eq_true rfl, Nat.le_of_ble_eq_true rfl⟩ [0, 1, 2, 3, 4, 5, 6, 7] [] rfl rfl (by decide) (by decide) (by decide) 0 rfl rfl rfl (Nat.le_of_ble_eq_true rfl) dX1_changeAt_2 (fun v w q1 => ?_)
  obtain ⟨Rv, Yv, Tv, Cv, Kv, hTv, hCv, HM2, hcase, rfl⟩ := q1
  refine kx_eqw (ws2 := (kmW E J cd n b y o Wm Pm Rv Yv Tv Cv Kv)) rfl ?_
  obtain ⟨-, -, -, -, -, -, hA_Rv, hA_Yv, hKv⟩ := id HM2
  have hK := walk0 H1 HP HW Hb Hy Ho hcase
  have lp10 : ∀ (N_lp10 : Nat) (i : Nat), (1 ≤ i) → (i ≤ n ∨ i = 1) → (chN Kv i ≤ q) → (n + 1 < i + N_lp10) → kx E (rk 9 0) G 4 0 0 (kmW E J cd n b y o Wm Pm Rv Yv Tv Cv Kv) [(0, .ref (J 0)), (1, .int (nI (q))), (2, .int (nI (chN Kv i))), (3, .int (nI (i)))] 10 [] := by
    intro N_lp10
    induction N_lp10 with
    | zero =>
      intro i h0_lp10 h1_lp10 h2_lp10 hm_lp10
      exact absurd hm_lp10 (by omega)
    | succ N_lp10 ih_lp10 =>
      intro i h0_lp10 h1_lp10 h2_lp10 hm_lp10
      refine kx_iload_n C dX1_changeAt_10 rfl 3 rfl ?_
      refine kx_aload_n C dX1_changeAt_11 rfl 0 rfl ?_
      refine kx_get (v := .int (nI (n))) (ci := 1) C kin1 0 rfl rfl 1 (by decide) fl1_39 rfl rfl dX1_changeAt_12 ?_
      refine kx_icmp_ge (tgt := 51) C (by omega) (by omega) dX1_changeAt_15 (by decide) (fun c2 => ?_) (fun c2 => ?_)
      · skip
        refine kx_iconst (v := (-1)) C dX1_changeAt_51 (by decide +kernel) ?_
        exact hE (Nat.le_of_ble_eq_true rfl) (Nat.le_of_ble_eq_true rfl) dX1_changeAt_52 ⟨Rv, Yv, Tv, Cv, Kv, hK, Or.inr ⟨by rw [← chN_end (F := Kv) (by omega) h1_lp10]; exact h2_lp10, rfl⟩, HM2, rfl⟩
      · skip
        refine kx_aload_n C dX1_changeAt_18 rfl 0 rfl ?_
        refine kx_get (v := .ref (J 7)) (ci := 1) C kin1 0 rfl rfl 11 (by decide) fl1_29 rfl rfl dX1_changeAt_19 ?_
        refine kx_iload_n C dX1_changeAt_22 rfl 3 rfl ?_
        refine kx_iald C 7 rfl (j := i) (by omega) (by decide) dX1_changeAt_23 ?_
        refine kx_aload_n C dX1_changeAt_24 rfl 0 rfl ?_
        refine kx_get (v := .ref (J 7)) (ci := 1) C kin1 0 rfl rfl 11 (by decide) fl1_29 rfl rfl dX1_changeAt_25 ?_
        refine kx_iload_n C dX1_changeAt_28 rfl 3 rfl ?_
        refine kx_iconst (v := nI 1) C dX1_changeAt_29 (by decide +kernel) ?_
        refine kx_isub C (by omega) dX1_changeAt_30 ?_
        refine kx_iald C 7 rfl (j := (i) - (1)) (by omega) (by decide) dX1_changeAt_31 ?_
        refine kx_icmp_eq (tgt := 45) C (by have := hKv i; omega) (by have := hKv (i - 1); omega) dX1_changeAt_32 (by decide) (fun c3 => ?_) (fun c3 => ?_)
        · skip
          refine kx_iinc (v := nI (i + 1)) (lv2 := [(3, .int (nI (i + 1))), (0, .ref (J 0)), (1, .int (nI (q))), (2, .int (nI (chN Kv i)))]) C dX1_changeAt_45 3 rfl (kI1 _) (by decide) rfl ?_
          refine kx_goto (tgt := 10) C dX1_changeAt_48 (by decide) ?_
          refine kx_lvn (a := chN Kv i) (b := chN Kv (i + 1)) (lv2 := [(3, .int (nI (i + 1))), (0, .ref (J 0)), (1, .int (nI (q))), (2, .int (nI (chN Kv (i + 1))))]) (by rw [chN_at (by omega), if_pos c3, Nat.add_zero]) 3 rfl rfl ?_
          refine kx_lv (lv2 := [(0, .ref (J 0)), (1, .int (nI (q))), (2, .int (nI (chN Kv (i + 1)))), (3, .int (nI (i + 1)))]) [1, 2, 3, 0] rfl ?_
          refine kx_eqw (ws2 := (kmW E J cd n b y o Wm Pm Rv Yv Tv Cv Kv)) rfl ?_
          exact ih_lp10 (i + 1) (by omega) (by omega) (by rw [chN_at (by omega), if_pos c3]; omega) (by omega)
        · skip
          refine kx_iload_n C dX1_changeAt_35 rfl 2 rfl ?_
          refine kx_iload_n C dX1_changeAt_36 rfl 1 rfl ?_
          refine kx_icmp_ne (tgt := 42) C (by have := chN_le Kv i; omega) (by omega) dX1_changeAt_37 (by decide) (fun c4 => ?_) (fun c4 => ?_)
          · skip
            refine kx_iinc (v := nI (chN Kv i + 1)) (lv2 := [(2, .int (nI (chN Kv i + 1))), (0, .ref (J 0)), (1, .int (nI (q))), (3, .int (nI (i)))]) C dX1_changeAt_42 2 rfl (kI1 _) (by decide) rfl ?_
            refine kx_iinc (v := nI (i + 1)) (lv2 := [(3, .int (nI (i + 1))), (2, .int (nI (chN Kv i + 1))), (0, .ref (J 0)), (1, .int (nI (q)))]) C dX1_changeAt_45 3 rfl (kI1 _) (by decide) rfl ?_
            refine kx_goto (tgt := 10) C dX1_changeAt_48 (by decide) ?_
            refine kx_lvn (a := chN Kv i + 1) (b := chN Kv (i + 1)) (lv2 := [(3, .int (nI (i + 1))), (2, .int (nI (chN Kv (i + 1)))), (0, .ref (J 0)), (1, .int (nI (q)))]) (by rw [chN_at (by omega), if_neg c3]) 1 rfl rfl ?_
            refine kx_lv (lv2 := [(0, .ref (J 0)), (1, .int (nI (q))), (2, .int (nI (chN Kv (i + 1)))), (3, .int (nI (i + 1)))]) [2, 3, 1, 0] rfl ?_
            refine kx_eqw (ws2 := (kmW E J cd n b y o Wm Pm Rv Yv Tv Cv Kv)) rfl ?_
            exact ih_lp10 (i + 1) (by omega) (by omega) (by rw [chN_at (by omega), if_neg c3]; omega) (by omega)
          · skip
            refine kx_iload_n C dX1_changeAt_40 rfl 3 rfl ?_
            exact hE (Nat.le_of_ble_eq_true rfl) (Nat.le_of_ble_eq_true rfl) dX1_changeAt_41 ⟨Rv, Yv, Tv, Cv, Kv, hK, Or.inl ⟨i, by omega, by omega, c3, c4, rfl⟩, HM2, rfl⟩
  refine kx_pop C dX1_changeAt_5 rfl ?_
  refine kx_iconst (v := nI 0) C dX1_changeAt_6 (by decide +kernel) ?_
  refine kx_istore_n (lv2 := [(2, .int (nI (0))), (0, .ref (J 0)), (1, .int (nI (q)))]) C dX1_changeAt_7 rfl (by decide) rfl ?_
  refine kx_iconst (v := nI 1) C dX1_changeAt_8 (by decide +kernel) ?_
  refine kx_istore_n (lv2 := [(3, .int (nI (1))), (2, .int (nI (0))), (0, .ref (J 0)), (1, .int (nI (q)))]) C dX1_changeAt_9 rfl (by decide) rfl ?_
  refine kx_lv (lv2 := [(0, .ref (J 0)), (1, .int (nI (q))), (2, .int (nI (chN Kv 1))), (3, .int (nI (1)))]) [2, 3, 1, 0] rfl ?_
  refine kx_eqw (ws2 := (kmW E J cd n b y o Wm Pm Rv Yv Tv Cv Kv)) rfl ?_
  exact lp10 42 1 (by omega) (by omega) (Nat.zero_le _) (by omega)

set_option maxHeartbeats 4000000 in
set_option maxRecDepth 100000 in
theorem m_change (E : KE) (J : Nat → Nat) (cd n b y o : Nat) (Wm Pm Rm Ym Tm Cm Km : Nat → Nat) (x0 : Int32) (HM : kMo n b y o Wm Pm Rm Ym Km) : kMi E yX1_change cX1_change 2 (rk 10 0) [.ref (J 0), .int (x0)] (kmW E J cd n b y o Wm Pm Rm Ym Tm Cm Km) (fun r w => (∃ q, x0 = nI q ∧ q < 2 ^ 31 ∧ ∃ (Rv Yv Tv Cv Kv : Nat → Nat), (∀ j, j < n → Kv j = fsN n b y o Pm Wm j) ∧ ((∃ s, 1 ≤ s ∧ s < n ∧ Kv s ≠ Kv (s - 1) ∧ chN Kv s = q ∧ r = nI s) ∨ (chN Kv n ≤ q ∧ r = -1)) ∧ kMo n b y o Wm Pm Rv Yv Kv ∧ w = (kmW E J 0 n b y o Wm Pm Rv Yv Tv Cv Kv)) ∨ (x0 < 0 ∧ r = nI 0 ∧ w = (kmW E J 1 n b y o Wm Pm Rm Ym Tm Cm Km))) := by
  refine kMi_of (cc := cX1_change) (maxL := 2) (by decide) (Nat.le_of_ble_eq_true rfl) ?_
  intro G C hE
  obtain ⟨H1, Hb, Hy, Ho, HP, HW, HRm, HYm, HKm⟩ := id HM
  refine kx_aload_n C dX1_change_0 rfl 0 rfl ?_
  refine kx_iload_n C dX1_change_1 rfl 1 rfl ?_
  refine kx_if_geR (tgt := 9) C dX1_change_2 (by decide) (fun c1 => ?_) (fun c1 => ?_)
  · skip
    obtain ⟨q, eq9, rfl⟩ := nI_of (x := x0) (Int32.not_lt.mpr c1)
    refine kx_iconst (v := nI 0) C dX1_change_9 (by decide +kernel) ?_
    refine kx_callVz (rest := []) (wr := []) C (m_isGood E J cd n b y o Wm Pm Rm Ym Tm Cm Km 0 (by decide)) g1_61 1 rfl (by decide +kernel) ⟨Nat.le_of_ble_eq_true rfl, Nat.le_of_ble_eq_true rfl⟩ ⟨Nat.le_of_ble_eq_true rfl, Nat.le_of_ble_eq_true rfl⟩ [0, 1, 2, 3, 4, 5, 6, 7] [] rfl rfl (by decide) (by decide) (by decide) 0 rfl rfl rfl (Nat.le_of_ble_eq_true rfl) dX1_change_10 (fun v w q2 => ?_)
    obtain ⟨rfl, rfl⟩ := q2
    refine kx_eqw (ws2 := (kmW E J 0 n b y o Wm Pm Rm Ym Tm Cm Km)) rfl ?_
    refine kx_topn (b := 1) rfl ?_
    refine kx_if_eq (tgt := 24) C (by omega) dX1_change_13 (by decide) (fun c3 => ?_) (fun c3 => ?_)
    · skip
      exact absurd c3 (by decide)
    · skip
      refine kx_aload_n C dX1_change_16 rfl 0 rfl ?_
      refine kx_iload_n C dX1_change_17 rfl 1 rfl ?_
      refine kx_callVi (rest := []) (wr := []) C (m_changeAt E J 0 n b y o Wm Pm Rm Ym Tm Cm Km q eq9 HM) g1_111 1 rfl (by decide +kernel) ⟨Nat.le_of_ble_eq_true rfl, Nat.le_of_ble_eq_true rfl⟩ ⟨Nat.le_of_ble_eq_true rfl, Nat.le_of_ble_eq_true rfl⟩ [0, 1, 2, 3, 4, 5, 6, 7] [] rfl rfl (by decide) (by decide) (by decide) 0 rfl rfl rfl (Nat.le_of_ble_eq_true rfl) dX1_change_18 (fun v w q4 => ?_)
      obtain ⟨Rv, Yv, Tv, Cv, Kv, hK, hC, HM2, rfl⟩ := q4
      refine kx_eqw (ws2 := (kmW E J 0 n b y o Wm Pm Rv Yv Tv Cv Kv)) rfl ?_
      refine kx_goto (tgt := 25) C dX1_change_21 (by decide) ?_
      exact hE (Nat.le_of_ble_eq_true rfl) (Nat.le_of_ble_eq_true rfl) dX1_change_25 (Or.inl ⟨q, rfl, eq9, Rv, Yv, Tv, Cv, Kv, hK, hC, HM2, rfl⟩)
  · skip
    refine kx_iconst (v := nI 1) C dX1_change_5 (by decide +kernel) ?_
    refine kx_goto (tgt := 10) C dX1_change_6 (by decide) ?_
    refine kx_callVz (rest := []) (wr := []) C (m_isGood E J cd n b y o Wm Pm Rm Ym Tm Cm Km 1 (by decide)) g1_61 1 rfl (by decide +kernel) ⟨Nat.le_of_ble_eq_true rfl, Nat.le_of_ble_eq_true rfl⟩ ⟨Nat.le_of_ble_eq_true rfl, Nat.le_of_ble_eq_true rfl⟩ [0, 1, 2, 3, 4, 5, 6, 7] [] rfl rfl (by decide) (by decide) (by decide) 0 rfl rfl rfl (Nat.le_of_ble_eq_true rfl) dX1_change_10 (fun v w q5 => ?_)
    obtain ⟨rfl, rfl⟩ := q5
    refine kx_eqw (ws2 := (kmW E J 1 n b y o Wm Pm Rm Ym Tm Cm Km)) rfl ?_
    refine kx_topn (b := 0) rfl ?_
    refine kx_if_eq (tgt := 24) C (by omega) dX1_change_13 (by decide) (fun c6 => ?_) (fun c6 => ?_)
    · skip
      refine kx_iconst (v := nI 0) C dX1_change_24 (by decide +kernel) ?_
      exact hE (Nat.le_of_ble_eq_true rfl) (Nat.le_of_ble_eq_true rfl) dX1_change_25 (Or.inr ⟨Int32.not_le.mp c1, rfl, rfl⟩)
    · skip
      exact absurd c6 (by decide)

set_option maxHeartbeats 4000000 in
set_option maxRecDepth 100000 in
theorem m_pivot (E : KE) (J : Nat → Nat) (cd n b y o : Nat) (Wm Pm Rm Ym Tm Cm Km : Nat → Nat) (x0 x1 x2 : Int32) (HM : kMo n b y o Wm Pm Rm Ym Km) : kMz E yX1_pivot cX1_pivot 6 (rk 10 0) [.ref (J 0), .int (x0), .int (x1), .int (x2)] (kmW E J cd n b y o Wm Pm Rm Ym Tm Cm Km) (fun r w => (∃ sl k1 k2, x0 = nI sl ∧ sl < n ∧ x1 = nI k1 ∧ k1 ≤ 23 ∧ x2 = nI k2 ∧ k2 ≤ 23 ∧ (((∀ p, p < 12 → 0 < Wm (sl * 12 + p) → Pm (numX p k1) ≠ 0 ∧ Pm (numX p k2) ≠ 0) ∧ r = nI 1) ∨ (¬ (∀ p, p < 12 → 0 < Wm (sl * 12 + p) → Pm (numX p k1) ≠ 0 ∧ Pm (numX p k2) ≠ 0) ∧ r = nI 0)) ∧ w = (kmW E J 0 n b y o Wm Pm Rm Ym Tm Cm Km)) ∨ ((¬ ((∃ j, j < n ∧ x0 = nI j) ∧ (∃ j, j ≤ 23 ∧ x1 = nI j) ∧ (∃ j, j ≤ 23 ∧ x2 = nI j))) ∧ r = nI 0 ∧ w = (kmW E J 1 n b y o Wm Pm Rm Ym Tm Cm Km))) := by
  refine kMz_of (cc := cX1_pivot) (maxL := 6) (by decide) (Nat.le_of_ble_eq_true rfl) ?_
  intro G C hE
  obtain ⟨H1, Hb, Hy, Ho, HP, HW, HRm, HYm, HKm⟩ := id HM
  refine kx_aload_n C dX1_pivot_0 rfl 0 rfl ?_
  refine kx_aload_n C dX1_pivot_1 rfl 0 rfl ?_
  refine kx_iload_n C dX1_pivot_2 rfl 1 rfl ?_
  refine kx_callVz (rest := [.ref (J 0)]) (wr := []) C (m_isSlice E J cd n b y o Wm Pm Rm Ym Tm Cm Km x0 H1) g1_67 1 rfl (by decide +kernel) ⟨Nat.le_of_ble_eq_true rfl, Nat.le_of_ble_eq_true rfl⟩ ⟨Nat.le_of_ble_eq_true rfl, Nat.le_of_ble_eq_true rfl⟩ [0, 1, 2, 3, 4, 5, 6, 7] [] rfl rfl (by decide) (by decide) (by decide) 0 rfl rfl rfl (Nat.le_of_ble_eq_true rfl) dX1_pivot_3 (fun v w q1 => ?_)
  rcases q1 with ⟨q1, rfl, rfl⟩ | ⟨q1, rfl, rfl⟩
  · skip
    refine kx_eqw (ws2 := (kmW E J cd n b y o Wm Pm Rm Ym Tm Cm Km)) rfl ?_
    obtain ⟨sl, esl, rfl⟩ := q1
    refine kx_if_eq (tgt := 27) C (by omega) dX1_pivot_6 (by decide) (fun c2 => ?_) (fun c2 => ?_)
    · skip
      exact absurd c2 (by decide)
    · skip
      refine kx_iload_n C dX1_pivot_9 rfl 2 rfl ?_
      refine kx_callSz (rest := [.ref (J 0)]) (wr := (kmW E J cd n b y o Wm Pm Rm Ym Tm Cm Km)) C (m_isKey E x1) g1_83 1 rfl (by decide +kernel) ⟨Nat.le_of_ble_eq_true rfl, Nat.le_of_ble_eq_true rfl⟩ ⟨Nat.le_of_ble_eq_true rfl, Nat.le_of_ble_eq_true rfl⟩ [] [0, 1, 2, 3, 4, 5, 6, 7] rfl rfl (by decide) (by decide) (by decide) rfl (Nat.le_of_ble_eq_true rfl) dX1_pivot_10 (fun v w q3 => ?_)
      rcases q3 with ⟨q3, rfl, rfl⟩ | ⟨q3, rfl, rfl⟩
      · skip
        refine kx_eqw (ws2 := (kmW E J cd n b y o Wm Pm Rm Ym Tm Cm Km)) (List.append_nil _) ?_
        obtain ⟨k1, ek1, rfl⟩ := q3
        refine kx_if_eq (tgt := 27) C (by omega) dX1_pivot_13 (by decide) (fun c4 => ?_) (fun c4 => ?_)
        · skip
          exact absurd c4 (by decide)
        · skip
          refine kx_iload_n C dX1_pivot_16 rfl 3 rfl ?_
          refine kx_callSz (rest := [.ref (J 0)]) (wr := (kmW E J cd n b y o Wm Pm Rm Ym Tm Cm Km)) C (m_isKey E x2) g1_83 1 rfl (by decide +kernel) ⟨Nat.le_of_ble_eq_true rfl, Nat.le_of_ble_eq_true rfl⟩ ⟨Nat.le_of_ble_eq_true rfl, Nat.le_of_ble_eq_true rfl⟩ [] [0, 1, 2, 3, 4, 5, 6, 7] rfl rfl (by decide) (by decide) (by decide) rfl (Nat.le_of_ble_eq_true rfl) dX1_pivot_17 (fun v w q5 => ?_)
          rcases q5 with ⟨q5, rfl, rfl⟩ | ⟨q5, rfl, rfl⟩
          · skip
            refine kx_eqw (ws2 := (kmW E J cd n b y o Wm Pm Rm Ym Tm Cm Km)) (List.append_nil _) ?_
            obtain ⟨k2, ek2, rfl⟩ := q5
            refine kx_if_eq (tgt := 27) C (by omega) dX1_pivot_20 (by decide) (fun c6 => ?_) (fun c6 => ?_)
            · skip
              exact absurd c6 (by decide)
            · skip
              refine kx_iconst (v := nI 0) C dX1_pivot_23 (by decide +kernel) ?_
              refine kx_goto (tgt := 28) C dX1_pivot_24 (by decide) ?_
              refine kx_callVz (rest := []) (wr := []) C (m_isGood E J cd n b y o Wm Pm Rm Ym Tm Cm Km 0 (by decide)) g1_61 1 rfl (by decide +kernel) ⟨Nat.le_of_ble_eq_true rfl, Nat.le_of_ble_eq_true rfl⟩ ⟨Nat.le_of_ble_eq_true rfl, Nat.le_of_ble_eq_true rfl⟩ [0, 1, 2, 3, 4, 5, 6, 7] [] rfl rfl (by decide) (by decide) (by decide) 0 rfl rfl rfl (Nat.le_of_ble_eq_true rfl) dX1_pivot_28 (fun v w q7 => ?_)
              obtain ⟨rfl, rfl⟩ := q7
              refine kx_eqw (ws2 := (kmW E J 0 n b y o Wm Pm Rm Ym Tm Cm Km)) rfl ?_
              refine kx_topn (b := 1) rfl ?_
              refine kx_if_ne (tgt := 36) C (by omega) dX1_pivot_31 (by decide) (fun c8 => ?_) (fun c8 => ?_)
              · skip
                have lpB : ∀ (N_lpB : Nat) (i : Nat), (i ≤ 12) → (¬ (∀ p, p < 12 → 0 < Wm (sl * 12 + p) → Pm (numX p k1) ≠ 0 ∧ Pm (numX p k2) ≠ 0)) → (12 < i + N_lpB) → kx E (rk 10 0) G 6 0 0 (kmW E J 0 n b y o Wm Pm Rm Ym Tm Cm Km) [(0, .ref (J 0)), (1, .int (nI (sl))), (2, .int (nI (k1))), (3, .int (nI (k2))), (4, .int (nI (0))), (5, .int (nI (i)))] 42 [] := by
                  intro N_lpB
                  induction N_lpB with
                  | zero =>
                    intro i h0_lpB h1_lpB hm_lpB
                    exact absurd hm_lpB (by omega)
                  | succ N_lpB ih_lpB =>
                    intro i h0_lpB h1_lpB hm_lpB
                    refine kx_iload C dX1_pivot_42 5 rfl ?_
                    refine kx_bipush (v := nI 12) C dX1_pivot_44 (by decide +kernel) ?_
                    refine kx_icmp_ge (tgt := 102) C (by omega) (by omega) dX1_pivot_46 (by decide) (fun c9 => ?_) (fun c9 => ?_)
                    · skip
                      obtain rfl : 12 = i := by omega
                      refine kx_iload C dX1_pivot_102 4 rfl ?_
                      exact hE (Nat.le_of_ble_eq_true rfl) (Nat.le_of_ble_eq_true rfl) dX1_pivot_104 (by decide +kernel) (Or.inl ⟨sl, k1, k2, rfl, esl, rfl, ek1, rfl, ek2, Or.inr ⟨h1_lpB, rfl⟩, rfl⟩)
                    · skip
                      refine kx_iload C dX1_pivot_49 4 rfl ?_
                      refine kx_if_eq (tgt := 93) C (by omega) dX1_pivot_51 (by decide) (fun c10 => ?_) (fun c10 => ?_)
                      · skip
                        refine kx_iconst (v := nI 0) C dX1_pivot_93 (by decide +kernel) ?_
                        refine kx_istore (lv2 := [(4, .int (nI (0))), (0, .ref (J 0)), (1, .int (nI (sl))), (2, .int (nI (k1))), (3, .int (nI (k2))), (5, .int (nI (i)))]) C dX1_pivot_94 (by decide) rfl ?_
                        refine kx_iinc (v := nI (i + 1)) (lv2 := [(5, .int (nI (i + 1))), (4, .int (nI (0))), (0, .ref (J 0)), (1, .int (nI (sl))), (2, .int (nI (k1))), (3, .int (nI (k2)))]) C dX1_pivot_96 5 rfl (kI1 _) (by decide) rfl ?_
                        refine kx_goto (tgt := 42) C dX1_pivot_99 (by decide) ?_
                        refine kx_lv (lv2 := [(0, .ref (J 0)), (1, .int (nI (sl))), (2, .int (nI (k1))), (3, .int (nI (k2))), (4, .int (nI (0))), (5, .int (nI (i + 1)))]) [2, 3, 4, 5, 1, 0] rfl ?_
                        refine kx_eqw (ws2 := (kmW E J 0 n b y o Wm Pm Rm Ym Tm Cm Km)) rfl ?_
                        exact ih_lpB (i + 1) (by omega) h1_lpB (by omega)
                      · skip
                        exact absurd c10 (by decide)
                have lpA : ∀ (N_lpA : Nat) (i : Nat), (i ≤ 12) → ((∀ p, p < i → 0 < Wm (sl * 12 + p) → Pm (numX p k1) ≠ 0 ∧ Pm (numX p k2) ≠ 0)) → (12 < i + N_lpA) → kx E (rk 10 0) G 6 0 0 (kmW E J 0 n b y o Wm Pm Rm Ym Tm Cm Km) [(0, .ref (J 0)), (1, .int (nI (sl))), (2, .int (nI (k1))), (3, .int (nI (k2))), (4, .int (nI (1))), (5, .int (nI (i)))] 42 [] := by
                  intro N_lpA
                  induction N_lpA with
                  | zero =>
                    intro i h0_lpA h1_lpA hm_lpA
                    exact absurd hm_lpA (by omega)
                  | succ N_lpA ih_lpA =>
                    intro i h0_lpA h1_lpA hm_lpA
                    refine kx_iload C dX1_pivot_42 5 rfl ?_
                    refine kx_bipush (v := nI 12) C dX1_pivot_44 (by decide +kernel) ?_
                    refine kx_icmp_ge (tgt := 102) C (by omega) (by omega) dX1_pivot_46 (by decide) (fun c11 => ?_) (fun c11 => ?_)
                    · skip
                      obtain rfl : 12 = i := by omega
                      refine kx_iload C dX1_pivot_102 4 rfl ?_
                      exact hE (Nat.le_of_ble_eq_true rfl) (Nat.le_of_ble_eq_true rfl) dX1_pivot_104 (by decide +kernel) (Or.inl ⟨sl, k1, k2, rfl, esl, rfl, ek1, rfl, ek2, Or.inl ⟨h1_lpA, rfl⟩, rfl⟩)
                    · skip
                      refine kx_iload C dX1_pivot_49 4 rfl ?_
                      refine kx_if_eq (tgt := 93) C (by omega) dX1_pivot_51 (by decide) (fun c12 => ?_) (fun c12 => ?_)
                      · skip
                        exact absurd c12 (by decide)
                      · skip
                        refine kx_aload_n C dX1_pivot_54 rfl 0 rfl ?_
                        refine kx_get (v := .ref (J 1)) (ci := 1) C kin1 0 rfl rfl 2 (by decide) fl1_7 rfl rfl dX1_pivot_55 ?_
                        refine kx_bipush (v := nI 12) C dX1_pivot_58 (by decide +kernel) ?_
                        refine kx_iload_n C dX1_pivot_60 rfl 1 rfl ?_
                        refine kx_imul C dX1_pivot_61 ?_
                        refine kx_iload C dX1_pivot_62 5 rfl ?_
                        refine kx_iadd C dX1_pivot_64 ?_
                        refine kx_topn (b := sl * 12 + i) (by omega) ?_
                        refine kx_iald C 1 rfl (j := sl * 12 + i) (by omega) (by decide) dX1_pivot_65 ?_
                        refine kx_if_eq (tgt := 89) C (by have := HW (sl * 12 + i); omega) dX1_pivot_66 (by decide) (fun c13 => ?_) (fun c13 => ?_)
                        · skip
                          refine kx_iconst (v := nI 1) C dX1_pivot_89 (by decide +kernel) ?_
                          refine kx_goto (tgt := 94) C dX1_pivot_90 (by decide) ?_
                          refine kx_istore (lv2 := [(4, .int (nI (1))), (0, .ref (J 0)), (1, .int (nI (sl))), (2, .int (nI (k1))), (3, .int (nI (k2))), (5, .int (nI (i)))]) C dX1_pivot_94 (by decide) rfl ?_
                          refine kx_iinc (v := nI (i + 1)) (lv2 := [(5, .int (nI (i + 1))), (4, .int (nI (1))), (0, .ref (J 0)), (1, .int (nI (sl))), (2, .int (nI (k1))), (3, .int (nI (k2)))]) C dX1_pivot_96 5 rfl (kI1 _) (by decide) rfl ?_
                          refine kx_goto (tgt := 42) C dX1_pivot_99 (by decide) ?_
                          refine kx_lv (lv2 := [(0, .ref (J 0)), (1, .int (nI (sl))), (2, .int (nI (k1))), (3, .int (nI (k2))), (4, .int (nI (1))), (5, .int (nI (i + 1)))]) [2, 3, 4, 5, 1, 0] rfl ?_
                          refine kx_eqw (ws2 := (kmW E J 0 n b y o Wm Pm Rm Ym Tm Cm Km)) rfl ?_
                          exact ih_lpA (i + 1) (by omega) (kPvS h1_lpA (fun z => absurd z (by omega))) (by omega)
                        · skip
                          refine kx_aload_n C dX1_pivot_69 rfl 0 rfl ?_
                          refine kx_iload C dX1_pivot_70 5 rfl ?_
                          refine kx_iload_n C dX1_pivot_72 rfl 2 rfl ?_
                          refine kx_callVi (rest := []) (wr := []) C (m_numberOf E J 0 n b y o Wm Pm Rm Ym Tm Cm Km i k1 (by omega) (by omega)) g1_72 2 rfl (by decide +kernel) ⟨Nat.le_of_ble_eq_true rfl, Nat.le_of_ble_eq_true rfl⟩ ⟨Nat.le_of_ble_eq_true rfl, Nat.le_of_ble_eq_true rfl⟩ [0, 1, 2, 3, 4, 5, 6, 7] [] rfl rfl (by decide) (by decide) (by decide) 0 rfl rfl rfl (Nat.le_of_ble_eq_true rfl) dX1_pivot_73 (fun v w q14 => ?_)
                          obtain ⟨rfl, rfl⟩ := q14
                          refine kx_eqw (ws2 := (kmW E J 0 n b y o Wm Pm Rm Ym Tm Cm Km)) rfl ?_
                          refine kx_if_le (tgt := 93) C (by have := HP (numX i k1); omega) dX1_pivot_76 (by decide) (fun c15 => ?_) (fun c15 => ?_)
                          · skip
                            refine kx_iconst (v := nI 0) C dX1_pivot_93 (by decide +kernel) ?_
                            refine kx_istore (lv2 := [(4, .int (nI (0))), (0, .ref (J 0)), (1, .int (nI (sl))), (2, .int (nI (k1))), (3, .int (nI (k2))), (5, .int (nI (i)))]) C dX1_pivot_94 (by decide) rfl ?_
                            refine kx_iinc (v := nI (i + 1)) (lv2 := [(5, .int (nI (i + 1))), (4, .int (nI (0))), (0, .ref (J 0)), (1, .int (nI (sl))), (2, .int (nI (k1))), (3, .int (nI (k2)))]) C dX1_pivot_96 5 rfl (kI1 _) (by decide) rfl ?_
                            refine kx_goto (tgt := 42) C dX1_pivot_99 (by decide) ?_
                            refine kx_lv (lv2 := [(0, .ref (J 0)), (1, .int (nI (sl))), (2, .int (nI (k1))), (3, .int (nI (k2))), (4, .int (nI (0))), (5, .int (nI (i + 1)))]) [2, 3, 4, 5, 1, 0] rfl ?_
                            refine kx_eqw (ws2 := (kmW E J 0 n b y o Wm Pm Rm Ym Tm Cm Km)) rfl ?_
                            exact lpB 13 (i + 1) (by omega) (fun z => absurd (z i (by omega) (by omega)) (fun z => z.1 c15)) (by omega)
                          · skip
                            refine kx_aload_n C dX1_pivot_79 rfl 0 rfl ?_
                            refine kx_iload C dX1_pivot_80 5 rfl ?_
                            refine kx_iload_n C dX1_pivot_82 rfl 3 rfl ?_
                            refine kx_callVi (rest := []) (wr := []) C (m_numberOf E J 0 n b y o Wm Pm Rm Ym Tm Cm Km i k2 (by omega) (by omega)) g1_72 2 rfl (by decide +kernel) ⟨Nat.le_of_ble_eq_true rfl, Nat.le_of_ble_eq_true rfl⟩ ⟨Nat.le_of_ble_eq_true rfl, Nat.le_of_ble_eq_true rfl⟩ [0, 1, 2, 3, 4, 5, 6, 7] [] rfl rfl (by decide) (by decide) (by decide) 0 rfl rfl rfl (Nat.le_of_ble_eq_true rfl) dX1_pivot_83 (fun v w q16 => ?_)
                            obtain ⟨rfl, rfl⟩ := q16
                            refine kx_eqw (ws2 := (kmW E J 0 n b y o Wm Pm Rm Ym Tm Cm Km)) rfl ?_
                            refine kx_if_le (tgt := 93) C (by have := HP (numX i k2); omega) dX1_pivot_86 (by decide) (fun c17 => ?_) (fun c17 => ?_)
                            · skip
                              refine kx_iconst (v := nI 0) C dX1_pivot_93 (by decide +kernel) ?_
                              refine kx_istore (lv2 := [(4, .int (nI (0))), (0, .ref (J 0)), (1, .int (nI (sl))), (2, .int (nI (k1))), (3, .int (nI (k2))), (5, .int (nI (i)))]) C dX1_pivot_94 (by decide) rfl ?_
                              refine kx_iinc (v := nI (i + 1)) (lv2 := [(5, .int (nI (i + 1))), (4, .int (nI (0))), (0, .ref (J 0)), (1, .int (nI (sl))), (2, .int (nI (k1))), (3, .int (nI (k2)))]) C dX1_pivot_96 5 rfl (kI1 _) (by decide) rfl ?_
                              refine kx_goto (tgt := 42) C dX1_pivot_99 (by decide) ?_
                              refine kx_lv (lv2 := [(0, .ref (J 0)), (1, .int (nI (sl))), (2, .int (nI (k1))), (3, .int (nI (k2))), (4, .int (nI (0))), (5, .int (nI (i + 1)))]) [2, 3, 4, 5, 1, 0] rfl ?_
                              refine kx_eqw (ws2 := (kmW E J 0 n b y o Wm Pm Rm Ym Tm Cm Km)) rfl ?_
                              exact lpB 13 (i + 1) (by omega) (fun z => absurd (z i (by omega) (by omega)) (fun z => z.2 c17)) (by omega)
                            · skip
                              refine kx_iconst (v := nI 1) C dX1_pivot_89 (by decide +kernel) ?_
                              refine kx_goto (tgt := 94) C dX1_pivot_90 (by decide) ?_
                              refine kx_istore (lv2 := [(4, .int (nI (1))), (0, .ref (J 0)), (1, .int (nI (sl))), (2, .int (nI (k1))), (3, .int (nI (k2))), (5, .int (nI (i)))]) C dX1_pivot_94 (by decide) rfl ?_
                              refine kx_iinc (v := nI (i + 1)) (lv2 := [(5, .int (nI (i + 1))), (4, .int (nI (1))), (0, .ref (J 0)), (1, .int (nI (sl))), (2, .int (nI (k1))), (3, .int (nI (k2)))]) C dX1_pivot_96 5 rfl (kI1 _) (by decide) rfl ?_
                              refine kx_goto (tgt := 42) C dX1_pivot_99 (by decide) ?_
                              refine kx_lv (lv2 := [(0, .ref (J 0)), (1, .int (nI (sl))), (2, .int (nI (k1))), (3, .int (nI (k2))), (4, .int (nI (1))), (5, .int (nI (i + 1)))]) [2, 3, 4, 5, 1, 0] rfl ?_
                              refine kx_eqw (ws2 := (kmW E J 0 n b y o Wm Pm Rm Ym Tm Cm Km)) rfl ?_
                              exact ih_lpA (i + 1) (by omega) (kPvS h1_lpA (fun _ => ⟨by omega, by omega⟩)) (by omega)
                refine kx_iconst (v := nI 1) C dX1_pivot_36 (by decide +kernel) ?_
                refine kx_istore (lv2 := [(4, .int (nI (1))), (0, .ref (J 0)), (1, .int (nI (sl))), (2, .int (nI (k1))), (3, .int (nI (k2)))]) C dX1_pivot_37 (by decide) rfl ?_
                refine kx_iconst (v := nI 0) C dX1_pivot_39 (by decide +kernel) ?_
                refine kx_istore (lv2 := [(5, .int (nI (0))), (4, .int (nI (1))), (0, .ref (J 0)), (1, .int (nI (sl))), (2, .int (nI (k1))), (3, .int (nI (k2)))]) C dX1_pivot_40 (by decide) rfl ?_
                refine kx_lv (lv2 := [(0, .ref (J 0)), (1, .int (nI (sl))), (2, .int (nI (k1))), (3, .int (nI (k2))), (4, .int (nI (1))), (5, .int (nI (0)))]) [2, 3, 4, 5, 1, 0] rfl ?_
                refine kx_eqw (ws2 := (kmW E J 0 n b y o Wm Pm Rm Ym Tm Cm Km)) rfl ?_
                exact lpA 13 0 (by omega) (fun p hp => absurd hp (by omega)) (by omega)
              · skip
                exact absurd c8 (by decide)
          · skip
            refine kx_eqw (ws2 := (kmW E J cd n b y o Wm Pm Rm Ym Tm Cm Km)) (List.append_nil _) ?_
            refine kx_if_eq (tgt := 27) C (by omega) dX1_pivot_20 (by decide) (fun c18 => ?_) (fun c18 => ?_)
            · skip
              refine kx_iconst (v := nI 1) C dX1_pivot_27 (by decide +kernel) ?_
              refine kx_callVz (rest := []) (wr := []) C (m_isGood E J cd n b y o Wm Pm Rm Ym Tm Cm Km 1 (by decide)) g1_61 1 rfl (by decide +kernel) ⟨Nat.le_of_ble_eq_true rfl, Nat.le_of_ble_eq_true rfl⟩ ⟨Nat.le_of_ble_eq_true rfl, Nat.le_of_ble_eq_true rfl⟩ [0, 1, 2, 3, 4, 5, 6, 7] [] rfl rfl (by decide) (by decide) (by decide) 0 rfl rfl rfl (Nat.le_of_ble_eq_true rfl) dX1_pivot_28 (fun v w q19 => ?_)
              obtain ⟨rfl, rfl⟩ := q19
              refine kx_eqw (ws2 := (kmW E J 1 n b y o Wm Pm Rm Ym Tm Cm Km)) rfl ?_
              refine kx_topn (b := 0) rfl ?_
              refine kx_if_ne (tgt := 36) C (by omega) dX1_pivot_31 (by decide) (fun c20 => ?_) (fun c20 => ?_)
              · skip
                exact absurd c20 (by decide)
              · skip
                refine kx_iconst (v := nI 0) C dX1_pivot_34 (by decide +kernel) ?_
                exact hE (Nat.le_of_ble_eq_true rfl) (Nat.le_of_ble_eq_true rfl) dX1_pivot_35 (by decide +kernel) (Or.inr ⟨(fun z => q5 z.2.2), rfl, rfl⟩)
            · skip
              exact absurd c18 (by decide)
      · skip
        refine kx_eqw (ws2 := (kmW E J cd n b y o Wm Pm Rm Ym Tm Cm Km)) (List.append_nil _) ?_
        refine kx_if_eq (tgt := 27) C (by omega) dX1_pivot_13 (by decide) (fun c21 => ?_) (fun c21 => ?_)
        · skip
          refine kx_iconst (v := nI 1) C dX1_pivot_27 (by decide +kernel) ?_
          refine kx_callVz (rest := []) (wr := []) C (m_isGood E J cd n b y o Wm Pm Rm Ym Tm Cm Km 1 (by decide)) g1_61 1 rfl (by decide +kernel) ⟨Nat.le_of_ble_eq_true rfl, Nat.le_of_ble_eq_true rfl⟩ ⟨Nat.le_of_ble_eq_true rfl, Nat.le_of_ble_eq_true rfl⟩ [0, 1, 2, 3, 4, 5, 6, 7] [] rfl rfl (by decide) (by decide) (by decide) 0 rfl rfl rfl (Nat.le_of_ble_eq_true rfl) dX1_pivot_28 (fun v w q22 => ?_)
          obtain ⟨rfl, rfl⟩ := q22
          refine kx_eqw (ws2 := (kmW E J 1 n b y o Wm Pm Rm Ym Tm Cm Km)) rfl ?_
          refine kx_topn (b := 0) rfl ?_
          refine kx_if_ne (tgt := 36) C (by omega) dX1_pivot_31 (by decide) (fun c23 => ?_) (fun c23 => ?_)
          · skip
            exact absurd c23 (by decide)
          · skip
            refine kx_iconst (v := nI 0) C dX1_pivot_34 (by decide +kernel) ?_
            exact hE (Nat.le_of_ble_eq_true rfl) (Nat.le_of_ble_eq_true rfl) dX1_pivot_35 (by decide +kernel) (Or.inr ⟨(fun z => q3 z.2.1), rfl, rfl⟩)
        · skip
          exact absurd c21 (by decide)
  · skip
    refine kx_eqw (ws2 := (kmW E J cd n b y o Wm Pm Rm Ym Tm Cm Km)) rfl ?_
    refine kx_if_eq (tgt := 27) C (by omega) dX1_pivot_6 (by decide) (fun c24 => ?_) (fun c24 => ?_)
    · skip
      refine kx_iconst (v := nI 1) C dX1_pivot_27 (by decide +kernel) ?_
      refine kx_callVz (rest := []) (wr := []) C (m_isGood E J cd n b y o Wm Pm Rm Ym Tm Cm Km 1 (by decide)) g1_61 1 rfl (by decide +kernel) ⟨Nat.le_of_ble_eq_true rfl, Nat.le_of_ble_eq_true rfl⟩ ⟨Nat.le_of_ble_eq_true rfl, Nat.le_of_ble_eq_true rfl⟩ [0, 1, 2, 3, 4, 5, 6, 7] [] rfl rfl (by decide) (by decide) (by decide) 0 rfl rfl rfl (Nat.le_of_ble_eq_true rfl) dX1_pivot_28 (fun v w q25 => ?_)
      obtain ⟨rfl, rfl⟩ := q25
      refine kx_eqw (ws2 := (kmW E J 1 n b y o Wm Pm Rm Ym Tm Cm Km)) rfl ?_
      refine kx_topn (b := 0) rfl ?_
      refine kx_if_ne (tgt := 36) C (by omega) dX1_pivot_31 (by decide) (fun c26 => ?_) (fun c26 => ?_)
      · skip
        exact absurd c26 (by decide)
      · skip
        refine kx_iconst (v := nI 0) C dX1_pivot_34 (by decide +kernel) ?_
        exact hE (Nat.le_of_ble_eq_true rfl) (Nat.le_of_ble_eq_true rfl) dX1_pivot_35 (by decide +kernel) (Or.inr ⟨(fun z => q1 z.1), rfl, rfl⟩)
    · skip
      exact absurd c24 (by decide)

set_option maxHeartbeats 4000000 in
set_option maxRecDepth 100000 in
theorem m_whole (E : KE) (J : Nat → Nat) (cd n b y o : Nat) (Wm Pm Rm Ym Tm Cm Km : Nat → Nat) (x0 x1 : Int32) (HM : kMo n b y o Wm Pm Rm Ym Km) : kMi E yX1_whole cX1_whole 8 (rk 10 0) [.ref (J 0), .int (x0), .int (x1)] (kmW E J cd n b y o Wm Pm Rm Ym Tm Cm Km) (fun r w => (∃ fi la, x0 = nI fi ∧ x1 = nI la ∧ fi ≤ la ∧ la < n ∧ r = nI (whN (fun k => sumN (fun t => fitN Pm Wm (fi + t) k) (la + 1 - fi)) 23).1 ∧ w = (kmW E J 0 n b y o Wm Pm Rm Ym Tm Cm Km)) ∨ ((¬ (∃ i j, x0 = nI i ∧ x1 = nI j ∧ i ≤ j ∧ j < n)) ∧ r = nI 0 ∧ w = (kmW E J 1 n b y o Wm Pm Rm Ym Tm Cm Km))) := by
  refine kMi_of (cc := cX1_whole) (maxL := 8) (by decide) (Nat.le_of_ble_eq_true rfl) ?_
  intro G C hE
  obtain ⟨H1, Hb, Hy, Ho, HP, HW, HRm, HYm, HKm⟩ := id HM
  refine kx_aload_n C dX1_whole_0 rfl 0 rfl ?_
  refine kx_aload_n C dX1_whole_1 rfl 0 rfl ?_
  refine kx_iload_n C dX1_whole_2 rfl 1 rfl ?_
  refine kx_callVz (rest := [.ref (J 0)]) (wr := []) C (m_isSlice E J cd n b y o Wm Pm Rm Ym Tm Cm Km x0 H1) g1_67 1 rfl (by decide +kernel) ⟨Nat.le_of_ble_eq_true rfl, Nat.le_of_ble_eq_true rfl⟩ ⟨Nat.le_of_ble_eq_true rfl, Nat.le_of_ble_eq_true rfl⟩ [0, 1, 2, 3, 4, 5, 6, 7] [] rfl rfl (by decide) (by decide) (by decide) 0 rfl rfl rfl (Nat.le_of_ble_eq_true rfl) dX1_whole_3 (fun v w q1 => ?_)
  rcases q1 with ⟨q1, rfl, rfl⟩ | ⟨q1, rfl, rfl⟩
  · skip
    refine kx_eqw (ws2 := (kmW E J cd n b y o Wm Pm Rm Ym Tm Cm Km)) rfl ?_
    obtain ⟨fi, efi, rfl⟩ := q1
    refine kx_if_eq (tgt := 26) C (by omega) dX1_whole_6 (by decide) (fun c2 => ?_) (fun c2 => ?_)
    · skip
      exact absurd c2 (by decide)
    · skip
      refine kx_aload_n C dX1_whole_9 rfl 0 rfl ?_
      refine kx_iload_n C dX1_whole_10 rfl 2 rfl ?_
      refine kx_callVz (rest := [.ref (J 0)]) (wr := []) C (m_isSlice E J cd n b y o Wm Pm Rm Ym Tm Cm Km x1 H1) g1_67 1 rfl (by decide +kernel) ⟨Nat.le_of_ble_eq_true rfl, Nat.le_of_ble_eq_true rfl⟩ ⟨Nat.le_of_ble_eq_true rfl, Nat.le_of_ble_eq_true rfl⟩ [0, 1, 2, 3, 4, 5, 6, 7] [] rfl rfl (by decide) (by decide) (by decide) 0 rfl rfl rfl (Nat.le_of_ble_eq_true rfl) dX1_whole_11 (fun v w q3 => ?_)
      rcases q3 with ⟨q3, rfl, rfl⟩ | ⟨q3, rfl, rfl⟩
      · skip
        refine kx_eqw (ws2 := (kmW E J cd n b y o Wm Pm Rm Ym Tm Cm Km)) rfl ?_
        obtain ⟨la, ela, rfl⟩ := q3
        refine kx_if_eq (tgt := 26) C (by omega) dX1_whole_14 (by decide) (fun c4 => ?_) (fun c4 => ?_)
        · skip
          exact absurd c4 (by decide)
        · skip
          refine kx_iload_n C dX1_whole_17 rfl 1 rfl ?_
          refine kx_iload_n C dX1_whole_18 rfl 2 rfl ?_
          refine kx_icmp_gt (tgt := 26) C (by omega) (by omega) dX1_whole_19 (by decide) (fun c5 => ?_) (fun c5 => ?_)
          · skip
            refine kx_iconst (v := nI 1) C dX1_whole_26 (by decide +kernel) ?_
            refine kx_callVz (rest := []) (wr := []) C (m_isGood E J cd n b y o Wm Pm Rm Ym Tm Cm Km 1 (by decide)) g1_61 1 rfl (by decide +kernel) ⟨Nat.le_of_ble_eq_true rfl, Nat.le_of_ble_eq_true rfl⟩ ⟨Nat.le_of_ble_eq_true rfl, Nat.le_of_ble_eq_true rfl⟩ [0, 1, 2, 3, 4, 5, 6, 7] [] rfl rfl (by decide) (by decide) (by decide) 0 rfl rfl rfl (Nat.le_of_ble_eq_true rfl) dX1_whole_27 (fun v w q6 => ?_)
            obtain ⟨rfl, rfl⟩ := q6
            refine kx_eqw (ws2 := (kmW E J 1 n b y o Wm Pm Rm Ym Tm Cm Km)) rfl ?_
            refine kx_topn (b := 0) rfl ?_
            refine kx_if_ne (tgt := 35) C (by omega) dX1_whole_30 (by decide) (fun c7 => ?_) (fun c7 => ?_)
            · skip
              exact absurd c7 (by decide)
            · skip
              refine kx_iconst (v := nI 0) C dX1_whole_33 (by decide +kernel) ?_
              exact hE (Nat.le_of_ble_eq_true rfl) (Nat.le_of_ble_eq_true rfl) dX1_whole_34 (Or.inr ⟨(fun z => kNW3 H1 efi ela c5 z), rfl, rfl⟩)
          · skip
            have HFL : fi ≤ la := c5
            refine kx_iconst (v := nI 0) C dX1_whole_22 (by decide +kernel) ?_
            refine kx_goto (tgt := 27) C dX1_whole_23 (by decide) ?_
            refine kx_callVz (rest := []) (wr := []) C (m_isGood E J cd n b y o Wm Pm Rm Ym Tm Cm Km 0 (by decide)) g1_61 1 rfl (by decide +kernel) ⟨Nat.le_of_ble_eq_true rfl, Nat.le_of_ble_eq_true rfl⟩ ⟨Nat.le_of_ble_eq_true rfl, Nat.le_of_ble_eq_true rfl⟩ [0, 1, 2, 3, 4, 5, 6, 7] [] rfl rfl (by decide) (by decide) (by decide) 0 rfl rfl rfl (Nat.le_of_ble_eq_true rfl) dX1_whole_27 (fun v w q8 => ?_)
            obtain ⟨rfl, rfl⟩ := q8
            refine kx_eqw (ws2 := (kmW E J 0 n b y o Wm Pm Rm Ym Tm Cm Km)) rfl ?_
            refine kx_topn (b := 1) rfl ?_
            refine kx_if_ne (tgt := 35) C (by omega) dX1_whole_30 (by decide) (fun c9 => ?_) (fun c9 => ?_)
            · skip
              have hFb : ∀ k, (fun k => sumN (fun t => fitN Pm Wm (fi + t) k) (la + 1 - fi)) k ≤ 9504000 := fun k => by have h1 := sumN_le (f := fun t => fitN Pm Wm (fi + t) k) (B := 237600) (fun t => fitN_le HP HW _ _) (la + 1 - fi); have h2 : (la + 1 - fi) * 237600 ≤ 40 * 237600 := Nat.mul_le_mul_right _ (by omega); exact Nat.le_trans h1 h2
              have lp56 : ∀ (N_lp56 : Nat) (i : Nat) (kq : Nat) (bs : Nat) (ms : Int32), (fi + i ≤ la + 1) → (kq < 24) → (kx E (rk 10 0) G 8 0 0 (kmW E J 0 n b y o Wm Pm Rm Ym Tm Cm Km) [(0, .ref (J 0)), (1, .int (nI (fi))), (2, .int (nI (la))), (3, .int (nI (bs))), (4, .int (ms)), (5, .int (nI (kq))), (6, .int (nI (sumN (fun t => fitN Pm Wm (fi + t) kq) (la + 1 - fi))))] 81 []) → (la + 1 < fi + i + N_lp56) → kx E (rk 10 0) G 8 0 0 (kmW E J 0 n b y o Wm Pm Rm Ym Tm Cm Km) [(0, .ref (J 0)), (1, .int (nI (fi))), (2, .int (nI (la))), (3, .int (nI (bs))), (4, .int (ms)), (5, .int (nI (kq))), (6, .int (nI (sumN (fun t => fitN Pm Wm (fi + t) kq) i))), (7, .int (nI (fi + i)))] 56 [] := by
                intro N_lp56
                induction N_lp56 with
                | zero =>
                  intro i kq bs ms h0_lp56 h1_lp56 h2_lp56 hm_lp56
                  exact absurd hm_lp56 (by omega)
                | succ N_lp56 ih_lp56 =>
                  intro i kq bs ms h0_lp56 h1_lp56 h2_lp56 hm_lp56
                  refine kx_iload C dX1_whole_56 7 rfl ?_
                  refine kx_iload_n C dX1_whole_58 rfl 2 rfl ?_
                  refine kx_icmp_gt (tgt := 81) C (by omega) (by omega) dX1_whole_59 (by decide) (fun c10 => ?_) (fun c10 => ?_)
                  · skip
                    obtain rfl : la + 1 - fi = i := by omega
                    refine kx_lv (lv2 := [(0, .ref (J 0)), (1, .int (nI (fi))), (2, .int (nI (la))), (3, .int (nI (bs))), (4, .int (ms)), (5, .int (nI (kq))), (6, .int (nI (sumN (fun t => fitN Pm Wm (fi + t) kq) (la + 1 - fi))))]) [0, 1, 2, 3, 4, 5, 6] rfl ?_
                    exact h2_lp56
                  · skip
                    refine kx_iload C dX1_whole_62 6 rfl ?_
                    refine kx_aload_n C dX1_whole_64 rfl 0 rfl ?_
                    refine kx_iload C dX1_whole_65 7 rfl ?_
                    refine kx_iload C dX1_whole_67 5 rfl ?_
                    refine kx_callVi (rest := [.int (nI (sumN (fun t => fitN Pm Wm (fi + t) kq) i))]) (wr := []) C (m_fitOf E J 0 n b y o Wm Pm Rm Ym Tm Cm Km (fi + i) kq (by omega) (by omega)) g1_76 2 rfl (by decide +kernel) ⟨Nat.le_of_ble_eq_true rfl, Nat.le_of_ble_eq_true rfl⟩ ⟨Nat.le_of_ble_eq_true rfl, Nat.le_of_ble_eq_true rfl⟩ [0, 1, 2, 3, 4, 5, 6, 7] [] rfl rfl (by decide) (by decide) (by decide) 0 rfl rfl rfl (Nat.le_of_ble_eq_true rfl) dX1_whole_69 (fun v w q11 => ?_)
                    obtain ⟨rfl, rfl⟩ := q11
                    refine kx_eqw (ws2 := (kmW E J 0 n b y o Wm Pm Rm Ym Tm Cm Km)) rfl ?_
                    refine kx_iadd C dX1_whole_72 ?_
                    refine kx_istore (lv2 := [(6, .int (nI ((sumN (fun t => fitN Pm Wm (fi + t) kq) i) + (fitN Pm Wm (fi + i) kq)))), (0, .ref (J 0)), (1, .int (nI (fi))), (2, .int (nI (la))), (3, .int (nI (bs))), (4, .int (ms)), (5, .int (nI (kq))), (7, .int (nI (fi + i)))]) C dX1_whole_73 (by decide) rfl ?_
                    refine kx_iinc (v := nI (fi + i + 1)) (lv2 := [(7, .int (nI (fi + i + 1))), (6, .int (nI ((sumN (fun t => fitN Pm Wm (fi + t) kq) i) + (fitN Pm Wm (fi + i) kq)))), (0, .ref (J 0)), (1, .int (nI (fi))), (2, .int (nI (la))), (3, .int (nI (bs))), (4, .int (ms)), (5, .int (nI (kq)))]) C dX1_whole_75 7 rfl (kI1 _) (by decide) rfl ?_
                    refine kx_goto (tgt := 56) C dX1_whole_78 (by decide) ?_
                    refine kx_lv (lv2 := [(0, .ref (J 0)), (1, .int (nI (fi))), (2, .int (nI (la))), (3, .int (nI (bs))), (4, .int (ms)), (5, .int (nI (kq))), (6, .int (nI (sumN (fun t => fitN Pm Wm (fi + t) kq) (i + 1)))), (7, .int (nI (fi + (i + 1))))]) [2, 3, 4, 5, 6, 7, 1, 0] rfl ?_
                    refine kx_eqw (ws2 := (kmW E J 0 n b y o Wm Pm Rm Ym Tm Cm Km)) rfl ?_
                    exact ih_lp56 (i + 1) kq bs ms (by omega) h1_lp56 h2_lp56 (by omega)
              have lp43 : ∀ (N_lp43 : Nat) (j : Nat), (j ≤ 23) → (23 < j + N_lp43) → kx E (rk 10 0) G 8 0 0 (kmW E J 0 n b y o Wm Pm Rm Ym Tm Cm Km) [(0, .ref (J 0)), (1, .int (nI (fi))), (2, .int (nI (la))), (3, .int (nI ((whN (fun k => sumN (fun t => fitN Pm Wm (fi + t) k) (la + 1 - fi)) j).1))), (4, .int (nI ((whN (fun k => sumN (fun t => fitN Pm Wm (fi + t) k) (la + 1 - fi)) j).2))), (5, .int (nI (j + 1)))] 43 [] := by
                intro N_lp43
                induction N_lp43 with
                | zero =>
                  intro j h0_lp43 hm_lp43
                  exact absurd hm_lp43 (by omega)
                | succ N_lp43 ih_lp43 =>
                  intro j h0_lp43 hm_lp43
                  refine kx_iload C dX1_whole_43 5 rfl ?_
                  refine kx_bipush (v := nI 24) C dX1_whole_45 (by decide +kernel) ?_
                  refine kx_icmp_ge (tgt := 117) C (by omega) (by omega) dX1_whole_47 (by decide) (fun c12 => ?_) (fun c12 => ?_)
                  · skip
                    obtain rfl : 23 = j := by omega
                    refine kx_iload_n C dX1_whole_117 rfl 3 rfl ?_
                    exact hE (Nat.le_of_ble_eq_true rfl) (Nat.le_of_ble_eq_true rfl) dX1_whole_118 (Or.inl ⟨fi, la, rfl, rfl, HFL, ela, rfl, rfl⟩)
                  · skip
                    refine kx_iconst (v := nI 0) C dX1_whole_50 (by decide +kernel) ?_
                    refine kx_istore (lv2 := [(6, .int (nI (0))), (0, .ref (J 0)), (1, .int (nI (fi))), (2, .int (nI (la))), (3, .int (nI ((whN (fun k => sumN (fun t => fitN Pm Wm (fi + t) k) (la + 1 - fi)) j).1))), (4, .int (nI ((whN (fun k => sumN (fun t => fitN Pm Wm (fi + t) k) (la + 1 - fi)) j).2))), (5, .int (nI (j + 1)))]) C dX1_whole_51 (by decide) rfl ?_
                    refine kx_iload_n C dX1_whole_53 rfl 2 rfl ?_
                    refine kx_istore (lv2 := [(7, .int (nI (fi))), (6, .int (nI (0))), (0, .ref (J 0)), (1, .int (nI (fi))), (2, .int (nI (la))), (3, .int (nI ((whN (fun k => sumN (fun t => fitN Pm Wm (fi + t) k) (la + 1 - fi)) j).1))), (4, .int (nI ((whN (fun k => sumN (fun t => fitN Pm Wm (fi + t) k) (la + 1 - fi)) j).2))), (5, .int (nI (j + 1)))]) C dX1_whole_54 (by decide) rfl ?_
                    have h81_13 : kx E (rk 10 0) G 8 0 0 (kmW E J 0 n b y o Wm Pm Rm Ym Tm Cm Km) [(0, .ref (J 0)), (1, .int (nI (fi))), (2, .int (nI (la))), (3, .int (nI ((whN (fun k => sumN (fun t => fitN Pm Wm (fi + t) k) (la + 1 - fi)) j).1))), (4, .int (nI ((whN (fun k => sumN (fun t => fitN Pm Wm (fi + t) k) (la + 1 - fi)) j).2))), (5, .int (nI ((j + 1)))), (6, .int (nI (sumN (fun t => fitN Pm Wm (fi + t) (j + 1)) (la + 1 - fi))))] 81 [] := by
                      refine kx_lvv (x := .int (nI ((whN (fun k => sumN (fun t => fitN Pm Wm (fi + t) k) (la + 1 - fi)) j).2))) (z := .int (nI ((whN (fun k => sumN (fun t => fitN Pm Wm (fi + t) k) (la + 1 - fi)) j).2))) (lv2 := [(0, .ref (J 0)), (1, .int (nI (fi))), (2, .int (nI (la))), (3, .int (nI ((whN (fun k => sumN (fun t => fitN Pm Wm (fi + t) k) (la + 1 - fi)) j).1))), (4, .int (nI ((whN (fun k => sumN (fun t => fitN Pm Wm (fi + t) k) (la + 1 - fi)) j).2))), (5, .int (nI ((j + 1)))), (6, .int (nI (sumN (fun t => fitN Pm Wm (fi + t) (j + 1)) (la + 1 - fi))))]) rfl 4 rfl rfl ?_
                      refine kx_iload C dX1_whole_81 6 rfl ?_
                      refine kx_iload C dX1_whole_83 4 rfl ?_
                      refine kx_icmp_le (tgt := 93) C (Nat.lt_of_le_of_lt (hFb (j + 1)) (by decide)) (Nat.lt_of_le_of_lt (whN_le hFb j) (by decide)) dX1_whole_85 (by decide) (fun c14 => ?_) (fun c14 => ?_)
                      · skip
                        refine kx_iload_n C dX1_whole_93 rfl 3 rfl ?_
                        refine kx_istore_n (lv2 := [(3, .int (nI ((whN (fun k => sumN (fun t => fitN Pm Wm (fi + t) k) (la + 1 - fi)) j).1))), (0, .ref (J 0)), (1, .int (nI (fi))), (2, .int (nI (la))), (4, .int (nI ((whN (fun k => sumN (fun t => fitN Pm Wm (fi + t) k) (la + 1 - fi)) j).2))), (5, .int (nI ((j + 1)))), (6, .int (nI (sumN (fun t => fitN Pm Wm (fi + t) (j + 1)) (la + 1 - fi))))]) C dX1_whole_94 rfl (by decide) rfl ?_
                        refine kx_iload C dX1_whole_95 6 rfl ?_
                        refine kx_iload C dX1_whole_97 4 rfl ?_
                        refine kx_icmp_le (tgt := 107) C (Nat.lt_of_le_of_lt (hFb (j + 1)) (by decide)) (Nat.lt_of_le_of_lt (whN_le hFb j) (by decide)) dX1_whole_99 (by decide) (fun c15 => ?_) (fun c15 => ?_)
                        · skip
                          refine kx_iload C dX1_whole_107 4 rfl ?_
                          refine kx_istore (lv2 := [(4, .int (nI ((whN (fun k => sumN (fun t => fitN Pm Wm (fi + t) k) (la + 1 - fi)) j).2))), (3, .int (nI ((whN (fun k => sumN (fun t => fitN Pm Wm (fi + t) k) (la + 1 - fi)) j).1))), (0, .ref (J 0)), (1, .int (nI (fi))), (2, .int (nI (la))), (5, .int (nI ((j + 1)))), (6, .int (nI (sumN (fun t => fitN Pm Wm (fi + t) (j + 1)) (la + 1 - fi))))]) C dX1_whole_109 (by decide) rfl ?_
                          refine kx_iinc (v := nI ((j + 1) + 1)) (lv2 := [(5, .int (nI ((j + 1) + 1))), (4, .int (nI ((whN (fun k => sumN (fun t => fitN Pm Wm (fi + t) k) (la + 1 - fi)) j).2))), (3, .int (nI ((whN (fun k => sumN (fun t => fitN Pm Wm (fi + t) k) (la + 1 - fi)) j).1))), (0, .ref (J 0)), (1, .int (nI (fi))), (2, .int (nI (la))), (6, .int (nI (sumN (fun t => fitN Pm Wm (fi + t) (j + 1)) (la + 1 - fi))))]) C dX1_whole_111 5 rfl (kI1 _) (by decide) rfl ?_
                          refine kx_goto (tgt := 43) C dX1_whole_114 (by decide) ?_
                          have e9 : (whN (fun k => sumN (fun t => fitN Pm Wm (fi + t) k) (la + 1 - fi)) (j + 1)) = (whN (fun k => sumN (fun t => fitN Pm Wm (fi + t) k) (la + 1 - fi)) j) := by rw [whN, if_neg (Nat.not_lt.mpr c14)]
                          refine kx_lvn (a := (whN (fun k => sumN (fun t => fitN Pm Wm (fi + t) k) (la + 1 - fi)) j).1) (b := (whN (fun k => sumN (fun t => fitN Pm Wm (fi + t) k) (la + 1 - fi)) (j + 1)).1) (lv2 := [(5, .int (nI ((j + 1) + 1))), (4, .int (nI ((whN (fun k => sumN (fun t => fitN Pm Wm (fi + t) k) (la + 1 - fi)) j).2))), (3, .int (nI ((whN (fun k => sumN (fun t => fitN Pm Wm (fi + t) k) (la + 1 - fi)) (j + 1)).1))), (0, .ref (J 0)), (1, .int (nI (fi))), (2, .int (nI (la))), (6, .int (nI (sumN (fun t => fitN Pm Wm (fi + t) (j + 1)) (la + 1 - fi))))]) (by rw [e9]) 2 rfl rfl ?_
                          refine kx_lvn (a := (whN (fun k => sumN (fun t => fitN Pm Wm (fi + t) k) (la + 1 - fi)) j).2) (b := (whN (fun k => sumN (fun t => fitN Pm Wm (fi + t) k) (la + 1 - fi)) (j + 1)).2) (lv2 := [(5, .int (nI ((j + 1) + 1))), (4, .int (nI ((whN (fun k => sumN (fun t => fitN Pm Wm (fi + t) k) (la + 1 - fi)) (j + 1)).2))), (3, .int (nI ((whN (fun k => sumN (fun t => fitN Pm Wm (fi + t) k) (la + 1 - fi)) (j + 1)).1))), (0, .ref (J 0)), (1, .int (nI (fi))), (2, .int (nI (la))), (6, .int (nI (sumN (fun t => fitN Pm Wm (fi + t) (j + 1)) (la + 1 - fi))))]) (by rw [e9]) 1 rfl rfl ?_
                          refine kx_lv (lv2 := [(0, .ref (J 0)), (1, .int (nI (fi))), (2, .int (nI (la))), (3, .int (nI ((whN (fun k => sumN (fun t => fitN Pm Wm (fi + t) k) (la + 1 - fi)) (j + 1)).1))), (4, .int (nI ((whN (fun k => sumN (fun t => fitN Pm Wm (fi + t) k) (la + 1 - fi)) (j + 1)).2))), (5, .int (nI ((j + 1) + 1)))]) [3, 4, 5, 2, 1, 0] rfl ?_
                          refine kx_eqw (ws2 := (kmW E J 0 n b y o Wm Pm Rm Ym Tm Cm Km)) rfl ?_
                          exact ih_lp43 (j + 1) (by omega) (by omega)
                        · skip
                          exact absurd c15 (by omega)
                      · skip
                        refine kx_iload C dX1_whole_88 5 rfl ?_
                        refine kx_goto (tgt := 94) C dX1_whole_90 (by decide) ?_
                        refine kx_istore_n (lv2 := [(3, .int (nI ((j + 1)))), (0, .ref (J 0)), (1, .int (nI (fi))), (2, .int (nI (la))), (4, .int (nI ((whN (fun k => sumN (fun t => fitN Pm Wm (fi + t) k) (la + 1 - fi)) j).2))), (5, .int (nI ((j + 1)))), (6, .int (nI (sumN (fun t => fitN Pm Wm (fi + t) (j + 1)) (la + 1 - fi))))]) C dX1_whole_94 rfl (by decide) rfl ?_
                        refine kx_iload C dX1_whole_95 6 rfl ?_
                        refine kx_iload C dX1_whole_97 4 rfl ?_
                        refine kx_icmp_le (tgt := 107) C (Nat.lt_of_le_of_lt (hFb (j + 1)) (by decide)) (Nat.lt_of_le_of_lt (whN_le hFb j) (by decide)) dX1_whole_99 (by decide) (fun c16 => ?_) (fun c16 => ?_)
                        · skip
                          exact absurd c16 (by omega)
                        · skip
                          refine kx_iload C dX1_whole_102 6 rfl ?_
                          refine kx_goto (tgt := 109) C dX1_whole_104 (by decide) ?_
                          refine kx_istore (lv2 := [(4, .int (nI (sumN (fun t => fitN Pm Wm (fi + t) (j + 1)) (la + 1 - fi)))), (3, .int (nI ((j + 1)))), (0, .ref (J 0)), (1, .int (nI (fi))), (2, .int (nI (la))), (5, .int (nI ((j + 1)))), (6, .int (nI (sumN (fun t => fitN Pm Wm (fi + t) (j + 1)) (la + 1 - fi))))]) C dX1_whole_109 (by decide) rfl ?_
                          refine kx_iinc (v := nI ((j + 1) + 1)) (lv2 := [(5, .int (nI ((j + 1) + 1))), (4, .int (nI (sumN (fun t => fitN Pm Wm (fi + t) (j + 1)) (la + 1 - fi)))), (3, .int (nI ((j + 1)))), (0, .ref (J 0)), (1, .int (nI (fi))), (2, .int (nI (la))), (6, .int (nI (sumN (fun t => fitN Pm Wm (fi + t) (j + 1)) (la + 1 - fi))))]) C dX1_whole_111 5 rfl (kI1 _) (by decide) rfl ?_
                          refine kx_goto (tgt := 43) C dX1_whole_114 (by decide) ?_
                          have e9 : (whN (fun k => sumN (fun t => fitN Pm Wm (fi + t) k) (la + 1 - fi)) (j + 1)) = (j + 1, (fun k => sumN (fun t => fitN Pm Wm (fi + t) k) (la + 1 - fi)) (j + 1)) := by rw [whN, if_pos c14]
                          refine kx_lvn (a := (j + 1)) (b := (whN (fun k => sumN (fun t => fitN Pm Wm (fi + t) k) (la + 1 - fi)) (j + 1)).1) (lv2 := [(5, .int (nI ((j + 1) + 1))), (4, .int (nI (sumN (fun t => fitN Pm Wm (fi + t) (j + 1)) (la + 1 - fi)))), (3, .int (nI ((whN (fun k => sumN (fun t => fitN Pm Wm (fi + t) k) (la + 1 - fi)) (j + 1)).1))), (0, .ref (J 0)), (1, .int (nI (fi))), (2, .int (nI (la))), (6, .int (nI (sumN (fun t => fitN Pm Wm (fi + t) (j + 1)) (la + 1 - fi))))]) (by rw [e9]) 2 rfl rfl ?_
                          refine kx_lvn (a := sumN (fun t => fitN Pm Wm (fi + t) (j + 1)) (la + 1 - fi)) (b := (whN (fun k => sumN (fun t => fitN Pm Wm (fi + t) k) (la + 1 - fi)) (j + 1)).2) (lv2 := [(5, .int (nI ((j + 1) + 1))), (4, .int (nI ((whN (fun k => sumN (fun t => fitN Pm Wm (fi + t) k) (la + 1 - fi)) (j + 1)).2))), (3, .int (nI ((whN (fun k => sumN (fun t => fitN Pm Wm (fi + t) k) (la + 1 - fi)) (j + 1)).1))), (0, .ref (J 0)), (1, .int (nI (fi))), (2, .int (nI (la))), (6, .int (nI (sumN (fun t => fitN Pm Wm (fi + t) (j + 1)) (la + 1 - fi))))]) (by rw [e9]) 1 rfl rfl ?_
                          refine kx_lv (lv2 := [(0, .ref (J 0)), (1, .int (nI (fi))), (2, .int (nI (la))), (3, .int (nI ((whN (fun k => sumN (fun t => fitN Pm Wm (fi + t) k) (la + 1 - fi)) (j + 1)).1))), (4, .int (nI ((whN (fun k => sumN (fun t => fitN Pm Wm (fi + t) k) (la + 1 - fi)) (j + 1)).2))), (5, .int (nI ((j + 1) + 1)))]) [3, 4, 5, 2, 1, 0] rfl ?_
                          refine kx_eqw (ws2 := (kmW E J 0 n b y o Wm Pm Rm Ym Tm Cm Km)) rfl ?_
                          exact ih_lp43 (j + 1) (by omega) (by omega)
                    refine kx_lvv (x := .int (nI ((whN (fun k => sumN (fun t => fitN Pm Wm (fi + t) k) (la + 1 - fi)) j).2))) (z := .int (nI ((whN (fun k => sumN (fun t => fitN Pm Wm (fi + t) k) (la + 1 - fi)) j).2))) (lv2 := [(7, .int (nI (fi))), (6, .int (nI (0))), (0, .ref (J 0)), (1, .int (nI (fi))), (2, .int (nI (la))), (3, .int (nI ((whN (fun k => sumN (fun t => fitN Pm Wm (fi + t) k) (la + 1 - fi)) j).1))), (4, .int (nI ((whN (fun k => sumN (fun t => fitN Pm Wm (fi + t) k) (la + 1 - fi)) j).2))), (5, .int (nI (j + 1)))]) rfl 6 rfl rfl ?_
                    refine kx_lv (lv2 := [(0, .ref (J 0)), (1, .int (nI (fi))), (2, .int (nI (la))), (3, .int (nI ((whN (fun k => sumN (fun t => fitN Pm Wm (fi + t) k) (la + 1 - fi)) j).1))), (4, .int (nI ((whN (fun k => sumN (fun t => fitN Pm Wm (fi + t) k) (la + 1 - fi)) j).2))), (5, .int (nI (j + 1))), (6, .int (nI (sumN (fun t => fitN Pm Wm (fi + t) (j + 1)) 0))), (7, .int (nI (fi + 0)))]) [2, 3, 4, 5, 6, 7, 1, 0] rfl ?_
                    exact lp56 42 0 (j + 1) ((whN (fun k => sumN (fun t => fitN Pm Wm (fi + t) k) (la + 1 - fi)) j).1) (nI ((whN (fun k => sumN (fun t => fitN Pm Wm (fi + t) k) (la + 1 - fi)) j).2)) (by omega) (by omega) h81_13 (by omega)
              refine kx_iconst (v := nI 0) C dX1_whole_35 (by decide +kernel) ?_
              refine kx_istore_n (lv2 := [(3, .int (nI (0))), (0, .ref (J 0)), (1, .int (nI (fi))), (2, .int (nI (la)))]) C dX1_whole_36 rfl (by decide) rfl ?_
              refine kx_iconst (v := (-1)) C dX1_whole_37 (by decide +kernel) ?_
              refine kx_istore (lv2 := [(4, .int ((-1))), (3, .int (nI (0))), (0, .ref (J 0)), (1, .int (nI (fi))), (2, .int (nI (la)))]) C dX1_whole_38 (by decide) rfl ?_
              refine kx_iconst (v := nI 0) C dX1_whole_40 (by decide +kernel) ?_
              refine kx_istore (lv2 := [(5, .int (nI (0))), (4, .int ((-1))), (3, .int (nI (0))), (0, .ref (J 0)), (1, .int (nI (fi))), (2, .int (nI (la)))]) C dX1_whole_41 (by decide) rfl ?_
              refine kx_iload C dX1_whole_43 0 rfl ?_
              refine kx_bipush (v := nI 24) C dX1_whole_45 (by decide +kernel) ?_
              refine kx_icmp_ge (tgt := 117) C (by omega) (by omega) dX1_whole_47 (by decide) (fun c17 => ?_) (fun c17 => ?_)
              · skip
                exact absurd c17 (by decide)
              · skip
                refine kx_iconst (v := nI 0) C dX1_whole_50 (by decide +kernel) ?_
                refine kx_istore (lv2 := [(6, .int (nI (0))), (5, .int (nI (0))), (4, .int ((-1))), (3, .int (nI (0))), (0, .ref (J 0)), (1, .int (nI (fi))), (2, .int (nI (la)))]) C dX1_whole_51 (by decide) rfl ?_
                refine kx_iload_n C dX1_whole_53 rfl 5 rfl ?_
                refine kx_istore (lv2 := [(7, .int (nI (fi))), (6, .int (nI (0))), (5, .int (nI (0))), (4, .int ((-1))), (3, .int (nI (0))), (0, .ref (J 0)), (1, .int (nI (fi))), (2, .int (nI (la)))]) C dX1_whole_54 (by decide) rfl ?_
                have h81_18 : kx E (rk 10 0) G 8 0 0 (kmW E J 0 n b y o Wm Pm Rm Ym Tm Cm Km) [(0, .ref (J 0)), (1, .int (nI (fi))), (2, .int (nI (la))), (3, .int (nI (0))), (4, .int ((-1))), (5, .int (nI (0))), (6, .int (nI (sumN (fun t => fitN Pm Wm (fi + t) 0) (la + 1 - fi))))] 81 [] := by
                  refine kx_iload C dX1_whole_81 6 rfl ?_
                  refine kx_iload C dX1_whole_83 4 rfl ?_
                  refine kx_icmp_leR (tgt := 93) C dX1_whole_85 (by decide) (fun c19 => ?_) (fun c19 => ?_)
                  · skip
                    exact absurd c19 (k_neg1 (Nat.lt_of_le_of_lt (hFb 0) (by decide)))
                  · skip
                    refine kx_iload C dX1_whole_88 5 rfl ?_
                    refine kx_goto (tgt := 94) C dX1_whole_90 (by decide) ?_
                    refine kx_istore_n (lv2 := [(3, .int (nI (0))), (0, .ref (J 0)), (1, .int (nI (fi))), (2, .int (nI (la))), (4, .int ((-1))), (5, .int (nI (0))), (6, .int (nI (sumN (fun t => fitN Pm Wm (fi + t) 0) (la + 1 - fi))))]) C dX1_whole_94 rfl (by decide) rfl ?_
                    refine kx_iload C dX1_whole_95 6 rfl ?_
                    refine kx_iload C dX1_whole_97 4 rfl ?_
                    refine kx_icmp_leR (tgt := 107) C dX1_whole_99 (by decide) (fun c20 => ?_) (fun c20 => ?_)
                    · skip
                      exact absurd c20 (k_neg1 (Nat.lt_of_le_of_lt (hFb 0) (by decide)))
                    · skip
                      refine kx_iload C dX1_whole_102 6 rfl ?_
                      refine kx_goto (tgt := 109) C dX1_whole_104 (by decide) ?_
                      refine kx_istore (lv2 := [(4, .int (nI (sumN (fun t => fitN Pm Wm (fi + t) 0) (la + 1 - fi)))), (3, .int (nI (0))), (0, .ref (J 0)), (1, .int (nI (fi))), (2, .int (nI (la))), (5, .int (nI (0))), (6, .int (nI (sumN (fun t => fitN Pm Wm (fi + t) 0) (la + 1 - fi))))]) C dX1_whole_109 (by decide) rfl ?_
                      refine kx_iinc (v := nI (0 + 1)) (lv2 := [(5, .int (nI (0 + 1))), (4, .int (nI (sumN (fun t => fitN Pm Wm (fi + t) 0) (la + 1 - fi)))), (3, .int (nI (0))), (0, .ref (J 0)), (1, .int (nI (fi))), (2, .int (nI (la))), (6, .int (nI (sumN (fun t => fitN Pm Wm (fi + t) 0) (la + 1 - fi))))]) C dX1_whole_111 5 rfl (kI1 _) (by decide) rfl ?_
                      refine kx_goto (tgt := 43) C dX1_whole_114 (by decide) ?_
                      refine kx_lvn (a := 0) (b := (whN (fun k => sumN (fun t => fitN Pm Wm (fi + t) k) (la + 1 - fi)) 0).1) (lv2 := [(5, .int (nI (0 + 1))), (4, .int (nI (sumN (fun t => fitN Pm Wm (fi + t) 0) (la + 1 - fi)))), (3, .int (nI ((whN (fun k => sumN (fun t => fitN Pm Wm (fi + t) k) (la + 1 - fi)) 0).1))), (0, .ref (J 0)), (1, .int (nI (fi))), (2, .int (nI (la))), (6, .int (nI (sumN (fun t => fitN Pm Wm (fi + t) 0) (la + 1 - fi))))]) rfl 2 rfl rfl ?_
                      refine kx_lvn (a := sumN (fun t => fitN Pm Wm (fi + t) 0) (la + 1 - fi)) (b := (whN (fun k => sumN (fun t => fitN Pm Wm (fi + t) k) (la + 1 - fi)) 0).2) (lv2 := [(5, .int (nI (0 + 1))), (4, .int (nI ((whN (fun k => sumN (fun t => fitN Pm Wm (fi + t) k) (la + 1 - fi)) 0).2))), (3, .int (nI ((whN (fun k => sumN (fun t => fitN Pm Wm (fi + t) k) (la + 1 - fi)) 0).1))), (0, .ref (J 0)), (1, .int (nI (fi))), (2, .int (nI (la))), (6, .int (nI (sumN (fun t => fitN Pm Wm (fi + t) 0) (la + 1 - fi))))]) rfl 1 rfl rfl ?_
                      refine kx_lv (lv2 := [(0, .ref (J 0)), (1, .int (nI (fi))), (2, .int (nI (la))), (3, .int (nI ((whN (fun k => sumN (fun t => fitN Pm Wm (fi + t) k) (la + 1 - fi)) 0).1))), (4, .int (nI ((whN (fun k => sumN (fun t => fitN Pm Wm (fi + t) k) (la + 1 - fi)) 0).2))), (5, .int (nI (0 + 1)))]) [3, 4, 5, 2, 1, 0] rfl ?_
                      refine kx_eqw (ws2 := (kmW E J 0 n b y o Wm Pm Rm Ym Tm Cm Km)) rfl ?_
                      exact lp43 24 0 (by omega) (by omega)
                refine kx_lv (lv2 := [(0, .ref (J 0)), (1, .int (nI (fi))), (2, .int (nI (la))), (3, .int (nI (0))), (4, .int ((-1))), (5, .int (nI (0))), (6, .int (nI (sumN (fun t => fitN Pm Wm (fi + t) 0) 0))), (7, .int (nI (fi + 0)))]) [5, 6, 7, 4, 3, 2, 1, 0] rfl ?_
                exact lp56 42 0 0 0 (-1) (by omega) (by omega) h81_18 (by omega)
            · skip
              exact absurd c9 (by decide)
      · skip
        refine kx_eqw (ws2 := (kmW E J cd n b y o Wm Pm Rm Ym Tm Cm Km)) rfl ?_
        refine kx_if_eq (tgt := 26) C (by omega) dX1_whole_14 (by decide) (fun c21 => ?_) (fun c21 => ?_)
        · skip
          refine kx_iconst (v := nI 1) C dX1_whole_26 (by decide +kernel) ?_
          refine kx_callVz (rest := []) (wr := []) C (m_isGood E J cd n b y o Wm Pm Rm Ym Tm Cm Km 1 (by decide)) g1_61 1 rfl (by decide +kernel) ⟨Nat.le_of_ble_eq_true rfl, Nat.le_of_ble_eq_true rfl⟩ ⟨Nat.le_of_ble_eq_true rfl, Nat.le_of_ble_eq_true rfl⟩ [0, 1, 2, 3, 4, 5, 6, 7] [] rfl rfl (by decide) (by decide) (by decide) 0 rfl rfl rfl (Nat.le_of_ble_eq_true rfl) dX1_whole_27 (fun v w q22 => ?_)
          obtain ⟨rfl, rfl⟩ := q22
          refine kx_eqw (ws2 := (kmW E J 1 n b y o Wm Pm Rm Ym Tm Cm Km)) rfl ?_
          refine kx_topn (b := 0) rfl ?_
          refine kx_if_ne (tgt := 35) C (by omega) dX1_whole_30 (by decide) (fun c23 => ?_) (fun c23 => ?_)
          · skip
            exact absurd c23 (by decide)
          · skip
            refine kx_iconst (v := nI 0) C dX1_whole_33 (by decide +kernel) ?_
            exact hE (Nat.le_of_ble_eq_true rfl) (Nat.le_of_ble_eq_true rfl) dX1_whole_34 (Or.inr ⟨(fun z => kNW2 q3 z), rfl, rfl⟩)
        · skip
          exact absurd c21 (by decide)
  · skip
    refine kx_eqw (ws2 := (kmW E J cd n b y o Wm Pm Rm Ym Tm Cm Km)) rfl ?_
    refine kx_if_eq (tgt := 26) C (by omega) dX1_whole_6 (by decide) (fun c24 => ?_) (fun c24 => ?_)
    · skip
      refine kx_iconst (v := nI 1) C dX1_whole_26 (by decide +kernel) ?_
      refine kx_callVz (rest := []) (wr := []) C (m_isGood E J cd n b y o Wm Pm Rm Ym Tm Cm Km 1 (by decide)) g1_61 1 rfl (by decide +kernel) ⟨Nat.le_of_ble_eq_true rfl, Nat.le_of_ble_eq_true rfl⟩ ⟨Nat.le_of_ble_eq_true rfl, Nat.le_of_ble_eq_true rfl⟩ [0, 1, 2, 3, 4, 5, 6, 7] [] rfl rfl (by decide) (by decide) (by decide) 0 rfl rfl rfl (Nat.le_of_ble_eq_true rfl) dX1_whole_27 (fun v w q25 => ?_)
      obtain ⟨rfl, rfl⟩ := q25
      refine kx_eqw (ws2 := (kmW E J 1 n b y o Wm Pm Rm Ym Tm Cm Km)) rfl ?_
      refine kx_topn (b := 0) rfl ?_
      refine kx_if_ne (tgt := 35) C (by omega) dX1_whole_30 (by decide) (fun c26 => ?_) (fun c26 => ?_)
      · skip
        exact absurd c26 (by decide)
      · skip
        refine kx_iconst (v := nI 0) C dX1_whole_33 (by decide +kernel) ?_
        exact hE (Nat.le_of_ble_eq_true rfl) (Nat.le_of_ble_eq_true rfl) dX1_whole_34 (Or.inr ⟨(fun z => kNW1 q1 z), rfl, rfl⟩)
    · skip
      exact absurd c24 (by decide)

set_option maxHeartbeats 4000000 in
set_option maxRecDepth 100000 in
theorem m_of (E : KE) (J : Nat → Nat) (cd n b y o : Nat) (Wm Pm Rm Ym Tm Cm Km : Nat → Nat) (x0 : Int32) (HM : kMo n b y o Wm Pm Rm Ym Km) : kMi E yX1_of cX1_of 4 (rk 10 0) [.ref (J 0), .int (x0)] (kmW E J cd n b y o Wm Pm Rm Ym Tm Cm Km) (fun r w => (∃ w9, x0 = nI w9 ∧ w9 ≤ 4 ∧ ((w9 = 4 ∧ ∃ (Rv Yv Tv Cv Kv : Nat → Nat), (∀ j, j < n → Kv j = fsN n b y o Pm Wm j) ∧ r = nI (chN Kv n) ∧ kMo n b y o Wm Pm Rv Yv Kv ∧ w = (kmW E J 0 n b y o Wm Pm Rv Yv Tv Cv Kv)) ∨ (w9 ≠ 4 ∧ r = nI (if w9 = 0 then n else if w9 = 1 then b else if w9 = 2 then y else o) ∧ w = (kmW E J 0 n b y o Wm Pm Rm Ym Tm Cm Km)))) ∨ ((¬ ((∃ j, j ≤ 4 ∧ x0 = nI j))) ∧ r = nI 0 ∧ w = (kmW E J 1 n b y o Wm Pm Rm Ym Tm Cm Km))) := by
  refine kMi_of (cc := cX1_of) (maxL := 4) (by decide) (Nat.le_of_ble_eq_true rfl) ?_
  intro G C hE
  obtain ⟨H1, Hb, Hy, Ho, HP, HW, HRm, HYm, HKm⟩ := id HM
  refine kx_aload_n C dX1_of_0 rfl 0 rfl ?_
  refine kx_iload_n C dX1_of_1 rfl 1 rfl ?_
  refine kx_i2l (v := (x0).toInt64) C dX1_of_2 rfl ?_
  refine kx_lconst (v := lN 0) C dX1_of_3 (by decide +kernel) ?_
  refine kx_ldc2 (v := lN 4) C kc1_114 dX1_of_4 ?_
  refine kx_callSz (rest := [.ref (J 0)]) (wr := (kmW E J cd n b y o Wm Pm Rm Ym Tm Cm Km)) C (m_isIn0 E x0 4 (by decide)) g1_51 3 rfl (by decide +kernel) ⟨Nat.le_of_ble_eq_true rfl, Nat.le_of_ble_eq_true rfl⟩ ⟨Nat.le_of_ble_eq_true rfl, Nat.le_of_ble_eq_true rfl⟩ [] [0, 1, 2, 3, 4, 5, 6, 7] rfl rfl (by decide) (by decide) (by decide) rfl (Nat.le_of_ble_eq_true rfl) dX1_of_7 (fun v w q1 => ?_)
  rcases q1 with ⟨q1, rfl, rfl⟩ | ⟨q1, rfl, rfl⟩
  · skip
    refine kx_eqw (ws2 := (kmW E J cd n b y o Wm Pm Rm Ym Tm Cm Km)) (List.append_nil _) ?_
    obtain ⟨w9, ew9, rfl⟩ := q1
    refine kx_if_eq (tgt := 17) C (by omega) dX1_of_10 (by decide) (fun c2 => ?_) (fun c2 => ?_)
    · skip
      exact absurd c2 (by decide)
    · skip
      refine kx_iconst (v := nI 0) C dX1_of_13 (by decide +kernel) ?_
      refine kx_goto (tgt := 18) C dX1_of_14 (by decide) ?_
      refine kx_callVz (rest := []) (wr := []) C (m_isGood E J cd n b y o Wm Pm Rm Ym Tm Cm Km 0 (by decide)) g1_61 1 rfl (by decide +kernel) ⟨Nat.le_of_ble_eq_true rfl, Nat.le_of_ble_eq_true rfl⟩ ⟨Nat.le_of_ble_eq_true rfl, Nat.le_of_ble_eq_true rfl⟩ [0, 1, 2, 3, 4, 5, 6, 7] [] rfl rfl (by decide) (by decide) (by decide) 0 rfl rfl rfl (Nat.le_of_ble_eq_true rfl) dX1_of_18 (fun v w q3 => ?_)
      obtain ⟨rfl, rfl⟩ := q3
      refine kx_eqw (ws2 := (kmW E J 0 n b y o Wm Pm Rm Ym Tm Cm Km)) rfl ?_
      refine kx_topn (b := 1) rfl ?_
      refine kx_if_ne (tgt := 26) C (by omega) dX1_of_21 (by decide) (fun c4 => ?_) (fun c4 => ?_)
      · skip
        refine kx_iload_n C dX1_of_26 rfl 1 rfl ?_
        refine kx_iconst (v := nI 4) C dX1_of_27 (by decide +kernel) ?_
        refine kx_icmp_ne (tgt := 82) C (by omega) (by omega) dX1_of_28 (by decide) (fun c5 => ?_) (fun c5 => ?_)
        · skip
          refine kx_iload_n C dX1_of_82 rfl 1 rfl ?_
          refine kx_if_ne (tgt := 93) C (by omega) dX1_of_83 (by decide) (fun c6 => ?_) (fun c6 => ?_)
          · skip
            refine kx_iload_n C dX1_of_93 rfl 1 rfl ?_
            refine kx_iconst (v := nI 1) C dX1_of_94 (by decide +kernel) ?_
            refine kx_icmp_ne (tgt := 105) C (by omega) (by omega) dX1_of_95 (by decide) (fun c7 => ?_) (fun c7 => ?_)
            · skip
              refine kx_iload_n C dX1_of_105 rfl 1 rfl ?_
              refine kx_iconst (v := nI 2) C dX1_of_106 (by decide +kernel) ?_
              refine kx_icmp_ne (tgt := 117) C (by omega) (by omega) dX1_of_107 (by decide) (fun c8 => ?_) (fun c8 => ?_)
              · skip
                refine kx_aload_n C dX1_of_117 rfl 0 rfl ?_
                refine kx_get (v := .int (nI (o))) (ci := 1) C kin1 0 rfl rfl 6 (by decide) fl1_48 rfl rfl dX1_of_118 ?_
                exact hE (Nat.le_of_ble_eq_true rfl) (Nat.le_of_ble_eq_true rfl) dX1_of_121 (Or.inl ⟨w9, rfl, ew9, Or.inr ⟨by omega, congrArg nI (by simp [*]), rfl⟩⟩)
              · skip
                refine kx_aload_n C dX1_of_110 rfl 0 rfl ?_
                refine kx_get (v := .int (nI (y))) (ci := 1) C kin1 0 rfl rfl 5 (by decide) fl1_45 rfl rfl dX1_of_111 ?_
                refine kx_goto (tgt := 121) C dX1_of_114 (by decide) ?_
                exact hE (Nat.le_of_ble_eq_true rfl) (Nat.le_of_ble_eq_true rfl) dX1_of_121 (Or.inl ⟨w9, rfl, ew9, Or.inr ⟨by omega, congrArg nI (by simp [*]), rfl⟩⟩)
            · skip
              refine kx_aload_n C dX1_of_98 rfl 0 rfl ?_
              refine kx_get (v := .int (nI (b))) (ci := 1) C kin1 0 rfl rfl 4 (by decide) fl1_42 rfl rfl dX1_of_99 ?_
              refine kx_goto (tgt := 121) C dX1_of_102 (by decide) ?_
              exact hE (Nat.le_of_ble_eq_true rfl) (Nat.le_of_ble_eq_true rfl) dX1_of_121 (Or.inl ⟨w9, rfl, ew9, Or.inr ⟨by omega, congrArg nI (by simp [*]), rfl⟩⟩)
          · skip
            refine kx_aload_n C dX1_of_86 rfl 0 rfl ?_
            refine kx_get (v := .int (nI (n))) (ci := 1) C kin1 0 rfl rfl 1 (by decide) fl1_39 rfl rfl dX1_of_87 ?_
            refine kx_goto (tgt := 121) C dX1_of_90 (by decide) ?_
            exact hE (Nat.le_of_ble_eq_true rfl) (Nat.le_of_ble_eq_true rfl) dX1_of_121 (Or.inl ⟨w9, rfl, ew9, Or.inr ⟨by omega, congrArg nI (by simp [*]), rfl⟩⟩)
        · skip
          refine kx_iconst (v := nI 0) C dX1_of_31 (by decide +kernel) ?_
          refine kx_istore_n (lv2 := [(2, .int (nI (0))), (0, .ref (J 0)), (1, .int (nI (w9)))]) C dX1_of_32 rfl (by decide) rfl ?_
          refine kx_aload_n C dX1_of_33 rfl 1 rfl ?_
          refine kx_lconst (v := lN 0) C dX1_of_34 (by decide +kernel) ?_
          refine kx_callVz (rest := []) (wr := []) C (m_walkBehind E J 0 n b y o Wm Pm Rm Ym Tm Cm Km 0 (by decide) HM) g1_101 1 rfl (by decide +kernel) ⟨Nat.le_of_ble_eq_true rfl, Nat.le_of_ble_eq_true rfl⟩ ⟨Nat.le_of_ble_eq_true rfl, Nat.le_of_ble_eq_true rfl⟩ [0, 1, 2, 3, 4, 5, 6, 7] [] rfl rfl (by decide) (by decide) (by decide) 0 rfl rfl rfl (Nat.le_of_ble_eq_true rfl) dX1_of_35 (fun v w q9 => ?_)
          obtain ⟨Rv, Yv, Tv, Cv, Kv, hTv, hCv, HM2, hcase, rfl⟩ := q9
          refine kx_eqw (ws2 := (kmW E J 0 n b y o Wm Pm Rv Yv Tv Cv Kv)) rfl ?_
          obtain ⟨-, -, -, -, -, -, hA_Rv, hA_Yv, hKv⟩ := id HM2
          have hK := walk0 H1 HP HW Hb Hy Ho hcase
          have lp41 : ∀ (N_lp41 : Nat) (i : Nat), (1 ≤ i) → (i ≤ n ∨ i = 1) → (n + 1 < i + N_lp41) → kx E (rk 10 0) G 4 0 0 (kmW E J 0 n b y o Wm Pm Rv Yv Tv Cv Kv) [(0, .ref (J 0)), (1, .int (nI (w9))), (2, .int (nI (chN Kv i))), (3, .int (nI (i)))] 41 [] := by
            intro N_lp41
            induction N_lp41 with
            | zero =>
              intro i h0_lp41 h1_lp41 hm_lp41
              exact absurd hm_lp41 (by omega)
            | succ N_lp41 ih_lp41 =>
              intro i h0_lp41 h1_lp41 hm_lp41
              refine kx_iload_n C dX1_of_41 rfl 3 rfl ?_
              refine kx_aload_n C dX1_of_42 rfl 0 rfl ?_
              refine kx_get (v := .int (nI (n))) (ci := 1) C kin1 0 rfl rfl 1 (by decide) fl1_39 rfl rfl dX1_of_43 ?_
              refine kx_icmp_ge (tgt := 80) C (by omega) (by omega) dX1_of_46 (by decide) (fun c10 => ?_) (fun c10 => ?_)
              · skip
                refine kx_iload_n C dX1_of_80 rfl 2 rfl ?_
                exact hE (Nat.le_of_ble_eq_true rfl) (Nat.le_of_ble_eq_true rfl) dX1_of_81 (Or.inl ⟨w9, rfl, ew9, Or.inl ⟨by omega, Rv, Yv, Tv, Cv, Kv, hK, congrArg nI (chN_end (F := Kv) (by omega) h1_lp41), HM2, rfl⟩⟩)
              · skip
                refine kx_iload_n C dX1_of_49 rfl 2 rfl ?_
                refine kx_aload_n C dX1_of_50 rfl 0 rfl ?_
                refine kx_get (v := .ref (J 7)) (ci := 1) C kin1 0 rfl rfl 11 (by decide) fl1_29 rfl rfl dX1_of_51 ?_
                refine kx_iload_n C dX1_of_54 rfl 3 rfl ?_
                refine kx_iald C 7 rfl (j := i) (by omega) (by decide) dX1_of_55 ?_
                refine kx_aload_n C dX1_of_56 rfl 0 rfl ?_
                refine kx_get (v := .ref (J 7)) (ci := 1) C kin1 0 rfl rfl 11 (by decide) fl1_29 rfl rfl dX1_of_57 ?_
                refine kx_iload_n C dX1_of_60 rfl 3 rfl ?_
                refine kx_iconst (v := nI 1) C dX1_of_61 (by decide +kernel) ?_
                refine kx_isub C (by omega) dX1_of_62 ?_
                refine kx_iald C 7 rfl (j := (i) - (1)) (by omega) (by decide) dX1_of_63 ?_
                refine kx_icmp_ne (tgt := 71) C (by have := hKv i; omega) (by have := hKv (i - 1); omega) dX1_of_64 (by decide) (fun c11 => ?_) (fun c11 => ?_)
                · skip
                  refine kx_iconst (v := nI 1) C dX1_of_71 (by decide +kernel) ?_
                  refine kx_iadd C dX1_of_72 ?_
                  refine kx_istore_n (lv2 := [(2, .int (nI ((chN Kv i) + (1)))), (0, .ref (J 0)), (1, .int (nI (w9))), (3, .int (nI (i)))]) C dX1_of_73 rfl (by decide) rfl ?_
                  refine kx_iinc (v := nI (i + 1)) (lv2 := [(3, .int (nI (i + 1))), (2, .int (nI ((chN Kv i) + (1)))), (0, .ref (J 0)), (1, .int (nI (w9)))]) C dX1_of_74 3 rfl (kI1 _) (by decide) rfl ?_
                  refine kx_goto (tgt := 41) C dX1_of_77 (by decide) ?_
                  refine kx_lvn (a := (chN Kv i) + (1)) (b := chN Kv (i + 1)) (lv2 := [(3, .int (nI (i + 1))), (2, .int (nI (chN Kv (i + 1)))), (0, .ref (J 0)), (1, .int (nI (w9)))]) (by rw [chN_at (by omega), if_neg c11]) 1 rfl rfl ?_
                  refine kx_lv (lv2 := [(0, .ref (J 0)), (1, .int (nI (w9))), (2, .int (nI (chN Kv (i + 1)))), (3, .int (nI (i + 1)))]) [2, 3, 1, 0] rfl ?_
                  refine kx_eqw (ws2 := (kmW E J 0 n b y o Wm Pm Rv Yv Tv Cv Kv)) rfl ?_
                  exact ih_lp41 (i + 1) (by omega) (by omega) (by omega)
                · skip
                  refine kx_iconst (v := nI 0) C dX1_of_67 (by decide +kernel) ?_
                  refine kx_goto (tgt := 72) C dX1_of_68 (by decide) ?_
                  refine kx_iadd C dX1_of_72 ?_
                  refine kx_istore_n (lv2 := [(2, .int (nI ((chN Kv i) + (0)))), (0, .ref (J 0)), (1, .int (nI (w9))), (3, .int (nI (i)))]) C dX1_of_73 rfl (by decide) rfl ?_
                  refine kx_iinc (v := nI (i + 1)) (lv2 := [(3, .int (nI (i + 1))), (2, .int (nI ((chN Kv i) + (0)))), (0, .ref (J 0)), (1, .int (nI (w9)))]) C dX1_of_74 3 rfl (kI1 _) (by decide) rfl ?_
                  refine kx_goto (tgt := 41) C dX1_of_77 (by decide) ?_
                  refine kx_lvn (a := (chN Kv i) + (0)) (b := chN Kv (i + 1)) (lv2 := [(3, .int (nI (i + 1))), (2, .int (nI (chN Kv (i + 1)))), (0, .ref (J 0)), (1, .int (nI (w9)))]) (by rw [chN_at (by omega), if_pos c11]) 1 rfl rfl ?_
                  refine kx_lv (lv2 := [(0, .ref (J 0)), (1, .int (nI (w9))), (2, .int (nI (chN Kv (i + 1)))), (3, .int (nI (i + 1)))]) [2, 3, 1, 0] rfl ?_
                  refine kx_eqw (ws2 := (kmW E J 0 n b y o Wm Pm Rv Yv Tv Cv Kv)) rfl ?_
                  exact ih_lp41 (i + 1) (by omega) (by omega) (by omega)
          refine kx_pop C dX1_of_38 rfl ?_
          refine kx_iconst (v := nI 1) C dX1_of_39 (by decide +kernel) ?_
          refine kx_istore_n (lv2 := [(3, .int (nI (1))), (2, .int (nI (0))), (0, .ref (J 0)), (1, .int (nI (w9)))]) C dX1_of_40 rfl (by decide) rfl ?_
          refine kx_lv (lv2 := [(0, .ref (J 0)), (1, .int (nI (w9))), (2, .int (nI (chN Kv 1))), (3, .int (nI (1)))]) [2, 3, 1, 0] rfl ?_
          refine kx_eqw (ws2 := (kmW E J 0 n b y o Wm Pm Rv Yv Tv Cv Kv)) rfl ?_
          exact lp41 42 1 (by omega) (by omega) (by omega)
      · skip
        exact absurd c4 (by decide)
  · skip
    refine kx_eqw (ws2 := (kmW E J cd n b y o Wm Pm Rm Ym Tm Cm Km)) (List.append_nil _) ?_
    refine kx_if_eq (tgt := 17) C (by omega) dX1_of_10 (by decide) (fun c12 => ?_) (fun c12 => ?_)
    · skip
      refine kx_iconst (v := nI 1) C dX1_of_17 (by decide +kernel) ?_
      refine kx_callVz (rest := []) (wr := []) C (m_isGood E J cd n b y o Wm Pm Rm Ym Tm Cm Km 1 (by decide)) g1_61 1 rfl (by decide +kernel) ⟨Nat.le_of_ble_eq_true rfl, Nat.le_of_ble_eq_true rfl⟩ ⟨Nat.le_of_ble_eq_true rfl, Nat.le_of_ble_eq_true rfl⟩ [0, 1, 2, 3, 4, 5, 6, 7] [] rfl rfl (by decide) (by decide) (by decide) 0 rfl rfl rfl (Nat.le_of_ble_eq_true rfl) dX1_of_18 (fun v w q13 => ?_)
      obtain ⟨rfl, rfl⟩ := q13
      refine kx_eqw (ws2 := (kmW E J 1 n b y o Wm Pm Rm Ym Tm Cm Km)) rfl ?_
      refine kx_topn (b := 0) rfl ?_
      refine kx_if_ne (tgt := 26) C (by omega) dX1_of_21 (by decide) (fun c14 => ?_) (fun c14 => ?_)
      · skip
        exact absurd c14 (by decide)
      · skip
        refine kx_iconst (v := nI 0) C dX1_of_24 (by decide +kernel) ?_
        exact hE (Nat.le_of_ble_eq_true rfl) (Nat.le_of_ble_eq_true rfl) dX1_of_25 (Or.inr ⟨q1, rfl, rfl⟩)
    · skip
      exact absurd c12 (by decide)
