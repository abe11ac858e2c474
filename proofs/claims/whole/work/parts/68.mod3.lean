set_option maxHeartbeats 4000000 in
set_option maxRecDepth 100000 in
theorem m_fit (E : KE) (J : Nat → Nat) (cd n b y o : Nat) (Wm Pm Rm Ym Tm Cm Km : Nat → Nat) (x0 x1 : Int32) (H1 : n ≤ 40) : kMi E yX1_fit cX1_fit 3 (rk 10 0) [.ref (J 0), .int (x0), .int (x1)] (kmW E J cd n b y o Wm Pm Rm Ym Tm Cm Km) (fun r w => (∃ sl k, x0 = nI sl ∧ sl < n ∧ x1 = nI k ∧ k ≤ 23 ∧ r = nI (fitN Pm Wm sl k) ∧ w = (kmW E J 0 n b y o Wm Pm Rm Ym Tm Cm Km)) ∨ ((¬ ((∃ j, j < n ∧ x0 = nI j) ∧ (∃ j, j ≤ 23 ∧ x1 = nI j))) ∧ r = nI 0 ∧ w = (kmW E J 1 n b y o Wm Pm Rm Ym Tm Cm Km))) := by
  refine kMi_of (cc := cX1_fit) (maxL := 3) (by decide) (Nat.le_of_ble_eq_true rfl) ?_
  intro G C hE
  refine kx_aload_n C dX1_fit_0 rfl 0 rfl ?_
  refine kx_aload_n C dX1_fit_1 rfl 0 rfl ?_
  refine kx_iload_n C dX1_fit_2 rfl 1 rfl ?_
  refine kx_callVz (rest := [.ref (J 0)]) (wr := []) C (m_isSlice E J cd n b y o Wm Pm Rm Ym Tm Cm Km x0 H1) g1_67 1 rfl (by decide +kernel) ⟨Nat.le_of_ble_eq_true rfl, Nat.le_of_ble_eq_true rfl⟩ ⟨Nat.le_of_ble_eq_true rfl, Nat.le_of_ble_eq_true rfl⟩ [0, 1, 2, 3, 4, 5, 6, 7] [] rfl rfl (by decide) (by decide) (by decide) 0 rfl rfl rfl (Nat.le_of_ble_eq_true rfl) dX1_fit_3 (fun v w q1 => ?_)
  rcases q1 with ⟨q1, rfl, rfl⟩ | ⟨q1, rfl, rfl⟩
  · skip
    refine kx_eqw (ws2 := (kmW E J cd n b y o Wm Pm Rm Ym Tm Cm Km)) rfl ?_
    obtain ⟨sl, esl, rfl⟩ := q1
    refine kx_if_eq (tgt := 20) C (by omega) dX1_fit_6 (by decide) (fun c2 => ?_) (fun c2 => ?_)
    · skip
      exact absurd c2 (by decide)
    · skip
      refine kx_iload_n C dX1_fit_9 rfl 2 rfl ?_
      refine kx_callSz (rest := [.ref (J 0)]) (wr := (kmW E J cd n b y o Wm Pm Rm Ym Tm Cm Km)) C (m_isKey E x1) g1_83 1 rfl (by decide +kernel) ⟨Nat.le_of_ble_eq_true rfl, Nat.le_of_ble_eq_true rfl⟩ ⟨Nat.le_of_ble_eq_true rfl, Nat.le_of_ble_eq_true rfl⟩ [] [0, 1, 2, 3, 4, 5, 6, 7] rfl rfl (by decide) (by decide) (by decide) rfl (Nat.le_of_ble_eq_true rfl) dX1_fit_10 (fun v w q3 => ?_)
      rcases q3 with ⟨q3, rfl, rfl⟩ | ⟨q3, rfl, rfl⟩
      · skip
        refine kx_eqw (ws2 := (kmW E J cd n b y o Wm Pm Rm Ym Tm Cm Km)) (List.append_nil _) ?_
        obtain ⟨k, ek, rfl⟩ := q3
        refine kx_if_eq (tgt := 20) C (by omega) dX1_fit_13 (by decide) (fun c4 => ?_) (fun c4 => ?_)
        · skip
          exact absurd c4 (by decide)
        · skip
          refine kx_iconst (v := nI 0) C dX1_fit_16 (by decide +kernel) ?_
          refine kx_goto (tgt := 21) C dX1_fit_17 (by decide) ?_
          refine kx_callVz (rest := []) (wr := []) C (m_isGood E J cd n b y o Wm Pm Rm Ym Tm Cm Km 0 (by decide)) g1_61 1 rfl (by decide +kernel) ⟨Nat.le_of_ble_eq_true rfl, Nat.le_of_ble_eq_true rfl⟩ ⟨Nat.le_of_ble_eq_true rfl, Nat.le_of_ble_eq_true rfl⟩ [0, 1, 2, 3, 4, 5, 6, 7] [] rfl rfl (by decide) (by decide) (by decide) 0 rfl rfl rfl (Nat.le_of_ble_eq_true rfl) dX1_fit_21 (fun v w q5 => ?_)
          obtain ⟨rfl, rfl⟩ := q5
          refine kx_eqw (ws2 := (kmW E J 0 n b y o Wm Pm Rm Ym Tm Cm Km)) rfl ?_
          refine kx_topn (b := 1) rfl ?_
          refine kx_if_eq (tgt := 36) C (by omega) dX1_fit_24 (by decide) (fun c6 => ?_) (fun c6 => ?_)
          · skip
            exact absurd c6 (by decide)
          · skip
            refine kx_aload_n C dX1_fit_27 rfl 0 rfl ?_
            refine kx_iload_n C dX1_fit_28 rfl 1 rfl ?_
            refine kx_iload_n C dX1_fit_29 rfl 2 rfl ?_
            refine kx_callVi (rest := []) (wr := []) C (m_fitOf E J 0 n b y o Wm Pm Rm Ym Tm Cm Km sl k (by omega) (by omega)) g1_76 2 rfl (by decide +kernel) ⟨Nat.le_of_ble_eq_true rfl, Nat.le_of_ble_eq_true rfl⟩ ⟨Nat.le_of_ble_eq_true rfl, Nat.le_of_ble_eq_true rfl⟩ [0, 1, 2, 3, 4, 5, 6, 7] [] rfl rfl (by decide) (by decide) (by decide) 0 rfl rfl rfl (Nat.le_of_ble_eq_true rfl) dX1_fit_30 (fun v w q7 => ?_)
            obtain ⟨rfl, rfl⟩ := q7
            refine kx_eqw (ws2 := (kmW E J 0 n b y o Wm Pm Rm Ym Tm Cm Km)) rfl ?_
            refine kx_goto (tgt := 37) C dX1_fit_33 (by decide) ?_
            exact hE (Nat.le_of_ble_eq_true rfl) (Nat.le_of_ble_eq_true rfl) dX1_fit_37 (Or.inl ⟨sl, k, rfl, esl, rfl, ek, rfl, rfl⟩)
      · skip
        refine kx_eqw (ws2 := (kmW E J cd n b y o Wm Pm Rm Ym Tm Cm Km)) (List.append_nil _) ?_
        refine kx_if_eq (tgt := 20) C (by omega) dX1_fit_13 (by decide) (fun c8 => ?_) (fun c8 => ?_)
        · skip
          refine kx_iconst (v := nI 1) C dX1_fit_20 (by decide +kernel) ?_
          refine kx_callVz (rest := []) (wr := []) C (m_isGood E J cd n b y o Wm Pm Rm Ym Tm Cm Km 1 (by decide)) g1_61 1 rfl (by decide +kernel) ⟨Nat.le_of_ble_eq_true rfl, Nat.le_of_ble_eq_true rfl⟩ ⟨Nat.le_of_ble_eq_true rfl, Nat.le_of_ble_eq_true rfl⟩ [0, 1, 2, 3, 4, 5, 6, 7] [] rfl rfl (by decide) (by decide) (by decide) 0 rfl rfl rfl (Nat.le_of_ble_eq_true rfl) dX1_fit_21 (fun v w q9 => ?_)
          obtain ⟨rfl, rfl⟩ := q9
          refine kx_eqw (ws2 := (kmW E J 1 n b y o Wm Pm Rm Ym Tm Cm Km)) rfl ?_
          refine kx_topn (b := 0) rfl ?_
          refine kx_if_eq (tgt := 36) C (by omega) dX1_fit_24 (by decide) (fun c10 => ?_) (fun c10 => ?_)
          · skip
            refine kx_iconst (v := nI 0) C dX1_fit_36 (by decide +kernel) ?_
            exact hE (Nat.le_of_ble_eq_true rfl) (Nat.le_of_ble_eq_true rfl) dX1_fit_37 (Or.inr ⟨(fun z => q3 z.2), rfl, rfl⟩)
          · skip
            exact absurd c10 (by decide)
        · skip
          exact absurd c8 (by decide)
  · skip
    refine kx_eqw (ws2 := (kmW E J cd n b y o Wm Pm Rm Ym Tm Cm Km)) rfl ?_
    refine kx_if_eq (tgt := 20) C (by omega) dX1_fit_6 (by decide) (fun c11 => ?_) (fun c11 => ?_)
    · skip
      refine kx_iconst (v := nI 1) C dX1_fit_20 (by decide +kernel) ?_
      refine kx_callVz (rest := []) (wr := []) C (m_isGood E J cd n b y o Wm Pm Rm Ym Tm Cm Km 1 (by decide)) g1_61 1 rfl (by decide +kernel) ⟨Nat.le_of_ble_eq_true rfl, Nat.le_of_ble_eq_true rfl⟩ ⟨Nat.le_of_ble_eq_true rfl, Nat.le_of_ble_eq_true rfl⟩ [0, 1, 2, 3, 4, 5, 6, 7] [] rfl rfl (by decide) (by decide) (by decide) 0 rfl rfl rfl (Nat.le_of_ble_eq_true rfl) dX1_fit_21 (fun v w q12 => ?_)
      obtain ⟨rfl, rfl⟩ := q12
      refine kx_eqw (ws2 := (kmW E J 1 n b y o Wm Pm Rm Ym Tm Cm Km)) rfl ?_
      refine kx_topn (b := 0) rfl ?_
      refine kx_if_eq (tgt := 36) C (by omega) dX1_fit_24 (by decide) (fun c13 => ?_) (fun c13 => ?_)
      · skip
        refine kx_iconst (v := nI 0) C dX1_fit_36 (by decide +kernel) ?_
        exact hE (Nat.le_of_ble_eq_true rfl) (Nat.le_of_ble_eq_true rfl) dX1_fit_37 (Or.inr ⟨(fun z => q1 z.1), rfl, rfl⟩)
      · skip
        exact absurd c13 (by decide)
    · skip
      exact absurd c11 (by decide)

set_option maxHeartbeats 4000000 in
set_option maxRecDepth 100000 in
theorem m_cost (E : KE) (J : Nat → Nat) (cd n b y o : Nat) (Wm Pm Rm Ym Tm Cm Km : Nat → Nat) (x0 x1 : Int32) (H1 : n ≤ 40) (HP : ∀ j, Pm j ≤ 99) (HW : ∀ j, Wm j ≤ 200) : kMi E yX1_cost cX1_cost 3 (rk 10 0) [.ref (J 0), .int (x0), .int (x1)] (kmW E J cd n b y o Wm Pm Rm Ym Tm Cm Km) (fun r w => (∃ sl k, x0 = nI sl ∧ sl < n ∧ x1 = nI k ∧ k ≤ 23 ∧ r = nI (costN Pm Wm sl k) ∧ w = (kmW E J 0 n b y o Wm Pm Rm Ym Tm Cm Km)) ∨ ((¬ ((∃ j, j < n ∧ x0 = nI j) ∧ (∃ j, j ≤ 23 ∧ x1 = nI j))) ∧ r = nI 0 ∧ w = (kmW E J 1 n b y o Wm Pm Rm Ym Tm Cm Km))) := by
  refine kMi_of (cc := cX1_cost) (maxL := 3) (by decide) (Nat.le_of_ble_eq_true rfl) ?_
  intro G C hE
  refine kx_aload_n C dX1_cost_0 rfl 0 rfl ?_
  refine kx_aload_n C dX1_cost_1 rfl 0 rfl ?_
  refine kx_iload_n C dX1_cost_2 rfl 1 rfl ?_
  refine kx_callVz (rest := [.ref (J 0)]) (wr := []) C (m_isSlice E J cd n b y o Wm Pm Rm Ym Tm Cm Km x0 H1) g1_67 1 rfl (by decide +kernel) ⟨Nat.le_of_ble_eq_true rfl, Nat.le_of_ble_eq_true rfl⟩ ⟨Nat.le_of_ble_eq_true rfl, Nat.le_of_ble_eq_true rfl⟩ [0, 1, 2, 3, 4, 5, 6, 7] [] rfl rfl (by decide) (by decide) (by decide) 0 rfl rfl rfl (Nat.le_of_ble_eq_true rfl) dX1_cost_3 (fun v w q1 => ?_)
  rcases q1 with ⟨q1, rfl, rfl⟩ | ⟨q1, rfl, rfl⟩
  · skip
    refine kx_eqw (ws2 := (kmW E J cd n b y o Wm Pm Rm Ym Tm Cm Km)) rfl ?_
    obtain ⟨sl, esl, rfl⟩ := q1
    refine kx_if_eq (tgt := 20) C (by omega) dX1_cost_6 (by decide) (fun c2 => ?_) (fun c2 => ?_)
    · skip
      exact absurd c2 (by decide)
    · skip
      refine kx_iload_n C dX1_cost_9 rfl 2 rfl ?_
      refine kx_callSz (rest := [.ref (J 0)]) (wr := (kmW E J cd n b y o Wm Pm Rm Ym Tm Cm Km)) C (m_isKey E x1) g1_83 1 rfl (by decide +kernel) ⟨Nat.le_of_ble_eq_true rfl, Nat.le_of_ble_eq_true rfl⟩ ⟨Nat.le_of_ble_eq_true rfl, Nat.le_of_ble_eq_true rfl⟩ [] [0, 1, 2, 3, 4, 5, 6, 7] rfl rfl (by decide) (by decide) (by decide) rfl (Nat.le_of_ble_eq_true rfl) dX1_cost_10 (fun v w q3 => ?_)
      rcases q3 with ⟨q3, rfl, rfl⟩ | ⟨q3, rfl, rfl⟩
      · skip
        refine kx_eqw (ws2 := (kmW E J cd n b y o Wm Pm Rm Ym Tm Cm Km)) (List.append_nil _) ?_
        obtain ⟨k, ek, rfl⟩ := q3
        refine kx_if_eq (tgt := 20) C (by omega) dX1_cost_13 (by decide) (fun c4 => ?_) (fun c4 => ?_)
        · skip
          exact absurd c4 (by decide)
        · skip
          refine kx_iconst (v := nI 0) C dX1_cost_16 (by decide +kernel) ?_
          refine kx_goto (tgt := 21) C dX1_cost_17 (by decide) ?_
          refine kx_callVz (rest := []) (wr := []) C (m_isGood E J cd n b y o Wm Pm Rm Ym Tm Cm Km 0 (by decide)) g1_61 1 rfl (by decide +kernel) ⟨Nat.le_of_ble_eq_true rfl, Nat.le_of_ble_eq_true rfl⟩ ⟨Nat.le_of_ble_eq_true rfl, Nat.le_of_ble_eq_true rfl⟩ [0, 1, 2, 3, 4, 5, 6, 7] [] rfl rfl (by decide) (by decide) (by decide) 0 rfl rfl rfl (Nat.le_of_ble_eq_true rfl) dX1_cost_21 (fun v w q5 => ?_)
          obtain ⟨rfl, rfl⟩ := q5
          refine kx_eqw (ws2 := (kmW E J 0 n b y o Wm Pm Rm Ym Tm Cm Km)) rfl ?_
          refine kx_topn (b := 1) rfl ?_
          refine kx_if_eq (tgt := 36) C (by omega) dX1_cost_24 (by decide) (fun c6 => ?_) (fun c6 => ?_)
          · skip
            exact absurd c6 (by decide)
          · skip
            refine kx_aload_n C dX1_cost_27 rfl 0 rfl ?_
            refine kx_iload_n C dX1_cost_28 rfl 1 rfl ?_
            refine kx_iload_n C dX1_cost_29 rfl 2 rfl ?_
            refine kx_callVi (rest := []) (wr := []) C (m_costOf E J 0 n b y o Wm Pm Rm Ym Tm Cm Km sl k (by omega) (by omega) HP HW) g1_86 2 rfl (by decide +kernel) ⟨Nat.le_of_ble_eq_true rfl, Nat.le_of_ble_eq_true rfl⟩ ⟨Nat.le_of_ble_eq_true rfl, Nat.le_of_ble_eq_true rfl⟩ [0, 1, 2, 3, 4, 5, 6, 7] [] rfl rfl (by decide) (by decide) (by decide) 0 rfl rfl rfl (Nat.le_of_ble_eq_true rfl) dX1_cost_30 (fun v w q7 => ?_)
            obtain ⟨rfl, rfl⟩ := q7
            refine kx_eqw (ws2 := (kmW E J 0 n b y o Wm Pm Rm Ym Tm Cm Km)) rfl ?_
            refine kx_goto (tgt := 37) C dX1_cost_33 (by decide) ?_
            exact hE (Nat.le_of_ble_eq_true rfl) (Nat.le_of_ble_eq_true rfl) dX1_cost_37 (Or.inl ⟨sl, k, rfl, esl, rfl, ek, rfl, rfl⟩)
      · skip
        refine kx_eqw (ws2 := (kmW E J cd n b y o Wm Pm Rm Ym Tm Cm Km)) (List.append_nil _) ?_
        refine kx_if_eq (tgt := 20) C (by omega) dX1_cost_13 (by decide) (fun c8 => ?_) (fun c8 => ?_)
        · skip
          refine kx_iconst (v := nI 1) C dX1_cost_20 (by decide +kernel) ?_
          refine kx_callVz (rest := []) (wr := []) C (m_isGood E J cd n b y o Wm Pm Rm Ym Tm Cm Km 1 (by decide)) g1_61 1 rfl (by decide +kernel) ⟨Nat.le_of_ble_eq_true rfl, Nat.le_of_ble_eq_true rfl⟩ ⟨Nat.le_of_ble_eq_true rfl, Nat.le_of_ble_eq_true rfl⟩ [0, 1, 2, 3, 4, 5, 6, 7] [] rfl rfl (by decide) (by decide) (by decide) 0 rfl rfl rfl (Nat.le_of_ble_eq_true rfl) dX1_cost_21 (fun v w q9 => ?_)
          obtain ⟨rfl, rfl⟩ := q9
          refine kx_eqw (ws2 := (kmW E J 1 n b y o Wm Pm Rm Ym Tm Cm Km)) rfl ?_
          refine kx_topn (b := 0) rfl ?_
          refine kx_if_eq (tgt := 36) C (by omega) dX1_cost_24 (by decide) (fun c10 => ?_) (fun c10 => ?_)
          · skip
            refine kx_iconst (v := nI 0) C dX1_cost_36 (by decide +kernel) ?_
            exact hE (Nat.le_of_ble_eq_true rfl) (Nat.le_of_ble_eq_true rfl) dX1_cost_37 (Or.inr ⟨(fun z => q3 z.2), rfl, rfl⟩)
          · skip
            exact absurd c10 (by decide)
        · skip
          exact absurd c8 (by decide)
  · skip
    refine kx_eqw (ws2 := (kmW E J cd n b y o Wm Pm Rm Ym Tm Cm Km)) rfl ?_
    refine kx_if_eq (tgt := 20) C (by omega) dX1_cost_6 (by decide) (fun c11 => ?_) (fun c11 => ?_)
    · skip
      refine kx_iconst (v := nI 1) C dX1_cost_20 (by decide +kernel) ?_
      refine kx_callVz (rest := []) (wr := []) C (m_isGood E J cd n b y o Wm Pm Rm Ym Tm Cm Km 1 (by decide)) g1_61 1 rfl (by decide +kernel) ⟨Nat.le_of_ble_eq_true rfl, Nat.le_of_ble_eq_true rfl⟩ ⟨Nat.le_of_ble_eq_true rfl, Nat.le_of_ble_eq_true rfl⟩ [0, 1, 2, 3, 4, 5, 6, 7] [] rfl rfl (by decide) (by decide) (by decide) 0 rfl rfl rfl (Nat.le_of_ble_eq_true rfl) dX1_cost_21 (fun v w q12 => ?_)
      obtain ⟨rfl, rfl⟩ := q12
      refine kx_eqw (ws2 := (kmW E J 1 n b y o Wm Pm Rm Ym Tm Cm Km)) rfl ?_
      refine kx_topn (b := 0) rfl ?_
      refine kx_if_eq (tgt := 36) C (by omega) dX1_cost_24 (by decide) (fun c13 => ?_) (fun c13 => ?_)
      · skip
        refine kx_iconst (v := nI 0) C dX1_cost_36 (by decide +kernel) ?_
        exact hE (Nat.le_of_ble_eq_true rfl) (Nat.le_of_ble_eq_true rfl) dX1_cost_37 (Or.inr ⟨(fun z => q1 z.1), rfl, rfl⟩)
      · skip
        exact absurd c13 (by decide)
    · skip
      exact absurd c11 (by decide)

set_option maxHeartbeats 4000000 in
set_option maxRecDepth 100000 in
theorem m_turn (E : KE) (J : Nat → Nat) (cd n b y o : Nat) (Wm Pm Rm Ym Tm Cm Km : Nat → Nat) (x0 x1 : Int32) (H1 : n ≤ 40) : kMi E yX1_turn cX1_turn 3 (rk 10 0) [.ref (J 0), .int (x0), .int (x1)] (kmW E J cd n b y o Wm Pm Rm Ym Tm Cm Km) (fun r w => (∃ f t, x0 = nI f ∧ f ≤ 23 ∧ x1 = nI t ∧ t ≤ 23 ∧ r = nI (turnN b y o f t) ∧ w = (kmW E J 0 n b y o Wm Pm Rm Ym Tm Cm Km)) ∨ ((¬ ((∃ j, j ≤ 23 ∧ x0 = nI j) ∧ (∃ j, j ≤ 23 ∧ x1 = nI j))) ∧ r = nI 0 ∧ w = (kmW E J 1 n b y o Wm Pm Rm Ym Tm Cm Km))) := by
  refine kMi_of (cc := cX1_turn) (maxL := 3) (by decide) (Nat.le_of_ble_eq_true rfl) ?_
  intro G C hE
  refine kx_aload_n C dX1_turn_0 rfl 0 rfl ?_
  refine kx_iload_n C dX1_turn_1 rfl 1 rfl ?_
  refine kx_callSz (rest := [.ref (J 0)]) (wr := (kmW E J cd n b y o Wm Pm Rm Ym Tm Cm Km)) C (m_isKey E x0) g1_83 1 rfl (by decide +kernel) ⟨Nat.le_of_ble_eq_true rfl, Nat.le_of_ble_eq_true rfl⟩ ⟨Nat.le_of_ble_eq_true rfl, Nat.le_of_ble_eq_true rfl⟩ [] [0, 1, 2, 3, 4, 5, 6, 7] rfl rfl (by decide) (by decide) (by decide) rfl (Nat.le_of_ble_eq_true rfl) dX1_turn_2 (fun v w q1 => ?_)
  rcases q1 with ⟨q1, rfl, rfl⟩ | ⟨q1, rfl, rfl⟩
  · skip
    refine kx_eqw (ws2 := (kmW E J cd n b y o Wm Pm Rm Ym Tm Cm Km)) (List.append_nil _) ?_
    obtain ⟨f, ef, rfl⟩ := q1
    refine kx_if_eq (tgt := 19) C (by omega) dX1_turn_5 (by decide) (fun c2 => ?_) (fun c2 => ?_)
    · skip
      exact absurd c2 (by decide)
    · skip
      refine kx_iload_n C dX1_turn_8 rfl 2 rfl ?_
      refine kx_callSz (rest := [.ref (J 0)]) (wr := (kmW E J cd n b y o Wm Pm Rm Ym Tm Cm Km)) C (m_isKey E x1) g1_83 1 rfl (by decide +kernel) ⟨Nat.le_of_ble_eq_true rfl, Nat.le_of_ble_eq_true rfl⟩ ⟨Nat.le_of_ble_eq_true rfl, Nat.le_of_ble_eq_true rfl⟩ [] [0, 1, 2, 3, 4, 5, 6, 7] rfl rfl (by decide) (by decide) (by decide) rfl (Nat.le_of_ble_eq_true rfl) dX1_turn_9 (fun v w q3 => ?_)
      rcases q3 with ⟨q3, rfl, rfl⟩ | ⟨q3, rfl, rfl⟩
      · skip
        refine kx_eqw (ws2 := (kmW E J cd n b y o Wm Pm Rm Ym Tm Cm Km)) (List.append_nil _) ?_
        obtain ⟨t, et, rfl⟩ := q3
        refine kx_if_eq (tgt := 19) C (by omega) dX1_turn_12 (by decide) (fun c4 => ?_) (fun c4 => ?_)
        · skip
          exact absurd c4 (by decide)
        · skip
          refine kx_iconst (v := nI 0) C dX1_turn_15 (by decide +kernel) ?_
          refine kx_goto (tgt := 20) C dX1_turn_16 (by decide) ?_
          refine kx_callVz (rest := []) (wr := []) C (m_isGood E J cd n b y o Wm Pm Rm Ym Tm Cm Km 0 (by decide)) g1_61 1 rfl (by decide +kernel) ⟨Nat.le_of_ble_eq_true rfl, Nat.le_of_ble_eq_true rfl⟩ ⟨Nat.le_of_ble_eq_true rfl, Nat.le_of_ble_eq_true rfl⟩ [0, 1, 2, 3, 4, 5, 6, 7] [] rfl rfl (by decide) (by decide) (by decide) 0 rfl rfl rfl (Nat.le_of_ble_eq_true rfl) dX1_turn_20 (fun v w q5 => ?_)
          obtain ⟨rfl, rfl⟩ := q5
          refine kx_eqw (ws2 := (kmW E J 0 n b y o Wm Pm Rm Ym Tm Cm Km)) rfl ?_
          refine kx_topn (b := 1) rfl ?_
          refine kx_if_eq (tgt := 35) C (by omega) dX1_turn_23 (by decide) (fun c6 => ?_) (fun c6 => ?_)
          · skip
            exact absurd c6 (by decide)
          · skip
            refine kx_aload_n C dX1_turn_26 rfl 0 rfl ?_
            refine kx_iload_n C dX1_turn_27 rfl 1 rfl ?_
            refine kx_iload_n C dX1_turn_28 rfl 2 rfl ?_
            refine kx_callVi (rest := []) (wr := []) C (m_turnOf E J 0 n b y o Wm Pm Rm Ym Tm Cm Km f t (by omega) (by omega)) g1_89 2 rfl (by decide +kernel) ⟨Nat.le_of_ble_eq_true rfl, Nat.le_of_ble_eq_true rfl⟩ ⟨Nat.le_of_ble_eq_true rfl, Nat.le_of_ble_eq_true rfl⟩ [0, 1, 2, 3, 4, 5, 6, 7] [] rfl rfl (by decide) (by decide) (by decide) 0 rfl rfl rfl (Nat.le_of_ble_eq_true rfl) dX1_turn_29 (fun v w q7 => ?_)
            obtain ⟨rfl, rfl⟩ := q7
            refine kx_eqw (ws2 := (kmW E J 0 n b y o Wm Pm Rm Ym Tm Cm Km)) rfl ?_
            refine kx_goto (tgt := 36) C dX1_turn_32 (by decide) ?_
            exact hE (Nat.le_of_ble_eq_true rfl) (Nat.le_of_ble_eq_true rfl) dX1_turn_36 (Or.inl ⟨f, t, rfl, ef, rfl, et, rfl, rfl⟩)
      · skip
        refine kx_eqw (ws2 := (kmW E J cd n b y o Wm Pm Rm Ym Tm Cm Km)) (List.append_nil _) ?_
        refine kx_if_eq (tgt := 19) C (by omega) dX1_turn_12 (by decide) (fun c8 => ?_) (fun c8 => ?_)
        · skip
          refine kx_iconst (v := nI 1) C dX1_turn_19 (by decide +kernel) ?_
          refine kx_callVz (rest := []) (wr := []) C (m_isGood E J cd n b y o Wm Pm Rm Ym Tm Cm Km 1 (by decide)) g1_61 1 rfl (by decide +kernel) ⟨Nat.le_of_ble_eq_true rfl, Nat.le_of_ble_eq_true rfl⟩ ⟨Nat.le_of_ble_eq_true rfl, Nat.le_of_ble_eq_true rfl⟩ [0, 1, 2, 3, 4, 5, 6, 7] [] rfl rfl (by decide) (by decide) (by decide) 0 rfl rfl rfl (Nat.le_of_ble_eq_true rfl) dX1_turn_20 (fun v w q9 => ?_)
          obtain ⟨rfl, rfl⟩ := q9
          refine kx_eqw (ws2 := (kmW E J 1 n b y o Wm Pm Rm Ym Tm Cm Km)) rfl ?_
          refine kx_topn (b := 0) rfl ?_
          refine kx_if_eq (tgt := 35) C (by omega) dX1_turn_23 (by decide) (fun c10 => ?_) (fun c10 => ?_)
          · skip
            refine kx_iconst (v := nI 0) C dX1_turn_35 (by decide +kernel) ?_
            exact hE (Nat.le_of_ble_eq_true rfl) (Nat.le_of_ble_eq_true rfl) dX1_turn_36 (Or.inr ⟨(fun z => q3 z.2), rfl, rfl⟩)
          · skip
            exact absurd c10 (by decide)
        · skip
          exact absurd c8 (by decide)
  · skip
    refine kx_eqw (ws2 := (kmW E J cd n b y o Wm Pm Rm Ym Tm Cm Km)) (List.append_nil _) ?_
    refine kx_if_eq (tgt := 19) C (by omega) dX1_turn_5 (by decide) (fun c11 => ?_) (fun c11 => ?_)
    · skip
      refine kx_iconst (v := nI 1) C dX1_turn_19 (by decide +kernel) ?_
      refine kx_callVz (rest := []) (wr := []) C (m_isGood E J cd n b y o Wm Pm Rm Ym Tm Cm Km 1 (by decide)) g1_61 1 rfl (by decide +kernel) ⟨Nat.le_of_ble_eq_true rfl, Nat.le_of_ble_eq_true rfl⟩ ⟨Nat.le_of_ble_eq_true rfl, Nat.le_of_ble_eq_true rfl⟩ [0, 1, 2, 3, 4, 5, 6, 7] [] rfl rfl (by decide) (by decide) (by decide) 0 rfl rfl rfl (Nat.le_of_ble_eq_true rfl) dX1_turn_20 (fun v w q12 => ?_)
      obtain ⟨rfl, rfl⟩ := q12
      refine kx_eqw (ws2 := (kmW E J 1 n b y o Wm Pm Rm Ym Tm Cm Km)) rfl ?_
      refine kx_topn (b := 0) rfl ?_
      refine kx_if_eq (tgt := 35) C (by omega) dX1_turn_23 (by decide) (fun c13 => ?_) (fun c13 => ?_)
      · skip
        refine kx_iconst (v := nI 0) C dX1_turn_35 (by decide +kernel) ?_
        exact hE (Nat.le_of_ble_eq_true rfl) (Nat.le_of_ble_eq_true rfl) dX1_turn_36 (Or.inr ⟨(fun z => q1 z.1), rfl, rfl⟩)
      · skip
        exact absurd c13 (by decide)
    · skip
      exact absurd c11 (by decide)

set_option maxHeartbeats 4000000 in
set_option maxRecDepth 100000 in
theorem m_profile (E : KE) (J : Nat → Nat) (cd n b y o : Nat) (Wm Pm Rm Ym Tm Cm Km : Nat → Nat) (x0 x1 x2 : Int32) (H1 : n ≤ 40) : kMi E yX1_profile cX1_profile 5 (rk 10 0) [.ref (J 0), .int (x0), .int (x1), .int (x2)] (kmW E J cd n b y o Wm Pm Rm Ym Tm Cm Km) (fun r w => (∃ mo stp nu, x0 = nI mo ∧ mo ≤ 1 ∧ x1 = nI stp ∧ stp ≤ 11 ∧ x2 = nI nu ∧ nu ≤ 99 ∧ r = nI (Pm (mo * 12 + stp)) ∧ w = (kmW E J 0 n b y o Wm (va_up Pm (mo * 12 + stp) nu) Rm Ym Tm Cm Km)) ∨ ((¬ ((∃ j, j ≤ 1 ∧ x0 = nI j) ∧ (∃ j, j ≤ 11 ∧ x1 = nI j) ∧ (∃ j, j ≤ 99 ∧ x2 = nI j))) ∧ r = nI 0 ∧ w = (kmW E J 1 n b y o Wm Pm Rm Ym Tm Cm Km))) := by
  refine kMi_of (cc := cX1_profile) (maxL := 5) (by decide) (Nat.le_of_ble_eq_true rfl) ?_
  intro G C hE
  refine kx_aload_n C dX1_profile_0 rfl 0 rfl ?_
  refine kx_iload_n C dX1_profile_1 rfl 1 rfl ?_
  refine kx_i2l (v := (x0).toInt64) C dX1_profile_2 rfl ?_
  refine kx_lconst (v := lN 0) C dX1_profile_3 (by decide +kernel) ?_
  refine kx_lconst (v := lN 1) C dX1_profile_4 (by decide +kernel) ?_
  refine kx_callSz (rest := [.ref (J 0)]) (wr := (kmW E J cd n b y o Wm Pm Rm Ym Tm Cm Km)) C (m_isIn0 E x0 1 (by decide)) g1_51 3 rfl (by decide +kernel) ⟨Nat.le_of_ble_eq_true rfl, Nat.le_of_ble_eq_true rfl⟩ ⟨Nat.le_of_ble_eq_true rfl, Nat.le_of_ble_eq_true rfl⟩ [] [0, 1, 2, 3, 4, 5, 6, 7] rfl rfl (by decide) (by decide) (by decide) rfl (Nat.le_of_ble_eq_true rfl) dX1_profile_5 (fun v w q1 => ?_)
  rcases q1 with ⟨q1, rfl, rfl⟩ | ⟨q1, rfl, rfl⟩
  · skip
    refine kx_eqw (ws2 := (kmW E J cd n b y o Wm Pm Rm Ym Tm Cm Km)) (List.append_nil _) ?_
    obtain ⟨mo, emo, rfl⟩ := q1
    refine kx_if_eq (tgt := 39) C (by omega) dX1_profile_8 (by decide) (fun c2 => ?_) (fun c2 => ?_)
    · skip
      exact absurd c2 (by decide)
    · skip
      refine kx_iload_n C dX1_profile_11 rfl 2 rfl ?_
      refine kx_i2l (v := (x1).toInt64) C dX1_profile_12 rfl ?_
      refine kx_lconst (v := lN 0) C dX1_profile_13 (by decide +kernel) ?_
      refine kx_ldc2 (v := lN 11) C kc1_57 dX1_profile_14 ?_
      refine kx_callSz (rest := [.ref (J 0)]) (wr := (kmW E J cd n b y o Wm Pm Rm Ym Tm Cm Km)) C (m_isIn0 E x1 11 (by decide)) g1_51 3 rfl (by decide +kernel) ⟨Nat.le_of_ble_eq_true rfl, Nat.le_of_ble_eq_true rfl⟩ ⟨Nat.le_of_ble_eq_true rfl, Nat.le_of_ble_eq_true rfl⟩ [] [0, 1, 2, 3, 4, 5, 6, 7] rfl rfl (by decide) (by decide) (by decide) rfl (Nat.le_of_ble_eq_true rfl) dX1_profile_17 (fun v w q3 => ?_)
      rcases q3 with ⟨q3, rfl, rfl⟩ | ⟨q3, rfl, rfl⟩
      · skip
        refine kx_eqw (ws2 := (kmW E J cd n b y o Wm Pm Rm Ym Tm Cm Km)) (List.append_nil _) ?_
        obtain ⟨stp, estp, rfl⟩ := q3
        refine kx_if_eq (tgt := 39) C (by omega) dX1_profile_20 (by decide) (fun c4 => ?_) (fun c4 => ?_)
        · skip
          exact absurd c4 (by decide)
        · skip
          refine kx_iload_n C dX1_profile_23 rfl 3 rfl ?_
          refine kx_i2l (v := (x2).toInt64) C dX1_profile_24 rfl ?_
          refine kx_lconst (v := lN 0) C dX1_profile_25 (by decide +kernel) ?_
          refine kx_ldc2 (v := lN 99) C kc1_59 dX1_profile_26 ?_
          refine kx_callSz (rest := [.ref (J 0)]) (wr := (kmW E J cd n b y o Wm Pm Rm Ym Tm Cm Km)) C (m_isIn0 E x2 99 (by decide)) g1_51 3 rfl (by decide +kernel) ⟨Nat.le_of_ble_eq_true rfl, Nat.le_of_ble_eq_true rfl⟩ ⟨Nat.le_of_ble_eq_true rfl, Nat.le_of_ble_eq_true rfl⟩ [] [0, 1, 2, 3, 4, 5, 6, 7] rfl rfl (by decide) (by decide) (by decide) rfl (Nat.le_of_ble_eq_true rfl) dX1_profile_29 (fun v w q5 => ?_)
          rcases q5 with ⟨q5, rfl, rfl⟩ | ⟨q5, rfl, rfl⟩
          · skip
            refine kx_eqw (ws2 := (kmW E J cd n b y o Wm Pm Rm Ym Tm Cm Km)) (List.append_nil _) ?_
            obtain ⟨nu, enu, rfl⟩ := q5
            refine kx_if_eq (tgt := 39) C (by omega) dX1_profile_32 (by decide) (fun c6 => ?_) (fun c6 => ?_)
            · skip
              exact absurd c6 (by decide)
            · skip
              refine kx_iconst (v := nI 0) C dX1_profile_35 (by decide +kernel) ?_
              refine kx_goto (tgt := 40) C dX1_profile_36 (by decide) ?_
              refine kx_callVz (rest := []) (wr := []) C (m_isGood E J cd n b y o Wm Pm Rm Ym Tm Cm Km 0 (by decide)) g1_61 1 rfl (by decide +kernel) ⟨Nat.le_of_ble_eq_true rfl, Nat.le_of_ble_eq_true rfl⟩ ⟨Nat.le_of_ble_eq_true rfl, Nat.le_of_ble_eq_true rfl⟩ [0, 1, 2, 3, 4, 5, 6, 7] [] rfl rfl (by decide) (by decide) (by decide) 0 rfl rfl rfl (Nat.le_of_ble_eq_true rfl) dX1_profile_40 (fun v w q7 => ?_)
              obtain ⟨rfl, rfl⟩ := q7
              refine kx_eqw (ws2 := (kmW E J 0 n b y o Wm Pm Rm Ym Tm Cm Km)) rfl ?_
              refine kx_topn (b := 1) rfl ?_
              refine kx_if_ne (tgt := 48) C (by omega) dX1_profile_43 (by decide) (fun c8 => ?_) (fun c8 => ?_)
              · skip
                refine kx_aload_n C dX1_profile_48 rfl 0 rfl ?_
                refine kx_get (v := .ref (J 2)) (ci := 1) C kin1 0 rfl rfl 3 (by decide) fl1_13 rfl rfl dX1_profile_49 ?_
                refine kx_bipush (v := nI 12) C dX1_profile_52 (by decide +kernel) ?_
                refine kx_iload_n C dX1_profile_54 rfl 1 rfl ?_
                refine kx_imul C dX1_profile_55 ?_
                refine kx_iload_n C dX1_profile_56 rfl 2 rfl ?_
                refine kx_iadd C dX1_profile_57 ?_
                refine kx_topn (b := mo * 12 + stp) (by omega) ?_
                refine kx_iald C 2 rfl (j := mo * 12 + stp) (by omega) (by decide) dX1_profile_58 ?_
                refine kx_istore (lv2 := [(4, .int (nI (Pm (mo * 12 + stp)))), (0, .ref (J 0)), (1, .int (nI (mo))), (2, .int (nI (stp))), (3, .int (nI (nu)))]) C dX1_profile_59 (by decide) rfl ?_
                refine kx_aload_n C dX1_profile_61 rfl 1 rfl ?_
                refine kx_get (v := .ref (J 2)) (ci := 1) C kin1 0 rfl rfl 3 (by decide) fl1_13 rfl rfl dX1_profile_62 ?_
                refine kx_bipush (v := nI 12) C dX1_profile_65 (by decide +kernel) ?_
                refine kx_iload_n C dX1_profile_67 rfl 2 rfl ?_
                refine kx_imul C dX1_profile_68 ?_
                refine kx_iload_n C dX1_profile_69 rfl 3 rfl ?_
                refine kx_iadd C dX1_profile_70 ?_
                refine kx_topn (b := mo * 12 + stp) (by omega) ?_
                refine kx_iload_n C dX1_profile_71 rfl 4 rfl ?_
                refine kx_iast (ws2 := (kmW E J 0 n b y o Wm (va_up Pm (mo * 12 + stp) (nu)) Rm Ym Tm Cm Km)) C 2 rfl (j := mo * 12 + stp) (v := nu) (by omega) (by decide) rfl dX1_profile_72 ?_
                refine kx_iload C dX1_profile_73 0 rfl ?_
                exact hE (Nat.le_of_ble_eq_true rfl) (Nat.le_of_ble_eq_true rfl) dX1_profile_75 (Or.inl ⟨mo, stp, nu, rfl, emo, rfl, estp, rfl, enu, rfl, rfl⟩)
              · skip
                exact absurd c8 (by decide)
          · skip
            refine kx_eqw (ws2 := (kmW E J cd n b y o Wm Pm Rm Ym Tm Cm Km)) (List.append_nil _) ?_
            refine kx_if_eq (tgt := 39) C (by omega) dX1_profile_32 (by decide) (fun c9 => ?_) (fun c9 => ?_)
            · skip
              refine kx_iconst (v := nI 1) C dX1_profile_39 (by decide +kernel) ?_
              refine kx_callVz (rest := []) (wr := []) C (m_isGood E J cd n b y o Wm Pm Rm Ym Tm Cm Km 1 (by decide)) g1_61 1 rfl (by decide +kernel) ⟨Nat.le_of_ble_eq_true rfl, Nat.le_of_ble_eq_true rfl⟩ ⟨Nat.le_of_ble_eq_true rfl, Nat.le_of_ble_eq_true rfl⟩ [0, 1, 2, 3, 4, 5, 6, 7] [] rfl rfl (by decide) (by decide) (by decide) 0 rfl rfl rfl (Nat.le_of_ble_eq_true rfl) dX1_profile_40 (fun v w q10 => ?_)
              obtain ⟨rfl, rfl⟩ := q10
              refine kx_eqw (ws2 := (kmW E J 1 n b y o Wm Pm Rm Ym Tm Cm Km)) rfl ?_
              refine kx_topn (b := 0) rfl ?_
              refine kx_if_ne (tgt := 48) C (by omega) dX1_profile_43 (by decide) (fun c11 => ?_) (fun c11 => ?_)
              · skip
                exact absurd c11 (by decide)
              · skip
                refine kx_iconst (v := nI 0) C dX1_profile_46 (by decide +kernel) ?_
                exact hE (Nat.le_of_ble_eq_true rfl) (Nat.le_of_ble_eq_true rfl) dX1_profile_47 (Or.inr ⟨(fun z => q5 z.2.2), rfl, rfl⟩)
            · skip
              exact absurd c9 (by decide)
      · skip
        refine kx_eqw (ws2 := (kmW E J cd n b y o Wm Pm Rm Ym Tm Cm Km)) (List.append_nil _) ?_
        refine kx_if_eq (tgt := 39) C (by omega) dX1_profile_20 (by decide) (fun c12 => ?_) (fun c12 => ?_)
        · skip
          refine kx_iconst (v := nI 1) C dX1_profile_39 (by decide +kernel) ?_
          refine kx_callVz (rest := []) (wr := []) C (m_isGood E J cd n b y o Wm Pm Rm Ym Tm Cm Km 1 (by decide)) g1_61 1 rfl (by decide +kernel) ⟨Nat.le_of_ble_eq_true rfl, Nat.le_of_ble_eq_true rfl⟩ ⟨Nat.le_of_ble_eq_true rfl, Nat.le_of_ble_eq_true rfl⟩ [0, 1, 2, 3, 4, 5, 6, 7] [] rfl rfl (by decide) (by decide) (by decide) 0 rfl rfl rfl (Nat.le_of_ble_eq_true rfl) dX1_profile_40 (fun v w q13 => ?_)
          obtain ⟨rfl, rfl⟩ := q13
          refine kx_eqw (ws2 := (kmW E J 1 n b y o Wm Pm Rm Ym Tm Cm Km)) rfl ?_
          refine kx_topn (b := 0) rfl ?_
          refine kx_if_ne (tgt := 48) C (by omega) dX1_profile_43 (by decide) (fun c14 => ?_) (fun c14 => ?_)
          · skip
            exact absurd c14 (by decide)
          · skip
            refine kx_iconst (v := nI 0) C dX1_profile_46 (by decide +kernel) ?_
            exact hE (Nat.le_of_ble_eq_true rfl) (Nat.le_of_ble_eq_true rfl) dX1_profile_47 (Or.inr ⟨(fun z => q3 z.2.1), rfl, rfl⟩)
        · skip
          exact absurd c12 (by decide)
  · skip
    refine kx_eqw (ws2 := (kmW E J cd n b y o Wm Pm Rm Ym Tm Cm Km)) (List.append_nil _) ?_
    refine kx_if_eq (tgt := 39) C (by omega) dX1_profile_8 (by decide) (fun c15 => ?_) (fun c15 => ?_)
    · skip
      refine kx_iconst (v := nI 1) C dX1_profile_39 (by decide +kernel) ?_
      refine kx_callVz (rest := []) (wr := []) C (m_isGood E J cd n b y o Wm Pm Rm Ym Tm Cm Km 1 (by decide)) g1_61 1 rfl (by decide +kernel) ⟨Nat.le_of_ble_eq_true rfl, Nat.le_of_ble_eq_true rfl⟩ ⟨Nat.le_of_ble_eq_true rfl, Nat.le_of_ble_eq_true rfl⟩ [0, 1, 2, 3, 4, 5, 6, 7] [] rfl rfl (by decide) (by decide) (by decide) 0 rfl rfl rfl (Nat.le_of_ble_eq_true rfl) dX1_profile_40 (fun v w q16 => ?_)
      obtain ⟨rfl, rfl⟩ := q16
      refine kx_eqw (ws2 := (kmW E J 1 n b y o Wm Pm Rm Ym Tm Cm Km)) rfl ?_
      refine kx_topn (b := 0) rfl ?_
      refine kx_if_ne (tgt := 48) C (by omega) dX1_profile_43 (by decide) (fun c17 => ?_) (fun c17 => ?_)
      · skip
        exact absurd c17 (by decide)
      · skip
        refine kx_iconst (v := nI 0) C dX1_profile_46 (by decide +kernel) ?_
        exact hE (Nat.le_of_ble_eq_true rfl) (Nat.le_of_ble_eq_true rfl) dX1_profile_47 (Or.inr ⟨(fun z => q1 z.1), rfl, rfl⟩)
    · skip
      exact absurd c15 (by decide)

set_option maxHeartbeats 4000000 in
set_option maxRecDepth 100000 in
theorem m_costs (E : KE) (J : Nat → Nat) (cd n b y o : Nat) (Wm Pm Rm Ym Tm Cm Km : Nat → Nat) (x0 x1 x2 : Int32) (H1 : n ≤ 40) (Hb : b ≤ 1000) (Hy : y ≤ 1000) (Ho : o ≤ 1000) : kMi E yX1_costs cX1_costs 5 (rk 10 0) [.ref (J 0), .int (x0), .int (x1), .int (x2)] (kmW E J cd n b y o Wm Pm Rm Ym Tm Cm Km) (fun r w => (∃ b2 y2 o2, x0 = nI b2 ∧ b2 ≤ 1000 ∧ x1 = nI y2 ∧ y2 ≤ 1000 ∧ x2 = nI o2 ∧ o2 ≤ 1000 ∧ r = nI ((if b2 = b then 0 else 1) + (if y2 = y then 0 else 1) + (if o2 = o then 0 else 1)) ∧ w = (kmW E J 0 n b2 y2 o2 Wm Pm Rm Ym Tm Cm Km)) ∨ ((¬ ((∃ j, j ≤ 1000 ∧ x0 = nI j) ∧ (∃ j, j ≤ 1000 ∧ x1 = nI j) ∧ (∃ j, j ≤ 1000 ∧ x2 = nI j))) ∧ r = nI 0 ∧ w = (kmW E J 1 n b y o Wm Pm Rm Ym Tm Cm Km))) := by
  refine kMi_of (cc := cX1_costs) (maxL := 5) (by decide) (Nat.le_of_ble_eq_true rfl) ?_
  intro G C hE
  refine kx_aload_n C dX1_costs_0 rfl 0 rfl ?_
  refine kx_iload_n C dX1_costs_1 rfl 1 rfl ?_
  refine kx_i2l (v := (x0).toInt64) C dX1_costs_2 rfl ?_
  refine kx_lconst (v := lN 0) C dX1_costs_3 (by decide +kernel) ?_
  refine kx_ldc2 (v := lN 1000) C kc1_65 dX1_costs_4 ?_
  refine kx_callSz (rest := [.ref (J 0)]) (wr := (kmW E J cd n b y o Wm Pm Rm Ym Tm Cm Km)) C (m_isIn0 E x0 1000 (by decide)) g1_51 3 rfl (by decide +kernel) ⟨Nat.le_of_ble_eq_true rfl, Nat.le_of_ble_eq_true rfl⟩ ⟨Nat.le_of_ble_eq_true rfl, Nat.le_of_ble_eq_true rfl⟩ [] [0, 1, 2, 3, 4, 5, 6, 7] rfl rfl (by decide) (by decide) (by decide) rfl (Nat.le_of_ble_eq_true rfl) dX1_costs_7 (fun v w q1 => ?_)
  rcases q1 with ⟨q1, rfl, rfl⟩ | ⟨q1, rfl, rfl⟩
  · skip
    refine kx_eqw (ws2 := (kmW E J cd n b y o Wm Pm Rm Ym Tm Cm Km)) (List.append_nil _) ?_
    obtain ⟨b2, eb2, rfl⟩ := q1
    refine kx_if_eq (tgt := 41) C (by omega) dX1_costs_10 (by decide) (fun c2 => ?_) (fun c2 => ?_)
    · skip
      exact absurd c2 (by decide)
    · skip
      refine kx_iload_n C dX1_costs_13 rfl 2 rfl ?_
      refine kx_i2l (v := (x1).toInt64) C dX1_costs_14 rfl ?_
      refine kx_lconst (v := lN 0) C dX1_costs_15 (by decide +kernel) ?_
      refine kx_ldc2 (v := lN 1000) C kc1_65 dX1_costs_16 ?_
      refine kx_callSz (rest := [.ref (J 0)]) (wr := (kmW E J cd n b y o Wm Pm Rm Ym Tm Cm Km)) C (m_isIn0 E x1 1000 (by decide)) g1_51 3 rfl (by decide +kernel) ⟨Nat.le_of_ble_eq_true rfl, Nat.le_of_ble_eq_true rfl⟩ ⟨Nat.le_of_ble_eq_true rfl, Nat.le_of_ble_eq_true rfl⟩ [] [0, 1, 2, 3, 4, 5, 6, 7] rfl rfl (by decide) (by decide) (by decide) rfl (Nat.le_of_ble_eq_true rfl) dX1_costs_19 (fun v w q3 => ?_)
      rcases q3 with ⟨q3, rfl, rfl⟩ | ⟨q3, rfl, rfl⟩
      · skip
        refine kx_eqw (ws2 := (kmW E J cd n b y o Wm Pm Rm Ym Tm Cm Km)) (List.append_nil _) ?_
        obtain ⟨y2, ey2, rfl⟩ := q3
        refine kx_if_eq (tgt := 41) C (by omega) dX1_costs_22 (by decide) (fun c4 => ?_) (fun c4 => ?_)
        · skip
          exact absurd c4 (by decide)
        · skip
          refine kx_iload_n C dX1_costs_25 rfl 3 rfl ?_
          refine kx_i2l (v := (x2).toInt64) C dX1_costs_26 rfl ?_
          refine kx_lconst (v := lN 0) C dX1_costs_27 (by decide +kernel) ?_
          refine kx_ldc2 (v := lN 1000) C kc1_65 dX1_costs_28 ?_
          refine kx_callSz (rest := [.ref (J 0)]) (wr := (kmW E J cd n b y o Wm Pm Rm Ym Tm Cm Km)) C (m_isIn0 E x2 1000 (by decide)) g1_51 3 rfl (by decide +kernel) ⟨Nat.le_of_ble_eq_true rfl, Nat.le_of_ble_eq_true rfl⟩ ⟨Nat.le_of_ble_eq_true rfl, Nat.le_of_ble_eq_true rfl⟩ [] [0, 1, 2, 3, 4, 5, 6, 7] rfl rfl (by decide) (by decide) (by decide) rfl (Nat.le_of_ble_eq_true rfl) dX1_costs_31 (fun v w q5 => ?_)
          rcases q5 with ⟨q5, rfl, rfl⟩ | ⟨q5, rfl, rfl⟩
          · skip
            refine kx_eqw (ws2 := (kmW E J cd n b y o Wm Pm Rm Ym Tm Cm Km)) (List.append_nil _) ?_
            obtain ⟨o2, eo2, rfl⟩ := q5
            refine kx_if_eq (tgt := 41) C (by omega) dX1_costs_34 (by decide) (fun c6 => ?_) (fun c6 => ?_)
            · skip
              exact absurd c6 (by decide)
            · skip
              refine kx_iconst (v := nI 0) C dX1_costs_37 (by decide +kernel) ?_
              refine kx_goto (tgt := 42) C dX1_costs_38 (by decide) ?_
              refine kx_callVz (rest := []) (wr := []) C (m_isGood E J cd n b y o Wm Pm Rm Ym Tm Cm Km 0 (by decide)) g1_61 1 rfl (by decide +kernel) ⟨Nat.le_of_ble_eq_true rfl, Nat.le_of_ble_eq_true rfl⟩ ⟨Nat.le_of_ble_eq_true rfl, Nat.le_of_ble_eq_true rfl⟩ [0, 1, 2, 3, 4, 5, 6, 7] [] rfl rfl (by decide) (by decide) (by decide) 0 rfl rfl rfl (Nat.le_of_ble_eq_true rfl) dX1_costs_42 (fun v w q7 => ?_)
              obtain ⟨rfl, rfl⟩ := q7
              refine kx_eqw (ws2 := (kmW E J 0 n b y o Wm Pm Rm Ym Tm Cm Km)) rfl ?_
              refine kx_topn (b := 1) rfl ?_
              refine kx_if_ne (tgt := 50) C (by omega) dX1_costs_45 (by decide) (fun c8 => ?_) (fun c8 => ?_)
              · skip
                refine kx_iload_n C dX1_costs_50 rfl 1 rfl ?_
                refine kx_aload_n C dX1_costs_51 rfl 0 rfl ?_
                refine kx_get (v := .int (nI (b))) (ci := 1) C kin1 0 rfl rfl 4 (by decide) fl1_42 rfl rfl dX1_costs_52 ?_
                refine kx_icmp_ne (tgt := 62) C (by omega) (by omega) dX1_costs_55 (by decide) (fun c9 => ?_) (fun c9 => ?_)
                · skip
                  refine kx_iconst (v := nI 1) C dX1_costs_62 (by decide +kernel) ?_
                  refine kx_iload_n C dX1_costs_63 rfl 2 rfl ?_
                  refine kx_aload_n C dX1_costs_64 rfl 0 rfl ?_
                  refine kx_get (v := .int (nI (y))) (ci := 1) C kin1 0 rfl rfl 5 (by decide) fl1_45 rfl rfl dX1_costs_65 ?_
                  refine kx_icmp_ne (tgt := 75) C (by omega) (by omega) dX1_costs_68 (by decide) (fun c10 => ?_) (fun c10 => ?_)
                  · skip
                    refine kx_iconst (v := nI 1) C dX1_costs_75 (by decide +kernel) ?_
                    refine kx_iadd C dX1_costs_76 ?_
                    refine kx_iload_n C dX1_costs_77 rfl 3 rfl ?_
                    refine kx_aload_n C dX1_costs_78 rfl 0 rfl ?_
                    refine kx_get (v := .int (nI (o))) (ci := 1) C kin1 0 rfl rfl 6 (by decide) fl1_48 rfl rfl dX1_costs_79 ?_
                    refine kx_icmp_ne (tgt := 89) C (by omega) (by omega) dX1_costs_82 (by decide) (fun c11 => ?_) (fun c11 => ?_)
                    · skip
                      refine kx_iconst (v := nI 1) C dX1_costs_89 (by decide +kernel) ?_
                      refine kx_iadd C dX1_costs_90 ?_
                      refine kx_istore (lv2 := [(4, .int (nI (((1) + (1)) + (1)))), (0, .ref (J 0)), (1, .int (nI (b2))), (2, .int (nI (y2))), (3, .int (nI (o2)))]) C dX1_costs_91 (by decide) rfl ?_
                      refine kx_aload_n C dX1_costs_93 rfl 1 rfl ?_
                      refine kx_iload_n C dX1_costs_94 rfl 2 rfl ?_
                      refine kx_put (ws2 := (kmW E J 0 n b2 y o Wm Pm Rm Ym Tm Cm Km)) (ci := 1) C kin1 tyX1_ok nmX1 0 rfl rfl 4 (by decide) fl1_42 rfl rfl rfl rfl (Nat.le_of_ble_eq_true rfl) rfl dX1_costs_95 ?_
                      refine kx_aload_n C dX1_costs_98 rfl 1 rfl ?_
                      refine kx_iload_n C dX1_costs_99 rfl 3 rfl ?_
                      refine kx_put (ws2 := (kmW E J 0 n b2 y2 o Wm Pm Rm Ym Tm Cm Km)) (ci := 1) C kin1 tyX1_ok nmX1 0 rfl rfl 5 (by decide) fl1_45 rfl rfl rfl rfl (Nat.le_of_ble_eq_true rfl) rfl dX1_costs_100 ?_
                      refine kx_aload_n C dX1_costs_103 rfl 1 rfl ?_
                      refine kx_iload_n C dX1_costs_104 rfl 4 rfl ?_
                      refine kx_put (ws2 := (kmW E J 0 n b2 y2 o2 Wm Pm Rm Ym Tm Cm Km)) (ci := 1) C kin1 tyX1_ok nmX1 0 rfl rfl 6 (by decide) fl1_48 rfl rfl rfl rfl (Nat.le_of_ble_eq_true rfl) rfl dX1_costs_105 ?_
                      refine kx_iload C dX1_costs_108 0 rfl ?_
                      exact hE (Nat.le_of_ble_eq_true rfl) (Nat.le_of_ble_eq_true rfl) dX1_costs_110 (Or.inl ⟨b2, y2, o2, rfl, eb2, rfl, ey2, rfl, eo2, congrArg nI (by simp [*]), rfl⟩)
                    · skip
                      refine kx_iconst (v := nI 0) C dX1_costs_85 (by decide +kernel) ?_
                      refine kx_goto (tgt := 90) C dX1_costs_86 (by decide) ?_
                      refine kx_iadd C dX1_costs_90 ?_
                      refine kx_istore (lv2 := [(4, .int (nI (((1) + (1)) + (0)))), (0, .ref (J 0)), (1, .int (nI (b2))), (2, .int (nI (y2))), (3, .int (nI (o2)))]) C dX1_costs_91 (by decide) rfl ?_
                      refine kx_aload_n C dX1_costs_93 rfl 1 rfl ?_
                      refine kx_iload_n C dX1_costs_94 rfl 2 rfl ?_
                      refine kx_put (ws2 := (kmW E J 0 n b2 y o Wm Pm Rm Ym Tm Cm Km)) (ci := 1) C kin1 tyX1_ok nmX1 0 rfl rfl 4 (by decide) fl1_42 rfl rfl rfl rfl (Nat.le_of_ble_eq_true rfl) rfl dX1_costs_95 ?_
                      refine kx_aload_n C dX1_costs_98 rfl 1 rfl ?_
                      refine kx_iload_n C dX1_costs_99 rfl 3 rfl ?_
                      refine kx_put (ws2 := (kmW E J 0 n b2 y2 o Wm Pm Rm Ym Tm Cm Km)) (ci := 1) C kin1 tyX1_ok nmX1 0 rfl rfl 5 (by decide) fl1_45 rfl rfl rfl rfl (Nat.le_of_ble_eq_true rfl) rfl dX1_costs_100 ?_
                      refine kx_aload_n C dX1_costs_103 rfl 1 rfl ?_
                      refine kx_iload_n C dX1_costs_104 rfl 4 rfl ?_
                      refine kx_put (ws2 := (kmW E J 0 n b2 y2 o2 Wm Pm Rm Ym Tm Cm Km)) (ci := 1) C kin1 tyX1_ok nmX1 0 rfl rfl 6 (by decide) fl1_48 rfl rfl rfl rfl (Nat.le_of_ble_eq_true rfl) rfl dX1_costs_105 ?_
                      refine kx_iload C dX1_costs_108 0 rfl ?_
                      exact hE (Nat.le_of_ble_eq_true rfl) (Nat.le_of_ble_eq_true rfl) dX1_costs_110 (Or.inl ⟨b2, y2, o2, rfl, eb2, rfl, ey2, rfl, eo2, congrArg nI (by simp [*]), rfl⟩)
                  · skip
                    refine kx_iconst (v := nI 0) C dX1_costs_71 (by decide +kernel) ?_
                    refine kx_goto (tgt := 76) C dX1_costs_72 (by decide) ?_
                    refine kx_iadd C dX1_costs_76 ?_
                    refine kx_iload_n C dX1_costs_77 rfl 3 rfl ?_
                    refine kx_aload_n C dX1_costs_78 rfl 0 rfl ?_
                    refine kx_get (v := .int (nI (o))) (ci := 1) C kin1 0 rfl rfl 6 (by decide) fl1_48 rfl rfl dX1_costs_79 ?_
                    refine kx_icmp_ne (tgt := 89) C (by omega) (by omega) dX1_costs_82 (by decide) (fun c12 => ?_) (fun c12 => ?_)
                    · skip
                      refine kx_iconst (v := nI 1) C dX1_costs_89 (by decide +kernel) ?_
                      refine kx_iadd C dX1_costs_90 ?_
                      refine kx_istore (lv2 := [(4, .int (nI (((1) + (0)) + (1)))), (0, .ref (J 0)), (1, .int (nI (b2))), (2, .int (nI (y2))), (3, .int (nI (o2)))]) C dX1_costs_91 (by decide) rfl ?_
                      refine kx_aload_n C dX1_costs_93 rfl 1 rfl ?_
                      refine kx_iload_n C dX1_costs_94 rfl 2 rfl ?_
                      refine kx_put (ws2 := (kmW E J 0 n b2 y o Wm Pm Rm Ym Tm Cm Km)) (ci := 1) C kin1 tyX1_ok nmX1 0 rfl rfl 4 (by decide) fl1_42 rfl rfl rfl rfl (Nat.le_of_ble_eq_true rfl) rfl dX1_costs_95 ?_
                      refine kx_aload_n C dX1_costs_98 rfl 1 rfl ?_
                      refine kx_iload_n C dX1_costs_99 rfl 3 rfl ?_
                      refine kx_put (ws2 := (kmW E J 0 n b2 y2 o Wm Pm Rm Ym Tm Cm Km)) (ci := 1) C kin1 tyX1_ok nmX1 0 rfl rfl 5 (by decide) fl1_45 rfl rfl rfl rfl (Nat.le_of_ble_eq_true rfl) rfl dX1_costs_100 ?_
                      refine kx_aload_n C dX1_costs_103 rfl 1 rfl ?_
                      refine kx_iload_n C dX1_costs_104 rfl 4 rfl ?_
                      refine kx_put (ws2 := (kmW E J 0 n b2 y2 o2 Wm Pm Rm Ym Tm Cm Km)) (ci := 1) C kin1 tyX1_ok nmX1 0 rfl rfl 6 (by decide) fl1_48 rfl rfl rfl rfl (Nat.le_of_ble_eq_true rfl) rfl dX1_costs_105 ?_
                      refine kx_iload C dX1_costs_108 0 rfl ?_
                      exact hE (Nat.le_of_ble_eq_true rfl) (Nat.le_of_ble_eq_true rfl) dX1_costs_110 (Or.inl ⟨b2, y2, o2, rfl, eb2, rfl, ey2, rfl, eo2, congrArg nI (by simp [*]), rfl⟩)
                    · skip
                      refine kx_iconst (v := nI 0) C dX1_costs_85 (by decide +kernel) ?_
                      refine kx_goto (tgt := 90) C dX1_costs_86 (by decide) ?_
                      refine kx_iadd C dX1_costs_90 ?_
                      refine kx_istore (lv2 := [(4, .int (nI (((1) + (0)) + (0)))), (0, .ref (J 0)), (1, .int (nI (b2))), (2, .int (nI (y2))), (3, .int (nI (o2)))]) C dX1_costs_91 (by decide) rfl ?_
                      refine kx_aload_n C dX1_costs_93 rfl 1 rfl ?_
                      refine kx_iload_n C dX1_costs_94 rfl 2 rfl ?_
                      refine kx_put (ws2 := (kmW E J 0 n b2 y o Wm Pm Rm Ym Tm Cm Km)) (ci := 1) C kin1 tyX1_ok nmX1 0 rfl rfl 4 (by decide) fl1_42 rfl rfl rfl rfl (Nat.le_of_ble_eq_true rfl) rfl dX1_costs_95 ?_
                      refine kx_aload_n C dX1_costs_98 rfl 1 rfl ?_
                      refine kx_iload_n C dX1_costs_99 rfl 3 rfl ?_
                      refine kx_put (ws2 := (kmW E J 0 n b2 y2 o Wm Pm Rm Ym Tm Cm Km)) (ci := 1) C kin1 tyX1_ok nmX1 0 rfl rfl 5 (by decide) fl1_45 rfl rfl rfl rfl (Nat.le_of_ble_eq_true rfl) rfl dX1_costs_100 ?_
                      refine kx_aload_n C dX1_costs_103 rfl 1 rfl ?_
                      refine kx_iload_n C dX1_costs_104 rfl 4 rfl ?_
                      refine kx_put (ws2 := (kmW E J 0 n b2 y2 o2 Wm Pm Rm Ym Tm Cm Km)) (ci := 1) C kin1 tyX1_ok nmX1 0 rfl rfl 6 (by decide) fl1_48 rfl rfl rfl rfl (Nat.le_of_ble_eq_true rfl) rfl dX1_costs_105 ?_
                      refine kx_iload C dX1_costs_108 0 rfl ?_
                      exact hE (Nat.le_of_ble_eq_true rfl) (Nat.le_of_ble_eq_true rfl) dX1_costs_110 (Or.inl ⟨b2, y2, o2, rfl, eb2, rfl, ey2, rfl, eo2, congrArg nI (by simp [*]), rfl⟩)
                · skip
                  refine kx_iconst (v := nI 0) C dX1_costs_58 (by decide +kernel) ?_
                  refine kx_goto (tgt := 63) C dX1_costs_59 (by decide) ?_
                  refine kx_iload_n C dX1_costs_63 rfl 2 rfl ?_
                  refine kx_aload_n C dX1_costs_64 rfl 0 rfl ?_
                  refine kx_get (v := .int (nI (y))) (ci := 1) C kin1 0 rfl rfl 5 (by decide) fl1_45 rfl rfl dX1_costs_65 ?_
                  refine kx_icmp_ne (tgt := 75) C (by omega) (by omega) dX1_costs_68 (by decide) (fun c13 => ?_) (fun c13 => ?_)
                  · skip
                    refine kx_iconst (v := nI 1) C dX1_costs_75 (by decide +kernel) ?_
                    refine kx_iadd C dX1_costs_76 ?_
                    refine kx_iload_n C dX1_costs_77 rfl 3 rfl ?_
                    refine kx_aload_n C dX1_costs_78 rfl 0 rfl ?_
                    refine kx_get (v := .int (nI (o))) (ci := 1) C kin1 0 rfl rfl 6 (by decide) fl1_48 rfl rfl dX1_costs_79 ?_
                    refine kx_icmp_ne (tgt := 89) C (by omega) (by omega) dX1_costs_82 (by decide) (fun c14 => ?_) (fun c14 => ?_)
                    · skip
                      refine kx_iconst (v := nI 1) C dX1_costs_89 (by decide +kernel) ?_
                      refine kx_iadd C dX1_costs_90 ?_
                      refine kx_istore (lv2 := [(4, .int (nI (((0) + (1)) + (1)))), (0, .ref (J 0)), (1, .int (nI (b2))), (2, .int (nI (y2))), (3, .int (nI (o2)))]) C dX1_costs_91 (by decide) rfl ?_
                      refine kx_aload_n C dX1_costs_93 rfl 1 rfl ?_
                      refine kx_iload_n C dX1_costs_94 rfl 2 rfl ?_
                      refine kx_put (ws2 := (kmW E J 0 n b2 y o Wm Pm Rm Ym Tm Cm Km)) (ci := 1) C kin1 tyX1_ok nmX1 0 rfl rfl 4 (by decide) fl1_42 rfl rfl rfl rfl (Nat.le_of_ble_eq_true rfl) rfl dX1_costs_95 ?_
                      refine kx_aload_n C dX1_costs_98 rfl 1 rfl ?_
                      refine kx_iload_n C dX1_costs_99 rfl 3 rfl ?_
                      refine kx_put (ws2 := (kmW E J 0 n b2 y2 o Wm Pm Rm Ym Tm Cm Km)) (ci := 1) C kin1 tyX1_ok nmX1 0 rfl rfl 5 (by decide) fl1_45 rfl rfl rfl rfl (Nat.le_of_ble_eq_true rfl) rfl dX1_costs_100 ?_
                      refine kx_aload_n C dX1_costs_103 rfl 1 rfl ?_
                      refine kx_iload_n C dX1_costs_104 rfl 4 rfl ?_
                      refine kx_put (ws2 := (kmW E J 0 n b2 y2 o2 Wm Pm Rm Ym Tm Cm Km)) (ci := 1) C kin1 tyX1_ok nmX1 0 rfl rfl 6 (by decide) fl1_48 rfl rfl rfl rfl (Nat.le_of_ble_eq_true rfl) rfl dX1_costs_105 ?_
                      refine kx_iload C dX1_costs_108 0 rfl ?_
                      exact hE (Nat.le_of_ble_eq_true rfl) (Nat.le_of_ble_eq_true rfl) dX1_costs_110 (Or.inl ⟨b2, y2, o2, rfl, eb2, rfl, ey2, rfl, eo2, congrArg nI (by simp [*]), rfl⟩)
                    · skip
                      refine kx_iconst (v := nI 0) C dX1_costs_85 (by decide +kernel) ?_
                      refine kx_goto (tgt := 90) C dX1_costs_86 (by decide) ?_
                      refine kx_iadd C dX1_costs_90 ?_
                      refine kx_istore (lv2 := [(4, .int (nI (((0) + (1)) + (0)))), (0, .ref (J 0)), (1, .int (nI (b2))), (2, .int (nI (y2))), (3, .int (nI (o2)))]) C dX1_costs_91 (by decide) rfl ?_
                      refine kx_aload_n C dX1_costs_93 rfl 1 rfl ?_
                      refine kx_iload_n C dX1_costs_94 rfl 2 rfl ?_
                      refine kx_put (ws2 := (kmW E J 0 n b2 y o Wm Pm Rm Ym Tm Cm Km)) (ci := 1) C kin1 tyX1_ok nmX1 0 rfl rfl 4 (by decide) fl1_42 rfl rfl rfl rfl (Nat.le_of_ble_eq_true rfl) rfl dX1_costs_95 ?_
                      refine kx_aload_n C dX1_costs_98 rfl 1 rfl ?_
                      refine kx_iload_n C dX1_costs_99 rfl 3 rfl ?_
                      refine kx_put (ws2 := (kmW E J 0 n b2 y2 o Wm Pm Rm Ym Tm Cm Km)) (ci := 1) C kin1 tyX1_ok nmX1 0 rfl rfl 5 (by decide) fl1_45 rfl rfl rfl rfl (Nat.le_of_ble_eq_true rfl) rfl dX1_costs_100 ?_
                      refine kx_aload_n C dX1_costs_103 rfl 1 rfl ?_
                      refine kx_iload_n C dX1_costs_104 rfl 4 rfl ?_
                      refine kx_put (ws2 := (kmW E J 0 n b2 y2 o2 Wm Pm Rm Ym Tm Cm Km)) (ci := 1) C kin1 tyX1_ok nmX1 0 rfl rfl 6 (by decide) fl1_48 rfl rfl rfl rfl (Nat.le_of_ble_eq_true rfl) rfl dX1_costs_105 ?_
                      refine kx_iload C dX1_costs_108 0 rfl ?_
                      exact hE (Nat.le_of_ble_eq_true rfl) (Nat.le_of_ble_eq_true rfl) dX1_costs_110 (Or.inl ⟨b2, y2, o2, rfl, eb2, rfl, ey2, rfl, eo2, congrArg nI (by simp [*]), rfl⟩)
                  · skip
                    refine kx_iconst (v := nI 0) C dX1_costs_71 (by decide +kernel) ?_
                    refine kx_goto (tgt := 76) C dX1_costs_72 (by decide) ?_
                    refine kx_iadd C dX1_costs_76 ?_
                    refine kx_iload_n C dX1_costs_77 rfl 3 rfl ?_
                    refine kx_aload_n C dX1_costs_78 rfl 0 rfl ?_
                    refine kx_get (v := .int (nI (o))) (ci := 1) C kin1 0 rfl rfl 6 (by decide) fl1_48 rfl rfl dX1_costs_79 ?_
                    refine kx_icmp_ne (tgt := 89) C (by omega) (by omega) dX1_costs_82 (by decide) (fun c15 => ?_) (fun c15 => ?_)
                    · skip
                      refine kx_iconst (v := nI 1) C dX1_costs_89 (by decide +kernel) ?_
                      refine kx_iadd C dX1_costs_90 ?_
                      refine kx_istore (lv2 := [(4, .int (nI (((0) + (0)) + (1)))), (0, .ref (J 0)), (1, .int (nI (b2))), (2, .int (nI (y2))), (3, .int (nI (o2)))]) C dX1_costs_91 (by decide) rfl ?_
                      refine kx_aload_n C dX1_costs_93 rfl 1 rfl ?_
                      refine kx_iload_n C dX1_costs_94 rfl 2 rfl ?_
                      refine kx_put (ws2 := (kmW E J 0 n b2 y o Wm Pm Rm Ym Tm Cm Km)) (ci := 1) C kin1 tyX1_ok nmX1 0 rfl rfl 4 (by decide) fl1_42 rfl rfl rfl rfl (Nat.le_of_ble_eq_true rfl) rfl dX1_costs_95 ?_
                      refine kx_aload_n C dX1_costs_98 rfl 1 rfl ?_
                      refine kx_iload_n C dX1_costs_99 rfl 3 rfl ?_
                      refine kx_put (ws2 := (kmW E J 0 n b2 y2 o Wm Pm Rm Ym Tm Cm Km)) (ci := 1) C kin1 tyX1_ok nmX1 0 rfl rfl 5 (by decide) fl1_45 rfl rfl rfl rfl (Nat.le_of_ble_eq_true rfl) rfl dX1_costs_100 ?_
                      refine kx_aload_n C dX1_costs_103 rfl 1 rfl ?_
                      refine kx_iload_n C dX1_costs_104 rfl 4 rfl ?_
                      refine kx_put (ws2 := (kmW E J 0 n b2 y2 o2 Wm Pm Rm Ym Tm Cm Km)) (ci := 1) C kin1 tyX1_ok nmX1 0 rfl rfl 6 (by decide) fl1_48 rfl rfl rfl rfl (Nat.le_of_ble_eq_true rfl) rfl dX1_costs_105 ?_
                      refine kx_iload C dX1_costs_108 0 rfl ?_
                      exact hE (Nat.le_of_ble_eq_true rfl) (Nat.le_of_ble_eq_true rfl) dX1_costs_110 (Or.inl ⟨b2, y2, o2, rfl, eb2, rfl, ey2, rfl, eo2, congrArg nI (by simp [*]), rfl⟩)
                    · skip
                      refine kx_iconst (v := nI 0) C dX1_costs_85 (by decide +kernel) ?_
                      refine kx_goto (tgt := 90) C dX1_costs_86 (by decide) ?_
                      refine kx_iadd C dX1_costs_90 ?_
                      refine kx_istore (lv2 := [(4, .int (nI (((0) + (0)) + (0)))), (0, .ref (J 0)), (1, .int (nI (b2))), (2, .int (nI (y2))), (3, .int (nI (o2)))]) C dX1_costs_91 (by decide) rfl ?_
                      refine kx_aload_n C dX1_costs_93 rfl 1 rfl ?_
                      refine kx_iload_n C dX1_costs_94 rfl 2 rfl ?_
                      refine kx_put (ws2 := (kmW E J 0 n b2 y o Wm Pm Rm Ym Tm Cm Km)) (ci := 1) C kin1 tyX1_ok nmX1 0 rfl rfl 4 (by decide) fl1_42 rfl rfl rfl rfl (Nat.le_of_ble_eq_true rfl) rfl dX1_costs_95 ?_
                      refine kx_aload_n C dX1_costs_98 rfl 1 rfl ?_
                      refine kx_iload_n C dX1_costs_99 rfl 3 rfl ?_
                      refine kx_put (ws2 := (kmW E J 0 n b2 y2 o Wm Pm Rm Ym Tm Cm Km)) (ci := 1) C kin1 tyX1_ok nmX1 0 rfl rfl 5 (by decide) fl1_45 rfl rfl rfl rfl (Nat.le_of_ble_eq_true rfl) rfl dX1_costs_100 ?_
                      refine kx_aload_n C dX1_costs_103 rfl 1 rfl ?_
                      refine kx_iload_n C dX1_costs_104 rfl 4 rfl ?_
                      refine kx_put (ws2 := (kmW E J 0 n b2 y2 o2 Wm Pm Rm Ym Tm Cm Km)) (ci := 1) C kin1 tyX1_ok nmX1 0 rfl rfl 6 (by decide) fl1_48 rfl rfl rfl rfl (Nat.le_of_ble_eq_true rfl) rfl dX1_costs_105 ?_
                      refine kx_iload C dX1_costs_108 0 rfl ?_
                      exact hE (Nat.le_of_ble_eq_true rfl) (Nat.le_of_ble_eq_true rfl) dX1_costs_110 (Or.inl ⟨b2, y2, o2, rfl, eb2, rfl, ey2, rfl, eo2, congrArg nI (by simp [*]), rfl⟩)
              · skip
                exact absurd c8 (by decide)
          · skip
            refine kx_eqw (ws2 := (kmW E J cd n b y o Wm Pm Rm Ym Tm Cm Km)) (List.append_nil _) ?_
            refine kx_if_eq (tgt := 41) C (by omega) dX1_costs_34 (by decide) (fun c16 => ?_) (fun c16 => ?_)
            · skip
              refine kx_iconst (v := nI 1) C dX1_costs_41 (by decide +kernel) ?_
              refine kx_callVz (rest := []) (wr := []) C (m_isGood E J cd n b y o Wm Pm Rm Ym Tm Cm Km 1 (by decide)) g1_61 1 rfl (by decide +kernel) ⟨Nat.le_of_ble_eq_true rfl, Nat.le_of_ble_eq_true rfl⟩ ⟨Nat.le_of_ble_eq_true rfl, Nat.le_of_ble_eq_true rfl⟩ [0, 1, 2, 3, 4, 5, 6, 7] [] rfl rfl (by decide) (by decide) (by decide) 0 rfl rfl rfl (Nat.le_of_ble_eq_true rfl) dX1_costs_42 (fun v w q17 => ?_)
              obtain ⟨rfl, rfl⟩ := q17
              refine kx_eqw (ws2 := (kmW E J 1 n b y o Wm Pm Rm Ym Tm Cm Km)) rfl ?_
              refine kx_topn (b := 0) rfl ?_
              refine kx_if_ne (tgt := 50) C (by omega) dX1_costs_45 (by decide) (fun c18 => ?_) (fun c18 => ?_)
              · skip
                exact absurd c18 (by decide)
              · skip
                refine kx_iconst (v := nI 0) C dX1_costs_48 (by decide +kernel) ?_
                exact hE (Nat.le_of_ble_eq_true rfl) (Nat.le_of_ble_eq_true rfl) dX1_costs_49 (Or.inr ⟨(fun z => q5 z.2.2), rfl, rfl⟩)
            · skip
              exact absurd c16 (by decide)
      · skip
        refine kx_eqw (ws2 := (kmW E J cd n b y o Wm Pm Rm Ym Tm Cm Km)) (List.append_nil _) ?_
        refine kx_if_eq (tgt := 41) C (by omega) dX1_costs_22 (by decide) (fun c19 => ?_) (fun c19 => ?_)
        · skip
          refine kx_iconst (v := nI 1) C dX1_costs_41 (by decide +kernel) ?_
          refine kx_callVz (rest := []) (wr := []) C (m_isGood E J cd n b y o Wm Pm Rm Ym Tm Cm Km 1 (by decide)) g1_61 1 rfl (by decide +kernel) ⟨Nat.le_of_ble_eq_true rfl, Nat.le_of_ble_eq_true rfl⟩ ⟨Nat.le_of_ble_eq_true rfl, Nat.le_of_ble_eq_true rfl⟩ [0, 1, 2, 3, 4, 5, 6, 7] [] rfl rfl (by decide) (by decide) (by decide) 0 rfl rfl rfl (Nat.le_of_ble_eq_true rfl) dX1_costs_42 (fun v w q20 => ?_)
          obtain ⟨rfl, rfl⟩ := q20
          refine kx_eqw (ws2 := (kmW E J 1 n b y o Wm Pm Rm Ym Tm Cm Km)) rfl ?_
          refine kx_topn (b := 0) rfl ?_
          refine kx_if_ne (tgt := 50) C (by omega) dX1_costs_45 (by decide) (fun c21 => ?_) (fun c21 => ?_)
          · skip
            exact absurd c21 (by decide)
          · skip
            refine kx_iconst (v := nI 0) C dX1_costs_48 (by decide +kernel) ?_
            exact hE (Nat.le_of_ble_eq_true rfl) (Nat.le_of_ble_eq_true rfl) dX1_costs_49 (Or.inr ⟨(fun z => q3 z.2.1), rfl, rfl⟩)
        · skip
          exact absurd c19 (by decide)
  · skip
    refine kx_eqw (ws2 := (kmW E J cd n b y o Wm Pm Rm Ym Tm Cm Km)) (List.append_nil _) ?_
    refine kx_if_eq (tgt := 41) C (by omega) dX1_costs_10 (by decide) (fun c22 => ?_) (fun c22 => ?_)
    · skip
      refine kx_iconst (v := nI 1) C dX1_costs_41 (by decide +kernel) ?_
      refine kx_callVz (rest := []) (wr := []) C (m_isGood E J cd n b y o Wm Pm Rm Ym Tm Cm Km 1 (by decide)) g1_61 1 rfl (by decide +kernel) ⟨Nat.le_of_ble_eq_true rfl, Nat.le_of_ble_eq_true rfl⟩ ⟨Nat.le_of_ble_eq_true rfl, Nat.le_of_ble_eq_true rfl⟩ [0, 1, 2, 3, 4, 5, 6, 7] [] rfl rfl (by decide) (by decide) (by decide) 0 rfl rfl rfl (Nat.le_of_ble_eq_true rfl) dX1_costs_42 (fun v w q23 => ?_)
      obtain ⟨rfl, rfl⟩ := q23
      refine kx_eqw (ws2 := (kmW E J 1 n b y o Wm Pm Rm Ym Tm Cm Km)) rfl ?_
      refine kx_topn (b := 0) rfl ?_
      refine kx_if_ne (tgt := 50) C (by omega) dX1_costs_45 (by decide) (fun c24 => ?_) (fun c24 => ?_)
      · skip
        exact absurd c24 (by decide)
      · skip
        refine kx_iconst (v := nI 0) C dX1_costs_48 (by decide +kernel) ?_
        exact hE (Nat.le_of_ble_eq_true rfl) (Nat.le_of_ble_eq_true rfl) dX1_costs_49 (Or.inr ⟨(fun z => q1 z.1), rfl, rfl⟩)
    · skip
      exact absurd c22 (by decide)

set_option maxHeartbeats 4000000 in
set_option maxRecDepth 100000 in
theorem m_drop (E : KE) (J : Nat → Nat) (cd n b y o : Nat) (Wm Pm Rm Ym Tm Cm Km : Nat → Nat) (H1 : n ≤ 40) : kMi E yX1_drop cX1_drop 1 (rk 10 0) [.ref (J 0)] (kmW E J cd n b y o Wm Pm Rm Ym Tm Cm Km) (fun r w => (0 < n ∧ r = nI (n - 1) ∧ w = (kmW E J 0 (n - 1) b y o Wm Pm Rm Ym Tm Cm Km)) ∨ (n = 0 ∧ r = nI 0 ∧ w = (kmW E J 1 n b y o Wm Pm Rm Ym Tm Cm Km))) := by
  refine kMi_of (cc := cX1_drop) (maxL := 1) (by decide) (Nat.le_of_ble_eq_true rfl) ?_
  intro G C hE
  refine kx_aload_n C dX1_drop_0 rfl 0 rfl ?_
  refine kx_aload_n C dX1_drop_1 rfl 0 rfl ?_
  refine kx_get (v := .int (nI (n))) (ci := 1) C kin1 0 rfl rfl 1 (by decide) fl1_39 rfl rfl dX1_drop_2 ?_
  refine kx_if_ne (tgt := 12) C (by omega) dX1_drop_5 (by decide) (fun c1 => ?_) (fun c1 => ?_)
  · skip
    refine kx_iconst (v := nI 0) C dX1_drop_12 (by decide +kernel) ?_
    refine kx_callVz (rest := []) (wr := []) C (m_isGood E J cd n b y o Wm Pm Rm Ym Tm Cm Km 0 (by decide)) g1_61 1 rfl (by decide +kernel) ⟨Nat.le_of_ble_eq_true rfl, Nat.le_of_ble_eq_true rfl⟩ ⟨Nat.le_of_ble_eq_true rfl, Nat.le_of_ble_eq_true rfl⟩ [0, 1, 2, 3, 4, 5, 6, 7] [] rfl rfl (by decide) (by decide) (by decide) 0 rfl rfl rfl (Nat.le_of_ble_eq_true rfl) dX1_drop_13 (fun v w q2 => ?_)
    obtain ⟨rfl, rfl⟩ := q2
    refine kx_eqw (ws2 := (kmW E J 0 n b y o Wm Pm Rm Ym Tm Cm Km)) rfl ?_
    refine kx_topn (b := 1) rfl ?_
    refine kx_if_ne (tgt := 21) C (by omega) dX1_drop_16 (by decide) (fun c3 => ?_) (fun c3 => ?_)
    · skip
      refine kx_aload_n C dX1_drop_21 rfl 0 rfl ?_
      refine kx_dup C dX1_drop_22 rfl ?_
      refine kx_get (v := .int (nI (n))) (ci := 1) C kin1 0 rfl rfl 1 (by decide) fl1_39 rfl rfl dX1_drop_23 ?_
      refine kx_iconst (v := nI 1) C dX1_drop_26 (by decide +kernel) ?_
      refine kx_isub C (by omega) dX1_drop_27 ?_
      refine kx_put (ws2 := (kmW E J 0 ((n) - (1)) b y o Wm Pm Rm Ym Tm Cm Km)) (ci := 1) C kin1 tyX1_ok nmX1 0 rfl rfl 1 (by decide) fl1_39 rfl rfl rfl rfl (Nat.le_of_ble_eq_true rfl) rfl dX1_drop_28 ?_
      refine kx_aload_n C dX1_drop_31 rfl 0 rfl ?_
      refine kx_get (v := .int (nI ((n) - (1)))) (ci := 1) C kin1 0 rfl rfl 1 (by decide) fl1_39 rfl rfl dX1_drop_32 ?_
      exact hE (Nat.le_of_ble_eq_true rfl) (Nat.le_of_ble_eq_true rfl) dX1_drop_35 (Or.inl ⟨by omega, rfl, rfl⟩)
    · skip
      exact absurd c3 (by decide)
  · skip
    refine kx_iconst (v := nI 1) C dX1_drop_8 (by decide +kernel) ?_
    refine kx_goto (tgt := 13) C dX1_drop_9 (by decide) ?_
    refine kx_callVz (rest := []) (wr := []) C (m_isGood E J cd n b y o Wm Pm Rm Ym Tm Cm Km 1 (by decide)) g1_61 1 rfl (by decide +kernel) ⟨Nat.le_of_ble_eq_true rfl, Nat.le_of_ble_eq_true rfl⟩ ⟨Nat.le_of_ble_eq_true rfl, Nat.le_of_ble_eq_true rfl⟩ [0, 1, 2, 3, 4, 5, 6, 7] [] rfl rfl (by decide) (by decide) (by decide) 0 rfl rfl rfl (Nat.le_of_ble_eq_true rfl) dX1_drop_13 (fun v w q4 => ?_)
    obtain ⟨rfl, rfl⟩ := q4
    refine kx_eqw (ws2 := (kmW E J 1 n b y o Wm Pm Rm Ym Tm Cm Km)) rfl ?_
    refine kx_topn (b := 0) rfl ?_
    refine kx_if_ne (tgt := 21) C (by omega) dX1_drop_16 (by decide) (fun c5 => ?_) (fun c5 => ?_)
    · skip
      exact absurd c5 (by decide)
    · skip
      refine kx_iconst (v := nI 0) C dX1_drop_19 (by decide +kernel) ?_
      exact hE (Nat.le_of_ble_eq_true rfl) (Nat.le_of_ble_eq_true rfl) dX1_drop_20 (Or.inr ⟨by omega, rfl, rfl⟩)

set_option maxHeartbeats 4000000 in
set_option maxRecDepth 100000 in
theorem m_slice (E : KE) (J : Nat → Nat) (cd n b y o : Nat) (Wm Pm Rm Ym Tm Cm Km : Nat → Nat) (H1 : n ≤ 40) (HW : ∀ j, Wm j ≤ 200) : kMi E yX1_slice cX1_slice 2 (rk 10 0) [.ref (J 0)] (kmW E J cd n b y o Wm Pm Rm Ym Tm Cm Km) (fun r w => (n < 40 ∧ r = nI n ∧ ∃ Wv : Nat → Nat, (∀ j, j < 12 → Wv (n * 12 + j) = 0) ∧ (∀ j, j < n * 12 ∨ n * 12 + 12 ≤ j → Wv j = Wm j) ∧ (∀ j, Wv j ≤ 200) ∧ w = (kmW E J 0 (n + 1) b y o Wv Pm Rm Ym Tm Cm Km)) ∨ (n = 40 ∧ r = nI 0 ∧ w = (kmW E J 1 n b y o Wm Pm Rm Ym Tm Cm Km))) := by
  refine kMi_of (cc := cX1_slice) (maxL := 2) (by decide) (Nat.le_of_ble_eq_true rfl) ?_
  intro G C hE
  have lp25 : ∀ (N_lp25 : Nat) (i : Nat) (Wv : Nat → Nat), (i ≤ 12) → (∀ j, j < i → Wv (n * 12 + j) = 0) → (∀ j, j < n * 12 ∨ n * 12 + 12 ≤ j → Wv j = Wm j) → (∀ j, Wv j ≤ 200) → (n < 40) → (12 < i + N_lp25) → kx E (rk 10 0) G 2 0 0 (kmW E J 0 n b y o Wv Pm Rm Ym Tm Cm Km) [(0, .ref (J 0)), (1, .int (nI (i)))] 25 [] := by
    intro N_lp25
    induction N_lp25 with
    | zero =>
      intro i Wv h0_lp25 h1_lp25 h2_lp25 h3_lp25 h4_lp25 hm_lp25
      exact absurd hm_lp25 (by omega)
    | succ N_lp25 ih_lp25 =>
      intro i Wv h0_lp25 h1_lp25 h2_lp25 h3_lp25 h4_lp25 hm_lp25
      refine kx_iload_n C dX1_slice_25 rfl 1 rfl ?_
      refine kx_bipush (v := nI 12) C dX1_slice_26 (by decide +kernel) ?_
      refine kx_icmp_ge (tgt := 52) C (by omega) (by omega) dX1_slice_28 (by decide) (fun c1 => ?_) (fun c1 => ?_)
      · skip
        obtain rfl : 12 = i := by omega
        refine kx_aload_n C dX1_slice_52 rfl 0 rfl ?_
        refine kx_dup C dX1_slice_53 rfl ?_
        refine kx_get (v := .int (nI (n))) (ci := 1) C kin1 0 rfl rfl 1 (by decide) fl1_39 rfl rfl dX1_slice_54 ?_
        refine kx_iconst (v := nI 1) C dX1_slice_57 (by decide +kernel) ?_
        refine kx_iadd C dX1_slice_58 ?_
        refine kx_put (ws2 := (kmW E J 0 ((n) + (1)) b y o Wv Pm Rm Ym Tm Cm Km)) (ci := 1) C kin1 tyX1_ok nmX1 0 rfl rfl 1 (by decide) fl1_39 rfl rfl rfl rfl (Nat.le_of_ble_eq_true rfl) rfl dX1_slice_59 ?_
        refine kx_aload_n C dX1_slice_62 rfl 0 rfl ?_
        refine kx_get (v := .int (nI ((n) + (1)))) (ci := 1) C kin1 0 rfl rfl 1 (by decide) fl1_39 rfl rfl dX1_slice_63 ?_
        refine kx_iconst (v := nI 1) C dX1_slice_66 (by decide +kernel) ?_
        refine kx_isub C (by omega) dX1_slice_67 ?_
        refine kx_topn (b := n) (by omega) ?_
        exact hE (Nat.le_of_ble_eq_true rfl) (Nat.le_of_ble_eq_true rfl) dX1_slice_68 (Or.inl ⟨h4_lp25, rfl, Wv, fun j hj => h1_lp25 j hj, h2_lp25, h3_lp25, rfl⟩)
      · skip
        refine kx_aload_n C dX1_slice_31 rfl 0 rfl ?_
        refine kx_get (v := .ref (J 1)) (ci := 1) C kin1 0 rfl rfl 2 (by decide) fl1_7 rfl rfl dX1_slice_32 ?_
        refine kx_bipush (v := nI 12) C dX1_slice_35 (by decide +kernel) ?_
        refine kx_aload_n C dX1_slice_37 rfl 0 rfl ?_
        refine kx_get (v := .int (nI (n))) (ci := 1) C kin1 0 rfl rfl 1 (by decide) fl1_39 rfl rfl dX1_slice_38 ?_
        refine kx_imul C dX1_slice_41 ?_
        refine kx_iload_n C dX1_slice_42 rfl 1 rfl ?_
        refine kx_iadd C dX1_slice_43 ?_
        refine kx_topn (b := n * 12 + i) (by omega) ?_
        refine kx_iconst (v := nI 0) C dX1_slice_44 (by decide +kernel) ?_
        refine kx_iast (ws2 := (kmW E J 0 n b y o (va_up Wv (n * 12 + i) (0)) Pm Rm Ym Tm Cm Km)) C 1 rfl (j := n * 12 + i) (v := 0) (by omega) (by decide) rfl dX1_slice_45 ?_
        refine kx_iinc (v := nI (i + 1)) (lv2 := [(1, .int (nI (i + 1))), (0, .ref (J 0))]) C dX1_slice_46 1 rfl (kI1 _) (by decide) rfl ?_
        refine kx_goto (tgt := 25) C dX1_slice_49 (by decide) ?_
        refine kx_lv (lv2 := [(0, .ref (J 0)), (1, .int (nI (i + 1)))]) [1, 0] rfl ?_
        refine kx_eqw (ws2 := (kmW E J 0 n b y o (va_up Wv (n * 12 + i) (0)) Pm Rm Ym Tm Cm Km)) rfl ?_
        exact ih_lp25 (i + 1) (va_up Wv (n * 12 + i) (0)) (by omega) (kW0 h1_lp25) (kW1 h2_lp25 (by omega)) (up_le h3_lp25 (Nat.zero_le _)) h4_lp25 (by omega)
  refine kx_aload_n C dX1_slice_0 rfl 0 rfl ?_
  refine kx_aload_n C dX1_slice_1 rfl 0 rfl ?_
  refine kx_get (v := .int (nI (n))) (ci := 1) C kin1 0 rfl rfl 1 (by decide) fl1_39 rfl rfl dX1_slice_2 ?_
  refine kx_bipush (v := nI 40) C dX1_slice_5 (by decide +kernel) ?_
  refine kx_icmp_ne (tgt := 14) C (by omega) (by omega) dX1_slice_7 (by decide) (fun c1 => ?_) (fun c1 => ?_)
  · skip
    refine kx_iconst (v := nI 0) C dX1_slice_14 (by decide +kernel) ?_
    refine kx_callVz (rest := []) (wr := []) C (m_isGood E J cd n b y o Wm Pm Rm Ym Tm Cm Km 0 (by decide)) g1_61 1 rfl (by decide +kernel) ⟨Nat.le_of_ble_eq_true rfl, Nat.le_of_ble_eq_true rfl⟩ ⟨Nat.le_of_ble_eq_true rfl, Nat.le_of_ble_eq_true rfl⟩ [0, 1, 2, 3, 4, 5, 6, 7] [] rfl rfl (by decide) (by decide) (by decide) 0 rfl rfl rfl (Nat.le_of_ble_eq_true rfl) dX1_slice_15 (fun v w q2 => ?_)
    obtain ⟨rfl, rfl⟩ := q2
    refine kx_eqw (ws2 := (kmW E J 0 n b y o Wm Pm Rm Ym Tm Cm Km)) rfl ?_
    refine kx_topn (b := 1) rfl ?_
    refine kx_if_ne (tgt := 23) C (by omega) dX1_slice_18 (by decide) (fun c3 => ?_) (fun c3 => ?_)
    · skip
      refine kx_iconst (v := nI 0) C dX1_slice_23 (by decide +kernel) ?_
      refine kx_istore_n (lv2 := [(1, .int (nI (0))), (0, .ref (J 0))]) C dX1_slice_24 rfl (by decide) rfl ?_
      refine kx_lv (lv2 := [(0, .ref (J 0)), (1, .int (nI (0)))]) [1, 0] rfl ?_
      refine kx_eqw (ws2 := (kmW E J 0 n b y o Wm Pm Rm Ym Tm Cm Km)) rfl ?_
      exact lp25 13 0 Wm (by omega) (fun j hj => absurd hj (by omega)) (fun _ _ => rfl) HW (by omega) (by omega)
    · skip
      exact absurd c3 (by decide)
  · skip
    refine kx_iconst (v := nI 1) C dX1_slice_10 (by decide +kernel) ?_
    refine kx_goto (tgt := 15) C dX1_slice_11 (by decide) ?_
    refine kx_callVz (rest := []) (wr := []) C (m_isGood E J cd n b y o Wm Pm Rm Ym Tm Cm Km 1 (by decide)) g1_61 1 rfl (by decide +kernel) ⟨Nat.le_of_ble_eq_true rfl, Nat.le_of_ble_eq_true rfl⟩ ⟨Nat.le_of_ble_eq_true rfl, Nat.le_of_ble_eq_true rfl⟩ [0, 1, 2, 3, 4, 5, 6, 7] [] rfl rfl (by decide) (by decide) (by decide) 0 rfl rfl rfl (Nat.le_of_ble_eq_true rfl) dX1_slice_15 (fun v w q4 => ?_)
    obtain ⟨rfl, rfl⟩ := q4
    refine kx_eqw (ws2 := (kmW E J 1 n b y o Wm Pm Rm Ym Tm Cm Km)) rfl ?_
    refine kx_topn (b := 0) rfl ?_
    refine kx_if_ne (tgt := 23) C (by omega) dX1_slice_18 (by decide) (fun c5 => ?_) (fun c5 => ?_)
    · skip
      exact absurd c5 (by decide)
    · skip
      refine kx_iconst (v := nI 0) C dX1_slice_21 (by decide +kernel) ?_
      exact hE (Nat.le_of_ble_eq_true rfl) (Nat.le_of_ble_eq_true rfl) dX1_slice_22 (Or.inr ⟨c1, rfl, rfl⟩)

set_option maxHeartbeats 4000000 in
set_option maxRecDepth 100000 in
theorem m_note (E : KE) (J : Nat → Nat) (cd n b y o : Nat) (Wm Pm Rm Ym Tm Cm Km : Nat → Nat) (x0 x1 x2 : Int32) (H1 : n ≤ 40) (HW : ∀ j, Wm j ≤ 200) : kMi E yX1_note cX1_note 5 (rk 10 0) [.ref (J 0), .int (x0), .int (x1), .int (x2)] (kmW E J cd n b y o Wm Pm Rm Ym Tm Cm Km) (fun r w => (∃ sl pi wt, x0 = nI sl ∧ sl < n ∧ x1 = nI pi ∧ pi ≤ 11 ∧ x2 = nI wt ∧ 1 ≤ wt ∧ wt ≤ 200 ∧ ((Wm (sl * 12 + pi) + wt ≤ 200 ∧ r = nI (Wm (sl * 12 + pi) + wt) ∧ w = (kmW E J 0 n b y o (va_up Wm (sl * 12 + pi) (Wm (sl * 12 + pi) + wt)) Pm Rm Ym Tm Cm Km)) ∨ (200 < Wm (sl * 12 + pi) + wt ∧ r = nI 0 ∧ w = (kmW E J 2 n b y o Wm Pm Rm Ym Tm Cm Km)))) ∨ ((¬ ((∃ j, j < n ∧ x0 = nI j) ∧ (∃ j, j ≤ 11 ∧ x1 = nI j) ∧ (∃ j, 1 ≤ j ∧ j ≤ 200 ∧ x2 = nI j))) ∧ r = nI 0 ∧ w = (kmW E J 1 n b y o Wm Pm Rm Ym Tm Cm Km))) := by
  refine kMi_of (cc := cX1_note) (maxL := 5) (by decide) (Nat.le_of_ble_eq_true rfl) ?_
  intro G C hE
  refine kx_aload_n C dX1_note_0 rfl 0 rfl ?_
  refine kx_aload_n C dX1_note_1 rfl 0 rfl ?_
  refine kx_iload_n C dX1_note_2 rfl 1 rfl ?_
  refine kx_callVz (rest := [.ref (J 0)]) (wr := []) C (m_isSlice E J cd n b y o Wm Pm Rm Ym Tm Cm Km x0 H1) g1_67 1 rfl (by decide +kernel) ⟨Nat.le_of_ble_eq_true rfl, Nat.le_of_ble_eq_true rfl⟩ ⟨Nat.le_of_ble_eq_true rfl, Nat.le_of_ble_eq_true rfl⟩ [0, 1, 2, 3, 4, 5, 6, 7] [] rfl rfl (by decide) (by decide) (by decide) 0 rfl rfl rfl (Nat.le_of_ble_eq_true rfl) dX1_note_3 (fun v w q1 => ?_)
  rcases q1 with ⟨q1, rfl, rfl⟩ | ⟨q1, rfl, rfl⟩
  · skip
    refine kx_eqw (ws2 := (kmW E J cd n b y o Wm Pm Rm Ym Tm Cm Km)) rfl ?_
    obtain ⟨sl, esl, rfl⟩ := q1
    refine kx_if_eq (tgt := 37) C (by omega) dX1_note_6 (by decide) (fun c2 => ?_) (fun c2 => ?_)
    · skip
      exact absurd c2 (by decide)
    · skip
      refine kx_iload_n C dX1_note_9 rfl 2 rfl ?_
      refine kx_i2l (v := (x1).toInt64) C dX1_note_10 rfl ?_
      refine kx_lconst (v := lN 0) C dX1_note_11 (by decide +kernel) ?_
      refine kx_ldc2 (v := lN 11) C kc1_57 dX1_note_12 ?_
      refine kx_callSz (rest := [.ref (J 0)]) (wr := (kmW E J cd n b y o Wm Pm Rm Ym Tm Cm Km)) C (m_isIn0 E x1 11 (by decide)) g1_51 3 rfl (by decide +kernel) ⟨Nat.le_of_ble_eq_true rfl, Nat.le_of_ble_eq_true rfl⟩ ⟨Nat.le_of_ble_eq_true rfl, Nat.le_of_ble_eq_true rfl⟩ [] [0, 1, 2, 3, 4, 5, 6, 7] rfl rfl (by decide) (by decide) (by decide) rfl (Nat.le_of_ble_eq_true rfl) dX1_note_15 (fun v w q3 => ?_)
      rcases q3 with ⟨q3, rfl, rfl⟩ | ⟨q3, rfl, rfl⟩
      · skip
        refine kx_eqw (ws2 := (kmW E J cd n b y o Wm Pm Rm Ym Tm Cm Km)) (List.append_nil _) ?_
        obtain ⟨pi, epi, rfl⟩ := q3
        refine kx_if_eq (tgt := 37) C (by omega) dX1_note_18 (by decide) (fun c4 => ?_) (fun c4 => ?_)
        · skip
          exact absurd c4 (by decide)
        · skip
          refine kx_iload_n C dX1_note_21 rfl 3 rfl ?_
          refine kx_i2l (v := (x2).toInt64) C dX1_note_22 rfl ?_
          refine kx_lconst (v := lN 1) C dX1_note_23 (by decide +kernel) ?_
          refine kx_ldc2 (v := lN 200) C kc1_70 dX1_note_24 ?_
          refine kx_callSz (rest := [.ref (J 0)]) (wr := (kmW E J cd n b y o Wm Pm Rm Ym Tm Cm Km)) C (m_isIn1 E x2 200 (by decide)) g1_51 3 rfl (by decide +kernel) ⟨Nat.le_of_ble_eq_true rfl, Nat.le_of_ble_eq_true rfl⟩ ⟨Nat.le_of_ble_eq_true rfl, Nat.le_of_ble_eq_true rfl⟩ [] [0, 1, 2, 3, 4, 5, 6, 7] rfl rfl (by decide) (by decide) (by decide) rfl (Nat.le_of_ble_eq_true rfl) dX1_note_27 (fun v w q5 => ?_)
          rcases q5 with ⟨q5, rfl, rfl⟩ | ⟨q5, rfl, rfl⟩
          · skip
            refine kx_eqw (ws2 := (kmW E J cd n b y o Wm Pm Rm Ym Tm Cm Km)) (List.append_nil _) ?_
            obtain ⟨wt, fwt, ewt, rfl⟩ := q5
            refine kx_if_eq (tgt := 37) C (by omega) dX1_note_30 (by decide) (fun c6 => ?_) (fun c6 => ?_)
            · skip
              exact absurd c6 (by decide)
            · skip
              refine kx_iconst (v := nI 0) C dX1_note_33 (by decide +kernel) ?_
              refine kx_goto (tgt := 38) C dX1_note_34 (by decide) ?_
              refine kx_callVz (rest := []) (wr := []) C (m_isGood E J cd n b y o Wm Pm Rm Ym Tm Cm Km 0 (by decide)) g1_61 1 rfl (by decide +kernel) ⟨Nat.le_of_ble_eq_true rfl, Nat.le_of_ble_eq_true rfl⟩ ⟨Nat.le_of_ble_eq_true rfl, Nat.le_of_ble_eq_true rfl⟩ [0, 1, 2, 3, 4, 5, 6, 7] [] rfl rfl (by decide) (by decide) (by decide) 0 rfl rfl rfl (Nat.le_of_ble_eq_true rfl) dX1_note_38 (fun v w q7 => ?_)
              obtain ⟨rfl, rfl⟩ := q7
              refine kx_eqw (ws2 := (kmW E J 0 n b y o Wm Pm Rm Ym Tm Cm Km)) rfl ?_
              refine kx_topn (b := 1) rfl ?_
              refine kx_if_ne (tgt := 46) C (by omega) dX1_note_41 (by decide) (fun c8 => ?_) (fun c8 => ?_)
              · skip
                refine kx_bipush (v := nI 12) C dX1_note_46 (by decide +kernel) ?_
                refine kx_iload_n C dX1_note_48 rfl 1 rfl ?_
                refine kx_imul C dX1_note_49 ?_
                refine kx_iload_n C dX1_note_50 rfl 2 rfl ?_
                refine kx_iadd C dX1_note_51 ?_
                refine kx_topn (b := sl * 12 + pi) (by omega) ?_
                refine kx_istore (lv2 := [(4, .int (nI (sl * 12 + pi))), (0, .ref (J 0)), (1, .int (nI (sl))), (2, .int (nI (pi))), (3, .int (nI (wt)))]) C dX1_note_52 (by decide) rfl ?_
                refine kx_aload_n C dX1_note_54 rfl 1 rfl ?_
                refine kx_aload_n C dX1_note_55 rfl 1 rfl ?_
                refine kx_get (v := .ref (J 1)) (ci := 1) C kin1 0 rfl rfl 2 (by decide) fl1_7 rfl rfl dX1_note_56 ?_
                refine kx_iload C dX1_note_59 0 rfl ?_
                refine kx_iald C 1 rfl (j := sl * 12 + pi) (by omega) (by decide) dX1_note_61 ?_
                refine kx_iload_n C dX1_note_62 rfl 4 rfl ?_
                refine kx_iadd C dX1_note_63 ?_
                refine kx_sipush (v := nI 200) C dX1_note_64 (by decide +kernel) ?_
                refine kx_icmp_le (tgt := 74) C (by have := HW (sl * 12 + pi); omega) (by decide) dX1_note_67 (by decide) (fun c9 => ?_) (fun c9 => ?_)
                · skip
                  refine kx_iconst (v := nI 0) C dX1_note_74 (by decide +kernel) ?_
                  refine kx_callVz (rest := []) (wr := []) C (m_isGood E J 0 n b y o Wm Pm Rm Ym Tm Cm Km 0 (by decide)) g1_61 1 rfl (by decide +kernel) ⟨Nat.le_of_ble_eq_true rfl, Nat.le_of_ble_eq_true rfl⟩ ⟨Nat.le_of_ble_eq_true rfl, Nat.le_of_ble_eq_true rfl⟩ [0, 1, 2, 3, 4, 5, 6, 7] [] rfl rfl (by decide) (by decide) (by decide) 0 rfl rfl rfl (Nat.le_of_ble_eq_true rfl) dX1_note_75 (fun v w q10 => ?_)
                  obtain ⟨rfl, rfl⟩ := q10
                  refine kx_eqw (ws2 := (kmW E J 0 n b y o Wm Pm Rm Ym Tm Cm Km)) rfl ?_
                  refine kx_topn (b := 1) rfl ?_
                  refine kx_if_ne (tgt := 83) C (by omega) dX1_note_78 (by decide) (fun c11 => ?_) (fun c11 => ?_)
                  · skip
                    refine kx_aload_n C dX1_note_83 rfl 1 rfl ?_
                    refine kx_get (v := .ref (J 1)) (ci := 1) C kin1 0 rfl rfl 2 (by decide) fl1_7 rfl rfl dX1_note_84 ?_
                    refine kx_iload C dX1_note_87 0 rfl ?_
                    refine kx_dup2 C dX1_note_89 rfl rfl ?_
                    refine kx_iald C 1 rfl (j := sl * 12 + pi) (by omega) (by decide) dX1_note_90 ?_
                    refine kx_iload_n C dX1_note_91 rfl 4 rfl ?_
                    refine kx_iadd C dX1_note_92 ?_
                    refine kx_iast (ws2 := (kmW E J 0 n b y o (va_up Wm (sl * 12 + pi) ((Wm (sl * 12 + pi)) + (wt))) Pm Rm Ym Tm Cm Km)) C 1 rfl (j := sl * 12 + pi) (v := (Wm (sl * 12 + pi)) + (wt)) (by omega) (by decide) rfl dX1_note_93 ?_
                    refine kx_aload_n C dX1_note_94 rfl 1 rfl ?_
                    refine kx_get (v := .ref (J 1)) (ci := 1) C kin1 0 rfl rfl 2 (by decide) fl1_7 rfl rfl dX1_note_95 ?_
                    refine kx_iload C dX1_note_98 0 rfl ?_
                    refine kx_iald C 1 rfl (j := sl * 12 + pi) (by omega) (by decide) dX1_note_100 ?_
                    refine kx_topn (b := Wm (sl * 12 + pi) + wt) (va_up_self _ _ _) ?_
                    exact hE (Nat.le_of_ble_eq_true rfl) (Nat.le_of_ble_eq_true rfl) dX1_note_101 (Or.inl ⟨sl, pi, wt, rfl, esl, rfl, epi, rfl, fwt, ewt, Or.inl ⟨c9, rfl, rfl⟩⟩)
                  · skip
                    exact absurd c11 (by decide)
                · skip
                  refine kx_iconst (v := nI 2) C dX1_note_70 (by decide +kernel) ?_
                  refine kx_goto (tgt := 75) C dX1_note_71 (by decide) ?_
                  refine kx_callVz (rest := []) (wr := []) C (m_isGood E J 0 n b y o Wm Pm Rm Ym Tm Cm Km 2 (by decide)) g1_61 1 rfl (by decide +kernel) ⟨Nat.le_of_ble_eq_true rfl, Nat.le_of_ble_eq_true rfl⟩ ⟨Nat.le_of_ble_eq_true rfl, Nat.le_of_ble_eq_true rfl⟩ [0, 1, 2, 3, 4, 5, 6, 7] [] rfl rfl (by decide) (by decide) (by decide) 0 rfl rfl rfl (Nat.le_of_ble_eq_true rfl) dX1_note_75 (fun v w q12 => ?_)
                  obtain ⟨rfl, rfl⟩ := q12
                  refine kx_eqw (ws2 := (kmW E J 2 n b y o Wm Pm Rm Ym Tm Cm Km)) rfl ?_
                  refine kx_topn (b := 0) rfl ?_
                  refine kx_if_ne (tgt := 83) C (by omega) dX1_note_78 (by decide) (fun c13 => ?_) (fun c13 => ?_)
                  · skip
                    exact absurd c13 (by decide)
                  · skip
                    refine kx_iconst (v := nI 0) C dX1_note_81 (by decide +kernel) ?_
                    exact hE (Nat.le_of_ble_eq_true rfl) (Nat.le_of_ble_eq_true rfl) dX1_note_82 (Or.inl ⟨sl, pi, wt, rfl, esl, rfl, epi, rfl, fwt, ewt, Or.inr ⟨c9, rfl, rfl⟩⟩)
              · skip
                exact absurd c8 (by decide)
          · skip
            refine kx_eqw (ws2 := (kmW E J cd n b y o Wm Pm Rm Ym Tm Cm Km)) (List.append_nil _) ?_
            refine kx_if_eq (tgt := 37) C (by omega) dX1_note_30 (by decide) (fun c14 => ?_) (fun c14 => ?_)
            · skip
              refine kx_iconst (v := nI 1) C dX1_note_37 (by decide +kernel) ?_
              refine kx_callVz (rest := []) (wr := []) C (m_isGood E J cd n b y o Wm Pm Rm Ym Tm Cm Km 1 (by decide)) g1_61 1 rfl (by decide +kernel) ⟨Nat.le_of_ble_eq_true rfl, Nat.le_of_ble_eq_true rfl⟩ ⟨Nat.le_of_ble_eq_true rfl, Nat.le_of_ble_eq_true rfl⟩ [0, 1, 2, 3, 4, 5, 6, 7] [] rfl rfl (by decide) (by decide) (by decide) 0 rfl rfl rfl (Nat.le_of_ble_eq_true rfl) dX1_note_38 (fun v w q15 => ?_)
              obtain ⟨rfl, rfl⟩ := q15
              refine kx_eqw (ws2 := (kmW E J 1 n b y o Wm Pm Rm Ym Tm Cm Km)) rfl ?_
              refine kx_topn (b := 0) rfl ?_
              refine kx_if_ne (tgt := 46) C (by omega) dX1_note_41 (by decide) (fun c16 => ?_) (fun c16 => ?_)
              · skip
                exact absurd c16 (by decide)
              · skip
                refine kx_iconst (v := nI 0) C dX1_note_44 (by decide +kernel) ?_
                exact hE (Nat.le_of_ble_eq_true rfl) (Nat.le_of_ble_eq_true rfl) dX1_note_45 (Or.inr ⟨(fun z => q5 z.2.2), rfl, rfl⟩)
            · skip
              exact absurd c14 (by decide)
      · skip
        refine kx_eqw (ws2 := (kmW E J cd n b y o Wm Pm Rm Ym Tm Cm Km)) (List.append_nil _) ?_
        refine kx_if_eq (tgt := 37) C (by omega) dX1_note_18 (by decide) (fun c17 => ?_) (fun c17 => ?_)
        · skip
          refine kx_iconst (v := nI 1) C dX1_note_37 (by decide +kernel) ?_
          refine kx_callVz (rest := []) (wr := []) C (m_isGood E J cd n b y o Wm Pm Rm Ym Tm Cm Km 1 (by decide)) g1_61 1 rfl (by decide +kernel) ⟨Nat.le_of_ble_eq_true rfl, Nat.le_of_ble_eq_true rfl⟩ ⟨Nat.le_of_ble_eq_true rfl, Nat.le_of_ble_eq_true rfl⟩ [0, 1, 2, 3, 4, 5, 6, 7] [] rfl rfl (by decide) (by decide) (by decide) 0 rfl rfl rfl (Nat.le_of_ble_eq_true rfl) dX1_note_38 (fun v w q18 => ?_)
          obtain ⟨rfl, rfl⟩ := q18
          refine kx_eqw (ws2 := (kmW E J 1 n b y o Wm Pm Rm Ym Tm Cm Km)) rfl ?_
          refine kx_topn (b := 0) rfl ?_
          refine kx_if_ne (tgt := 46) C (by omega) dX1_note_41 (by decide) (fun c19 => ?_) (fun c19 => ?_)
          · skip
            exact absurd c19 (by decide)
          · skip
            refine kx_iconst (v := nI 0) C dX1_note_44 (by decide +kernel) ?_
            exact hE (Nat.le_of_ble_eq_true rfl) (Nat.le_of_ble_eq_true rfl) dX1_note_45 (Or.inr ⟨(fun z => q3 z.2.1), rfl, rfl⟩)
        · skip
          exact absurd c17 (by decide)
  · skip
    refine kx_eqw (ws2 := (kmW E J cd n b y o Wm Pm Rm Ym Tm Cm Km)) rfl ?_
    refine kx_if_eq (tgt := 37) C (by omega) dX1_note_6 (by decide) (fun c20 => ?_) (fun c20 => ?_)
    · skip
      refine kx_iconst (v := nI 1) C dX1_note_37 (by decide +kernel) ?_
      refine kx_callVz (rest := []) (wr := []) C (m_isGood E J cd n b y o Wm Pm Rm Ym Tm Cm Km 1 (by decide)) g1_61 1 rfl (by decide +kernel) ⟨Nat.le_of_ble_eq_true rfl, Nat.le_of_ble_eq_true rfl⟩ ⟨Nat.le_of_ble_eq_true rfl, Nat.le_of_ble_eq_true rfl⟩ [0, 1, 2, 3, 4, 5, 6, 7] [] rfl rfl (by decide) (by decide) (by decide) 0 rfl rfl rfl (Nat.le_of_ble_eq_true rfl) dX1_note_38 (fun v w q21 => ?_)
      obtain ⟨rfl, rfl⟩ := q21
      refine kx_eqw (ws2 := (kmW E J 1 n b y o Wm Pm Rm Ym Tm Cm Km)) rfl ?_
      refine kx_topn (b := 0) rfl ?_
      refine kx_if_ne (tgt := 46) C (by omega) dX1_note_41 (by decide) (fun c22 => ?_) (fun c22 => ?_)
      · skip
        exact absurd c22 (by decide)
      · skip
        refine kx_iconst (v := nI 0) C dX1_note_44 (by decide +kernel) ?_
        exact hE (Nat.le_of_ble_eq_true rfl) (Nat.le_of_ble_eq_true rfl) dX1_note_45 (Or.inr ⟨(fun z => q1 z.1), rfl, rfl⟩)
    · skip
      exact absurd c20 (by decide)
