theorem kFs_bad {n b y o : Nat} {P Wt : Nat → Nat} {ls i : Nat} (h : ∃ j, j < n ∧ (kFs n b y o P Wt ls i (j + 1)).1 = 24) (s : Nat) : (kFs n b y o P Wt ls i (s + 1)).1 = 24 := by
  obtain ⟨j, hj, e⟩ := h
  by_cases e1 : (kFs n b y o P Wt ls i 1).1 = 24
  · have := kFs_no (s := 0) e1 s
    rw [show 0 + 1 + s = s + 1 by omega] at this
    exact this
  · exact absurd e (kFs_all e1 j hj)
theorem walk0 {n b y o : Nat} {P Wt Kv : Nat → Nat} {v : Int32} (hn : n ≤ 40) (hP : ∀ j, P j ≤ 99) (hW : ∀ j, Wt j ≤ 200) (hb : b ≤ 1000) (hy : y ≤ 1000) (ho : o ≤ 1000) (h : (v = nI 1 ∧ ∀ j, j < n → Kv j = (kFs n b y o P Wt (lsN n b y o P Wt) 0 (j + 1)).1) ∨ (v = nI 0 ∧ ∃ j, j < n ∧ (kFs n b y o P Wt (lsN n b y o P Wt) 0 (j + 1)).1 = 24)) : ∀ j, j < n → Kv j = fsN n b y o P Wt j := by
  rcases h with h | h
  · exact h.2
  · obtain ⟨-, j, hj, e⟩ := h
    exact absurd e (fsN_ne hn hP hW hb hy ho hj)
theorem fsN_lt {n b y o : Nat} {P Wt : Nat → Nat} (hn : n ≤ 40) (hP : ∀ j, P j ≤ 99) (hW : ∀ j, Wt j ≤ 200) (hb : b ≤ 1000) (hy : y ≤ 1000) (ho : o ≤ 1000) {s : Nat} (hs : s < n) : fsN n b y o P Wt s < 24 := Nat.lt_of_le_of_ne (kFs_le _) (fsN_ne hn hP hW hb hy ho hs)
theorem ls_le_nx {n b y o f s : Nat} {P Wt : Nat → Nat} (hn : n ≤ 40) (hP : ∀ j, P j ≤ 99) (hW : ∀ j, Wt j ≤ 200) (hb : b ≤ 1000) (hy : y ≤ 1000) (ho : o ≤ 1000) (hs : s < n) : lsN n b y o P Wt ≤ nxN n b y o P Wt f s := by
  unfold lsN
  rw [if_neg (by omega)]
  refine minN_geB (minN_leM 24) (fun k hk => ?_)
  show _ ≤ (if k = f then kBIG else thrN n b y o P Wt s k)
  by_cases e : k = f
  · rw [if_pos e]; exact minN_leM 24
  · rw [if_neg e]; exact least_le_thr hn hP hW hb hy ho hs hk
theorem k_or0 (x : Int32) : x ||| nI 0 = x := Int32.or_zero
theorem k_neg1 {a : Nat} (h : a < 2 ^ 31) : ¬ nI a ≤ -1 := fun z => by
  have h1 := Int32.le_iff_toInt_le.mp z
  rw [nI_toInt h] at h1
  have h2 : (-1 : Int32).toInt = -1 := by decide +kernel
  omega

set_option maxHeartbeats 4000000 in
set_option maxRecDepth 100000 in
theorem m_key (E : KE) (J : Nat → Nat) (cd n b y o : Nat) (Wm Pm Rm Ym Tm Cm Km : Nat → Nat) (x0 : Int32) (HM : kMo n b y o Wm Pm Rm Ym Km) : kMi E yX1_key cX1_key 2 (rk 10 0) [.ref (J 0), .int (x0)] (kmW E J cd n b y o Wm Pm Rm Ym Tm Cm Km) (fun r w => (∃ sl, x0 = nI sl ∧ sl < n ∧ ∃ (Rv Yv Tv Cv Kv : Nat → Nat), r = nI (fsN n b y o Pm Wm sl) ∧ kMo n b y o Wm Pm Rv Yv Kv ∧ w = (kmW E J 0 n b y o Wm Pm Rv Yv Tv Cv Kv)) ∨ ((¬ ((∃ j, j < n ∧ x0 = nI j))) ∧ r = nI 0 ∧ w = (kmW E J 1 n b y o Wm Pm Rm Ym Tm Cm Km))) := by
  refine kMi_of (cc := cX1_key) (maxL := 2) (by decide) (Nat.le_of_ble_eq_true rfl) ?_
  intro G C hE
  obtain ⟨H1, Hb, Hy, Ho, HP, HW, HRm, HYm, HKm⟩ := id HM
  refine kx_aload_n C dX1_key_0 rfl 0 rfl ?_
  refine kx_aload_n C dX1_key_1 rfl 0 rfl ?_
  refine kx_iload_n C dX1_key_2 rfl 1 rfl ?_
  refine kx_callVz (rest := [.ref (J 0)]) (wr := []) C (m_isSlice E J cd n b y o Wm Pm Rm Ym Tm Cm Km x0 H1) g1_67 1 rfl (by decide +kernel) ⟨Nat.le_of_ble_eq_true rfl, Nat.le_of_ble_eq_true rfl⟩ ⟨Nat.le_of_ble_eq_true rfl, Nat.le_of_ble_eq_true rfl⟩ [0, 1, 2, 3, 4, 5, 6, 7] [] rfl rfl (by decide) (by decide) (by decide) 0 rfl rfl rfl (Nat.le_of_ble_eq_true rfl) dX1_key_3 (fun v w q1 => ?_)
  rcases q1 with ⟨q1, rfl, rfl⟩ | ⟨q1, rfl, rfl⟩
  · skip
    refine kx_eqw (ws2 := (kmW E J cd n b y o Wm Pm Rm Ym Tm Cm Km)) rfl ?_
    obtain ⟨sl, esl, rfl⟩ := q1
    refine kx_if_eq (tgt := 13) C (by omega) dX1_key_6 (by decide) (fun c2 => ?_) (fun c2 => ?_)
    · skip
      exact absurd c2 (by decide)
    · skip
      refine kx_iconst (v := nI 0) C dX1_key_9 (by decide +kernel) ?_
      refine kx_goto (tgt := 14) C dX1_key_10 (by decide) ?_
      refine kx_callVz (rest := []) (wr := []) C (m_isGood E J cd n b y o Wm Pm Rm Ym Tm Cm Km 0 (by decide)) g1_61 1 rfl (by decide +kernel) ⟨Nat.le_of_ble_eq_true rfl, Nat.le_of_ble_eq_true rfl⟩ ⟨Nat.le_of_ble_eq_true rfl, Nat.le_of_ble_eq_true rfl⟩ [0, 1, 2, 3, 4, 5, 6, 7] [] rfl rfl (by decide) (by decide) (by decide) 0 rfl rfl rfl (Nat.le_of_ble_eq_true rfl) dX1_key_14 (fun v w q3 => ?_)
      obtain ⟨rfl, rfl⟩ := q3
      refine kx_eqw (ws2 := (kmW E J 0 n b y o Wm Pm Rm Ym Tm Cm Km)) rfl ?_
      refine kx_topn (b := 1) rfl ?_
      refine kx_if_ne (tgt := 22) C (by omega) dX1_key_17 (by decide) (fun c4 => ?_) (fun c4 => ?_)
      · skip
        refine kx_aload_n C dX1_key_22 rfl 0 rfl ?_
        refine kx_lconst (v := lN 0) C dX1_key_23 (by decide +kernel) ?_
        refine kx_callVz (rest := []) (wr := []) C (m_walkBehind E J 0 n b y o Wm Pm Rm Ym Tm Cm Km 0 (by decide) HM) g1_101 1 rfl (by decide +kernel) ⟨Nat.le_of_ble_eq_true rfl, Nat.le_of_ble_eq_true rfl⟩ ⟨Nat.le_of_ble_eq_true rfl, Nat.le_of_ble_eq_true rfl⟩ [0, 1, 2, 3, 4, 5, 6, 7] [] rfl rfl (by decide) (by decide) (by decide) 0 rfl rfl rfl (Nat.le_of_ble_eq_true rfl) dX1_key_24 (fun v w q5 => ?_)
        obtain ⟨Rv, Yv, Tv, Cv, Kv, hTv, hCv, HM2, hcase, rfl⟩ := q5
        refine kx_eqw (ws2 := (kmW E J 0 n b y o Wm Pm Rv Yv Tv Cv Kv)) rfl ?_
        obtain ⟨-, -, -, -, -, -, hA_Rv, hA_Yv, hKv⟩ := id HM2
        have hK := walk0 H1 HP HW Hb Hy Ho hcase
        refine kx_pop C dX1_key_27 rfl ?_
        refine kx_aload_n C dX1_key_28 rfl 0 rfl ?_
        refine kx_get (v := .ref (J 7)) (ci := 1) C kin1 0 rfl rfl 11 (by decide) fl1_29 rfl rfl dX1_key_29 ?_
        refine kx_iload_n C dX1_key_32 rfl 1 rfl ?_
        refine kx_iald C 7 rfl (j := sl) (by omega) (by decide) dX1_key_33 ?_
        exact hE (Nat.le_of_ble_eq_true rfl) (Nat.le_of_ble_eq_true rfl) dX1_key_34 (Or.inl ⟨sl, rfl, esl, Rv, Yv, Tv, Cv, Kv, congrArg nI (hK sl esl), HM2, rfl⟩)
      · skip
        exact absurd c4 (by decide)
  · skip
    refine kx_eqw (ws2 := (kmW E J cd n b y o Wm Pm Rm Ym Tm Cm Km)) rfl ?_
    refine kx_if_eq (tgt := 13) C (by omega) dX1_key_6 (by decide) (fun c6 => ?_) (fun c6 => ?_)
    · skip
      refine kx_iconst (v := nI 1) C dX1_key_13 (by decide +kernel) ?_
      refine kx_callVz (rest := []) (wr := []) C (m_isGood E J cd n b y o Wm Pm Rm Ym Tm Cm Km 1 (by decide)) g1_61 1 rfl (by decide +kernel) ⟨Nat.le_of_ble_eq_true rfl, Nat.le_of_ble_eq_true rfl⟩ ⟨Nat.le_of_ble_eq_true rfl, Nat.le_of_ble_eq_true rfl⟩ [0, 1, 2, 3, 4, 5, 6, 7] [] rfl rfl (by decide) (by decide) (by decide) 0 rfl rfl rfl (Nat.le_of_ble_eq_true rfl) dX1_key_14 (fun v w q7 => ?_)
      obtain ⟨rfl, rfl⟩ := q7
      refine kx_eqw (ws2 := (kmW E J 1 n b y o Wm Pm Rm Ym Tm Cm Km)) rfl ?_
      refine kx_topn (b := 0) rfl ?_
      refine kx_if_ne (tgt := 22) C (by omega) dX1_key_17 (by decide) (fun c8 => ?_) (fun c8 => ?_)
      · skip
        exact absurd c8 (by decide)
      · skip
        refine kx_iconst (v := nI 0) C dX1_key_20 (by decide +kernel) ?_
        exact hE (Nat.le_of_ble_eq_true rfl) (Nat.le_of_ble_eq_true rfl) dX1_key_21 (Or.inr ⟨q1, rfl, rfl⟩)
    · skip
      exact absurd c6 (by decide)

set_option maxHeartbeats 4000000 in
set_option maxRecDepth 100000 in
theorem m_pick (E : KE) (J : Nat → Nat) (cd n b y o : Nat) (Wm Pm Rm Ym Tm Cm Km : Nat → Nat) (x0 : Int64) (x1 : Int32) (HM : kMo n b y o Wm Pm Rm Ym Km) : kMi E yX1_pick cX1_pick 4 (rk 10 0) [.ref (J 0), .long (x0), .int (x1)] (kmW E J cd n b y o Wm Pm Rm Ym Tm Cm Km) (fun r w => (∃ i0 sl, x0 = lN i0 ∧ i0 < 1000000000000000000 ∧ x1 = nI sl ∧ sl < n ∧ ∃ (Rv Yv Tv Cv Kv : Nat → Nat), r = kO (kFs n b y o Pm Wm (lsN n b y o Pm Wm) i0 (sl + 1)).1 ∧ kMo n b y o Wm Pm Rv Yv Kv ∧ w = (kmW E J 0 n b y o Wm Pm Rv Yv Tv Cv Kv)) ∨ ((¬ ((∃ j, j < 1000000000000000000 ∧ x0 = lN j) ∧ (∃ j, j < n ∧ x1 = nI j))) ∧ r = nI 0 ∧ w = (kmW E J 1 n b y o Wm Pm Rm Ym Tm Cm Km))) := by
  refine kMi_of (cc := cX1_pick) (maxL := 4) (by decide) (Nat.le_of_ble_eq_true rfl) ?_
  intro G C hE
  obtain ⟨H1, Hb, Hy, Ho, HP, HW, HRm, HYm, HKm⟩ := id HM
  refine kx_aload_n C dX1_pick_0 rfl 0 rfl ?_
  refine kx_aload_n C dX1_pick_1 rfl 0 rfl ?_
  refine kx_iload_n C dX1_pick_2 rfl 2 rfl ?_
  refine kx_callVz (rest := [.ref (J 0)]) (wr := []) C (m_isSlice E J cd n b y o Wm Pm Rm Ym Tm Cm Km x1 H1) g1_67 1 rfl (by decide +kernel) ⟨Nat.le_of_ble_eq_true rfl, Nat.le_of_ble_eq_true rfl⟩ ⟨Nat.le_of_ble_eq_true rfl, Nat.le_of_ble_eq_true rfl⟩ [0, 1, 2, 3, 4, 5, 6, 7] [] rfl rfl (by decide) (by decide) (by decide) 0 rfl rfl rfl (Nat.le_of_ble_eq_true rfl) dX1_pick_3 (fun v w q1 => ?_)
  rcases q1 with ⟨q1, rfl, rfl⟩ | ⟨q1, rfl, rfl⟩
  · skip
    refine kx_eqw (ws2 := (kmW E J cd n b y o Wm Pm Rm Ym Tm Cm Km)) rfl ?_
    obtain ⟨sl, esl, rfl⟩ := q1
    refine kx_if_eq (tgt := 24) C (by omega) dX1_pick_6 (by decide) (fun c2 => ?_) (fun c2 => ?_)
    · skip
      exact absurd c2 (by decide)
    · skip
      refine kx_lload_n C dX1_pick_9 rfl 1 rfl ?_
      refine kx_lconst (v := lN 0) C dX1_pick_10 (by decide +kernel) ?_
      refine kx_ldc2 (v := lN 999999999999999999) C kc1_105 dX1_pick_11 ?_
      refine kx_callSz (rest := [.ref (J 0)]) (wr := (kmW E J cd n b y o Wm Pm Rm Ym Tm Cm Km)) C (m_isInL E x0) g1_51 3 rfl (by decide +kernel) ⟨Nat.le_of_ble_eq_true rfl, Nat.le_of_ble_eq_true rfl⟩ ⟨Nat.le_of_ble_eq_true rfl, Nat.le_of_ble_eq_true rfl⟩ [] [0, 1, 2, 3, 4, 5, 6, 7] rfl rfl (by decide) (by decide) (by decide) rfl (Nat.le_of_ble_eq_true rfl) dX1_pick_14 (fun v w q3 => ?_)
      rcases q3 with ⟨q3, rfl, rfl⟩ | ⟨q3, rfl, rfl⟩
      · skip
        refine kx_eqw (ws2 := (kmW E J cd n b y o Wm Pm Rm Ym Tm Cm Km)) (List.append_nil _) ?_
        obtain ⟨i0, ei0, rfl⟩ := q3
        refine kx_if_eq (tgt := 24) C (by omega) dX1_pick_17 (by decide) (fun c4 => ?_) (fun c4 => ?_)
        · skip
          exact absurd c4 (by decide)
        · skip
          refine kx_iconst (v := nI 0) C dX1_pick_20 (by decide +kernel) ?_
          refine kx_goto (tgt := 25) C dX1_pick_21 (by decide) ?_
          refine kx_callVz (rest := []) (wr := []) C (m_isGood E J cd n b y o Wm Pm Rm Ym Tm Cm Km 0 (by decide)) g1_61 1 rfl (by decide +kernel) ⟨Nat.le_of_ble_eq_true rfl, Nat.le_of_ble_eq_true rfl⟩ ⟨Nat.le_of_ble_eq_true rfl, Nat.le_of_ble_eq_true rfl⟩ [0, 1, 2, 3, 4, 5, 6, 7] [] rfl rfl (by decide) (by decide) (by decide) 0 rfl rfl rfl (Nat.le_of_ble_eq_true rfl) dX1_pick_25 (fun v w q5 => ?_)
          obtain ⟨rfl, rfl⟩ := q5
          refine kx_eqw (ws2 := (kmW E J 0 n b y o Wm Pm Rm Ym Tm Cm Km)) rfl ?_
          refine kx_topn (b := 1) rfl ?_
          refine kx_if_ne (tgt := 33) C (by omega) dX1_pick_28 (by decide) (fun c6 => ?_) (fun c6 => ?_)
          · skip
            refine kx_aload_n C dX1_pick_33 rfl 0 rfl ?_
            refine kx_lload_n C dX1_pick_34 rfl 1 rfl ?_
            refine kx_callVz (rest := []) (wr := []) C (m_walkBehind E J 0 n b y o Wm Pm Rm Ym Tm Cm Km i0 ei0 HM) g1_101 1 rfl (by decide +kernel) ⟨Nat.le_of_ble_eq_true rfl, Nat.le_of_ble_eq_true rfl⟩ ⟨Nat.le_of_ble_eq_true rfl, Nat.le_of_ble_eq_true rfl⟩ [0, 1, 2, 3, 4, 5, 6, 7] [] rfl rfl (by decide) (by decide) (by decide) 0 rfl rfl rfl (Nat.le_of_ble_eq_true rfl) dX1_pick_35 (fun v w q7 => ?_)
            obtain ⟨Rv, Yv, Tv, Cv, Kv, hTv, hCv, HM2, hcase, rfl⟩ := q7
            refine kx_eqw (ws2 := (kmW E J 0 n b y o Wm Pm Rv Yv Tv Cv Kv)) rfl ?_
            obtain ⟨-, -, -, -, -, -, hA_Rv, hA_Yv, hKv⟩ := id HM2
            rcases hcase with ⟨rfl, hK⟩ | ⟨rfl, hB⟩
            · skip
              refine kx_if_eq (tgt := 50) C (by omega) dX1_pick_38 (by decide) (fun c8 => ?_) (fun c8 => ?_)
              · skip
                exact absurd c8 (by decide)
              · skip
                refine kx_aload_n C dX1_pick_41 rfl 0 rfl ?_
                refine kx_get (v := .ref (J 7)) (ci := 1) C kin1 0 rfl rfl 11 (by decide) fl1_29 rfl rfl dX1_pick_42 ?_
                refine kx_iload_n C dX1_pick_45 rfl 2 rfl ?_
                refine kx_iald C 7 rfl (j := sl) (by omega) (by decide) dX1_pick_46 ?_
                refine kx_goto (tgt := 51) C dX1_pick_47 (by decide) ?_
                exact hE (Nat.le_of_ble_eq_true rfl) (Nat.le_of_ble_eq_true rfl) dX1_pick_51 (Or.inl ⟨i0, sl, rfl, ei0, rfl, esl, Rv, Yv, Tv, Cv, Kv, ((congrArg nI (hK sl esl)).trans (kO_lt (by have := hK sl esl; have := hKv sl; omega)).symm), HM2, rfl⟩)
            · skip
              refine kx_if_eq (tgt := 50) C (by omega) dX1_pick_38 (by decide) (fun c9 => ?_) (fun c9 => ?_)
              · skip
                refine kx_iconst (v := (-1)) C dX1_pick_50 (by decide +kernel) ?_
                exact hE (Nat.le_of_ble_eq_true rfl) (Nat.le_of_ble_eq_true rfl) dX1_pick_51 (Or.inl ⟨i0, sl, rfl, ei0, rfl, esl, Rv, Yv, Tv, Cv, Kv, (by rw [kFs_bad hB sl]; rfl), HM2, rfl⟩)
              · skip
                exact absurd c9 (by decide)
          · skip
            exact absurd c6 (by decide)
      · skip
        refine kx_eqw (ws2 := (kmW E J cd n b y o Wm Pm Rm Ym Tm Cm Km)) (List.append_nil _) ?_
        refine kx_if_eq (tgt := 24) C (by omega) dX1_pick_17 (by decide) (fun c10 => ?_) (fun c10 => ?_)
        · skip
          refine kx_iconst (v := nI 1) C dX1_pick_24 (by decide +kernel) ?_
          refine kx_callVz (rest := []) (wr := []) C (m_isGood E J cd n b y o Wm Pm Rm Ym Tm Cm Km 1 (by decide)) g1_61 1 rfl (by decide +kernel) ⟨Nat.le_of_ble_eq_true rfl, Nat.le_of_ble_eq_true rfl⟩ ⟨Nat.le_of_ble_eq_true rfl, Nat.le_of_ble_eq_true rfl⟩ [0, 1, 2, 3, 4, 5, 6, 7] [] rfl rfl (by decide) (by decide) (by decide) 0 rfl rfl rfl (Nat.le_of_ble_eq_true rfl) dX1_pick_25 (fun v w q11 => ?_)
          obtain ⟨rfl, rfl⟩ := q11
          refine kx_eqw (ws2 := (kmW E J 1 n b y o Wm Pm Rm Ym Tm Cm Km)) rfl ?_
          refine kx_topn (b := 0) rfl ?_
          refine kx_if_ne (tgt := 33) C (by omega) dX1_pick_28 (by decide) (fun c12 => ?_) (fun c12 => ?_)
          · skip
            exact absurd c12 (by decide)
          · skip
            refine kx_iconst (v := nI 0) C dX1_pick_31 (by decide +kernel) ?_
            exact hE (Nat.le_of_ble_eq_true rfl) (Nat.le_of_ble_eq_true rfl) dX1_pick_32 (Or.inr ⟨(fun z => q3 z.1), rfl, rfl⟩)
        · skip
          exact absurd c10 (by decide)
  · skip
    refine kx_eqw (ws2 := (kmW E J cd n b y o Wm Pm Rm Ym Tm Cm Km)) rfl ?_
    refine kx_if_eq (tgt := 24) C (by omega) dX1_pick_6 (by decide) (fun c13 => ?_) (fun c13 => ?_)
    · skip
      refine kx_iconst (v := nI 1) C dX1_pick_24 (by decide +kernel) ?_
      refine kx_callVz (rest := []) (wr := []) C (m_isGood E J cd n b y o Wm Pm Rm Ym Tm Cm Km 1 (by decide)) g1_61 1 rfl (by decide +kernel) ⟨Nat.le_of_ble_eq_true rfl, Nat.le_of_ble_eq_true rfl⟩ ⟨Nat.le_of_ble_eq_true rfl, Nat.le_of_ble_eq_true rfl⟩ [0, 1, 2, 3, 4, 5, 6, 7] [] rfl rfl (by decide) (by decide) (by decide) 0 rfl rfl rfl (Nat.le_of_ble_eq_true rfl) dX1_pick_25 (fun v w q14 => ?_)
      obtain ⟨rfl, rfl⟩ := q14
      refine kx_eqw (ws2 := (kmW E J 1 n b y o Wm Pm Rm Ym Tm Cm Km)) rfl ?_
      refine kx_topn (b := 0) rfl ?_
      refine kx_if_ne (tgt := 33) C (by omega) dX1_pick_28 (by decide) (fun c15 => ?_) (fun c15 => ?_)
      · skip
        exact absurd c15 (by decide)
      · skip
        refine kx_iconst (v := nI 0) C dX1_pick_31 (by decide +kernel) ?_
        exact hE (Nat.le_of_ble_eq_true rfl) (Nat.le_of_ble_eq_true rfl) dX1_pick_32 (Or.inr ⟨(fun z => q1 z.2), rfl, rfl⟩)
    · skip
      exact absurd c13 (by decide)

set_option maxHeartbeats 4000000 in
set_option maxRecDepth 100000 in
theorem m_through (E : KE) (J : Nat → Nat) (cd n b y o : Nat) (Wm Pm Rm Ym Tm Cm Km : Nat → Nat) (x0 x1 : Int32) (HM : kMo n b y o Wm Pm Rm Ym Km) : kMi E yX1_through cX1_through 3 (rk 10 0) [.ref (J 0), .int (x0), .int (x1)] (kmW E J cd n b y o Wm Pm Rm Ym Tm Cm Km) (fun r w => (∃ sl k, x0 = nI sl ∧ sl < n ∧ x1 = nI k ∧ k ≤ 23 ∧ ∃ (Rv Yv Tv Cv Kv : Nat → Nat), r = nI (thrN n b y o Pm Wm sl k) ∧ kMo n b y o Wm Pm Rv Yv Kv ∧ w = (kmW E J 0 n b y o Wm Pm Rv Yv Tv Cv Kv)) ∨ ((¬ ((∃ j, j < n ∧ x0 = nI j) ∧ (∃ j, j ≤ 23 ∧ x1 = nI j))) ∧ r = nI 0 ∧ w = (kmW E J 1 n b y o Wm Pm Rm Ym Tm Cm Km))) := by
  refine kMi_of (cc := cX1_through) (maxL := 3) (by decide) (Nat.le_of_ble_eq_true rfl) ?_
  intro G C hE
  obtain ⟨H1, Hb, Hy, Ho, HP, HW, HRm, HYm, HKm⟩ := id HM
  refine kx_aload_n C dX1_through_0 rfl 0 rfl ?_
  refine kx_aload_n C dX1_through_1 rfl 0 rfl ?_
  refine kx_iload_n C dX1_through_2 rfl 1 rfl ?_
  refine kx_callVz (rest := [.ref (J 0)]) (wr := []) C (m_isSlice E J cd n b y o Wm Pm Rm Ym Tm Cm Km x0 H1) g1_67 1 rfl (by decide +kernel) ⟨Nat.le_of_ble_eq_true rfl, Nat.le_of_ble_eq_true rfl⟩ ⟨Nat.le_of_ble_eq_true rfl, Nat.le_of_ble_eq_true rfl⟩ [0, 1, 2, 3, 4, 5, 6, 7] [] rfl rfl (by decide) (by decide) (by decide) 0 rfl rfl rfl (Nat.le_of_ble_eq_true rfl) dX1_through_3 (fun v w q1 => ?_)
  rcases q1 with ⟨q1, rfl, rfl⟩ | ⟨q1, rfl, rfl⟩
  · skip
    refine kx_eqw (ws2 := (kmW E J cd n b y o Wm Pm Rm Ym Tm Cm Km)) rfl ?_
    obtain ⟨sl, esl, rfl⟩ := q1
    refine kx_if_eq (tgt := 20) C (by omega) dX1_through_6 (by decide) (fun c2 => ?_) (fun c2 => ?_)
    · skip
      exact absurd c2 (by decide)
    · skip
      refine kx_iload_n C dX1_through_9 rfl 2 rfl ?_
      refine kx_callSz (rest := [.ref (J 0)]) (wr := (kmW E J cd n b y o Wm Pm Rm Ym Tm Cm Km)) C (m_isKey E x1) g1_83 1 rfl (by decide +kernel) ⟨Nat.le_of_ble_eq_true rfl, Nat.le_of_ble_eq_true rfl⟩ ⟨Nat.le_of_ble_eq_true rfl, Nat.le_of_ble_eq_true rfl⟩ [] [0, 1, 2, 3, 4, 5, 6, 7] rfl rfl (by decide) (by decide) (by decide) rfl (Nat.le_of_ble_eq_true rfl) dX1_through_10 (fun v w q3 => ?_)
      rcases q3 with ⟨q3, rfl, rfl⟩ | ⟨q3, rfl, rfl⟩
      · skip
        refine kx_eqw (ws2 := (kmW E J cd n b y o Wm Pm Rm Ym Tm Cm Km)) (List.append_nil _) ?_
        obtain ⟨k, ek, rfl⟩ := q3
        refine kx_if_eq (tgt := 20) C (by omega) dX1_through_13 (by decide) (fun c4 => ?_) (fun c4 => ?_)
        · skip
          exact absurd c4 (by decide)
        · skip
          refine kx_iconst (v := nI 0) C dX1_through_16 (by decide +kernel) ?_
          refine kx_goto (tgt := 21) C dX1_through_17 (by decide) ?_
          refine kx_callVz (rest := []) (wr := []) C (m_isGood E J cd n b y o Wm Pm Rm Ym Tm Cm Km 0 (by decide)) g1_61 1 rfl (by decide +kernel) ⟨Nat.le_of_ble_eq_true rfl, Nat.le_of_ble_eq_true rfl⟩ ⟨Nat.le_of_ble_eq_true rfl, Nat.le_of_ble_eq_true rfl⟩ [0, 1, 2, 3, 4, 5, 6, 7] [] rfl rfl (by decide) (by decide) (by decide) 0 rfl rfl rfl (Nat.le_of_ble_eq_true rfl) dX1_through_21 (fun v w q5 => ?_)
          obtain ⟨rfl, rfl⟩ := q5
          refine kx_eqw (ws2 := (kmW E J 0 n b y o Wm Pm Rm Ym Tm Cm Km)) rfl ?_
          refine kx_topn (b := 1) rfl ?_
          refine kx_if_ne (tgt := 29) C (by omega) dX1_through_24 (by decide) (fun c6 => ?_) (fun c6 => ?_)
          · skip
            refine kx_aload_n C dX1_through_29 rfl 0 rfl ?_
            refine kx_callVv (rest := []) (wr := []) C (m_lay E J 0 n b y o Wm Pm Rm Ym Tm Cm Km H1 HP HW) g1_95 0 rfl (by decide +kernel) ⟨Nat.le_of_ble_eq_true rfl, Nat.le_of_ble_eq_true rfl⟩ ⟨Nat.le_of_ble_eq_true rfl, Nat.le_of_ble_eq_true rfl⟩ [0, 1, 2, 3, 4, 5, 6, 7] [] rfl rfl (by decide) (by decide) (by decide) 0 rfl rfl rfl (Nat.le_of_ble_eq_true rfl) dX1_through_30 (fun w q7 => ?_)
            obtain ⟨Tv, Cv, hTv, hCv, rfl⟩ := q7
            refine kx_eqw (ws2 := (kmW E J 0 n b y o Wm Pm Rm Ym Tv Cv Km)) rfl ?_
            refine kx_aload_n C dX1_through_33 rfl 0 rfl ?_
            refine kx_iload_n C dX1_through_34 rfl 1 rfl ?_
            refine kx_iconst (v := nI 1) C dX1_through_35 (by decide +kernel) ?_
            refine kx_iload_n C dX1_through_36 rfl 2 rfl ?_
            refine kx_ishlR C dX1_through_37 ?_
            refine kx_callVi (rest := []) (wr := []) C (m_weigh E J 0 n b y o Wm Pm Rm Ym Tv Cv Km (nI sl) ((nI (1)) <<< ((nI (k)) &&& 31)) H1 Hb Hy Ho HP HW hTv hCv HRm HYm) g1_98 2 rfl (by decide +kernel) ⟨Nat.le_of_ble_eq_true rfl, Nat.le_of_ble_eq_true rfl⟩ ⟨Nat.le_of_ble_eq_true rfl, Nat.le_of_ble_eq_true rfl⟩ [0, 1, 2, 3, 4, 5, 6, 7] [] rfl rfl (by decide) (by decide) (by decide) 0 rfl rfl rfl (Nat.le_of_ble_eq_true rfl) dX1_through_38 (fun v w q8 => ?_)
            obtain ⟨Rv, Yv, hR_Rv, hA_Rv, hA_Yv, rfl, rfl⟩ := q8
            refine kx_eqw (ws2 := (kmW E J 0 n b y o Wm Pm Rv Yv Tv Cv Km)) rfl ?_
            refine kx_topn (b := thrN n b y o Pm Wm sl k) (weigh_thr H1 HP HW Hb Hy Ho esl (by omega)) ?_
            exact hE (Nat.le_of_ble_eq_true rfl) (Nat.le_of_ble_eq_true rfl) dX1_through_41 (Or.inl ⟨sl, k, rfl, esl, rfl, ek, Rv, Yv, Tv, Cv, Km, rfl, ⟨H1, Hb, Hy, Ho, HP, HW, hA_Rv, hA_Yv, HKm⟩, rfl⟩)
          · skip
            exact absurd c6 (by decide)
      · skip
        refine kx_eqw (ws2 := (kmW E J cd n b y o Wm Pm Rm Ym Tm Cm Km)) (List.append_nil _) ?_
        refine kx_if_eq (tgt := 20) C (by omega) dX1_through_13 (by decide) (fun c9 => ?_) (fun c9 => ?_)
        · skip
          refine kx_iconst (v := nI 1) C dX1_through_20 (by decide +kernel) ?_
          refine kx_callVz (rest := []) (wr := []) C (m_isGood E J cd n b y o Wm Pm Rm Ym Tm Cm Km 1 (by decide)) g1_61 1 rfl (by decide +kernel) ⟨Nat.le_of_ble_eq_true rfl, Nat.le_of_ble_eq_true rfl⟩ ⟨Nat.le_of_ble_eq_true rfl, Nat.le_of_ble_eq_true rfl⟩ [0, 1, 2, 3, 4, 5, 6, 7] [] rfl rfl (by decide) (by decide) (by decide) 0 rfl rfl rfl (Nat.le_of_ble_eq_true rfl) dX1_through_21 (fun v w q10 => ?_)
          obtain ⟨rfl, rfl⟩ := q10
          refine kx_eqw (ws2 := (kmW E J 1 n b y o Wm Pm Rm Ym Tm Cm Km)) rfl ?_
          refine kx_topn (b := 0) rfl ?_
          refine kx_if_ne (tgt := 29) C (by omega) dX1_through_24 (by decide) (fun c11 => ?_) (fun c11 => ?_)
          · skip
            exact absurd c11 (by decide)
          · skip
            refine kx_iconst (v := nI 0) C dX1_through_27 (by decide +kernel) ?_
            exact hE (Nat.le_of_ble_eq_true rfl) (Nat.le_of_ble_eq_true rfl) dX1_through_28 (Or.inr ⟨(fun z => q3 z.2), rfl, rfl⟩)
        · skip
          exact absurd c9 (by decide)
  · skip
    refine kx_eqw (ws2 := (kmW E J cd n b y o Wm Pm Rm Ym Tm Cm Km)) rfl ?_
    refine kx_if_eq (tgt := 20) C (by omega) dX1_through_6 (by decide) (fun c12 => ?_) (fun c12 => ?_)
    · skip
      refine kx_iconst (v := nI 1) C dX1_through_20 (by decide +kernel) ?_
      refine kx_callVz (rest := []) (wr := []) C (m_isGood E J cd n b y o Wm Pm Rm Ym Tm Cm Km 1 (by decide)) g1_61 1 rfl (by decide +kernel) ⟨Nat.le_of_ble_eq_true rfl, Nat.le_of_ble_eq_true rfl⟩ ⟨Nat.le_of_ble_eq_true rfl, Nat.le_of_ble_eq_true rfl⟩ [0, 1, 2, 3, 4, 5, 6, 7] [] rfl rfl (by decide) (by decide) (by decide) 0 rfl rfl rfl (Nat.le_of_ble_eq_true rfl) dX1_through_21 (fun v w q13 => ?_)
      obtain ⟨rfl, rfl⟩ := q13
      refine kx_eqw (ws2 := (kmW E J 1 n b y o Wm Pm Rm Ym Tm Cm Km)) rfl ?_
      refine kx_topn (b := 0) rfl ?_
      refine kx_if_ne (tgt := 29) C (by omega) dX1_through_24 (by decide) (fun c14 => ?_) (fun c14 => ?_)
      · skip
        exact absurd c14 (by decide)
      · skip
        refine kx_iconst (v := nI 0) C dX1_through_27 (by decide +kernel) ?_
        exact hE (Nat.le_of_ble_eq_true rfl) (Nat.le_of_ble_eq_true rfl) dX1_through_28 (Or.inr ⟨(fun z => q1 z.1), rfl, rfl⟩)
    · skip
      exact absurd c12 (by decide)

set_option maxHeartbeats 4000000 in
set_option maxRecDepth 100000 in
theorem m_near (E : KE) (J : Nat → Nat) (cd n b y o : Nat) (Wm Pm Rm Ym Tm Cm Km : Nat → Nat) (x0 x1 : Int32) (HM : kMo n b y o Wm Pm Rm Ym Km) : kMi E yX1_near cX1_near 6 (rk 10 0) [.ref (J 0), .int (x0), .int (x1)] (kmW E J cd n b y o Wm Pm Rm Ym Tm Cm Km) (fun r w => (∃ sl sk, x0 = nI sl ∧ sl < n ∧ x1 = nI sk ∧ sk ≤ 100000 ∧ ∃ (Rv Yv Tv Cv Kv : Nat → Nat), r = nrN (fun k => thrN n b y o Pm Wm sl k) (lsN n b y o Pm Wm + sk) 24 ∧ kMo n b y o Wm Pm Rv Yv Kv ∧ w = (kmW E J 0 n b y o Wm Pm Rv Yv Tv Cv Kv)) ∨ ((¬ ((∃ j, j < n ∧ x0 = nI j) ∧ (∃ j, j ≤ 100000 ∧ x1 = nI j))) ∧ r = nI 0 ∧ w = (kmW E J 1 n b y o Wm Pm Rm Ym Tm Cm Km))) := by
  refine kMi_of (cc := cX1_near) (maxL := 6) (by decide) (Nat.le_of_ble_eq_true rfl) ?_
  intro G C hE
  obtain ⟨H1, Hb, Hy, Ho, HP, HW, HRm, HYm, HKm⟩ := id HM
  refine kx_aload_n C dX1_near_0 rfl 0 rfl ?_
  refine kx_aload_n C dX1_near_1 rfl 0 rfl ?_
  refine kx_iload_n C dX1_near_2 rfl 1 rfl ?_
  refine kx_callVz (rest := [.ref (J 0)]) (wr := []) C (m_isSlice E J cd n b y o Wm Pm Rm Ym Tm Cm Km x0 H1) g1_67 1 rfl (by decide +kernel) ⟨Nat.le_of_ble_eq_true rfl, Nat.le_of_ble_eq_true rfl⟩ ⟨Nat.le_of_ble_eq_true rfl, Nat.le_of_ble_eq_true rfl⟩ [0, 1, 2, 3, 4, 5, 6, 7] [] rfl rfl (by decide) (by decide) (by decide) 0 rfl rfl rfl (Nat.le_of_ble_eq_true rfl) dX1_near_3 (fun v w q1 => ?_)
  rcases q1 with ⟨q1, rfl, rfl⟩ | ⟨q1, rfl, rfl⟩
  · skip
    refine kx_eqw (ws2 := (kmW E J cd n b y o Wm Pm Rm Ym Tm Cm Km)) rfl ?_
    obtain ⟨sl, esl, rfl⟩ := q1
    refine kx_if_eq (tgt := 25) C (by omega) dX1_near_6 (by decide) (fun c2 => ?_) (fun c2 => ?_)
    · skip
      exact absurd c2 (by decide)
    · skip
      refine kx_iload_n C dX1_near_9 rfl 2 rfl ?_
      refine kx_i2l (v := (x1).toInt64) C dX1_near_10 rfl ?_
      refine kx_lconst (v := lN 0) C dX1_near_11 (by decide +kernel) ?_
      refine kx_ldc2 (v := lN 100000) C kc1_107 dX1_near_12 ?_
      refine kx_callSz (rest := [.ref (J 0)]) (wr := (kmW E J cd n b y o Wm Pm Rm Ym Tm Cm Km)) C (m_isIn0 E x1 100000 (by decide)) g1_51 3 rfl (by decide +kernel) ⟨Nat.le_of_ble_eq_true rfl, Nat.le_of_ble_eq_true rfl⟩ ⟨Nat.le_of_ble_eq_true rfl, Nat.le_of_ble_eq_true rfl⟩ [] [0, 1, 2, 3, 4, 5, 6, 7] rfl rfl (by decide) (by decide) (by decide) rfl (Nat.le_of_ble_eq_true rfl) dX1_near_15 (fun v w q3 => ?_)
      rcases q3 with ⟨q3, rfl, rfl⟩ | ⟨q3, rfl, rfl⟩
      · skip
        refine kx_eqw (ws2 := (kmW E J cd n b y o Wm Pm Rm Ym Tm Cm Km)) (List.append_nil _) ?_
        obtain ⟨sk, esk, rfl⟩ := q3
        refine kx_if_eq (tgt := 25) C (by omega) dX1_near_18 (by decide) (fun c4 => ?_) (fun c4 => ?_)
        · skip
          exact absurd c4 (by decide)
        · skip
          refine kx_iconst (v := nI 0) C dX1_near_21 (by decide +kernel) ?_
          refine kx_goto (tgt := 26) C dX1_near_22 (by decide) ?_
          refine kx_callVz (rest := []) (wr := []) C (m_isGood E J cd n b y o Wm Pm Rm Ym Tm Cm Km 0 (by decide)) g1_61 1 rfl (by decide +kernel) ⟨Nat.le_of_ble_eq_true rfl, Nat.le_of_ble_eq_true rfl⟩ ⟨Nat.le_of_ble_eq_true rfl, Nat.le_of_ble_eq_true rfl⟩ [0, 1, 2, 3, 4, 5, 6, 7] [] rfl rfl (by decide) (by decide) (by decide) 0 rfl rfl rfl (Nat.le_of_ble_eq_true rfl) dX1_near_26 (fun v w q5 => ?_)
          obtain ⟨rfl, rfl⟩ := q5
          refine kx_eqw (ws2 := (kmW E J 0 n b y o Wm Pm Rm Ym Tm Cm Km)) rfl ?_
          refine kx_topn (b := 1) rfl ?_
          refine kx_if_ne (tgt := 34) C (by omega) dX1_near_29 (by decide) (fun c6 => ?_) (fun c6 => ?_)
          · skip
            refine kx_aload_n C dX1_near_34 rfl 0 rfl ?_
            refine kx_callVv (rest := []) (wr := []) C (m_lay E J 0 n b y o Wm Pm Rm Ym Tm Cm Km H1 HP HW) g1_95 0 rfl (by decide +kernel) ⟨Nat.le_of_ble_eq_true rfl, Nat.le_of_ble_eq_true rfl⟩ ⟨Nat.le_of_ble_eq_true rfl, Nat.le_of_ble_eq_true rfl⟩ [0, 1, 2, 3, 4, 5, 6, 7] [] rfl rfl (by decide) (by decide) (by decide) 0 rfl rfl rfl (Nat.le_of_ble_eq_true rfl) dX1_near_35 (fun w q7 => ?_)
            obtain ⟨Tv, Cv, hTv, hCv, rfl⟩ := q7
            refine kx_eqw (ws2 := (kmW E J 0 n b y o Wm Pm Rm Ym Tv Cv Km)) rfl ?_
            refine kx_aload_n C dX1_near_38 rfl 0 rfl ?_
            refine kx_iconst (v := (-1)) C dX1_near_39 (by decide +kernel) ?_
            refine kx_iconst (v := nI 0) C dX1_near_40 (by decide +kernel) ?_
            refine kx_callVi (rest := []) (wr := []) C (m_weigh E J 0 n b y o Wm Pm Rm Ym Tv Cv Km (-1) (nI 0) H1 Hb Hy Ho HP HW hTv hCv HRm HYm) g1_98 2 rfl (by decide +kernel) ⟨Nat.le_of_ble_eq_true rfl, Nat.le_of_ble_eq_true rfl⟩ ⟨Nat.le_of_ble_eq_true rfl, Nat.le_of_ble_eq_true rfl⟩ [0, 1, 2, 3, 4, 5, 6, 7] [] rfl rfl (by decide) (by decide) (by decide) 0 rfl rfl rfl (Nat.le_of_ble_eq_true rfl) dX1_near_41 (fun v w q8 => ?_)
            obtain ⟨Rv, Yv, hR_Rv, hA_Rv, hA_Yv, rfl, rfl⟩ := q8
            refine kx_eqw (ws2 := (kmW E J 0 n b y o Wm Pm Rv Yv Tv Cv Km)) rfl ?_
            refine kx_topn (b := lsN n b y o Pm Wm) (ls_of H1) ?_
            have hls := lsN_le H1 HP HW Hb Hy Ho
            have lp51 : ∀ (N_lp51 : Nat) (i : Nat) (Ra : Nat → Nat) (Ya : Nat → Nat), (i ≤ 24) → (∀ j, Ra j ≤ 1000237600) → (∀ j, Ya j ≤ 1000000000000000000) → (24 < i + N_lp51) → kx E (rk 10 0) G 6 0 0 (kmW E J 0 n b y o Wm Pm Ra Ya Tv Cv Km) [(0, .ref (J 0)), (1, .int (nI (sl))), (2, .int (nI (sk))), (3, .int (nI (lsN n b y o Pm Wm))), (4, .int (nrN (fun k => thrN n b y o Pm Wm sl k) (lsN n b y o Pm Wm + sk) i)), (5, .int (nI (i)))] 51 [] := by
              intro N_lp51
              induction N_lp51 with
              | zero =>
                intro i Ra Ya h0_lp51 h1_lp51 h2_lp51 hm_lp51
                exact absurd hm_lp51 (by omega)
              | succ N_lp51 ih_lp51 =>
                intro i Ra Ya h0_lp51 h1_lp51 h2_lp51 hm_lp51
                refine kx_iload C dX1_near_51 5 rfl ?_
                refine kx_bipush (v := nI 24) C dX1_near_53 (by decide +kernel) ?_
                refine kx_icmp_ge (tgt := 92) C (by omega) (by omega) dX1_near_55 (by decide) (fun c9 => ?_) (fun c9 => ?_)
                · skip
                  obtain rfl : 24 = i := by omega
                  refine kx_iload C dX1_near_92 4 rfl ?_
                  exact hE (Nat.le_of_ble_eq_true rfl) (Nat.le_of_ble_eq_true rfl) dX1_near_94 (Or.inl ⟨sl, sk, rfl, esl, rfl, esk, Ra, Ya, Tv, Cv, Km, rfl, ⟨H1, Hb, Hy, Ho, HP, HW, h1_lp51, h2_lp51, HKm⟩, rfl⟩)
                · skip
                  refine kx_iload C dX1_near_58 4 rfl ?_
                  refine kx_aload_n C dX1_near_60 rfl 0 rfl ?_
                  refine kx_iload_n C dX1_near_61 rfl 1 rfl ?_
                  refine kx_iconst (v := nI 1) C dX1_near_62 (by decide +kernel) ?_
                  refine kx_iload C dX1_near_63 5 rfl ?_
                  refine kx_ishlR C dX1_near_65 ?_
                  refine kx_callVi (rest := [.int (nrN (fun k => thrN n b y o Pm Wm sl k) (lsN n b y o Pm Wm + sk) i)]) (wr := []) C (m_weigh E J 0 n b y o Wm Pm Ra Ya Tv Cv Km (nI sl) ((nI (1)) <<< ((nI (i)) &&& 31)) H1 Hb Hy Ho HP HW hTv hCv h1_lp51 h2_lp51) g1_98 2 rfl (by decide +kernel) ⟨Nat.le_of_ble_eq_true rfl, Nat.le_of_ble_eq_true rfl⟩ ⟨Nat.le_of_ble_eq_true rfl, Nat.le_of_ble_eq_true rfl⟩ [0, 1, 2, 3, 4, 5, 6, 7] [] rfl rfl (by decide) (by decide) (by decide) 0 rfl rfl rfl (Nat.le_of_ble_eq_true rfl) dX1_near_66 (fun v w q10 => ?_)
                  obtain ⟨Rb, Yb, hR_Rb, hA_Rb, hA_Yb, rfl, rfl⟩ := q10
                  refine kx_eqw (ws2 := (kmW E J 0 n b y o Wm Pm Rb Yb Tv Cv Km)) rfl ?_
                  refine kx_topn (b := thrN n b y o Pm Wm sl i) (weigh_thr H1 HP HW Hb Hy Ho esl (by omega)) ?_
                  refine kx_iload_n C dX1_near_69 rfl 3 rfl ?_
                  refine kx_iload_n C dX1_near_70 rfl 2 rfl ?_
                  refine kx_iadd C dX1_near_71 ?_
                  refine kx_icmp_gt (tgt := 82) C (by have := kThr_le H1 HP HW Hb Hy Ho esl i; omega) (by omega) dX1_near_72 (by decide) (fun c11 => ?_) (fun c11 => ?_)
                  · skip
                    refine kx_iconst (v := nI 0) C dX1_near_82 (by decide +kernel) ?_
                    refine kx_iorR C dX1_near_83 ?_
                    refine kx_istore (lv2 := [(4, .int ((nrN (fun k => thrN n b y o Pm Wm sl k) (lsN n b y o Pm Wm + sk) i) ||| (nI (0)))), (0, .ref (J 0)), (1, .int (nI (sl))), (2, .int (nI (sk))), (3, .int (nI (lsN n b y o Pm Wm))), (5, .int (nI (i)))]) C dX1_near_84 (by decide) rfl ?_
                    refine kx_iinc (v := nI (i + 1)) (lv2 := [(5, .int (nI (i + 1))), (4, .int ((nrN (fun k => thrN n b y o Pm Wm sl k) (lsN n b y o Pm Wm + sk) i) ||| (nI (0)))), (0, .ref (J 0)), (1, .int (nI (sl))), (2, .int (nI (sk))), (3, .int (nI (lsN n b y o Pm Wm)))]) C dX1_near_86 5 rfl (kI1 _) (by decide) rfl ?_
                    refine kx_goto (tgt := 51) C dX1_near_89 (by decide) ?_
                    refine kx_lvv (x := .int ((nrN (fun k => thrN n b y o Pm Wm sl k) (lsN n b y o Pm Wm + sk) i) ||| (nI (0)))) (z := .int (nrN (fun k => thrN n b y o Pm Wm sl k) (lsN n b y o Pm Wm + sk) (i + 1))) (lv2 := [(5, .int (nI (i + 1))), (4, .int (nrN (fun k => thrN n b y o Pm Wm sl k) (lsN n b y o Pm Wm + sk) (i + 1))), (0, .ref (J 0)), (1, .int (nI (sl))), (2, .int (nI (sk))), (3, .int (nI (lsN n b y o Pm Wm)))]) (by simp only [nrN]; rw [if_neg (by omega), k_or0]) 1 rfl rfl ?_
                    refine kx_lv (lv2 := [(0, .ref (J 0)), (1, .int (nI (sl))), (2, .int (nI (sk))), (3, .int (nI (lsN n b y o Pm Wm))), (4, .int (nrN (fun k => thrN n b y o Pm Wm sl k) (lsN n b y o Pm Wm + sk) (i + 1))), (5, .int (nI (i + 1)))]) [2, 3, 4, 5, 1, 0] rfl ?_
                    refine kx_eqw (ws2 := (kmW E J 0 n b y o Wm Pm Rb Yb Tv Cv Km)) rfl ?_
                    exact ih_lp51 (i + 1) Rb Yb (by omega) hA_Rb hA_Yb (by omega)
                  · skip
                    refine kx_iconst (v := nI 1) C dX1_near_75 (by decide +kernel) ?_
                    refine kx_iload C dX1_near_76 5 rfl ?_
                    refine kx_ishlR C dX1_near_78 ?_
                    refine kx_goto (tgt := 83) C dX1_near_79 (by decide) ?_
                    refine kx_iorR C dX1_near_83 ?_
                    refine kx_istore (lv2 := [(4, .int ((nrN (fun k => thrN n b y o Pm Wm sl k) (lsN n b y o Pm Wm + sk) i) ||| ((nI (1)) <<< ((nI (i)) &&& 31)))), (0, .ref (J 0)), (1, .int (nI (sl))), (2, .int (nI (sk))), (3, .int (nI (lsN n b y o Pm Wm))), (5, .int (nI (i)))]) C dX1_near_84 (by decide) rfl ?_
                    refine kx_iinc (v := nI (i + 1)) (lv2 := [(5, .int (nI (i + 1))), (4, .int ((nrN (fun k => thrN n b y o Pm Wm sl k) (lsN n b y o Pm Wm + sk) i) ||| ((nI (1)) <<< ((nI (i)) &&& 31)))), (0, .ref (J 0)), (1, .int (nI (sl))), (2, .int (nI (sk))), (3, .int (nI (lsN n b y o Pm Wm)))]) C dX1_near_86 5 rfl (kI1 _) (by decide) rfl ?_
                    refine kx_goto (tgt := 51) C dX1_near_89 (by decide) ?_
                    refine kx_lvv (x := .int ((nrN (fun k => thrN n b y o Pm Wm sl k) (lsN n b y o Pm Wm + sk) i) ||| ((nI (1)) <<< ((nI (i)) &&& 31)))) (z := .int (nrN (fun k => thrN n b y o Pm Wm sl k) (lsN n b y o Pm Wm + sk) (i + 1))) (lv2 := [(5, .int (nI (i + 1))), (4, .int (nrN (fun k => thrN n b y o Pm Wm sl k) (lsN n b y o Pm Wm + sk) (i + 1))), (0, .ref (J 0)), (1, .int (nI (sl))), (2, .int (nI (sk))), (3, .int (nI (lsN n b y o Pm Wm)))]) (by simp only [nrN]; rw [if_pos c11]) 1 rfl rfl ?_
                    refine kx_lv (lv2 := [(0, .ref (J 0)), (1, .int (nI (sl))), (2, .int (nI (sk))), (3, .int (nI (lsN n b y o Pm Wm))), (4, .int (nrN (fun k => thrN n b y o Pm Wm sl k) (lsN n b y o Pm Wm + sk) (i + 1))), (5, .int (nI (i + 1)))]) [2, 3, 4, 5, 1, 0] rfl ?_
                    refine kx_eqw (ws2 := (kmW E J 0 n b y o Wm Pm Rb Yb Tv Cv Km)) rfl ?_
                    exact ih_lp51 (i + 1) Rb Yb (by omega) hA_Rb hA_Yb (by omega)
            refine kx_istore_n (lv2 := [(3, .int (nI (lsN n b y o Pm Wm))), (0, .ref (J 0)), (1, .int (nI (sl))), (2, .int (nI (sk)))]) C dX1_near_44 rfl (by decide) rfl ?_
            refine kx_iconst (v := nI 0) C dX1_near_45 (by decide +kernel) ?_
            refine kx_istore (lv2 := [(4, .int (nI (0))), (3, .int (nI (lsN n b y o Pm Wm))), (0, .ref (J 0)), (1, .int (nI (sl))), (2, .int (nI (sk)))]) C dX1_near_46 (by decide) rfl ?_
            refine kx_iconst (v := nI 0) C dX1_near_48 (by decide +kernel) ?_
            refine kx_istore (lv2 := [(5, .int (nI (0))), (4, .int (nI (0))), (3, .int (nI (lsN n b y o Pm Wm))), (0, .ref (J 0)), (1, .int (nI (sl))), (2, .int (nI (sk)))]) C dX1_near_49 (by decide) rfl ?_
            refine kx_lv (lv2 := [(0, .ref (J 0)), (1, .int (nI (sl))), (2, .int (nI (sk))), (3, .int (nI (lsN n b y o Pm Wm))), (4, .int (nrN (fun k => thrN n b y o Pm Wm sl k) (lsN n b y o Pm Wm + sk) 0)), (5, .int (nI (0)))]) [3, 4, 5, 2, 1, 0] rfl ?_
            refine kx_eqw (ws2 := (kmW E J 0 n b y o Wm Pm Rv Yv Tv Cv Km)) rfl ?_
            exact lp51 25 0 Rv Yv (by omega) hA_Rv hA_Yv (by omega)
          · skip
            exact absurd c6 (by decide)
      · skip
        refine kx_eqw (ws2 := (kmW E J cd n b y o Wm Pm Rm Ym Tm Cm Km)) (List.append_nil _) ?_
        refine kx_if_eq (tgt := 25) C (by omega) dX1_near_18 (by decide) (fun c12 => ?_) (fun c12 => ?_)
        · skip
          refine kx_iconst (v := nI 1) C dX1_near_25 (by decide +kernel) ?_
          refine kx_callVz (rest := []) (wr := []) C (m_isGood E J cd n b y o Wm Pm Rm Ym Tm Cm Km 1 (by decide)) g1_61 1 rfl (by decide +kernel) ⟨Nat.le_of_ble_eq_true rfl, Nat.le_of_ble_eq_true rfl⟩ ⟨Nat.le_of_ble_eq_true rfl, Nat.le_of_ble_eq_true rfl⟩ [0, 1, 2, 3, 4, 5, 6, 7] [] rfl rfl (by decide) (by decide) (by decide) 0 rfl rfl rfl (Nat.le_of_ble_eq_true rfl) dX1_near_26 (fun v w q13 => ?_)
          obtain ⟨rfl, rfl⟩ := q13
          refine kx_eqw (ws2 := (kmW E J 1 n b y o Wm Pm Rm Ym Tm Cm Km)) rfl ?_
          refine kx_topn (b := 0) rfl ?_
          refine kx_if_ne (tgt := 34) C (by omega) dX1_near_29 (by decide) (fun c14 => ?_) (fun c14 => ?_)
          · skip
            exact absurd c14 (by decide)
          · skip
            refine kx_iconst (v := nI 0) C dX1_near_32 (by decide +kernel) ?_
            exact hE (Nat.le_of_ble_eq_true rfl) (Nat.le_of_ble_eq_true rfl) dX1_near_33 (Or.inr ⟨(fun z => q3 z.2), rfl, rfl⟩)
        · skip
          exact absurd c12 (by decide)
  · skip
    refine kx_eqw (ws2 := (kmW E J cd n b y o Wm Pm Rm Ym Tm Cm Km)) rfl ?_
    refine kx_if_eq (tgt := 25) C (by omega) dX1_near_6 (by decide) (fun c15 => ?_) (fun c15 => ?_)
    · skip
      refine kx_iconst (v := nI 1) C dX1_near_25 (by decide +kernel) ?_
      refine kx_callVz (rest := []) (wr := []) C (m_isGood E J cd n b y o Wm Pm Rm Ym Tm Cm Km 1 (by decide)) g1_61 1 rfl (by decide +kernel) ⟨Nat.le_of_ble_eq_true rfl, Nat.le_of_ble_eq_true rfl⟩ ⟨Nat.le_of_ble_eq_true rfl, Nat.le_of_ble_eq_true rfl⟩ [0, 1, 2, 3, 4, 5, 6, 7] [] rfl rfl (by decide) (by decide) (by decide) 0 rfl rfl rfl (Nat.le_of_ble_eq_true rfl) dX1_near_26 (fun v w q16 => ?_)
      obtain ⟨rfl, rfl⟩ := q16
      refine kx_eqw (ws2 := (kmW E J 1 n b y o Wm Pm Rm Ym Tm Cm Km)) rfl ?_
      refine kx_topn (b := 0) rfl ?_
      refine kx_if_ne (tgt := 34) C (by omega) dX1_near_29 (by decide) (fun c17 => ?_) (fun c17 => ?_)
      · skip
        exact absurd c17 (by decide)
      · skip
        refine kx_iconst (v := nI 0) C dX1_near_32 (by decide +kernel) ?_
        exact hE (Nat.le_of_ble_eq_true rfl) (Nat.le_of_ble_eq_true rfl) dX1_near_33 (Or.inr ⟨(fun z => q1 z.1), rfl, rfl⟩)
    · skip
      exact absurd c15 (by decide)

set_option maxHeartbeats 4000000 in
set_option maxRecDepth 100000 in
theorem m_sure (E : KE) (J : Nat → Nat) (cd n b y o : Nat) (Wm Pm Rm Ym Tm Cm Km : Nat → Nat) (x0 : Int32) (HM : kMo n b y o Wm Pm Rm Ym Km) : kMi E yX1_sure cX1_sure 4 (rk 10 0) [.ref (J 0), .int (x0)] (kmW E J cd n b y o Wm Pm Rm Ym Tm Cm Km) (fun r w => (∃ sl, x0 = nI sl ∧ sl < n ∧ ∃ (Rv Yv Tv Cv Kv : Nat → Nat), nxN n b y o Pm Wm (fsN n b y o Pm Wm sl) sl ≠ 0 ∧ r = nI (100 * (nxN n b y o Pm Wm (fsN n b y o Pm Wm sl) sl - lsN n b y o Pm Wm) / nxN n b y o Pm Wm (fsN n b y o Pm Wm sl) sl) ∧ kMo n b y o Wm Pm Rv Yv Kv ∧ w = (kmW E J 0 n b y o Wm Pm Rv Yv Tv Cv Kv)) ∨ (∃ sl, x0 = nI sl ∧ sl < n ∧ ∃ (Rv Yv Tv Cv Kv : Nat → Nat), nxN n b y o Pm Wm (fsN n b y o Pm Wm sl) sl = 0 ∧ r = nI 0 ∧ kMo n b y o Wm Pm Rv Yv Kv ∧ w = (kmW E J 2 n b y o Wm Pm Rv Yv Tv Cv Kv)) ∨ ((¬ (∃ j, j < n ∧ x0 = nI j)) ∧ r = nI 0 ∧ w = (kmW E J 1 n b y o Wm Pm Rm Ym Tm Cm Km))) := by
  refine kMi_of (cc := cX1_sure) (maxL := 4) (by decide) (Nat.le_of_ble_eq_true rfl) ?_
  intro G C hE
  obtain ⟨H1, Hb, Hy, Ho, HP, HW, HRm, HYm, HKm⟩ := id HM
  refine kx_aload_n C dX1_sure_0 rfl 0 rfl ?_
  refine kx_aload_n C dX1_sure_1 rfl 0 rfl ?_
  refine kx_iload_n C dX1_sure_2 rfl 1 rfl ?_
  refine kx_callVz (rest := [.ref (J 0)]) (wr := []) C (m_isSlice E J cd n b y o Wm Pm Rm Ym Tm Cm Km x0 H1) g1_67 1 rfl (by decide +kernel) ⟨Nat.le_of_ble_eq_true rfl, Nat.le_of_ble_eq_true rfl⟩ ⟨Nat.le_of_ble_eq_true rfl, Nat.le_of_ble_eq_true rfl⟩ [0, 1, 2, 3, 4, 5, 6, 7] [] rfl rfl (by decide) (by decide) (by decide) 0 rfl rfl rfl (Nat.le_of_ble_eq_true rfl) dX1_sure_3 (fun v w q1 => ?_)
  rcases q1 with ⟨q1, rfl, rfl⟩ | ⟨q1, rfl, rfl⟩
  · skip
    refine kx_eqw (ws2 := (kmW E J cd n b y o Wm Pm Rm Ym Tm Cm Km)) rfl ?_
    obtain ⟨sl, esl, rfl⟩ := q1
    refine kx_if_eq (tgt := 13) C (by omega) dX1_sure_6 (by decide) (fun c2 => ?_) (fun c2 => ?_)
    · skip
      exact absurd c2 (by decide)
    · skip
      refine kx_iconst (v := nI 0) C dX1_sure_9 (by decide +kernel) ?_
      refine kx_goto (tgt := 14) C dX1_sure_10 (by decide) ?_
      refine kx_callVz (rest := []) (wr := []) C (m_isGood E J cd n b y o Wm Pm Rm Ym Tm Cm Km 0 (by decide)) g1_61 1 rfl (by decide +kernel) ⟨Nat.le_of_ble_eq_true rfl, Nat.le_of_ble_eq_true rfl⟩ ⟨Nat.le_of_ble_eq_true rfl, Nat.le_of_ble_eq_true rfl⟩ [0, 1, 2, 3, 4, 5, 6, 7] [] rfl rfl (by decide) (by decide) (by decide) 0 rfl rfl rfl (Nat.le_of_ble_eq_true rfl) dX1_sure_14 (fun v w q3 => ?_)
      obtain ⟨rfl, rfl⟩ := q3
      refine kx_eqw (ws2 := (kmW E J 0 n b y o Wm Pm Rm Ym Tm Cm Km)) rfl ?_
      refine kx_topn (b := 1) rfl ?_
      refine kx_if_ne (tgt := 22) C (by omega) dX1_sure_17 (by decide) (fun c4 => ?_) (fun c4 => ?_)
      · skip
        refine kx_aload_n C dX1_sure_22 rfl 0 rfl ?_
        refine kx_lconst (v := lN 0) C dX1_sure_23 (by decide +kernel) ?_
        refine kx_callVz (rest := []) (wr := []) C (m_walkBehind E J 0 n b y o Wm Pm Rm Ym Tm Cm Km 0 (by decide) HM) g1_101 1 rfl (by decide +kernel) ⟨Nat.le_of_ble_eq_true rfl, Nat.le_of_ble_eq_true rfl⟩ ⟨Nat.le_of_ble_eq_true rfl, Nat.le_of_ble_eq_true rfl⟩ [0, 1, 2, 3, 4, 5, 6, 7] [] rfl rfl (by decide) (by decide) (by decide) 0 rfl rfl rfl (Nat.le_of_ble_eq_true rfl) dX1_sure_24 (fun v w q5 => ?_)
        obtain ⟨Rv, Yv, Tv, Cv, Kv, hTv, hCv, HM2, hcase, rfl⟩ := q5
        refine kx_eqw (ws2 := (kmW E J 0 n b y o Wm Pm Rv Yv Tv Cv Kv)) rfl ?_
        obtain ⟨-, -, -, -, -, -, hA_Rv, hA_Yv, hKv⟩ := id HM2
        have hK := walk0 H1 HP HW Hb Hy Ho hcase
        refine kx_pop C dX1_sure_27 rfl ?_
        refine kx_aload_n C dX1_sure_28 rfl 0 rfl ?_
        refine kx_iconst (v := (-1)) C dX1_sure_29 (by decide +kernel) ?_
        refine kx_iconst (v := nI 0) C dX1_sure_30 (by decide +kernel) ?_
        refine kx_callVi (rest := []) (wr := []) C (m_weigh E J 0 n b y o Wm Pm Rv Yv Tv Cv Kv (-1) (nI 0) H1 Hb Hy Ho HP HW hTv hCv hA_Rv hA_Yv) g1_98 2 rfl (by decide +kernel) ⟨Nat.le_of_ble_eq_true rfl, Nat.le_of_ble_eq_true rfl⟩ ⟨Nat.le_of_ble_eq_true rfl, Nat.le_of_ble_eq_true rfl⟩ [0, 1, 2, 3, 4, 5, 6, 7] [] rfl rfl (by decide) (by decide) (by decide) 0 rfl rfl rfl (Nat.le_of_ble_eq_true rfl) dX1_sure_31 (fun v w q6 => ?_)
        obtain ⟨R2, Y2, hR_R2, hA_R2, hA_Y2, rfl, rfl⟩ := q6
        refine kx_eqw (ws2 := (kmW E J 0 n b y o Wm Pm R2 Y2 Tv Cv Kv)) rfl ?_
        refine kx_topn (b := lsN n b y o Pm Wm) (ls_of H1) ?_
        refine kx_istore_n (lv2 := [(2, .int (nI (lsN n b y o Pm Wm))), (0, .ref (J 0)), (1, .int (nI (sl)))]) C dX1_sure_34 rfl (by decide) rfl ?_
        refine kx_aload_n C dX1_sure_35 rfl 1 rfl ?_
        refine kx_iload_n C dX1_sure_36 rfl 2 rfl ?_
        refine kx_iconst (v := nI 1) C dX1_sure_37 (by decide +kernel) ?_
        refine kx_aload_n C dX1_sure_38 rfl 1 rfl ?_
        refine kx_get (v := .ref (J 7)) (ci := 1) C kin1 0 rfl rfl 11 (by decide) fl1_29 rfl rfl dX1_sure_39 ?_
        refine kx_iload_n C dX1_sure_42 rfl 2 rfl ?_
        refine kx_iald C 7 rfl (j := sl) (by omega) (by decide) dX1_sure_43 ?_
        refine kx_topn (b := fsN n b y o Pm Wm sl) (hK sl esl) ?_
        refine kx_ishlR C dX1_sure_44 ?_
        refine kx_iconst (v := (-1)) C dX1_sure_45 (by decide +kernel) ?_
        refine kx_ixorR C dX1_sure_46 ?_
        refine kx_callVi (rest := []) (wr := []) C (m_weigh E J 0 n b y o Wm Pm R2 Y2 Tv Cv Kv (nI sl) (((nI (1)) <<< ((nI (fsN n b y o Pm Wm sl)) &&& 31)) ^^^ ((-1))) H1 Hb Hy Ho HP HW hTv hCv hA_R2 hA_Y2) g1_98 2 rfl (by decide +kernel) ⟨Nat.le_of_ble_eq_true rfl, Nat.le_of_ble_eq_true rfl⟩ ⟨Nat.le_of_ble_eq_true rfl, Nat.le_of_ble_eq_true rfl⟩ [0, 1, 2, 3, 4, 5, 6, 7] [] rfl rfl (by decide) (by decide) (by decide) 0 rfl rfl rfl (Nat.le_of_ble_eq_true rfl) dX1_sure_47 (fun v w q7 => ?_)
        obtain ⟨R3, Y3, hR_R3, hA_R3, hA_Y3, rfl, rfl⟩ := q7
        refine kx_eqw (ws2 := (kmW E J 0 n b y o Wm Pm R3 Y3 Tv Cv Kv)) rfl ?_
        refine kx_topn (b := nxN n b y o Pm Wm (fsN n b y o Pm Wm sl) sl) (weigh_nxt H1 esl (fsN_lt H1 HP HW Hb Hy Ho esl)) ?_
        have hln : lsN n b y o Pm Wm ≤ nxN n b y o Pm Wm (fsN n b y o Pm Wm sl) sl := ls_le_nx H1 HP HW Hb Hy Ho esl
        have hnb : nxN n b y o Pm Wm (fsN n b y o Pm Wm sl) sl ≤ 20000000 := kNx_le H1 HP HW Hb Hy Ho esl
        refine kx_istore_n (lv2 := [(3, .int (nI (nxN n b y o Pm Wm (fsN n b y o Pm Wm sl) sl))), (2, .int (nI (lsN n b y o Pm Wm))), (0, .ref (J 0)), (1, .int (nI (sl)))]) C dX1_sure_50 rfl (by decide) rfl ?_
        refine kx_aload_n C dX1_sure_51 rfl 2 rfl ?_
        refine kx_iload_n C dX1_sure_52 rfl 0 rfl ?_
        refine kx_if_ne (tgt := 60) C (by omega) dX1_sure_53 (by decide) (fun c8 => ?_) (fun c8 => ?_)
        · skip
          refine kx_iconst (v := nI 0) C dX1_sure_60 (by decide +kernel) ?_
          refine kx_callVz (rest := []) (wr := []) C (m_isGood E J 0 n b y o Wm Pm R3 Y3 Tv Cv Kv 0 (by decide)) g1_61 1 rfl (by decide +kernel) ⟨Nat.le_of_ble_eq_true rfl, Nat.le_of_ble_eq_true rfl⟩ ⟨Nat.le_of_ble_eq_true rfl, Nat.le_of_ble_eq_true rfl⟩ [0, 1, 2, 3, 4, 5, 6, 7] [] rfl rfl (by decide) (by decide) (by decide) 0 rfl rfl rfl (Nat.le_of_ble_eq_true rfl) dX1_sure_61 (fun v w q9 => ?_)
          obtain ⟨rfl, rfl⟩ := q9
          refine kx_eqw (ws2 := (kmW E J 0 n b y o Wm Pm R3 Y3 Tv Cv Kv)) rfl ?_
          refine kx_topn (b := 1) rfl ?_
          refine kx_if_eq (tgt := 82) C (by omega) dX1_sure_64 (by decide) (fun c10 => ?_) (fun c10 => ?_)
          · skip
            exact absurd c10 (by decide)
          · skip
            refine kx_ldc2 (v := lN 100) C kc1_109 dX1_sure_67 ?_
            refine kx_iload_n C dX1_sure_70 rfl 0 rfl ?_
            refine kx_iload_n C dX1_sure_71 rfl 1 rfl ?_
            refine kx_isub C (by omega) dX1_sure_72 ?_
            refine kx_i2l (v := lN ((nxN n b y o Pm Wm (fsN n b y o Pm Wm sl) sl) - (lsN n b y o Pm Wm))) C dX1_sure_73 (nI_l (by omega)) ?_
            refine kx_lmul C dX1_sure_74 ?_
            refine kx_iload_n C dX1_sure_75 rfl 0 rfl ?_
            refine kx_i2l (v := lN (nxN n b y o Pm Wm (fsN n b y o Pm Wm sl) sl)) C dX1_sure_76 (nI_l (by omega)) ?_
            refine kx_ldiv C (by omega) (by omega) (by omega) dX1_sure_77 ?_
            refine kx_l2i C dX1_sure_78 ?_
            refine kx_goto (tgt := 83) C dX1_sure_79 (by decide) ?_
            exact hE (Nat.le_of_ble_eq_true rfl) (Nat.le_of_ble_eq_true rfl) dX1_sure_83 (Or.inl ⟨sl, rfl, esl, R3, Y3, Tv, Cv, Kv, c8, rfl, ⟨H1, Hb, Hy, Ho, HP, HW, hA_R3, hA_Y3, hKv⟩, rfl⟩)
        · skip
          refine kx_iconst (v := nI 2) C dX1_sure_56 (by decide +kernel) ?_
          refine kx_goto (tgt := 61) C dX1_sure_57 (by decide) ?_
          refine kx_callVz (rest := []) (wr := []) C (m_isGood E J 0 n b y o Wm Pm R3 Y3 Tv Cv Kv 2 (by decide)) g1_61 1 rfl (by decide +kernel) ⟨Nat.le_of_ble_eq_true rfl, Nat.le_of_ble_eq_true rfl⟩ ⟨Nat.le_of_ble_eq_true rfl, Nat.le_of_ble_eq_true rfl⟩ [0, 1, 2, 3, 4, 5, 6, 7] [] rfl rfl (by decide) (by decide) (by decide) 0 rfl rfl rfl (Nat.le_of_ble_eq_true rfl) dX1_sure_61 (fun v w q11 => ?_)
          obtain ⟨rfl, rfl⟩ := q11
          refine kx_eqw (ws2 := (kmW E J 2 n b y o Wm Pm R3 Y3 Tv Cv Kv)) rfl ?_
          refine kx_topn (b := 0) rfl ?_
          refine kx_if_eq (tgt := 82) C (by omega) dX1_sure_64 (by decide) (fun c12 => ?_) (fun c12 => ?_)
          · skip
            refine kx_iconst (v := nI 0) C dX1_sure_82 (by decide +kernel) ?_
            exact hE (Nat.le_of_ble_eq_true rfl) (Nat.le_of_ble_eq_true rfl) dX1_sure_83 (Or.inr (Or.inl ⟨sl, rfl, esl, R3, Y3, Tv, Cv, Kv, c8, rfl, ⟨H1, Hb, Hy, Ho, HP, HW, hA_R3, hA_Y3, hKv⟩, rfl⟩))
          · skip
            exact absurd c12 (by decide)
      · skip
        exact absurd c4 (by decide)
  · skip
    refine kx_eqw (ws2 := (kmW E J cd n b y o Wm Pm Rm Ym Tm Cm Km)) rfl ?_
    refine kx_if_eq (tgt := 13) C (by omega) dX1_sure_6 (by decide) (fun c13 => ?_) (fun c13 => ?_)
    · skip
      refine kx_iconst (v := nI 1) C dX1_sure_13 (by decide +kernel) ?_
      refine kx_callVz (rest := []) (wr := []) C (m_isGood E J cd n b y o Wm Pm Rm Ym Tm Cm Km 1 (by decide)) g1_61 1 rfl (by decide +kernel) ⟨Nat.le_of_ble_eq_true rfl, Nat.le_of_ble_eq_true rfl⟩ ⟨Nat.le_of_ble_eq_true rfl, Nat.le_of_ble_eq_true rfl⟩ [0, 1, 2, 3, 4, 5, 6, 7] [] rfl rfl (by decide) (by decide) (by decide) 0 rfl rfl rfl (Nat.le_of_ble_eq_true rfl) dX1_sure_14 (fun v w q14 => ?_)
      obtain ⟨rfl, rfl⟩ := q14
      refine kx_eqw (ws2 := (kmW E J 1 n b y o Wm Pm Rm Ym Tm Cm Km)) rfl ?_
      refine kx_topn (b := 0) rfl ?_
      refine kx_if_ne (tgt := 22) C (by omega) dX1_sure_17 (by decide) (fun c15 => ?_) (fun c15 => ?_)
      · skip
        exact absurd c15 (by decide)
      · skip
        refine kx_iconst (v := nI 0) C dX1_sure_20 (by decide +kernel) ?_
        exact hE (Nat.le_of_ble_eq_true rfl) (Nat.le_of_ble_eq_true rfl) dX1_sure_21 (Or.inr (Or.inr ⟨q1, rfl, rfl⟩))
    · skip
      exact absurd c13 (by decide)
