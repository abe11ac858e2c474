set_option maxHeartbeats 4000000 in
set_option maxRecDepth 100000 in
theorem m_numberOf (E : KE) (J : Nat → Nat) (cd n b y o : Nat) (Wm Pm Rm Ym Tm Cm Km : Nat → Nat) (p k : Nat) (H0 : p < 12) (H1 : k < 24) : kMi E yX1_numberOf cX1_numberOf 3 (rk 0 0) [.ref (J 0), .int (nI (p)), .int (nI (k))] (kmW E J cd n b y o Wm Pm Rm Ym Tm Cm Km) (fun r w => r = nI (Pm (numX p k)) ∧ w = (kmW E J cd n b y o Wm Pm Rm Ym Tm Cm Km)) := by
  refine kMi_of (cc := cX1_numberOf) (maxL := 3) (by decide) (Nat.le_of_ble_eq_true rfl) ?_
  intro G C hE
  refine kx_aload_n C dX1_numberOf_0 rfl 0 rfl ?_
  refine kx_get (v := .ref (J 2)) (ci := 1) C kin1 0 rfl rfl 3 (by decide) fl1_13 rfl rfl dX1_numberOf_1 ?_
  refine kx_bipush (v := nI 12) C dX1_numberOf_4 (by decide +kernel) ?_
  refine kx_iload_n C dX1_numberOf_6 rfl 2 rfl ?_
  refine kx_bipush (v := nI 12) C dX1_numberOf_7 (by decide +kernel) ?_
  refine kx_idiv C (by omega) (by decide) (by decide) dX1_numberOf_9 ?_
  refine kx_imul C dX1_numberOf_10 ?_
  refine kx_iload_n C dX1_numberOf_11 rfl 1 rfl ?_
  refine kx_iload_n C dX1_numberOf_12 rfl 2 rfl ?_
  refine kx_bipush (v := nI 12) C dX1_numberOf_13 (by decide +kernel) ?_
  refine kx_irem C (by omega) (by decide) (by decide) dX1_numberOf_15 ?_
  refine kx_isubR C dX1_numberOf_16 ?_
  refine kx_bipush (v := nI 12) C dX1_numberOf_17 (by decide +kernel) ?_
  refine kx_iaddR C dX1_numberOf_19 ?_
  refine kx_topi (a := ((nI (p)) - (nI ((k) % (12)))) + (nI (12))) (b := nI (p + 12 - k % 12)) (kNum (by omega)) ?_
  refine kx_bipush (v := nI 12) C dX1_numberOf_20 (by decide +kernel) ?_
  refine kx_irem C (by omega) (by decide) (by decide) dX1_numberOf_22 ?_
  refine kx_iadd C dX1_numberOf_23 ?_
  refine kx_topn (b := numX p k) (by unfold numX; omega) ?_
  refine kx_iald C 2 rfl (j := numX p k) (by exact numX_lt H1) (by decide) dX1_numberOf_24 ?_
  exact hE (Nat.le_of_ble_eq_true rfl) (Nat.le_of_ble_eq_true rfl) dX1_numberOf_25 ⟨rfl, rfl⟩

set_option maxHeartbeats 4000000 in
set_option maxRecDepth 100000 in
theorem m_fitOf (E : KE) (J : Nat → Nat) (cd n b y o : Nat) (Wm Pm Rm Ym Tm Cm Km : Nat → Nat) (sl k : Nat) (H0 : sl < 40) (H1 : k < 24) : kMi E yX1_fitOf cX1_fitOf 5 (rk 1 0) [.ref (J 0), .int (nI (sl)), .int (nI (k))] (kmW E J cd n b y o Wm Pm Rm Ym Tm Cm Km) (fun r w => r = nI (fitN Pm Wm sl k) ∧ w = (kmW E J cd n b y o Wm Pm Rm Ym Tm Cm Km)) := by
  refine kMi_of (cc := cX1_fitOf) (maxL := 5) (by decide) (Nat.le_of_ble_eq_true rfl) ?_
  intro G C hE
  have lp5 : ∀ (N_lp5 : Nat) (i : Nat), (i ≤ 12) → (12 < i + N_lp5) → kx E (rk 1 0) G 5 0 0 (kmW E J cd n b y o Wm Pm Rm Ym Tm Cm Km) [(0, .ref (J 0)), (1, .int (nI (sl))), (2, .int (nI (k))), (3, .int (nI (sumN (fun p => Wm (sl * 12 + p) * Pm (numX p k)) i))), (4, .int (nI (i)))] 5 [] := by
    intro N_lp5
    induction N_lp5 with
    | zero =>
      intro i h0_lp5 hm_lp5
      exact absurd hm_lp5 (by omega)
    | succ N_lp5 ih_lp5 =>
      intro i h0_lp5 hm_lp5
      refine kx_iload C dX1_fitOf_5 4 rfl ?_
      refine kx_bipush (v := nI 12) C dX1_fitOf_7 (by decide +kernel) ?_
      refine kx_icmp_ge (tgt := 41) C (by omega) (by omega) dX1_fitOf_9 (by decide) (fun c1 => ?_) (fun c1 => ?_)
      · skip
        obtain rfl : 12 = i := by omega
        refine kx_iload_n C dX1_fitOf_41 rfl 3 rfl ?_
        exact hE (Nat.le_of_ble_eq_true rfl) (Nat.le_of_ble_eq_true rfl) dX1_fitOf_42 ⟨rfl, rfl⟩
      · skip
        refine kx_iload_n C dX1_fitOf_12 rfl 3 rfl ?_
        refine kx_aload_n C dX1_fitOf_13 rfl 0 rfl ?_
        refine kx_get (v := .ref (J 1)) (ci := 1) C kin1 0 rfl rfl 2 (by decide) fl1_7 rfl rfl dX1_fitOf_14 ?_
        refine kx_bipush (v := nI 12) C dX1_fitOf_17 (by decide +kernel) ?_
        refine kx_iload_n C dX1_fitOf_19 rfl 1 rfl ?_
        refine kx_imul C dX1_fitOf_20 ?_
        refine kx_iload C dX1_fitOf_21 4 rfl ?_
        refine kx_iadd C dX1_fitOf_23 ?_
        refine kx_topn (b := sl * 12 + i) (by omega) ?_
        refine kx_iald C 1 rfl (j := sl * 12 + i) (by omega) (by decide) dX1_fitOf_24 ?_
        refine kx_aload_n C dX1_fitOf_25 rfl 0 rfl ?_
        refine kx_iload C dX1_fitOf_26 4 rfl ?_
        refine kx_iload_n C dX1_fitOf_28 rfl 2 rfl ?_
        refine kx_callVi (rest := [.int (nI (Wm (sl * 12 + i))), .int (nI (sumN (fun p => Wm (sl * 12 + p) * Pm (numX p k)) i))]) (wr := []) C (m_numberOf E J cd n b y o Wm Pm Rm Ym Tm Cm Km i k (by omega) H1) g1_72 2 rfl (by decide +kernel) ⟨Nat.le_of_ble_eq_true rfl, Nat.le_of_ble_eq_true rfl⟩ ⟨Nat.le_of_ble_eq_true rfl, Nat.le_of_ble_eq_true rfl⟩ [0, 1, 2, 3, 4, 5, 6, 7] [] rfl rfl (by decide) (by decide) (by decide) 0 rfl rfl rfl (Nat.le_of_ble_eq_true rfl) dX1_fitOf_29 (fun v w q2 => ?_)
        obtain ⟨rfl, rfl⟩ := q2
        refine kx_eqw (ws2 := (kmW E J cd n b y o Wm Pm Rm Ym Tm Cm Km)) rfl ?_
        refine kx_imul C dX1_fitOf_32 ?_
        refine kx_iadd C dX1_fitOf_33 ?_
        refine kx_istore_n (lv2 := [(3, .int (nI ((sumN (fun p => Wm (sl * 12 + p) * Pm (numX p k)) i) + ((Wm (sl * 12 + i)) * (Pm (numX i k)))))), (0, .ref (J 0)), (1, .int (nI (sl))), (2, .int (nI (k))), (4, .int (nI (i)))]) C dX1_fitOf_34 rfl (by decide) rfl ?_
        refine kx_iinc (v := nI (i + 1)) (lv2 := [(4, .int (nI (i + 1))), (3, .int (nI ((sumN (fun p => Wm (sl * 12 + p) * Pm (numX p k)) i) + ((Wm (sl * 12 + i)) * (Pm (numX i k)))))), (0, .ref (J 0)), (1, .int (nI (sl))), (2, .int (nI (k)))]) C dX1_fitOf_35 4 rfl (kI1 _) (by decide) rfl ?_
        refine kx_goto (tgt := 5) C dX1_fitOf_38 (by decide) ?_
        refine kx_lv (lv2 := [(0, .ref (J 0)), (1, .int (nI (sl))), (2, .int (nI (k))), (3, .int (nI (sumN (fun p => Wm (sl * 12 + p) * Pm (numX p k)) (i + 1)))), (4, .int (nI (i + 1)))]) [2, 3, 4, 1, 0] rfl ?_
        refine kx_eqw (ws2 := (kmW E J cd n b y o Wm Pm Rm Ym Tm Cm Km)) rfl ?_
        exact ih_lp5 (i + 1) (by omega) (by omega)
  refine kx_iconst (v := nI 0) C dX1_fitOf_0 (by decide +kernel) ?_
  refine kx_istore_n (lv2 := [(3, .int (nI (0))), (0, .ref (J 0)), (1, .int (nI (sl))), (2, .int (nI (k)))]) C dX1_fitOf_1 rfl (by decide) rfl ?_
  refine kx_iconst (v := nI 0) C dX1_fitOf_2 (by decide +kernel) ?_
  refine kx_istore (lv2 := [(4, .int (nI (0))), (3, .int (nI (0))), (0, .ref (J 0)), (1, .int (nI (sl))), (2, .int (nI (k)))]) C dX1_fitOf_3 (by decide) rfl ?_
  refine kx_lv (lv2 := [(0, .ref (J 0)), (1, .int (nI (sl))), (2, .int (nI (k))), (3, .int (nI (sumN (fun p => Wm (sl * 12 + p) * Pm (numX p k)) 0))), (4, .int (nI (0)))]) [2, 3, 4, 1, 0] rfl ?_
  refine kx_eqw (ws2 := (kmW E J cd n b y o Wm Pm Rm Ym Tm Cm Km)) rfl ?_
  exact lp5 13 0 (by omega) (by omega)

set_option maxHeartbeats 4000000 in
set_option maxRecDepth 100000 in
theorem m_costOf (E : KE) (J : Nat → Nat) (cd n b y o : Nat) (Wm Pm Rm Ym Tm Cm Km : Nat → Nat) (sl k : Nat) (H0 : sl < 40) (H1 : k < 24) (HP : ∀ j, Pm j ≤ 99) (HW : ∀ j, Wm j ≤ 200) : kMi E yX1_costOf cX1_costOf 5 (rk 2 0) [.ref (J 0), .int (nI (sl)), .int (nI (k))] (kmW E J cd n b y o Wm Pm Rm Ym Tm Cm Km) (fun r w => r = nI (costN Pm Wm sl k) ∧ w = (kmW E J cd n b y o Wm Pm Rm Ym Tm Cm Km)) := by
  refine kMi_of (cc := cX1_costOf) (maxL := 5) (by decide) (Nat.le_of_ble_eq_true rfl) ?_
  intro G C hE
  have lp5 : ∀ (N_lp5 : Nat) (i : Nat), (i ≤ 24) → (24 < i + N_lp5) → kx E (rk 2 0) G 5 0 0 (kmW E J cd n b y o Wm Pm Rm Ym Tm Cm Km) [(0, .ref (J 0)), (1, .int (nI (sl))), (2, .int (nI (k))), (3, .int (nI (maxN (fun k => fitN Pm Wm sl k) i))), (4, .int (nI (i)))] 5 [] := by
    intro N_lp5
    induction N_lp5 with
    | zero =>
      intro i h0_lp5 hm_lp5
      exact absurd hm_lp5 (by omega)
    | succ N_lp5 ih_lp5 =>
      intro i h0_lp5 hm_lp5
      refine kx_iload C dX1_costOf_5 4 rfl ?_
      refine kx_bipush (v := nI 24) C dX1_costOf_7 (by decide +kernel) ?_
      refine kx_icmp_ge (tgt := 41) C (by omega) (by omega) dX1_costOf_9 (by decide) (fun c1 => ?_) (fun c1 => ?_)
      · skip
        obtain rfl : 24 = i := by omega
        refine kx_iload_n C dX1_costOf_41 rfl 3 rfl ?_
        refine kx_aload_n C dX1_costOf_42 rfl 0 rfl ?_
        refine kx_iload_n C dX1_costOf_43 rfl 1 rfl ?_
        refine kx_iload_n C dX1_costOf_44 rfl 2 rfl ?_
        refine kx_callVi (rest := [.int (nI (maxN (fun k => fitN Pm Wm sl k) 24))]) (wr := []) C (m_fitOf E J cd n b y o Wm Pm Rm Ym Tm Cm Km sl k H0 (by omega)) g1_76 2 rfl (by decide +kernel) ⟨Nat.le_of_ble_eq_true rfl, Nat.le_of_ble_eq_true rfl⟩ ⟨Nat.le_of_ble_eq_true rfl, Nat.le_of_ble_eq_true rfl⟩ [0, 1, 2, 3, 4, 5, 6, 7] [] rfl rfl (by decide) (by decide) (by decide) 0 rfl rfl rfl (Nat.le_of_ble_eq_true rfl) dX1_costOf_45 (fun v w q2 => ?_)
        obtain ⟨rfl, rfl⟩ := q2
        refine kx_eqw (ws2 := (kmW E J cd n b y o Wm Pm Rm Ym Tm Cm Km)) rfl ?_
        refine kx_isub C (le_maxN (f := fun k => fitN Pm Wm sl k) H1) dX1_costOf_48 ?_
        exact hE (Nat.le_of_ble_eq_true rfl) (Nat.le_of_ble_eq_true rfl) dX1_costOf_49 ⟨rfl, rfl⟩
      · skip
        refine kx_aload_n C dX1_costOf_12 rfl 0 rfl ?_
        refine kx_iload_n C dX1_costOf_13 rfl 1 rfl ?_
        refine kx_iload C dX1_costOf_14 4 rfl ?_
        refine kx_callVi (rest := []) (wr := []) C (m_fitOf E J cd n b y o Wm Pm Rm Ym Tm Cm Km sl i H0 (by omega)) g1_76 2 rfl (by decide +kernel) ⟨Nat.le_of_ble_eq_true rfl, Nat.le_of_ble_eq_true rfl⟩ ⟨Nat.le_of_ble_eq_true rfl, Nat.le_of_ble_eq_true rfl⟩ [0, 1, 2, 3, 4, 5, 6, 7] [] rfl rfl (by decide) (by decide) (by decide) 0 rfl rfl rfl (Nat.le_of_ble_eq_true rfl) dX1_costOf_16 (fun v w q3 => ?_)
        obtain ⟨rfl, rfl⟩ := q3
        refine kx_eqw (ws2 := (kmW E J cd n b y o Wm Pm Rm Ym Tm Cm Km)) rfl ?_
        refine kx_iload_n C dX1_costOf_19 rfl 3 rfl ?_
        refine kx_icmp_le (tgt := 33) C (Nat.lt_of_le_of_lt (fitN_le HP HW _ _) (by decide)) (Nat.lt_of_le_of_lt (maxN_le (fun k => fitN_le HP HW sl k) i) (by decide)) dX1_costOf_20 (by decide) (fun c4 => ?_) (fun c4 => ?_)
        · skip
          refine kx_iload_n C dX1_costOf_33 rfl 3 rfl ?_
          refine kx_istore_n (lv2 := [(3, .int (nI (maxN (fun k => fitN Pm Wm sl k) i))), (0, .ref (J 0)), (1, .int (nI (sl))), (2, .int (nI (k))), (4, .int (nI (i)))]) C dX1_costOf_34 rfl (by decide) rfl ?_
          refine kx_iinc (v := nI (i + 1)) (lv2 := [(4, .int (nI (i + 1))), (3, .int (nI (maxN (fun k => fitN Pm Wm sl k) i))), (0, .ref (J 0)), (1, .int (nI (sl))), (2, .int (nI (k)))]) C dX1_costOf_35 4 rfl (kI1 _) (by decide) rfl ?_
          refine kx_goto (tgt := 5) C dX1_costOf_38 (by decide) ?_
          refine kx_lvn (a := maxN (fun k => fitN Pm Wm sl k) i) (b := maxN (fun k => fitN Pm Wm sl k) (i + 1)) (lv2 := [(4, .int (nI (i + 1))), (3, .int (nI (maxN (fun k => fitN Pm Wm sl k) (i + 1)))), (0, .ref (J 0)), (1, .int (nI (sl))), (2, .int (nI (k)))]) (by simp only [maxN]; omega) 1 rfl rfl ?_
          refine kx_lv (lv2 := [(0, .ref (J 0)), (1, .int (nI (sl))), (2, .int (nI (k))), (3, .int (nI (maxN (fun k => fitN Pm Wm sl k) (i + 1)))), (4, .int (nI (i + 1)))]) [2, 3, 4, 1, 0] rfl ?_
          refine kx_eqw (ws2 := (kmW E J cd n b y o Wm Pm Rm Ym Tm Cm Km)) rfl ?_
          exact ih_lp5 (i + 1) (by omega) (by omega)
        · skip
          refine kx_aload_n C dX1_costOf_23 rfl 0 rfl ?_
          refine kx_iload_n C dX1_costOf_24 rfl 1 rfl ?_
          refine kx_iload C dX1_costOf_25 4 rfl ?_
          refine kx_callVi (rest := []) (wr := []) C (m_fitOf E J cd n b y o Wm Pm Rm Ym Tm Cm Km sl i H0 (by omega)) g1_76 2 rfl (by decide +kernel) ⟨Nat.le_of_ble_eq_true rfl, Nat.le_of_ble_eq_true rfl⟩ ⟨Nat.le_of_ble_eq_true rfl, Nat.le_of_ble_eq_true rfl⟩ [0, 1, 2, 3, 4, 5, 6, 7] [] rfl rfl (by decide) (by decide) (by decide) 0 rfl rfl rfl (Nat.le_of_ble_eq_true rfl) dX1_costOf_27 (fun v w q5 => ?_)
          obtain ⟨rfl, rfl⟩ := q5
          refine kx_eqw (ws2 := (kmW E J cd n b y o Wm Pm Rm Ym Tm Cm Km)) rfl ?_
          refine kx_goto (tgt := 34) C dX1_costOf_30 (by decide) ?_
          refine kx_istore_n (lv2 := [(3, .int (nI (fitN Pm Wm sl i))), (0, .ref (J 0)), (1, .int (nI (sl))), (2, .int (nI (k))), (4, .int (nI (i)))]) C dX1_costOf_34 rfl (by decide) rfl ?_
          refine kx_iinc (v := nI (i + 1)) (lv2 := [(4, .int (nI (i + 1))), (3, .int (nI (fitN Pm Wm sl i))), (0, .ref (J 0)), (1, .int (nI (sl))), (2, .int (nI (k)))]) C dX1_costOf_35 4 rfl (kI1 _) (by decide) rfl ?_
          refine kx_goto (tgt := 5) C dX1_costOf_38 (by decide) ?_
          refine kx_lvn (a := fitN Pm Wm sl i) (b := maxN (fun k => fitN Pm Wm sl k) (i + 1)) (lv2 := [(4, .int (nI (i + 1))), (3, .int (nI (maxN (fun k => fitN Pm Wm sl k) (i + 1)))), (0, .ref (J 0)), (1, .int (nI (sl))), (2, .int (nI (k)))]) (by simp only [maxN]; omega) 1 rfl rfl ?_
          refine kx_lv (lv2 := [(0, .ref (J 0)), (1, .int (nI (sl))), (2, .int (nI (k))), (3, .int (nI (maxN (fun k => fitN Pm Wm sl k) (i + 1)))), (4, .int (nI (i + 1)))]) [2, 3, 4, 1, 0] rfl ?_
          refine kx_eqw (ws2 := (kmW E J cd n b y o Wm Pm Rm Ym Tm Cm Km)) rfl ?_
          exact ih_lp5 (i + 1) (by omega) (by omega)
  refine kx_iconst (v := nI 0) C dX1_costOf_0 (by decide +kernel) ?_
  refine kx_istore_n (lv2 := [(3, .int (nI (0))), (0, .ref (J 0)), (1, .int (nI (sl))), (2, .int (nI (k)))]) C dX1_costOf_1 rfl (by decide) rfl ?_
  refine kx_iconst (v := nI 0) C dX1_costOf_2 (by decide +kernel) ?_
  refine kx_istore (lv2 := [(4, .int (nI (0))), (3, .int (nI (0))), (0, .ref (J 0)), (1, .int (nI (sl))), (2, .int (nI (k)))]) C dX1_costOf_3 (by decide) rfl ?_
  refine kx_lv (lv2 := [(0, .ref (J 0)), (1, .int (nI (sl))), (2, .int (nI (k))), (3, .int (nI (maxN (fun k => fitN Pm Wm sl k) 0))), (4, .int (nI (0)))]) [2, 3, 4, 1, 0] rfl ?_
  refine kx_eqw (ws2 := (kmW E J cd n b y o Wm Pm Rm Ym Tm Cm Km)) rfl ?_
  exact lp5 25 0 (by omega) (by omega)

set_option maxHeartbeats 4000000 in
set_option maxRecDepth 100000 in
theorem m_placeOf (E : KE) (k : Nat) (H0 : k < 24) : kMi E yX1_placeOf cX1_placeOf 1 (rk 0 0) [.int (nI (k))] [] (fun r w => r = nI (plc k) ∧ w = []) := by
  refine kMi_of (cc := cX1_placeOf) (maxL := 1) (by decide) (Nat.le_of_ble_eq_true rfl) ?_
  intro G C hE
  refine kx_iload_n C dX1_placeOf_0 rfl 0 rfl ?_
  refine kx_bipush (v := nI 12) C dX1_placeOf_1 (by decide +kernel) ?_
  refine kx_icmp_ge (tgt := 16) C (by omega) (by omega) dX1_placeOf_3 (by decide) (fun c1 => ?_) (fun c1 => ?_)
  · skip
    refine kx_bipush (v := nI 7) C dX1_placeOf_16 (by decide +kernel) ?_
    refine kx_iload_n C dX1_placeOf_18 rfl 0 rfl ?_
    refine kx_bipush (v := nI 12) C dX1_placeOf_19 (by decide +kernel) ?_
    refine kx_isub C (by omega) dX1_placeOf_21 ?_
    refine kx_iconst (v := nI 3) C dX1_placeOf_22 (by decide +kernel) ?_
    refine kx_iadd C dX1_placeOf_23 ?_
    refine kx_imul C dX1_placeOf_24 ?_
    refine kx_bipush (v := nI 12) C dX1_placeOf_25 (by decide +kernel) ?_
    refine kx_irem C (by omega) (by decide) (by decide) dX1_placeOf_27 ?_
    exact hE (Nat.le_of_ble_eq_true rfl) (Nat.le_of_ble_eq_true rfl) dX1_placeOf_28 ⟨congrArg nI (by unfold plc; rw [if_neg (by omega), show k % 12 = k - 12 by omega]), rfl⟩
  · skip
    refine kx_bipush (v := nI 7) C dX1_placeOf_6 (by decide +kernel) ?_
    refine kx_iload_n C dX1_placeOf_8 rfl 0 rfl ?_
    refine kx_imul C dX1_placeOf_9 ?_
    refine kx_bipush (v := nI 12) C dX1_placeOf_10 (by decide +kernel) ?_
    refine kx_irem C (by omega) (by decide) (by decide) dX1_placeOf_12 ?_
    refine kx_goto (tgt := 28) C dX1_placeOf_13 (by decide) ?_
    exact hE (Nat.le_of_ble_eq_true rfl) (Nat.le_of_ble_eq_true rfl) dX1_placeOf_28 ⟨congrArg nI (by unfold plc; rw [if_pos (by omega), show k % 12 = k by omega]), rfl⟩

theorem way_lo {f t : Nat} (h : (plc t + 12 - plc f) % 12 ≤ 6) : (plc t + 12 - plc f) % 12 = apt f t := by
  have h1 := plc_lt f
  have h2 := plc_lt t
  unfold apt dst
  split <;> omega
theorem way_hi {f t : Nat} (h : 6 < (plc t + 12 - plc f) % 12) : 12 - (plc t + 12 - plc f) % 12 = apt f t := by
  have h1 := plc_lt f
  have h2 := plc_lt t
  unfold apt dst
  split <;> omega

set_option maxHeartbeats 4000000 in
set_option maxRecDepth 100000 in
theorem m_turnOf (E : KE) (J : Nat → Nat) (cd n b y o : Nat) (Wm Pm Rm Ym Tm Cm Km : Nat → Nat) (f t : Nat) (H0 : f < 24) (H1 : t < 24) : kMi E yX1_turnOf cX1_turnOf 4 (rk 1 0) [.ref (J 0), .int (nI (f)), .int (nI (t))] (kmW E J cd n b y o Wm Pm Rm Ym Tm Cm Km) (fun r w => r = nI (turnN b y o f t) ∧ w = (kmW E J cd n b y o Wm Pm Rm Ym Tm Cm Km)) := by
  refine kMi_of (cc := cX1_turnOf) (maxL := 4) (by decide) (Nat.le_of_ble_eq_true rfl) ?_
  intro G C hE
  have h1 := plc_lt f
  have h2 := plc_lt t
  refine kx_iload_n C dX1_turnOf_0 rfl 1 rfl ?_
  refine kx_iload_n C dX1_turnOf_1 rfl 2 rfl ?_
  refine kx_icmp_ne (tgt := 7) C (by omega) (by omega) dX1_turnOf_2 (by decide) (fun c1 => ?_) (fun c1 => ?_)
  · skip
    refine kx_iload_n C dX1_turnOf_7 rfl 2 rfl ?_
    refine kx_callSi (rest := []) (wr := (kmW E J cd n b y o Wm Pm Rm Ym Tm Cm Km)) C (m_placeOf E t (by omega)) g1_79 1 rfl (by decide +kernel) ⟨Nat.le_of_ble_eq_true rfl, Nat.le_of_ble_eq_true rfl⟩ ⟨Nat.le_of_ble_eq_true rfl, Nat.le_of_ble_eq_true rfl⟩ [] [0, 1, 2, 3, 4, 5, 6, 7] rfl rfl (by decide) (by decide) (by decide) rfl (Nat.le_of_ble_eq_true rfl) dX1_turnOf_8 (fun v w q2 => ?_)
    obtain ⟨rfl, rfl⟩ := q2
    refine kx_eqw (ws2 := (kmW E J cd n b y o Wm Pm Rm Ym Tm Cm Km)) (List.append_nil _) ?_
    refine kx_iload_n C dX1_turnOf_11 rfl 1 rfl ?_
    refine kx_callSi (rest := [.int (nI (plc t))]) (wr := (kmW E J cd n b y o Wm Pm Rm Ym Tm Cm Km)) C (m_placeOf E f (by omega)) g1_79 1 rfl (by decide +kernel) ⟨Nat.le_of_ble_eq_true rfl, Nat.le_of_ble_eq_true rfl⟩ ⟨Nat.le_of_ble_eq_true rfl, Nat.le_of_ble_eq_true rfl⟩ [] [0, 1, 2, 3, 4, 5, 6, 7] rfl rfl (by decide) (by decide) (by decide) rfl (Nat.le_of_ble_eq_true rfl) dX1_turnOf_12 (fun v w q3 => ?_)
    obtain ⟨rfl, rfl⟩ := q3
    refine kx_eqw (ws2 := (kmW E J cd n b y o Wm Pm Rm Ym Tm Cm Km)) (List.append_nil _) ?_
    refine kx_isubR C dX1_turnOf_15 ?_
    refine kx_bipush (v := nI 12) C dX1_turnOf_16 (by decide +kernel) ?_
    refine kx_iaddR C dX1_turnOf_18 ?_
    refine kx_topi (a := ((nI (plc t)) - (nI (plc f))) + (nI (12))) (b := nI (plc t + 12 - plc f)) (kNum (by omega)) ?_
    refine kx_bipush (v := nI 12) C dX1_turnOf_19 (by decide +kernel) ?_
    refine kx_irem C (by omega) (by decide) (by decide) dX1_turnOf_21 ?_
    refine kx_istore_n (lv2 := [(3, .int (nI ((plc t + 12 - plc f) % (12)))), (0, .ref (J 0)), (1, .int (nI (f))), (2, .int (nI (t)))]) C dX1_turnOf_22 rfl (by decide) rfl ?_
    refine kx_iload_n C dX1_turnOf_23 rfl 0 rfl ?_
    refine kx_bipush (v := nI 6) C dX1_turnOf_24 (by decide +kernel) ?_
    refine kx_icmp_le (tgt := 36) C (by omega) (by omega) dX1_turnOf_26 (by decide) (fun c4 => ?_) (fun c4 => ?_)
    · skip
      refine kx_iload_n C dX1_turnOf_36 rfl 0 rfl ?_
      refine kx_topn (b := apt f t) (way_lo c4) ?_
      refine kx_istore_n (lv2 := [(3, .int (nI (apt f t))), (0, .ref (J 0)), (1, .int (nI (f))), (2, .int (nI (t)))]) C dX1_turnOf_37 rfl (by decide) rfl ?_
      refine kx_aload_n C dX1_turnOf_38 rfl 1 rfl ?_
      refine kx_get (v := .int (nI (b))) (ci := 1) C kin1 0 rfl rfl 4 (by decide) fl1_42 rfl rfl dX1_turnOf_39 ?_
      refine kx_aload_n C dX1_turnOf_42 rfl 1 rfl ?_
      refine kx_get (v := .int (nI (y))) (ci := 1) C kin1 0 rfl rfl 5 (by decide) fl1_45 rfl rfl dX1_turnOf_43 ?_
      refine kx_iload_n C dX1_turnOf_46 rfl 0 rfl ?_
      refine kx_imul C dX1_turnOf_47 ?_
      refine kx_iadd C dX1_turnOf_48 ?_
      refine kx_iload_n C dX1_turnOf_49 rfl 2 rfl ?_
      refine kx_bipush (v := nI 12) C dX1_turnOf_50 (by decide +kernel) ?_
      refine kx_idiv C (by omega) (by decide) (by decide) dX1_turnOf_52 ?_
      refine kx_iload_n C dX1_turnOf_53 rfl 3 rfl ?_
      refine kx_bipush (v := nI 12) C dX1_turnOf_54 (by decide +kernel) ?_
      refine kx_idiv C (by omega) (by decide) (by decide) dX1_turnOf_56 ?_
      refine kx_icmp_ne (tgt := 64) C (by omega) (by omega) dX1_turnOf_57 (by decide) (fun c5 => ?_) (fun c5 => ?_)
      · skip
        refine kx_aload_n C dX1_turnOf_64 rfl 1 rfl ?_
        refine kx_get (v := .int (nI (o))) (ci := 1) C kin1 0 rfl rfl 6 (by decide) fl1_48 rfl rfl dX1_turnOf_65 ?_
        refine kx_iadd C dX1_turnOf_68 ?_
        exact hE (Nat.le_of_ble_eq_true rfl) (Nat.le_of_ble_eq_true rfl) dX1_turnOf_69 ⟨congrArg nI (by simp [turnN, *]), rfl⟩
      · skip
        refine kx_iconst (v := nI 0) C dX1_turnOf_60 (by decide +kernel) ?_
        refine kx_goto (tgt := 68) C dX1_turnOf_61 (by decide) ?_
        refine kx_iadd C dX1_turnOf_68 ?_
        exact hE (Nat.le_of_ble_eq_true rfl) (Nat.le_of_ble_eq_true rfl) dX1_turnOf_69 ⟨congrArg nI (by simp [turnN, *]), rfl⟩
    · skip
      refine kx_bipush (v := nI 12) C dX1_turnOf_29 (by decide +kernel) ?_
      refine kx_iload_n C dX1_turnOf_31 rfl 0 rfl ?_
      refine kx_isub C (by omega) dX1_turnOf_32 ?_
      refine kx_goto (tgt := 37) C dX1_turnOf_33 (by decide) ?_
      refine kx_topn (b := apt f t) (way_hi c4) ?_
      refine kx_istore_n (lv2 := [(3, .int (nI (apt f t))), (0, .ref (J 0)), (1, .int (nI (f))), (2, .int (nI (t)))]) C dX1_turnOf_37 rfl (by decide) rfl ?_
      refine kx_aload_n C dX1_turnOf_38 rfl 1 rfl ?_
      refine kx_get (v := .int (nI (b))) (ci := 1) C kin1 0 rfl rfl 4 (by decide) fl1_42 rfl rfl dX1_turnOf_39 ?_
      refine kx_aload_n C dX1_turnOf_42 rfl 1 rfl ?_
      refine kx_get (v := .int (nI (y))) (ci := 1) C kin1 0 rfl rfl 5 (by decide) fl1_45 rfl rfl dX1_turnOf_43 ?_
      refine kx_iload_n C dX1_turnOf_46 rfl 0 rfl ?_
      refine kx_imul C dX1_turnOf_47 ?_
      refine kx_iadd C dX1_turnOf_48 ?_
      refine kx_iload_n C dX1_turnOf_49 rfl 2 rfl ?_
      refine kx_bipush (v := nI 12) C dX1_turnOf_50 (by decide +kernel) ?_
      refine kx_idiv C (by omega) (by decide) (by decide) dX1_turnOf_52 ?_
      refine kx_iload_n C dX1_turnOf_53 rfl 3 rfl ?_
      refine kx_bipush (v := nI 12) C dX1_turnOf_54 (by decide +kernel) ?_
      refine kx_idiv C (by omega) (by decide) (by decide) dX1_turnOf_56 ?_
      refine kx_icmp_ne (tgt := 64) C (by omega) (by omega) dX1_turnOf_57 (by decide) (fun c6 => ?_) (fun c6 => ?_)
      · skip
        refine kx_aload_n C dX1_turnOf_64 rfl 1 rfl ?_
        refine kx_get (v := .int (nI (o))) (ci := 1) C kin1 0 rfl rfl 6 (by decide) fl1_48 rfl rfl dX1_turnOf_65 ?_
        refine kx_iadd C dX1_turnOf_68 ?_
        exact hE (Nat.le_of_ble_eq_true rfl) (Nat.le_of_ble_eq_true rfl) dX1_turnOf_69 ⟨congrArg nI (by simp [turnN, *]), rfl⟩
      · skip
        refine kx_iconst (v := nI 0) C dX1_turnOf_60 (by decide +kernel) ?_
        refine kx_goto (tgt := 68) C dX1_turnOf_61 (by decide) ?_
        refine kx_iadd C dX1_turnOf_68 ?_
        exact hE (Nat.le_of_ble_eq_true rfl) (Nat.le_of_ble_eq_true rfl) dX1_turnOf_69 ⟨congrArg nI (by simp [turnN, *]), rfl⟩
  · skip
    refine kx_iconst (v := nI 0) C dX1_turnOf_5 (by decide +kernel) ?_
    exact hE (Nat.le_of_ble_eq_true rfl) (Nat.le_of_ble_eq_true rfl) dX1_turnOf_6 ⟨congrArg nI (by simp [turnN, *]), rfl⟩

def bgN (Pz : Nat → Nat) : Nat → Nat → Nat
  | 0 => Pz
  | i + 1 => va_up (va_up (va_up (va_up (va_up (bgN Pz i) (12 * i) 5) (12 * i + 2) 3) (12 * i + 5) 3) (12 * i + 7) 3) (12 * i + 11) 3
theorem up_lt {F : Nat → Nat} {B i v : Nat} (h : ∀ j, F j ≤ B) (hv : v ≤ B) : ∀ j, va_up F i v j ≤ B := up_le h hv
theorem bgN_le {Pz : Nat → Nat} (h : ∀ j, Pz j ≤ 99) : ∀ i j, bgN Pz i j ≤ 99
  | 0 => h
  | i + 1 => up_le (up_le (up_le (up_le (up_le (bgN_le h i) (by decide)) (by decide)) (by decide)) (by decide)) (by decide)
theorem bg_end {Pz : Nat → Nat} (h : ∀ j, j < 24 → Pz j = 0) : ∀ j, j < 24 → va_up (va_up (va_up (va_up (bgN Pz 2) 4 3) 9 3) 15 3) 20 3 j = kFP j := by
  intro j hj
  rcases (show j = 0 ∨ j = 1 ∨ j = 2 ∨ j = 3 ∨ j = 4 ∨ j = 5 ∨ j = 6 ∨ j = 7 ∨ j = 8 ∨ j = 9 ∨ j = 10 ∨ j = 11 ∨ j = 12 ∨ j = 13 ∨ j = 14 ∨ j = 15 ∨ j = 16 ∨ j = 17 ∨ j = 18 ∨ j = 19 ∨ j = 20 ∨ j = 21 ∨ j = 22 ∨ j = 23 by omega) with rfl | rfl | rfl | rfl | rfl | rfl | rfl | rfl | rfl | rfl | rfl | rfl | rfl | rfl | rfl | rfl | rfl | rfl | rfl | rfl | rfl | rfl | rfl | rfl
  · simp [va_up, bgN, kFP, h 0 (by decide)]
  · simp [va_up, bgN, kFP, h 1 (by decide)]
  · simp [va_up, bgN, kFP, h 2 (by decide)]
  · simp [va_up, bgN, kFP, h 3 (by decide)]
  · simp [va_up, bgN, kFP, h 4 (by decide)]
  · simp [va_up, bgN, kFP, h 5 (by decide)]
  · simp [va_up, bgN, kFP, h 6 (by decide)]
  · simp [va_up, bgN, kFP, h 7 (by decide)]
  · simp [va_up, bgN, kFP, h 8 (by decide)]
  · simp [va_up, bgN, kFP, h 9 (by decide)]
  · simp [va_up, bgN, kFP, h 10 (by decide)]
  · simp [va_up, bgN, kFP, h 11 (by decide)]
  · simp [va_up, bgN, kFP, h 12 (by decide)]
  · simp [va_up, bgN, kFP, h 13 (by decide)]
  · simp [va_up, bgN, kFP, h 14 (by decide)]
  · simp [va_up, bgN, kFP, h 15 (by decide)]
  · simp [va_up, bgN, kFP, h 16 (by decide)]
  · simp [va_up, bgN, kFP, h 17 (by decide)]
  · simp [va_up, bgN, kFP, h 18 (by decide)]
  · simp [va_up, bgN, kFP, h 19 (by decide)]
  · simp [va_up, bgN, kFP, h 20 (by decide)]
  · simp [va_up, bgN, kFP, h 21 (by decide)]
  · simp [va_up, bgN, kFP, h 22 (by decide)]
  · simp [va_up, bgN, kFP, h 23 (by decide)]
theorem bg_z {Pz : Nat → Nat} {i : Nat} (h : ∀ j, j < i → Pz j = 0) : ∀ j, j < i + 1 → va_up Pz i 0 j = 0 := by
  intro j hj
  by_cases e : j = i
  · rw [e, va_up_self]
  · rw [va_up_ne _ _ e]; exact h j (by omega)

set_option maxHeartbeats 4000000 in
set_option maxRecDepth 100000 in
theorem m_begin (E : KE) (J : Nat → Nat) (cd n b y o : Nat) (Wm Pm Rm Ym Tm Cm Km : Nat → Nat) (HP : ∀ j, Pm j ≤ 99) : kMv E yX1_begin cX1_begin 2 (rk 0 0) [.ref (J 0)] (kmW E J cd n b y o Wm Pm Rm Ym Tm Cm Km) (fun w => ∃ Pz : Nat → Nat, (∀ j, j < 24 → Pz j = kFP j) ∧ (∀ j, Pz j ≤ 99) ∧ w = (kmW E J cd 0 10 5 2 Wm Pz Rm Ym Tm Cm Km)) := by
  refine kMv_of (cc := cX1_begin) (maxL := 2) (by decide) (Nat.le_of_ble_eq_true rfl) ?_
  intro G C hE
  have lp44 : ∀ (N_lp44 : Nat) (i : Nat) (Pz : Nat → Nat), (i ≤ 2) → (∀ j, j < 24 → Pz j = 0) → (∀ j, Pz j ≤ 99) → (2 < i + N_lp44) → kx E (rk 0 0) G 2 0 0 (kmW E J cd 0 10 5 2 Wm (bgN Pz i) Rm Ym Tm Cm Km) [(0, .ref (J 0)), (1, .int (nI (i)))] 44 [] := by
    intro N_lp44
    induction N_lp44 with
    | zero =>
      intro i Pz h0_lp44 h1_lp44 h2_lp44 hm_lp44
      exact absurd hm_lp44 (by omega)
    | succ N_lp44 ih_lp44 =>
      intro i Pz h0_lp44 h1_lp44 h2_lp44 hm_lp44
      refine kx_iload_n C dX1_begin_44 rfl 1 rfl ?_
      refine kx_iconst (v := nI 2) C dX1_begin_45 (by decide +kernel) ?_
      refine kx_icmp_ge (tgt := 115) C (by omega) (by omega) dX1_begin_46 (by decide) (fun c1 => ?_) (fun c1 => ?_)
      · skip
        obtain rfl : 2 = i := by omega
        refine kx_aload_n C dX1_begin_115 rfl 0 rfl ?_
        refine kx_get (v := .ref (J 2)) (ci := 1) C kin1 0 rfl rfl 3 (by decide) fl1_13 rfl rfl dX1_begin_116 ?_
        refine kx_iconst (v := nI 4) C dX1_begin_119 (by decide +kernel) ?_
        refine kx_iconst (v := nI 3) C dX1_begin_120 (by decide +kernel) ?_
        refine kx_iast (ws2 := (kmW E J cd 0 10 5 2 Wm (va_up (bgN Pz 2) (4) (3)) Rm Ym Tm Cm Km)) C 2 rfl (j := 4) (v := 3) (by omega) (by decide) rfl dX1_begin_121 ?_
        refine kx_aload_n C dX1_begin_122 rfl 0 rfl ?_
        refine kx_get (v := .ref (J 2)) (ci := 1) C kin1 0 rfl rfl 3 (by decide) fl1_13 rfl rfl dX1_begin_123 ?_
        refine kx_bipush (v := nI 9) C dX1_begin_126 (by decide +kernel) ?_
        refine kx_iconst (v := nI 3) C dX1_begin_128 (by decide +kernel) ?_
        refine kx_iast (ws2 := (kmW E J cd 0 10 5 2 Wm (va_up (va_up (bgN Pz 2) (4) (3)) (9) (3)) Rm Ym Tm Cm Km)) C 2 rfl (j := 9) (v := 3) (by omega) (by decide) rfl dX1_begin_129 ?_
        refine kx_aload_n C dX1_begin_130 rfl 0 rfl ?_
        refine kx_get (v := .ref (J 2)) (ci := 1) C kin1 0 rfl rfl 3 (by decide) fl1_13 rfl rfl dX1_begin_131 ?_
        refine kx_bipush (v := nI 15) C dX1_begin_134 (by decide +kernel) ?_
        refine kx_iconst (v := nI 3) C dX1_begin_136 (by decide +kernel) ?_
        refine kx_iast (ws2 := (kmW E J cd 0 10 5 2 Wm (va_up (va_up (va_up (bgN Pz 2) (4) (3)) (9) (3)) (15) (3)) Rm Ym Tm Cm Km)) C 2 rfl (j := 15) (v := 3) (by omega) (by decide) rfl dX1_begin_137 ?_
        refine kx_aload_n C dX1_begin_138 rfl 0 rfl ?_
        refine kx_get (v := .ref (J 2)) (ci := 1) C kin1 0 rfl rfl 3 (by decide) fl1_13 rfl rfl dX1_begin_139 ?_
        refine kx_bipush (v := nI 20) C dX1_begin_142 (by decide +kernel) ?_
        refine kx_iconst (v := nI 3) C dX1_begin_144 (by decide +kernel) ?_
        refine kx_iast (ws2 := (kmW E J cd 0 10 5 2 Wm (va_up (va_up (va_up (va_up (bgN Pz 2) (4) (3)) (9) (3)) (15) (3)) (20) (3)) Rm Ym Tm Cm Km)) C 2 rfl (j := 20) (v := 3) (by omega) (by decide) rfl dX1_begin_145 ?_
        exact hE (Nat.le_of_ble_eq_true rfl) (Nat.le_of_ble_eq_true rfl) dX1_begin_146 ⟨_, bg_end h1_lp44, up_le (up_le (up_le (up_le (bgN_le h2_lp44 2) (by decide)) (by decide)) (by decide)) (by decide), rfl⟩
      · skip
        refine kx_aload_n C dX1_begin_49 rfl 0 rfl ?_
        refine kx_get (v := .ref (J 2)) (ci := 1) C kin1 0 rfl rfl 3 (by decide) fl1_13 rfl rfl dX1_begin_50 ?_
        refine kx_bipush (v := nI 12) C dX1_begin_53 (by decide +kernel) ?_
        refine kx_iload_n C dX1_begin_55 rfl 1 rfl ?_
        refine kx_imul C dX1_begin_56 ?_
        refine kx_iconst (v := nI 5) C dX1_begin_57 (by decide +kernel) ?_
        refine kx_iast (ws2 := (kmW E J cd 0 10 5 2 Wm (va_up (bgN Pz i) ((12) * (i)) (5)) Rm Ym Tm Cm Km)) C 2 rfl (j := (12) * (i)) (v := 5) (by omega) (by decide) rfl dX1_begin_58 ?_
        refine kx_aload_n C dX1_begin_59 rfl 0 rfl ?_
        refine kx_get (v := .ref (J 2)) (ci := 1) C kin1 0 rfl rfl 3 (by decide) fl1_13 rfl rfl dX1_begin_60 ?_
        refine kx_bipush (v := nI 12) C dX1_begin_63 (by decide +kernel) ?_
        refine kx_iload_n C dX1_begin_65 rfl 1 rfl ?_
        refine kx_imul C dX1_begin_66 ?_
        refine kx_iconst (v := nI 2) C dX1_begin_67 (by decide +kernel) ?_
        refine kx_iadd C dX1_begin_68 ?_
        refine kx_iconst (v := nI 3) C dX1_begin_69 (by decide +kernel) ?_
        refine kx_iast (ws2 := (kmW E J cd 0 10 5 2 Wm (va_up (va_up (bgN Pz i) ((12) * (i)) (5)) (((12) * (i)) + (2)) (3)) Rm Ym Tm Cm Km)) C 2 rfl (j := ((12) * (i)) + (2)) (v := 3) (by omega) (by decide) rfl dX1_begin_70 ?_
        refine kx_aload_n C dX1_begin_71 rfl 0 rfl ?_
        refine kx_get (v := .ref (J 2)) (ci := 1) C kin1 0 rfl rfl 3 (by decide) fl1_13 rfl rfl dX1_begin_72 ?_
        refine kx_bipush (v := nI 12) C dX1_begin_75 (by decide +kernel) ?_
        refine kx_iload_n C dX1_begin_77 rfl 1 rfl ?_
        refine kx_imul C dX1_begin_78 ?_
        refine kx_iconst (v := nI 5) C dX1_begin_79 (by decide +kernel) ?_
        refine kx_iadd C dX1_begin_80 ?_
        refine kx_iconst (v := nI 3) C dX1_begin_81 (by decide +kernel) ?_
        refine kx_iast (ws2 := (kmW E J cd 0 10 5 2 Wm (va_up (va_up (va_up (bgN Pz i) ((12) * (i)) (5)) (((12) * (i)) + (2)) (3)) (((12) * (i)) + (5)) (3)) Rm Ym Tm Cm Km)) C 2 rfl (j := ((12) * (i)) + (5)) (v := 3) (by omega) (by decide) rfl dX1_begin_82 ?_
        refine kx_aload_n C dX1_begin_83 rfl 0 rfl ?_
        refine kx_get (v := .ref (J 2)) (ci := 1) C kin1 0 rfl rfl 3 (by decide) fl1_13 rfl rfl dX1_begin_84 ?_
        refine kx_bipush (v := nI 12) C dX1_begin_87 (by decide +kernel) ?_
        refine kx_iload_n C dX1_begin_89 rfl 1 rfl ?_
        refine kx_imul C dX1_begin_90 ?_
        refine kx_bipush (v := nI 7) C dX1_begin_91 (by decide +kernel) ?_
        refine kx_iadd C dX1_begin_93 ?_
        refine kx_iconst (v := nI 3) C dX1_begin_94 (by decide +kernel) ?_
        refine kx_iast (ws2 := (kmW E J cd 0 10 5 2 Wm (va_up (va_up (va_up (va_up (bgN Pz i) ((12) * (i)) (5)) (((12) * (i)) + (2)) (3)) (((12) * (i)) + (5)) (3)) (((12) * (i)) + (7)) (3)) Rm Ym Tm Cm Km)) C 2 rfl (j := ((12) * (i)) + (7)) (v := 3) (by omega) (by decide) rfl dX1_begin_95 ?_
        refine kx_aload_n C dX1_begin_96 rfl 0 rfl ?_
        refine kx_get (v := .ref (J 2)) (ci := 1) C kin1 0 rfl rfl 3 (by decide) fl1_13 rfl rfl dX1_begin_97 ?_
        refine kx_bipush (v := nI 12) C dX1_begin_100 (by decide +kernel) ?_
        refine kx_iload_n C dX1_begin_102 rfl 1 rfl ?_
        refine kx_imul C dX1_begin_103 ?_
        refine kx_bipush (v := nI 11) C dX1_begin_104 (by decide +kernel) ?_
        refine kx_iadd C dX1_begin_106 ?_
        refine kx_iconst (v := nI 3) C dX1_begin_107 (by decide +kernel) ?_
        refine kx_iast (ws2 := (kmW E J cd 0 10 5 2 Wm (va_up (va_up (va_up (va_up (va_up (bgN Pz i) ((12) * (i)) (5)) (((12) * (i)) + (2)) (3)) (((12) * (i)) + (5)) (3)) (((12) * (i)) + (7)) (3)) (((12) * (i)) + (11)) (3)) Rm Ym Tm Cm Km)) C 2 rfl (j := ((12) * (i)) + (11)) (v := 3) (by omega) (by decide) rfl dX1_begin_108 ?_
        refine kx_iinc (v := nI (i + 1)) (lv2 := [(1, .int (nI (i + 1))), (0, .ref (J 0))]) C dX1_begin_109 1 rfl (kI1 _) (by decide) rfl ?_
        refine kx_goto (tgt := 44) C dX1_begin_112 (by decide) ?_
        refine kx_lv (lv2 := [(0, .ref (J 0)), (1, .int (nI (i + 1)))]) [1, 0] rfl ?_
        refine kx_eqw (ws2 := (kmW E J cd 0 10 5 2 Wm (bgN Pz (i + 1)) Rm Ym Tm Cm Km)) rfl ?_
        exact ih_lp44 (i + 1) Pz (by omega) h1_lp44 h2_lp44 (by omega)
  have lp23 : ∀ (N_lp23 : Nat) (i : Nat) (Pz : Nat → Nat), (i ≤ 24) → (∀ j, j < i → Pz j = 0) → (∀ j, Pz j ≤ 99) → (24 < i + N_lp23) → kx E (rk 0 0) G 2 0 0 (kmW E J cd 0 10 5 2 Wm Pz Rm Ym Tm Cm Km) [(0, .ref (J 0)), (1, .int (nI (i)))] 23 [] := by
    intro N_lp23
    induction N_lp23 with
    | zero =>
      intro i Pz h0_lp23 h1_lp23 h2_lp23 hm_lp23
      exact absurd hm_lp23 (by omega)
    | succ N_lp23 ih_lp23 =>
      intro i Pz h0_lp23 h1_lp23 h2_lp23 hm_lp23
      refine kx_iload_n C dX1_begin_23 rfl 1 rfl ?_
      refine kx_bipush (v := nI 24) C dX1_begin_24 (by decide +kernel) ?_
      refine kx_icmp_ge (tgt := 42) C (by omega) (by omega) dX1_begin_26 (by decide) (fun c2 => ?_) (fun c2 => ?_)
      · skip
        obtain rfl : 24 = i := by omega
        refine kx_iconst (v := nI 0) C dX1_begin_42 (by decide +kernel) ?_
        refine kx_istore_n (lv2 := [(1, .int (nI (0))), (0, .ref (J 0))]) C dX1_begin_43 rfl (by decide) rfl ?_
        refine kx_lv (lv2 := [(0, .ref (J 0)), (1, .int (nI (0)))]) [1, 0] rfl ?_
        refine kx_eqw (ws2 := (kmW E J cd 0 10 5 2 Wm (bgN Pz 0) Rm Ym Tm Cm Km)) rfl ?_
        exact lp44 3 0 Pz (by omega) h1_lp23 h2_lp23 (by omega)
      · skip
        refine kx_aload_n C dX1_begin_29 rfl 0 rfl ?_
        refine kx_get (v := .ref (J 2)) (ci := 1) C kin1 0 rfl rfl 3 (by decide) fl1_13 rfl rfl dX1_begin_30 ?_
        refine kx_iload_n C dX1_begin_33 rfl 1 rfl ?_
        refine kx_iconst (v := nI 0) C dX1_begin_34 (by decide +kernel) ?_
        refine kx_iast (ws2 := (kmW E J cd 0 10 5 2 Wm (va_up Pz (i) (0)) Rm Ym Tm Cm Km)) C 2 rfl (j := i) (v := 0) (by omega) (by decide) rfl dX1_begin_35 ?_
        refine kx_iinc (v := nI (i + 1)) (lv2 := [(1, .int (nI (i + 1))), (0, .ref (J 0))]) C dX1_begin_36 1 rfl (kI1 _) (by decide) rfl ?_
        refine kx_goto (tgt := 23) C dX1_begin_39 (by decide) ?_
        refine kx_lv (lv2 := [(0, .ref (J 0)), (1, .int (nI (i + 1)))]) [1, 0] rfl ?_
        refine kx_eqw (ws2 := (kmW E J cd 0 10 5 2 Wm (va_up Pz (i) (0)) Rm Ym Tm Cm Km)) rfl ?_
        exact ih_lp23 (i + 1) (va_up Pz (i) (0)) (by omega) (bg_z h1_lp23) (up_le h2_lp23 (by decide)) (by omega)
  refine kx_aload_n C dX1_begin_0 rfl 0 rfl ?_
  refine kx_iconst (v := nI 0) C dX1_begin_1 (by decide +kernel) ?_
  refine kx_put (ws2 := (kmW E J cd 0 b y o Wm Pm Rm Ym Tm Cm Km)) (ci := 1) C kin1 tyX1_ok nmX1 0 rfl rfl 1 (by decide) fl1_39 rfl rfl rfl rfl (Nat.le_of_ble_eq_true rfl) rfl dX1_begin_2 ?_
  refine kx_aload_n C dX1_begin_5 rfl 0 rfl ?_
  refine kx_bipush (v := nI 10) C dX1_begin_6 (by decide +kernel) ?_
  refine kx_put (ws2 := (kmW E J cd 0 10 y o Wm Pm Rm Ym Tm Cm Km)) (ci := 1) C kin1 tyX1_ok nmX1 0 rfl rfl 4 (by decide) fl1_42 rfl rfl rfl rfl (Nat.le_of_ble_eq_true rfl) rfl dX1_begin_8 ?_
  refine kx_aload_n C dX1_begin_11 rfl 0 rfl ?_
  refine kx_iconst (v := nI 5) C dX1_begin_12 (by decide +kernel) ?_
  refine kx_put (ws2 := (kmW E J cd 0 10 5 o Wm Pm Rm Ym Tm Cm Km)) (ci := 1) C kin1 tyX1_ok nmX1 0 rfl rfl 5 (by decide) fl1_45 rfl rfl rfl rfl (Nat.le_of_ble_eq_true rfl) rfl dX1_begin_13 ?_
  refine kx_aload_n C dX1_begin_16 rfl 0 rfl ?_
  refine kx_iconst (v := nI 2) C dX1_begin_17 (by decide +kernel) ?_
  refine kx_put (ws2 := (kmW E J cd 0 10 5 2 Wm Pm Rm Ym Tm Cm Km)) (ci := 1) C kin1 tyX1_ok nmX1 0 rfl rfl 6 (by decide) fl1_48 rfl rfl rfl rfl (Nat.le_of_ble_eq_true rfl) rfl dX1_begin_18 ?_
  refine kx_iconst (v := nI 0) C dX1_begin_21 (by decide +kernel) ?_
  refine kx_istore_n (lv2 := [(1, .int (nI (0))), (0, .ref (J 0))]) C dX1_begin_22 rfl (by decide) rfl ?_
  refine kx_lv (lv2 := [(0, .ref (J 0)), (1, .int (nI (0)))]) [1, 0] rfl ?_
  refine kx_eqw (ws2 := (kmW E J cd 0 10 5 2 Wm Pm Rm Ym Tm Cm Km)) rfl ?_
  exact lp23 25 0 Pm (by omega) (fun j hj => absurd hj (by omega)) HP (by omega)

set_option maxHeartbeats 4000000 in
set_option maxRecDepth 100000 in
theorem m_clear (E : KE) (J : Nat → Nat) (cd n b y o : Nat) (Wm Pm Rm Ym Tm Cm Km : Nat → Nat) (HP : ∀ j, Pm j ≤ 99) : kMi E yX1_clear cX1_clear 2 (rk 10 0) [.ref (J 0)] (kmW E J cd n b y o Wm Pm Rm Ym Tm Cm Km) (fun r w => r = nI n ∧ ∃ Pz : Nat → Nat, (∀ j, j < 24 → Pz j = kFP j) ∧ (∀ j, Pz j ≤ 99) ∧ w = (kmW E J 0 0 10 5 2 Wm Pz Rm Ym Tm Cm Km)) := by
  refine kMi_of (cc := cX1_clear) (maxL := 2) (by decide) (Nat.le_of_ble_eq_true rfl) ?_
  intro G C hE
  refine kx_aload_n C dX1_clear_0 rfl 0 rfl ?_
  refine kx_iconst (v := nI 0) C dX1_clear_1 (by decide +kernel) ?_
  refine kx_put (ws2 := (kmW E J 0 n b y o Wm Pm Rm Ym Tm Cm Km)) (ci := 1) C kin1 tyX1_ok nmX1 0 rfl rfl 0 (by decide) fl1_35 rfl rfl rfl rfl (Nat.le_of_ble_eq_true rfl) rfl dX1_clear_2 ?_
  refine kx_aload_n C dX1_clear_5 rfl 0 rfl ?_
  refine kx_get (v := .int (nI (n))) (ci := 1) C kin1 0 rfl rfl 1 (by decide) fl1_39 rfl rfl dX1_clear_6 ?_
  refine kx_istore_n (lv2 := [(1, .int (nI (n))), (0, .ref (J 0))]) C dX1_clear_9 rfl (by decide) rfl ?_
  refine kx_aload_n C dX1_clear_10 rfl 1 rfl ?_
  refine kx_callVv (rest := []) (wr := []) C (m_begin E J 0 n b y o Wm Pm Rm Ym Tm Cm Km HP) g1_32 0 rfl (by decide +kernel) ⟨Nat.le_of_ble_eq_true rfl, Nat.le_of_ble_eq_true rfl⟩ ⟨Nat.le_of_ble_eq_true rfl, Nat.le_of_ble_eq_true rfl⟩ [0, 1, 2, 3, 4, 5, 6, 7] [] rfl rfl (by decide) (by decide) (by decide) 0 rfl rfl rfl (Nat.le_of_ble_eq_true rfl) dX1_clear_11 (fun w q1 => ?_)
  obtain ⟨Pz, hz1, hz2, rfl⟩ := q1
  refine kx_eqw (ws2 := (kmW E J 0 0 10 5 2 Wm Pz Rm Ym Tm Cm Km)) rfl ?_
  refine kx_iload_n C dX1_clear_14 rfl 0 rfl ?_
  exact hE (Nat.le_of_ble_eq_true rfl) (Nat.le_of_ble_eq_true rfl) dX1_clear_15 ⟨rfl, Pz, hz1, hz2, rfl⟩
