set_option maxHeartbeats 4000000 in
set_option maxRecDepth 100000 in
theorem c_tonicOf (E : KE) (k : Nat) (H0 : k < 2 ^ 31) : kMi E yX0_tonicOf cX0_tonicOf 1 (rk 0 0) [.int (nI (k))] [] (fun r w => r = nI (k % 12) ∧ w = []) := by
  refine kMi_of (cc := cX0_tonicOf) (maxL := 1) (by decide) (Nat.le_of_ble_eq_true rfl) ?_
  intro G C hE
  refine kx_iload_n C dX0_tonicOf_0 rfl 0 rfl ?_
  refine kx_bipush (v := nI 12) C dX0_tonicOf_1 (by decide +kernel) ?_
  refine kx_irem C (by omega) (by decide) (by decide) dX0_tonicOf_3 ?_
  exact hE (Nat.le_of_ble_eq_true rfl) (Nat.le_of_ble_eq_true rfl) dX0_tonicOf_4 ⟨rfl, rfl⟩

set_option maxHeartbeats 4000000 in
set_option maxRecDepth 100000 in
theorem c_modeOf (E : KE) (k : Nat) (H0 : k < 2 ^ 31) : kMi E yX0_modeOf cX0_modeOf 1 (rk 0 0) [.int (nI (k))] [] (fun r w => r = nI (k / 12) ∧ w = []) := by
  refine kMi_of (cc := cX0_modeOf) (maxL := 1) (by decide) (Nat.le_of_ble_eq_true rfl) ?_
  intro G C hE
  refine kx_iload_n C dX0_modeOf_0 rfl 0 rfl ?_
  refine kx_bipush (v := nI 12) C dX0_modeOf_1 (by decide +kernel) ?_
  refine kx_idiv C (by omega) (by decide) (by decide) dX0_modeOf_3 ?_
  exact hE (Nat.le_of_ble_eq_true rfl) (Nat.le_of_ble_eq_true rfl) dX0_modeOf_4 ⟨rfl, rfl⟩

set_option maxHeartbeats 4000000 in
set_option maxRecDepth 100000 in
theorem c_placeOf (E : KE) (k : Nat) (H0 : k < 24) : kMi E yX0_placeOf cX0_placeOf 2 (rk 1 0) [.int (nI (k))] [] (fun r w => r = nI (plc k) ∧ w = []) := by
  refine kMi_of (cc := cX0_placeOf) (maxL := 2) (by decide) (Nat.le_of_ble_eq_true rfl) ?_
  intro G C hE
  refine kx_iload_n C dX0_placeOf_0 rfl 0 rfl ?_
  refine kx_callSi (rest := []) (wr := []) C (c_modeOf E k (by omega)) g0_165 1 rfl (by decide +kernel) ⟨Nat.le_of_ble_eq_true rfl, Nat.le_of_ble_eq_true rfl⟩ ⟨Nat.le_of_ble_eq_true rfl, Nat.le_of_ble_eq_true rfl⟩ [] [] rfl rfl (by decide) (by decide) (by decide) rfl (Nat.le_of_ble_eq_true rfl) dX0_placeOf_1 (fun v w q1 => ?_)
  obtain ⟨rfl, rfl⟩ := q1
  refine kx_eqw (ws2 := []) (List.append_nil _) ?_
  refine kx_if_ne (tgt := 14) C (by omega) dX0_placeOf_4 (by decide) (fun c2 => ?_) (fun c2 => ?_)
  · skip
    refine kx_iload_n C dX0_placeOf_14 rfl 0 rfl ?_
    refine kx_callSi (rest := []) (wr := []) C (c_tonicOf E k (by omega)) g0_168 1 rfl (by decide +kernel) ⟨Nat.le_of_ble_eq_true rfl, Nat.le_of_ble_eq_true rfl⟩ ⟨Nat.le_of_ble_eq_true rfl, Nat.le_of_ble_eq_true rfl⟩ [] [] rfl rfl (by decide) (by decide) (by decide) rfl (Nat.le_of_ble_eq_true rfl) dX0_placeOf_15 (fun v w q3 => ?_)
    obtain ⟨rfl, rfl⟩ := q3
    refine kx_eqw (ws2 := []) (List.append_nil _) ?_
    refine kx_iconst (v := nI 3) C dX0_placeOf_18 (by decide +kernel) ?_
    refine kx_iadd C dX0_placeOf_19 ?_
    refine kx_istore_n (lv2 := [(1, .int (nI ((k % 12) + (3)))), (0, .int (nI (k)))]) C dX0_placeOf_20 rfl (by decide) rfl ?_
    refine kx_bipush (v := nI 7) C dX0_placeOf_21 (by decide +kernel) ?_
    refine kx_iload_n C dX0_placeOf_23 rfl 0 rfl ?_
    refine kx_imul C dX0_placeOf_24 ?_
    refine kx_bipush (v := nI 12) C dX0_placeOf_25 (by decide +kernel) ?_
    refine kx_irem C (by omega) (by decide) (by decide) dX0_placeOf_27 ?_
    exact hE (Nat.le_of_ble_eq_true rfl) (Nat.le_of_ble_eq_true rfl) dX0_placeOf_28 ⟨by simp [plc, *], rfl⟩
  · skip
    refine kx_iload_n C dX0_placeOf_7 rfl 0 rfl ?_
    refine kx_callSi (rest := []) (wr := []) C (c_tonicOf E k (by omega)) g0_168 1 rfl (by decide +kernel) ⟨Nat.le_of_ble_eq_true rfl, Nat.le_of_ble_eq_true rfl⟩ ⟨Nat.le_of_ble_eq_true rfl, Nat.le_of_ble_eq_true rfl⟩ [] [] rfl rfl (by decide) (by decide) (by decide) rfl (Nat.le_of_ble_eq_true rfl) dX0_placeOf_8 (fun v w q4 => ?_)
    obtain ⟨rfl, rfl⟩ := q4
    refine kx_eqw (ws2 := []) (List.append_nil _) ?_
    refine kx_goto (tgt := 20) C dX0_placeOf_11 (by decide) ?_
    refine kx_istore_n (lv2 := [(1, .int (nI (k % 12))), (0, .int (nI (k)))]) C dX0_placeOf_20 rfl (by decide) rfl ?_
    refine kx_bipush (v := nI 7) C dX0_placeOf_21 (by decide +kernel) ?_
    refine kx_iload_n C dX0_placeOf_23 rfl 0 rfl ?_
    refine kx_imul C dX0_placeOf_24 ?_
    refine kx_bipush (v := nI 12) C dX0_placeOf_25 (by decide +kernel) ?_
    refine kx_irem C (by omega) (by decide) (by decide) dX0_placeOf_27 ?_
    exact hE (Nat.le_of_ble_eq_true rfl) (Nat.le_of_ble_eq_true rfl) dX0_placeOf_28 ⟨by simp [plc, *], rfl⟩

set_option maxHeartbeats 4000000 in
set_option maxRecDepth 100000 in
theorem c_numberOf (E : KE) (K : Nat → Nat) (b y o n ls bc tk hk : Nat) (P Wt Tu Sc Ta Wa He Fk Pk : Nat → Nat) (p k : Nat) (H0 : p < 12) (H1 : k < 24) : kMi E yX0_numberOf cX0_numberOf 4 (rk 1 0) [.ref (K 0), .int (nI (p)), .int (nI (k))] (kwW E K b y o n ls bc tk hk P Wt Tu Sc Ta Wa He Fk Pk) (fun r w => r = nI (P (numX p k)) ∧ w = (kwW E K b y o n ls bc tk hk P Wt Tu Sc Ta Wa He Fk Pk)) := by
  refine kMi_of (cc := cX0_numberOf) (maxL := 4) (by decide) (Nat.le_of_ble_eq_true rfl) ?_
  intro G C hE
  refine kx_iload_n C dX0_numberOf_0 rfl 1 rfl ?_
  refine kx_bipush (v := nI 12) C dX0_numberOf_1 (by decide +kernel) ?_
  refine kx_iadd C dX0_numberOf_3 ?_
  refine kx_iload_n C dX0_numberOf_4 rfl 2 rfl ?_
  refine kx_callSi (rest := [.int (nI ((p) + (12)))]) (wr := (kwW E K b y o n ls bc tk hk P Wt Tu Sc Ta Wa He Fk Pk)) C (c_tonicOf E k (by omega)) g0_168 1 rfl (by decide +kernel) ⟨Nat.le_of_ble_eq_true rfl, Nat.le_of_ble_eq_true rfl⟩ ⟨Nat.le_of_ble_eq_true rfl, Nat.le_of_ble_eq_true rfl⟩ [] [0, 1, 2, 3, 4, 5, 6, 7, 8, 9] rfl rfl (by decide) (by decide) (by decide) rfl (Nat.le_of_ble_eq_true rfl) dX0_numberOf_5 (fun v w q1 => ?_)
  obtain ⟨rfl, rfl⟩ := q1
  refine kx_eqw (ws2 := (kwW E K b y o n ls bc tk hk P Wt Tu Sc Ta Wa He Fk Pk)) (List.append_nil _) ?_
  refine kx_isub C (by omega) dX0_numberOf_8 ?_
  refine kx_bipush (v := nI 12) C dX0_numberOf_9 (by decide +kernel) ?_
  refine kx_irem C (by omega) (by decide) (by decide) dX0_numberOf_11 ?_
  refine kx_istore_n (lv2 := [(3, .int (nI ((((p) + (12)) - (k % 12)) % (12)))), (0, .ref (K 0)), (1, .int (nI (p))), (2, .int (nI (k)))]) C dX0_numberOf_12 rfl (by decide) rfl ?_
  refine kx_aload_n C dX0_numberOf_13 rfl 1 rfl ?_
  refine kx_get (v := .ref (K 1)) (ci := 0) C kin0 0 rfl rfl 0 (by decide) fl0_9 rfl rfl dX0_numberOf_14 ?_
  refine kx_iload_n C dX0_numberOf_17 rfl 3 rfl ?_
  refine kx_callSi (rest := [.ref (K 1)]) (wr := (kwW E K b y o n ls bc tk hk P Wt Tu Sc Ta Wa He Fk Pk)) C (c_modeOf E k (by omega)) g0_165 1 rfl (by decide +kernel) ⟨Nat.le_of_ble_eq_true rfl, Nat.le_of_ble_eq_true rfl⟩ ⟨Nat.le_of_ble_eq_true rfl, Nat.le_of_ble_eq_true rfl⟩ [] [0, 1, 2, 3, 4, 5, 6, 7, 8, 9] rfl rfl (by decide) (by decide) (by decide) rfl (Nat.le_of_ble_eq_true rfl) dX0_numberOf_18 (fun v w q2 => ?_)
  obtain ⟨rfl, rfl⟩ := q2
  refine kx_eqw (ws2 := (kwW E K b y o n ls bc tk hk P Wt Tu Sc Ta Wa He Fk Pk)) (List.append_nil _) ?_
  refine kx_bipush (v := nI 12) C dX0_numberOf_21 (by decide +kernel) ?_
  refine kx_imul C dX0_numberOf_23 ?_
  refine kx_iload_n C dX0_numberOf_24 rfl 0 rfl ?_
  refine kx_iadd C dX0_numberOf_25 ?_
  refine kx_iald C 1 rfl (j := ((k / 12) * (12)) + ((((p) + (12)) - (k % 12)) % (12))) (by omega) (by decide) dX0_numberOf_26 ?_
  exact hE (Nat.le_of_ble_eq_true rfl) (Nat.le_of_ble_eq_true rfl) dX0_numberOf_27 ⟨rfl, rfl⟩

set_option maxHeartbeats 4000000 in
set_option maxRecDepth 100000 in
theorem c_fitIn (E : KE) (K : Nat → Nat) (b y o n ls bc tk hk : Nat) (P Wt Tu Sc Ta Wa He Fk Pk : Nat → Nat) (sl k : Nat) (H0 : sl < 40) (H1 : k < 24) : kMi E yX0_fitIn cX0_fitIn 5 (rk 2 0) [.ref (K 0), .int (nI (sl)), .int (nI (k))] (kwW E K b y o n ls bc tk hk P Wt Tu Sc Ta Wa He Fk Pk) (fun r w => r = nI (fitN P Wt sl k) ∧ w = (kwW E K b y o n ls bc tk hk P Wt Tu Sc Ta Wa He Fk Pk)) := by
  refine kMi_of (cc := cX0_fitIn) (maxL := 5) (by decide) (Nat.le_of_ble_eq_true rfl) ?_
  intro G C hE
  have lp5 : ∀ (N_lp5 : Nat) (i : Nat), (i ≤ 12) → (12 < i + N_lp5) → kx E (rk 2 0) G 5 0 0 (kwW E K b y o n ls bc tk hk P Wt Tu Sc Ta Wa He Fk Pk) [(0, .ref (K 0)), (1, .int (nI (sl))), (2, .int (nI (k))), (3, .int (nI (sumN (fun p => Wt (sl * 12 + p) * P (numX p k)) i))), (4, .int (nI (i)))] 5 [] := by
    intro N_lp5
    induction N_lp5 with
    | zero =>
      intro i h0_lp5 hm_lp5
      exact absurd hm_lp5 (by omega)
    | succ N_lp5 ih_lp5 =>
      intro i h0_lp5 hm_lp5
      refine kx_iload C dX0_fitIn_5 4 rfl ?_
      refine kx_bipush (v := nI 12) C dX0_fitIn_7 (by decide +kernel) ?_
      refine kx_icmp_ge (tgt := 41) C (by omega) (by omega) dX0_fitIn_9 (by decide) (fun c1 => ?_) (fun c1 => ?_)
      · skip
        obtain rfl : 12 = i := by omega
        refine kx_iload_n C dX0_fitIn_41 rfl 3 rfl ?_
        exact hE (Nat.le_of_ble_eq_true rfl) (Nat.le_of_ble_eq_true rfl) dX0_fitIn_42 ⟨rfl, rfl⟩
      · skip
        refine kx_iload_n C dX0_fitIn_12 rfl 3 rfl ?_
        refine kx_aload_n C dX0_fitIn_13 rfl 0 rfl ?_
        refine kx_get (v := .ref (K 2)) (ci := 0) C kin0 0 rfl rfl 1 (by decide) fl0_13 rfl rfl dX0_fitIn_14 ?_
        refine kx_iload_n C dX0_fitIn_17 rfl 1 rfl ?_
        refine kx_bipush (v := nI 12) C dX0_fitIn_18 (by decide +kernel) ?_
        refine kx_imul C dX0_fitIn_20 ?_
        refine kx_iload C dX0_fitIn_21 4 rfl ?_
        refine kx_iadd C dX0_fitIn_23 ?_
        refine kx_iald C 2 rfl (j := ((sl) * (12)) + (i)) (by omega) (by decide) dX0_fitIn_24 ?_
        refine kx_aload_n C dX0_fitIn_25 rfl 0 rfl ?_
        refine kx_iload C dX0_fitIn_26 4 rfl ?_
        refine kx_iload_n C dX0_fitIn_28 rfl 2 rfl ?_
        refine kx_callVi (rest := [.int (nI (Wt (((sl) * (12)) + (i)))), .int (nI (sumN (fun p => Wt (sl * 12 + p) * P (numX p k)) i))]) (wr := []) C (c_numberOf E K b y o n ls bc tk hk P Wt Tu Sc Ta Wa He Fk Pk i k (by omega) H1) g0_132 2 rfl (by decide +kernel) ⟨Nat.le_of_ble_eq_true rfl, Nat.le_of_ble_eq_true rfl⟩ ⟨Nat.le_of_ble_eq_true rfl, Nat.le_of_ble_eq_true rfl⟩ [0, 1, 2, 3, 4, 5, 6, 7, 8, 9] [] rfl rfl (by decide) (by decide) (by decide) 0 rfl rfl rfl (Nat.le_of_ble_eq_true rfl) dX0_fitIn_29 (fun v w q2 => ?_)
        obtain ⟨rfl, rfl⟩ := q2
        refine kx_eqw (ws2 := (kwW E K b y o n ls bc tk hk P Wt Tu Sc Ta Wa He Fk Pk)) rfl ?_
        refine kx_imul C dX0_fitIn_32 ?_
        refine kx_iadd C dX0_fitIn_33 ?_
        refine kx_istore_n (lv2 := [(3, .int (nI ((sumN (fun p => Wt (sl * 12 + p) * P (numX p k)) i) + ((Wt (((sl) * (12)) + (i))) * (P (numX i k)))))), (0, .ref (K 0)), (1, .int (nI (sl))), (2, .int (nI (k))), (4, .int (nI (i)))]) C dX0_fitIn_34 rfl (by decide) rfl ?_
        refine kx_iinc (v := nI (i + 1)) (lv2 := [(4, .int (nI (i + 1))), (3, .int (nI ((sumN (fun p => Wt (sl * 12 + p) * P (numX p k)) i) + ((Wt (((sl) * (12)) + (i))) * (P (numX i k)))))), (0, .ref (K 0)), (1, .int (nI (sl))), (2, .int (nI (k)))]) C dX0_fitIn_35 4 rfl (kI1 _) (by decide) rfl ?_
        refine kx_goto (tgt := 5) C dX0_fitIn_38 (by decide) ?_
        refine kx_lv (lv2 := [(0, .ref (K 0)), (1, .int (nI (sl))), (2, .int (nI (k))), (3, .int (nI (sumN (fun p => Wt (sl * 12 + p) * P (numX p k)) (i + 1)))), (4, .int (nI (i + 1)))]) [2, 3, 4, 1, 0] rfl ?_
        refine kx_eqw (ws2 := (kwW E K b y o n ls bc tk hk P Wt Tu Sc Ta Wa He Fk Pk)) rfl ?_
        exact ih_lp5 (i + 1) (by omega) (by omega)
  refine kx_iconst (v := nI 0) C dX0_fitIn_0 (by decide +kernel) ?_
  refine kx_istore_n (lv2 := [(3, .int (nI (0))), (0, .ref (K 0)), (1, .int (nI (sl))), (2, .int (nI (k)))]) C dX0_fitIn_1 rfl (by decide) rfl ?_
  refine kx_iconst (v := nI 0) C dX0_fitIn_2 (by decide +kernel) ?_
  refine kx_istore (lv2 := [(4, .int (nI (0))), (3, .int (nI (0))), (0, .ref (K 0)), (1, .int (nI (sl))), (2, .int (nI (k)))]) C dX0_fitIn_3 (by decide) rfl ?_
  refine kx_lv (lv2 := [(0, .ref (K 0)), (1, .int (nI (sl))), (2, .int (nI (k))), (3, .int (nI (sumN (fun p => Wt (sl * 12 + p) * P (numX p k)) 0))), (4, .int (nI (0)))]) [2, 3, 4, 1, 0] rfl ?_
  refine kx_eqw (ws2 := (kwW E K b y o n ls bc tk hk P Wt Tu Sc Ta Wa He Fk Pk)) rfl ?_
  exact lp5 13 0 (by omega) (by omega)
