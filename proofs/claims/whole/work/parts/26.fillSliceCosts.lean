set_option maxHeartbeats 4000000 in
set_option maxRecDepth 100000 in
theorem c_fillSliceCosts (E : KE) (K : Nat → Nat) (b y o n ls bc tk hk : Nat) (P Wt Tu Sc Ta Wa He Fk Pk : Nat → Nat) (sl : Nat) (H0 : sl < 40) (HP : ∀ j, P j ≤ 99) (HW : ∀ j, Wt j ≤ 200) : kMv E yX0_fillSliceCosts cX0_fillSliceCosts 5 (rk 3 0) [.ref (K 0), .int (nI (sl))] (kwW E K b y o n ls bc tk hk P Wt Tu Sc Ta Wa He Fk Pk) (fun w => ∃ Sv : Nat → Nat, (∀ j, j < 24 → Sv (sl * 24 + j) = costN P Wt sl j) ∧ (∀ j, j < sl * 24 ∨ sl * 24 + 24 ≤ j → Sv j = Sc j) ∧ w = (kwW E K b y o n ls bc tk hk P Wt Tu Sv Ta Wa He Fk Pk)) := by
  refine kMv_of (cc := cX0_fillSliceCosts) (maxL := 5) (by decide) (Nat.le_of_ble_eq_true rfl) ?_
  intro G C hE
  have lp46 : ∀ (N_lp46 : Nat) (q : Nat) (Sv : Nat → Nat), (q ≤ 24) → (∀ j, j < q → Sv (sl * 24 + j) = costN P Wt sl j) → (∀ j, q ≤ j → j < 24 → Sv (sl * 24 + j) = fitN P Wt sl j) → (∀ j, j < sl * 24 ∨ sl * 24 + 24 ≤ j → Sv j = Sc j) → (24 < q + N_lp46) → kx E (rk 3 0) G 5 0 0 (kwW E K b y o n ls bc tk hk P Wt Tu Sv Ta Wa He Fk Pk) [(0, .ref (K 0)), (1, .int (nI (sl))), (2, .int (nI (gfit P Wt sl))), (3, .int (nI (q)))] 46 [] := by
    intro N_lp46
    induction N_lp46 with
    | zero =>
      intro q Sv h0_lp46 h1_lp46 h2_lp46 h3_lp46 hm_lp46
      exact absurd hm_lp46 (by omega)
    | succ N_lp46 ih_lp46 =>
      intro q Sv h0_lp46 h1_lp46 h2_lp46 h3_lp46 hm_lp46
      refine kx_iload_n C dX0_fillSliceCosts_46 rfl 3 rfl ?_
      refine kx_bipush (v := nI 24) C dX0_fillSliceCosts_47 (by decide +kernel) ?_
      refine kx_icmp_ge (tgt := 82) C (by omega) (by omega) dX0_fillSliceCosts_49 (by decide) (fun c1 => ?_) (fun c1 => ?_)
      · skip
        obtain rfl : 24 = q := by omega
        exact hE (Nat.le_of_ble_eq_true rfl) (Nat.le_of_ble_eq_true rfl) dX0_fillSliceCosts_82 ⟨Sv, h1_lp46, h3_lp46, rfl⟩
      · skip
        refine kx_aload_n C dX0_fillSliceCosts_52 rfl 0 rfl ?_
        refine kx_get (v := .ref (K 4)) (ci := 0) C kin0 0 rfl rfl 7 (by decide) fl0_19 rfl rfl dX0_fillSliceCosts_53 ?_
        refine kx_iload_n C dX0_fillSliceCosts_56 rfl 1 rfl ?_
        refine kx_bipush (v := nI 24) C dX0_fillSliceCosts_57 (by decide +kernel) ?_
        refine kx_imul C dX0_fillSliceCosts_59 ?_
        refine kx_iload_n C dX0_fillSliceCosts_60 rfl 3 rfl ?_
        refine kx_iadd C dX0_fillSliceCosts_61 ?_
        refine kx_iload_n C dX0_fillSliceCosts_62 rfl 2 rfl ?_
        refine kx_aload_n C dX0_fillSliceCosts_63 rfl 0 rfl ?_
        refine kx_get (v := .ref (K 4)) (ci := 0) C kin0 0 rfl rfl 7 (by decide) fl0_19 rfl rfl dX0_fillSliceCosts_64 ?_
        refine kx_iload_n C dX0_fillSliceCosts_67 rfl 1 rfl ?_
        refine kx_bipush (v := nI 24) C dX0_fillSliceCosts_68 (by decide +kernel) ?_
        refine kx_imul C dX0_fillSliceCosts_70 ?_
        refine kx_iload_n C dX0_fillSliceCosts_71 rfl 3 rfl ?_
        refine kx_iadd C dX0_fillSliceCosts_72 ?_
        refine kx_iald C 4 rfl (j := ((sl) * (24)) + (q)) (by omega) (by decide) dX0_fillSliceCosts_73 ?_
        refine kx_isub C (by rw [h2_lp46 q (Nat.le_refl _) (by omega)]; exact le_maxN (f := fun k => fitN P Wt sl k) (by omega)) dX0_fillSliceCosts_74 ?_
        refine kx_iast (ws2 := (kwW E K b y o n ls bc tk hk P Wt Tu (va_up Sv (((sl) * (24)) + (q)) ((gfit P Wt sl) - (Sv (((sl) * (24)) + (q))))) Ta Wa He Fk Pk)) C 4 rfl (j := ((sl) * (24)) + (q)) (v := (gfit P Wt sl) - (Sv (((sl) * (24)) + (q)))) (by omega) (by decide) rfl dX0_fillSliceCosts_75 ?_
        refine kx_iinc (v := nI (q + 1)) (lv2 := [(3, .int (nI (q + 1))), (0, .ref (K 0)), (1, .int (nI (sl))), (2, .int (nI (gfit P Wt sl)))]) C dX0_fillSliceCosts_76 3 rfl (kI1 _) (by decide) rfl ?_
        refine kx_goto (tgt := 46) C dX0_fillSliceCosts_79 (by decide) ?_
        refine kx_lv (lv2 := [(0, .ref (K 0)), (1, .int (nI (sl))), (2, .int (nI (gfit P Wt sl))), (3, .int (nI (q + 1)))]) [1, 2, 3, 0] rfl ?_
        refine kx_eqw (ws2 := (kwW E K b y o n ls bc tk hk P Wt Tu (va_up Sv (((sl) * (24)) + (q)) ((gfit P Wt sl) - (Sv (((sl) * (24)) + (q))))) Ta Wa He Fk Pk)) rfl ?_
        exact ih_lp46 (q + 1) (va_up Sv (((sl) * (24)) + (q)) ((gfit P Wt sl) - (Sv (((sl) * (24)) + (q))))) (by omega) (kSc3 h1_lp46 (h2_lp46 q (Nat.le_refl _) (by omega))) (kSc4 h2_lp46) (kSc2 h3_lp46 (by omega)) (by omega)
  have lp4 : ∀ (N_lp4 : Nat) (i : Nat) (Sv : Nat → Nat), (i ≤ 24) → (∀ j, j < i → Sv (sl * 24 + j) = fitN P Wt sl j) → (∀ j, j < sl * 24 ∨ sl * 24 + 24 ≤ j → Sv j = Sc j) → (24 < i + N_lp4) → kx E (rk 3 0) G 5 0 0 (kwW E K b y o n ls bc tk hk P Wt Tu Sv Ta Wa He Fk Pk) [(0, .ref (K 0)), (1, .int (nI (sl))), (2, .int (nI (maxN (fun k => fitN P Wt sl k) i))), (3, .int (nI (i)))] 4 [] := by
    intro N_lp4
    induction N_lp4 with
    | zero =>
      intro i Sv h0_lp4 h1_lp4 h2_lp4 hm_lp4
      exact absurd hm_lp4 (by omega)
    | succ N_lp4 ih_lp4 =>
      intro i Sv h0_lp4 h1_lp4 h2_lp4 hm_lp4
      refine kx_iload_n C dX0_fillSliceCosts_4 rfl 3 rfl ?_
      refine kx_bipush (v := nI 24) C dX0_fillSliceCosts_5 (by decide +kernel) ?_
      refine kx_icmp_ge (tgt := 44) C (by omega) (by omega) dX0_fillSliceCosts_7 (by decide) (fun c2 => ?_) (fun c2 => ?_)
      · skip
        obtain rfl : 24 = i := by omega
        refine kx_iconst (v := nI 0) C dX0_fillSliceCosts_44 (by decide +kernel) ?_
        refine kx_istore_n (lv2 := [(3, .int (nI (0))), (0, .ref (K 0)), (1, .int (nI (sl))), (2, .int (nI (maxN (fun k => fitN P Wt sl k) 24)))]) C dX0_fillSliceCosts_45 rfl (by decide) rfl ?_
        refine kx_lv (lv2 := [(0, .ref (K 0)), (1, .int (nI (sl))), (2, .int (nI (gfit P Wt sl))), (3, .int (nI (0)))]) [1, 2, 3, 0] rfl ?_
        refine kx_eqw (ws2 := (kwW E K b y o n ls bc tk hk P Wt Tu Sv Ta Wa He Fk Pk)) rfl ?_
        exact lp46 25 0 Sv (by omega) (fun j hj => absurd hj (by omega)) (fun j _ hj => h1_lp4 j hj) h2_lp4 (by omega)
      · skip
        refine kx_aload_n C dX0_fillSliceCosts_10 rfl 0 rfl ?_
        refine kx_iload_n C dX0_fillSliceCosts_11 rfl 1 rfl ?_
        refine kx_iload_n C dX0_fillSliceCosts_12 rfl 3 rfl ?_
        refine kx_callVi (rest := []) (wr := []) C (c_fitIn E K b y o n ls bc tk hk P Wt Tu Sv Ta Wa He Fk Pk sl i H0 (by omega)) g0_79 2 rfl (by decide +kernel) ⟨Nat.le_of_ble_eq_true rfl, Nat.le_of_ble_eq_true rfl⟩ ⟨Nat.le_of_ble_eq_true rfl, Nat.le_of_ble_eq_true rfl⟩ [0, 1, 2, 3, 4, 5, 6, 7, 8, 9] [] rfl rfl (by decide) (by decide) (by decide) 0 rfl rfl rfl (Nat.le_of_ble_eq_true rfl) dX0_fillSliceCosts_13 (fun v w q3 => ?_)
        obtain ⟨rfl, rfl⟩ := q3
        refine kx_eqw (ws2 := (kwW E K b y o n ls bc tk hk P Wt Tu Sv Ta Wa He Fk Pk)) rfl ?_
        refine kx_istore (lv2 := [(4, .int (nI (fitN P Wt sl i))), (0, .ref (K 0)), (1, .int (nI (sl))), (2, .int (nI (maxN (fun k => fitN P Wt sl k) i))), (3, .int (nI (i)))]) C dX0_fillSliceCosts_16 (by decide) rfl ?_
        refine kx_aload_n C dX0_fillSliceCosts_18 rfl 1 rfl ?_
        refine kx_get (v := .ref (K 4)) (ci := 0) C kin0 0 rfl rfl 7 (by decide) fl0_19 rfl rfl dX0_fillSliceCosts_19 ?_
        refine kx_iload_n C dX0_fillSliceCosts_22 rfl 2 rfl ?_
        refine kx_bipush (v := nI 24) C dX0_fillSliceCosts_23 (by decide +kernel) ?_
        refine kx_imul C dX0_fillSliceCosts_25 ?_
        refine kx_iload_n C dX0_fillSliceCosts_26 rfl 4 rfl ?_
        refine kx_iadd C dX0_fillSliceCosts_27 ?_
        refine kx_iload C dX0_fillSliceCosts_28 0 rfl ?_
        refine kx_iast (ws2 := (kwW E K b y o n ls bc tk hk P Wt Tu (va_up Sv (((sl) * (24)) + (i)) (fitN P Wt sl i)) Ta Wa He Fk Pk)) C 4 rfl (j := ((sl) * (24)) + (i)) (v := fitN P Wt sl i) (by omega) (by decide) rfl dX0_fillSliceCosts_30 ?_
        refine kx_iload_n C dX0_fillSliceCosts_31 rfl 3 rfl ?_
        refine kx_iload C dX0_fillSliceCosts_32 0 rfl ?_
        refine kx_mmax C (Nat.lt_of_le_of_lt (maxN_le (fun k => fitN_le HP HW sl k) i) (by decide)) (Nat.lt_of_le_of_lt (fitN_le HP HW _ _) (by decide)) m0_171 m_mmaxs m_math m_mmaxc (Nat.le_of_ble_eq_true rfl) (Nat.le_of_ble_eq_true rfl) (Nat.le_of_ble_eq_true rfl) (Nat.le_of_ble_eq_true rfl) dX0_fillSliceCosts_34 ?_
        refine kx_istore_n (lv2 := [(2, .int (nI (max (maxN (fun k => fitN P Wt sl k) i) (fitN P Wt sl i)))), (4, .int (nI (fitN P Wt sl i))), (0, .ref (K 0)), (1, .int (nI (sl))), (3, .int (nI (i)))]) C dX0_fillSliceCosts_37 rfl (by decide) rfl ?_
        refine kx_iinc (v := nI (i + 1)) (lv2 := [(3, .int (nI (i + 1))), (2, .int (nI (max (maxN (fun k => fitN P Wt sl k) i) (fitN P Wt sl i)))), (4, .int (nI (fitN P Wt sl i))), (0, .ref (K 0)), (1, .int (nI (sl)))]) C dX0_fillSliceCosts_38 4 rfl (kI1 _) (by decide) rfl ?_
        refine kx_goto (tgt := 4) C dX0_fillSliceCosts_41 (by decide) ?_
        refine kx_lv (lv2 := [(0, .ref (K 0)), (1, .int (nI (sl))), (2, .int (nI (maxN (fun k => fitN P Wt sl k) (i + 1)))), (3, .int (nI (i + 1)))]) [3, 4, 1, 0] rfl ?_
        refine kx_eqw (ws2 := (kwW E K b y o n ls bc tk hk P Wt Tu (va_up Sv (((sl) * (24)) + (i)) (fitN P Wt sl i)) Ta Wa He Fk Pk)) rfl ?_
        exact ih_lp4 (i + 1) (va_up Sv (((sl) * (24)) + (i)) (fitN P Wt sl i)) (by omega) (kSc1 h1_lp4) (kSc2 h2_lp4 (by omega)) (by omega)
  refine kx_iconst (v := nI 0) C dX0_fillSliceCosts_0 (by decide +kernel) ?_
  refine kx_istore_n (lv2 := [(2, .int (nI (0))), (0, .ref (K 0)), (1, .int (nI (sl)))]) C dX0_fillSliceCosts_1 rfl (by decide) rfl ?_
  refine kx_iconst (v := nI 0) C dX0_fillSliceCosts_2 (by decide +kernel) ?_
  refine kx_istore_n (lv2 := [(3, .int (nI (0))), (2, .int (nI (0))), (0, .ref (K 0)), (1, .int (nI (sl)))]) C dX0_fillSliceCosts_3 rfl (by decide) rfl ?_
  refine kx_lv (lv2 := [(0, .ref (K 0)), (1, .int (nI (sl))), (2, .int (nI (maxN (fun k => fitN P Wt sl k) 0))), (3, .int (nI (0)))]) [2, 3, 1, 0] rfl ?_
  refine kx_eqw (ws2 := (kwW E K b y o n ls bc tk hk P Wt Tu Sc Ta Wa He Fk Pk)) rfl ?_
  exact lp4 25 0 Sc (by omega) (fun j hj => absurd hj (by omega)) (fun _ _ => rfl) (by omega)
