theorem min_one {F : Nat → Nat} (h : F 0 ≤ 10000000) : F 0 = minN F kBIG 1 := by
  simp only [minN]
  have : kBIG = 1000000000 := rfl
  omega
theorem cap_in {F G : Nat → Nat} {L i : Nat} (h : F i = L) : min (min kCAP (sumN (fun j => if F j = L then G j else 0) i) + G i) 1000000000000000000 = min kCAP (sumN (fun j => if F j = L then G j else 0) (i + 1)) := by
  simp only [sumN]
  rw [if_pos h]
  have : kCAP = 1000000000000000000 := rfl
  omega
theorem cap_out {F G : Nat → Nat} {L i : Nat} (h : F i ≠ L) : min kCAP (sumN (fun j => if F j = L then G j else 0) i) = min kCAP (sumN (fun j => if F j = L then G j else 0) (i + 1)) := by
  simp only [sumN]
  rw [if_neg h]
  rfl

set_option maxHeartbeats 4000000 in
set_option maxRecDepth 100000 in
theorem c_fillLeast (E : KE) (K : Nat → Nat) (b y o n ls bc tk hk : Nat) (P Wt Tu Sc Ta Wa He Fk Pk : Nat → Nat) (HTa : ∀ j, j < 24 → Ta j ≤ 10000000) (HWa : ∀ j, j < 24 → Wa j ≤ 1000000000000000000) (H1 : n ≤ 40) : kMv E yX0_fillLeast cX0_fillLeast 2 (rk 2 0) [.ref (K 0)] (kwW E K b y o n ls bc tk hk P Wt Tu Sc Ta Wa He Fk Pk) (fun w => (n = 0 → w = (kwW E K b y o n 0 1 tk hk P Wt Tu Sc Ta Wa He Fk Pk)) ∧ (n ≠ 0 → w = (kwW E K b y o n (minN Ta kBIG 24) (cntN Ta Wa 24) tk hk P Wt Tu Sc Ta Wa He Fk Pk))) := by
  refine kMv_of (cc := cX0_fillLeast) (maxL := 2) (by decide) (Nat.le_of_ble_eq_true rfl) ?_
  intro G C hE
  have lp66 : ∀ (N_lp66 : Nat) (i : Nat), (i ≤ 24) → (n ≠ 0) → (24 < i + N_lp66) → kx E (rk 2 0) G 2 0 0 (kwW E K b y o n (minN Ta kBIG 24) (min kCAP (sumN (fun j => if Ta j = minN Ta kBIG 24 then Wa j else 0) i)) tk hk P Wt Tu Sc Ta Wa He Fk Pk) [(0, .ref (K 0)), (1, .int (nI (i)))] 66 [] := by
    intro N_lp66
    induction N_lp66 with
    | zero =>
      intro i h0_lp66 h1_lp66 hm_lp66
      exact absurd hm_lp66 (by omega)
    | succ N_lp66 ih_lp66 =>
      intro i h0_lp66 h1_lp66 hm_lp66
      refine kx_iload_n C dX0_fillLeast_66 rfl 1 rfl ?_
      refine kx_bipush (v := nI 24) C dX0_fillLeast_67 (by decide +kernel) ?_
      refine kx_icmp_ge (tgt := 108) C (by omega) (by omega) dX0_fillLeast_69 (by decide) (fun c1 => ?_) (fun c1 => ?_)
      · skip
        obtain rfl : 24 = i := by omega
        exact hE (Nat.le_of_ble_eq_true rfl) (Nat.le_of_ble_eq_true rfl) dX0_fillLeast_108 ⟨fun z => absurd z h1_lp66, fun _ => rfl⟩
      · skip
        refine kx_aload_n C dX0_fillLeast_72 rfl 0 rfl ?_
        refine kx_get (v := .ref (K 5)) (ci := 0) C kin0 0 rfl rfl 8 (by decide) fl0_22 rfl rfl dX0_fillLeast_73 ?_
        refine kx_iload_n C dX0_fillLeast_76 rfl 1 rfl ?_
        refine kx_iald C 5 rfl (j := i) (by omega) (by decide) dX0_fillLeast_77 ?_
        refine kx_aload_n C dX0_fillLeast_78 rfl 0 rfl ?_
        refine kx_get (v := .int (nI ((minN Ta kBIG 24)))) (ci := 0) C kin0 0 rfl rfl 13 (by decide) fl0_93 rfl rfl dX0_fillLeast_79 ?_
        refine kx_icmp_ne (tgt := 102) C (by have := HTa i (by omega); omega) (minN_lt31 Ta 24) dX0_fillLeast_82 (by decide) (fun c2 => ?_) (fun c2 => ?_)
        · skip
          refine kx_iinc (v := nI (i + 1)) (lv2 := [(1, .int (nI (i + 1))), (0, .ref (K 0))]) C dX0_fillLeast_102 1 rfl (kI1 _) (by decide) rfl ?_
          refine kx_goto (tgt := 66) C dX0_fillLeast_105 (by decide) ?_
          refine kx_eqw (ws2 := (kwW E K b y o n (minN Ta kBIG 24) (min kCAP (sumN (fun j => if Ta j = minN Ta kBIG 24 then Wa j else 0) (i + 1))) tk hk P Wt Tu Sc Ta Wa He Fk Pk)) (by rw [cap_out (F := Ta) (G := Wa) c2]) ?_
          refine kx_lv (lv2 := [(0, .ref (K 0)), (1, .int (nI (i + 1)))]) [1, 0] rfl ?_
          refine kx_eqw (ws2 := (kwW E K b y o n (minN Ta kBIG 24) (min kCAP (sumN (fun j => if Ta j = minN Ta kBIG 24 then Wa j else 0) (i + 1))) tk hk P Wt Tu Sc Ta Wa He Fk Pk)) rfl ?_
          exact ih_lp66 (i + 1) (by omega) h1_lp66 (by omega)
        · skip
          refine kx_aload_n C dX0_fillLeast_85 rfl 0 rfl ?_
          refine kx_aload_n C dX0_fillLeast_86 rfl 0 rfl ?_
          refine kx_get (v := .long (lN (min kCAP (sumN (fun j => if Ta j = minN Ta kBIG 24 then Wa j else 0) i)))) (ci := 0) C kin0 0 rfl rfl 14 (by decide) fl0_96 rfl rfl dX0_fillLeast_87 ?_
          refine kx_aload_n C dX0_fillLeast_90 rfl 0 rfl ?_
          refine kx_get (v := .ref (K 6)) (ci := 0) C kin0 0 rfl rfl 9 (by decide) fl0_25 rfl rfl dX0_fillLeast_91 ?_
          refine kx_iload_n C dX0_fillLeast_94 rfl 1 rfl ?_
          refine kx_lald C 6 rfl (j := i) (by omega) (by decide) dX0_fillLeast_95 ?_
          refine kx_callSl (rest := [.ref (K 0)]) (wr := (kwW E K b y o n (minN Ta kBIG 24) (min kCAP (sumN (fun j => if Ta j = minN Ta kBIG 24 then Wa j else 0) i)) tk hk P Wt Tu Sc Ta Wa He Fk Pk)) C (c_cappedSum E (min kCAP (sumN (fun j => if Ta j = minN Ta kBIG 24 then Wa j else 0) i)) (Wa (i)) (Nat.min_le_left _ _) (HWa i (by omega))) g0_199 2 rfl (by decide +kernel) ⟨Nat.le_of_ble_eq_true rfl, Nat.le_of_ble_eq_true rfl⟩ ⟨Nat.le_of_ble_eq_true rfl, Nat.le_of_ble_eq_true rfl⟩ [] [0, 1, 2, 3, 4, 5, 6, 7, 8, 9] rfl rfl (by decide) (by decide) (by decide) rfl (Nat.le_of_ble_eq_true rfl) dX0_fillLeast_96 (fun v w q3 => ?_)
          obtain ⟨rfl, rfl⟩ := q3
          refine kx_eqw (ws2 := (kwW E K b y o n (minN Ta kBIG 24) (min kCAP (sumN (fun j => if Ta j = minN Ta kBIG 24 then Wa j else 0) i)) tk hk P Wt Tu Sc Ta Wa He Fk Pk)) (List.append_nil _) ?_
          refine kx_put (ws2 := (kwW E K b y o n (minN Ta kBIG 24) (min (min kCAP (sumN (fun j => if Ta j = minN Ta kBIG 24 then Wa j else 0) i) + Wa (i)) 1000000000000000000) tk hk P Wt Tu Sc Ta Wa He Fk Pk)) (ci := 0) C kin0 tyX0_ok nmX0 0 rfl rfl 14 (by decide) fl0_96 rfl rfl rfl rfl (Nat.le_of_ble_eq_true rfl) rfl dX0_fillLeast_99 ?_
          refine kx_iinc (v := nI (i + 1)) (lv2 := [(1, .int (nI (i + 1))), (0, .ref (K 0))]) C dX0_fillLeast_102 1 rfl (kI1 _) (by decide) rfl ?_
          refine kx_goto (tgt := 66) C dX0_fillLeast_105 (by decide) ?_
          refine kx_eqw (ws2 := (kwW E K b y o n (minN Ta kBIG 24) (min kCAP (sumN (fun j => if Ta j = minN Ta kBIG 24 then Wa j else 0) (i + 1))) tk hk P Wt Tu Sc Ta Wa He Fk Pk)) (by rw [cap_in (F := Ta) (G := Wa) c2]) ?_
          refine kx_lv (lv2 := [(0, .ref (K 0)), (1, .int (nI (i + 1)))]) [1, 0] rfl ?_
          refine kx_eqw (ws2 := (kwW E K b y o n (minN Ta kBIG 24) (min kCAP (sumN (fun j => if Ta j = minN Ta kBIG 24 then Wa j else 0) (i + 1))) tk hk P Wt Tu Sc Ta Wa He Fk Pk)) rfl ?_
          exact ih_lp66 (i + 1) (by omega) h1_lp66 (by omega)
  have lp30 : ∀ (N_lp30 : Nat) (i : Nat), (1 ≤ i) → (i ≤ 24) → (n ≠ 0) → (24 < i + N_lp30) → kx E (rk 2 0) G 2 0 0 (kwW E K b y o n (minN Ta kBIG i) 1 tk hk P Wt Tu Sc Ta Wa He Fk Pk) [(0, .ref (K 0)), (1, .int (nI (i)))] 30 [] := by
    intro N_lp30
    induction N_lp30 with
    | zero =>
      intro i h0_lp30 h1_lp30 h2_lp30 hm_lp30
      exact absurd hm_lp30 (by omega)
    | succ N_lp30 ih_lp30 =>
      intro i h0_lp30 h1_lp30 h2_lp30 hm_lp30
      refine kx_iload_n C dX0_fillLeast_30 rfl 1 rfl ?_
      refine kx_bipush (v := nI 24) C dX0_fillLeast_31 (by decide +kernel) ?_
      refine kx_icmp_ge (tgt := 59) C (by omega) (by omega) dX0_fillLeast_33 (by decide) (fun c4 => ?_) (fun c4 => ?_)
      · skip
        obtain rfl : 24 = i := by omega
        refine kx_aload_n C dX0_fillLeast_59 rfl 0 rfl ?_
        refine kx_lconst (v := lN 0) C dX0_fillLeast_60 (by decide +kernel) ?_
        refine kx_put (ws2 := (kwW E K b y o n (minN Ta kBIG 24) 0 tk hk P Wt Tu Sc Ta Wa He Fk Pk)) (ci := 0) C kin0 tyX0_ok nmX0 0 rfl rfl 14 (by decide) fl0_96 rfl rfl rfl rfl (Nat.le_of_ble_eq_true rfl) rfl dX0_fillLeast_61 ?_
        refine kx_iconst (v := nI 0) C dX0_fillLeast_64 (by decide +kernel) ?_
        refine kx_istore_n (lv2 := [(1, .int (nI (0))), (0, .ref (K 0))]) C dX0_fillLeast_65 rfl (by decide) rfl ?_
        refine kx_lv (lv2 := [(0, .ref (K 0)), (1, .int (nI (0)))]) [1, 0] rfl ?_
        refine kx_eqw (ws2 := (kwW E K b y o n (minN Ta kBIG 24) (min kCAP (sumN (fun j => if Ta j = minN Ta kBIG 24 then Wa j else 0) 0)) tk hk P Wt Tu Sc Ta Wa He Fk Pk)) rfl ?_
        exact lp66 25 0 (by omega) h2_lp30 (by omega)
      · skip
        refine kx_aload_n C dX0_fillLeast_36 rfl 0 rfl ?_
        refine kx_aload_n C dX0_fillLeast_37 rfl 0 rfl ?_
        refine kx_get (v := .int (nI (minN Ta kBIG i))) (ci := 0) C kin0 0 rfl rfl 13 (by decide) fl0_93 rfl rfl dX0_fillLeast_38 ?_
        refine kx_aload_n C dX0_fillLeast_41 rfl 0 rfl ?_
        refine kx_get (v := .ref (K 5)) (ci := 0) C kin0 0 rfl rfl 8 (by decide) fl0_22 rfl rfl dX0_fillLeast_42 ?_
        refine kx_iload_n C dX0_fillLeast_45 rfl 1 rfl ?_
        refine kx_iald C 5 rfl (j := i) (by omega) (by decide) dX0_fillLeast_46 ?_
        refine kx_mmin C (minN_lt31 Ta i) (by have := HTa i (by omega); omega) m0_182 m_mmins m_math m_mminc (Nat.le_of_ble_eq_true rfl) (Nat.le_of_ble_eq_true rfl) (Nat.le_of_ble_eq_true rfl) (Nat.le_of_ble_eq_true rfl) dX0_fillLeast_47 ?_
        refine kx_put (ws2 := (kwW E K b y o n (min (minN Ta kBIG i) (Ta (i))) 1 tk hk P Wt Tu Sc Ta Wa He Fk Pk)) (ci := 0) C kin0 tyX0_ok nmX0 0 rfl rfl 13 (by decide) fl0_93 rfl rfl rfl rfl (Nat.le_of_ble_eq_true rfl) rfl dX0_fillLeast_50 ?_
        refine kx_iinc (v := nI (i + 1)) (lv2 := [(1, .int (nI (i + 1))), (0, .ref (K 0))]) C dX0_fillLeast_53 1 rfl (kI1 _) (by decide) rfl ?_
        refine kx_goto (tgt := 30) C dX0_fillLeast_56 (by decide) ?_
        refine kx_lv (lv2 := [(0, .ref (K 0)), (1, .int (nI (i + 1)))]) [1, 0] rfl ?_
        refine kx_eqw (ws2 := (kwW E K b y o n (minN Ta kBIG (i + 1)) 1 tk hk P Wt Tu Sc Ta Wa He Fk Pk)) rfl ?_
        exact ih_lp30 (i + 1) (by omega) (by omega) h2_lp30 (by omega)
  refine kx_aload_n C dX0_fillLeast_0 rfl 0 rfl ?_
  refine kx_iconst (v := nI 0) C dX0_fillLeast_1 (by decide +kernel) ?_
  refine kx_put (ws2 := (kwW E K b y o n 0 bc tk hk P Wt Tu Sc Ta Wa He Fk Pk)) (ci := 0) C kin0 tyX0_ok nmX0 0 rfl rfl 13 (by decide) fl0_93 rfl rfl rfl rfl (Nat.le_of_ble_eq_true rfl) rfl dX0_fillLeast_2 ?_
  refine kx_aload_n C dX0_fillLeast_5 rfl 0 rfl ?_
  refine kx_lconst (v := lN 1) C dX0_fillLeast_6 (by decide +kernel) ?_
  refine kx_put (ws2 := (kwW E K b y o n 0 1 tk hk P Wt Tu Sc Ta Wa He Fk Pk)) (ci := 0) C kin0 tyX0_ok nmX0 0 rfl rfl 14 (by decide) fl0_96 rfl rfl rfl rfl (Nat.le_of_ble_eq_true rfl) rfl dX0_fillLeast_7 ?_
  refine kx_aload_n C dX0_fillLeast_10 rfl 0 rfl ?_
  refine kx_get (v := .int (nI (n))) (ci := 0) C kin0 0 rfl rfl 5 (by decide) fl0_41 rfl rfl dX0_fillLeast_11 ?_
  refine kx_if_ne (tgt := 18) C (by omega) dX0_fillLeast_14 (by decide) (fun c5 => ?_) (fun c5 => ?_)
  · skip
    refine kx_aload_n C dX0_fillLeast_18 rfl 0 rfl ?_
    refine kx_aload_n C dX0_fillLeast_19 rfl 0 rfl ?_
    refine kx_get (v := .ref (K 5)) (ci := 0) C kin0 0 rfl rfl 8 (by decide) fl0_22 rfl rfl dX0_fillLeast_20 ?_
    refine kx_iconst (v := nI 0) C dX0_fillLeast_23 (by decide +kernel) ?_
    refine kx_iald C 5 rfl (j := 0) (by omega) (by decide) dX0_fillLeast_24 ?_
    refine kx_put (ws2 := (kwW E K b y o n (Ta (0)) 1 tk hk P Wt Tu Sc Ta Wa He Fk Pk)) (ci := 0) C kin0 tyX0_ok nmX0 0 rfl rfl 13 (by decide) fl0_93 rfl rfl rfl rfl (Nat.le_of_ble_eq_true rfl) rfl dX0_fillLeast_25 ?_
    refine kx_iconst (v := nI 1) C dX0_fillLeast_28 (by decide +kernel) ?_
    refine kx_istore_n (lv2 := [(1, .int (nI (1))), (0, .ref (K 0))]) C dX0_fillLeast_29 rfl (by decide) rfl ?_
    refine kx_eqw (ws2 := (kwW E K b y o n (minN Ta kBIG 1) 1 tk hk P Wt Tu Sc Ta Wa He Fk Pk)) (by rw [min_one (HTa 0 (by omega))]) ?_
    refine kx_lv (lv2 := [(0, .ref (K 0)), (1, .int (nI (1)))]) [1, 0] rfl ?_
    refine kx_eqw (ws2 := (kwW E K b y o n (minN Ta kBIG 1) 1 tk hk P Wt Tu Sc Ta Wa He Fk Pk)) rfl ?_
    exact lp30 25 1 (by omega) (by omega) (by omega) (by omega)
  · skip
    exact hE (Nat.le_of_ble_eq_true rfl) (Nat.le_of_ble_eq_true rfl) dX0_fillLeast_17 ⟨fun _ => rfl, fun z => absurd z (by omega)⟩
