set_option maxHeartbeats 4000000 in
set_option maxRecDepth 100000 in
theorem c_greatestFit (E : KE) (K : Nat → Nat) (b y o n ls bc tk hk : Nat) (P Wt Tu Sc Ta Wa He Fk Pk : Nat → Nat) (sl : Nat) (H0 : sl < 40) (HP : ∀ j, P j ≤ 99) (HW : ∀ j, Wt j ≤ 200) : kMi E yX0_greatestFit cX0_greatestFit 4 (rk 3 0) [.ref (K 0), .int (nI (sl))] (kwW E K b y o n ls bc tk hk P Wt Tu Sc Ta Wa He Fk Pk) (fun r w => r = nI (gfit P Wt sl) ∧ w = (kwW E K b y o n ls bc tk hk P Wt Tu Sc Ta Wa He Fk Pk)) := by
  refine kMi_of (cc := cX0_greatestFit) (maxL := 4) (by decide) (Nat.le_of_ble_eq_true rfl) ?_
  intro G C hE
  have lp4 : ∀ (N_lp4 : Nat) (i : Nat), (i ≤ 24) → (24 < i + N_lp4) → kx E (rk 3 0) G 4 0 0 (kwW E K b y o n ls bc tk hk P Wt Tu Sc Ta Wa He Fk Pk) [(0, .ref (K 0)), (1, .int (nI (sl))), (2, .int (nI (maxN (fun k => fitN P Wt sl k) i))), (3, .int (nI (i)))] 4 [] := by
    intro N_lp4
    induction N_lp4 with
    | zero =>
      intro i h0_lp4 hm_lp4
      exact absurd hm_lp4 (by omega)
    | succ N_lp4 ih_lp4 =>
      intro i h0_lp4 hm_lp4
      refine kx_iload_n C dX0_greatestFit_4 rfl 3 rfl ?_
      refine kx_bipush (v := nI 24) C dX0_greatestFit_5 (by decide +kernel) ?_
      refine kx_icmp_ge (tgt := 27) C (by omega) (by omega) dX0_greatestFit_7 (by decide) (fun c1 => ?_) (fun c1 => ?_)
      · skip
        obtain rfl : 24 = i := by omega
        refine kx_iload_n C dX0_greatestFit_27 rfl 2 rfl ?_
        exact hE (Nat.le_of_ble_eq_true rfl) (Nat.le_of_ble_eq_true rfl) dX0_greatestFit_28 ⟨rfl, rfl⟩
      · skip
        refine kx_iload_n C dX0_greatestFit_10 rfl 2 rfl ?_
        refine kx_aload_n C dX0_greatestFit_11 rfl 0 rfl ?_
        refine kx_iload_n C dX0_greatestFit_12 rfl 1 rfl ?_
        refine kx_iload_n C dX0_greatestFit_13 rfl 3 rfl ?_
        refine kx_callVi (rest := [.int (nI (maxN (fun k => fitN P Wt sl k) i))]) (wr := []) C (c_fitIn E K b y o n ls bc tk hk P Wt Tu Sc Ta Wa He Fk Pk sl i H0 (by omega)) g0_79 2 rfl (by decide +kernel) ⟨Nat.le_of_ble_eq_true rfl, Nat.le_of_ble_eq_true rfl⟩ ⟨Nat.le_of_ble_eq_true rfl, Nat.le_of_ble_eq_true rfl⟩ [0, 1, 2, 3, 4, 5, 6, 7, 8, 9] [] rfl rfl (by decide) (by decide) (by decide) 0 rfl rfl rfl (Nat.le_of_ble_eq_true rfl) dX0_greatestFit_14 (fun v w q2 => ?_)
        obtain ⟨rfl, rfl⟩ := q2
        refine kx_eqw (ws2 := (kwW E K b y o n ls bc tk hk P Wt Tu Sc Ta Wa He Fk Pk)) rfl ?_
        refine kx_mmax C (Nat.lt_of_le_of_lt (maxN_le (fun k => fitN_le HP HW sl k) i) (by decide)) (Nat.lt_of_le_of_lt (fitN_le HP HW _ _) (by decide)) m0_171 m_mmaxs m_math m_mmaxc (Nat.le_of_ble_eq_true rfl) (Nat.le_of_ble_eq_true rfl) (Nat.le_of_ble_eq_true rfl) (Nat.le_of_ble_eq_true rfl) dX0_greatestFit_17 ?_
        refine kx_istore_n (lv2 := [(2, .int (nI (max (maxN (fun k => fitN P Wt sl k) i) (fitN P Wt sl i)))), (0, .ref (K 0)), (1, .int (nI (sl))), (3, .int (nI (i)))]) C dX0_greatestFit_20 rfl (by decide) rfl ?_
        refine kx_iinc (v := nI (i + 1)) (lv2 := [(3, .int (nI (i + 1))), (2, .int (nI (max (maxN (fun k => fitN P Wt sl k) i) (fitN P Wt sl i)))), (0, .ref (K 0)), (1, .int (nI (sl)))]) C dX0_greatestFit_21 3 rfl (kI1 _) (by decide) rfl ?_
        refine kx_goto (tgt := 4) C dX0_greatestFit_24 (by decide) ?_
        refine kx_lv (lv2 := [(0, .ref (K 0)), (1, .int (nI (sl))), (2, .int (nI (maxN (fun k => fitN P Wt sl k) (i + 1)))), (3, .int (nI (i + 1)))]) [2, 3, 1, 0] rfl ?_
        refine kx_eqw (ws2 := (kwW E K b y o n ls bc tk hk P Wt Tu Sc Ta Wa He Fk Pk)) rfl ?_
        exact ih_lp4 (i + 1) (by omega) (by omega)
  refine kx_iconst (v := nI 0) C dX0_greatestFit_0 (by decide +kernel) ?_
  refine kx_istore_n (lv2 := [(2, .int (nI (0))), (0, .ref (K 0)), (1, .int (nI (sl)))]) C dX0_greatestFit_1 rfl (by decide) rfl ?_
  refine kx_iconst (v := nI 0) C dX0_greatestFit_2 (by decide +kernel) ?_
  refine kx_istore_n (lv2 := [(3, .int (nI (0))), (2, .int (nI (0))), (0, .ref (K 0)), (1, .int (nI (sl)))]) C dX0_greatestFit_3 rfl (by decide) rfl ?_
  refine kx_lv (lv2 := [(0, .ref (K 0)), (1, .int (nI (sl))), (2, .int (nI (maxN (fun k => fitN P Wt sl k) 0))), (3, .int (nI (0)))]) [2, 3, 1, 0] rfl ?_
  refine kx_eqw (ws2 := (kwW E K b y o n ls bc tk hk P Wt Tu Sc Ta Wa He Fk Pk)) rfl ?_
  exact lp4 25 0 (by omega) (by omega)

set_option maxHeartbeats 4000000 in
set_option maxRecDepth 100000 in
theorem c_fitTogether (E : KE) (K : Nat → Nat) (b y o n ls bc tk hk : Nat) (P Wt Tu Sc Ta Wa He Fk Pk : Nat → Nat) (fi la k : Nat) (H0 : fi ≤ la) (H1 : la < 40) (H2 : k < 24) : kMi E yX0_fitTogether cX0_fitTogether 6 (rk 3 0) [.ref (K 0), .int (nI (fi)), .int (nI (la)), .int (nI (k))] (kwW E K b y o n ls bc tk hk P Wt Tu Sc Ta Wa He Fk Pk) (fun r w => r = nI (sumN (fun t => fitN P Wt (fi + t) k) (la + 1 - fi)) ∧ w = (kwW E K b y o n ls bc tk hk P Wt Tu Sc Ta Wa He Fk Pk)) := by
  refine kMi_of (cc := cX0_fitTogether) (maxL := 6) (by decide) (Nat.le_of_ble_eq_true rfl) ?_
  intro G C hE
  have lp6 : ∀ (N_lp6 : Nat) (t : Nat), (fi + t ≤ la + 1) → (la + 1 < fi + t + N_lp6) → kx E (rk 3 0) G 6 0 0 (kwW E K b y o n ls bc tk hk P Wt Tu Sc Ta Wa He Fk Pk) [(0, .ref (K 0)), (1, .int (nI (fi))), (2, .int (nI (la))), (3, .int (nI (k))), (4, .int (nI (sumN (fun t => fitN P Wt (fi + t) k) t))), (5, .int (nI (fi + t)))] 6 [] := by
    intro N_lp6
    induction N_lp6 with
    | zero =>
      intro t h0_lp6 hm_lp6
      exact absurd hm_lp6 (by omega)
    | succ N_lp6 ih_lp6 =>
      intro t h0_lp6 hm_lp6
      refine kx_iload C dX0_fitTogether_6 5 rfl ?_
      refine kx_iload_n C dX0_fitTogether_8 rfl 2 rfl ?_
      refine kx_icmp_gt (tgt := 30) C (by omega) (by omega) dX0_fitTogether_9 (by decide) (fun c1 => ?_) (fun c1 => ?_)
      · skip
        obtain rfl : la + 1 - fi = t := by omega
        refine kx_iload C dX0_fitTogether_30 4 rfl ?_
        exact hE (Nat.le_of_ble_eq_true rfl) (Nat.le_of_ble_eq_true rfl) dX0_fitTogether_32 ⟨rfl, rfl⟩
      · skip
        refine kx_iload C dX0_fitTogether_12 4 rfl ?_
        refine kx_aload_n C dX0_fitTogether_14 rfl 0 rfl ?_
        refine kx_iload C dX0_fitTogether_15 5 rfl ?_
        refine kx_iload_n C dX0_fitTogether_17 rfl 3 rfl ?_
        refine kx_callVi (rest := [.int (nI (sumN (fun t => fitN P Wt (fi + t) k) t))]) (wr := []) C (c_fitIn E K b y o n ls bc tk hk P Wt Tu Sc Ta Wa He Fk Pk (fi + t) k (by omega) H2) g0_79 2 rfl (by decide +kernel) ⟨Nat.le_of_ble_eq_true rfl, Nat.le_of_ble_eq_true rfl⟩ ⟨Nat.le_of_ble_eq_true rfl, Nat.le_of_ble_eq_true rfl⟩ [0, 1, 2, 3, 4, 5, 6, 7, 8, 9] [] rfl rfl (by decide) (by decide) (by decide) 0 rfl rfl rfl (Nat.le_of_ble_eq_true rfl) dX0_fitTogether_18 (fun v w q2 => ?_)
        obtain ⟨rfl, rfl⟩ := q2
        refine kx_eqw (ws2 := (kwW E K b y o n ls bc tk hk P Wt Tu Sc Ta Wa He Fk Pk)) rfl ?_
        refine kx_iadd C dX0_fitTogether_21 ?_
        refine kx_istore (lv2 := [(4, .int (nI ((sumN (fun t => fitN P Wt (fi + t) k) t) + (fitN P Wt (fi + t) k)))), (0, .ref (K 0)), (1, .int (nI (fi))), (2, .int (nI (la))), (3, .int (nI (k))), (5, .int (nI (fi + t)))]) C dX0_fitTogether_22 (by decide) rfl ?_
        refine kx_iinc (v := nI (fi + t + 1)) (lv2 := [(5, .int (nI (fi + t + 1))), (4, .int (nI ((sumN (fun t => fitN P Wt (fi + t) k) t) + (fitN P Wt (fi + t) k)))), (0, .ref (K 0)), (1, .int (nI (fi))), (2, .int (nI (la))), (3, .int (nI (k)))]) C dX0_fitTogether_24 5 rfl (kI1 _) (by decide) rfl ?_
        refine kx_goto (tgt := 6) C dX0_fitTogether_27 (by decide) ?_
        refine kx_lv (lv2 := [(0, .ref (K 0)), (1, .int (nI (fi))), (2, .int (nI (la))), (3, .int (nI (k))), (4, .int (nI (sumN (fun t => fitN P Wt (fi + t) k) (t + 1)))), (5, .int (nI (fi + (t + 1))))]) [2, 3, 4, 5, 1, 0] rfl ?_
        refine kx_eqw (ws2 := (kwW E K b y o n ls bc tk hk P Wt Tu Sc Ta Wa He Fk Pk)) rfl ?_
        exact ih_lp6 (t + 1) (by omega) (by omega)
  refine kx_iconst (v := nI 0) C dX0_fitTogether_0 (by decide +kernel) ?_
  refine kx_istore (lv2 := [(4, .int (nI (0))), (0, .ref (K 0)), (1, .int (nI (fi))), (2, .int (nI (la))), (3, .int (nI (k)))]) C dX0_fitTogether_1 (by decide) rfl ?_
  refine kx_iload_n C dX0_fitTogether_3 rfl 2 rfl ?_
  refine kx_istore (lv2 := [(5, .int (nI (fi))), (4, .int (nI (0))), (0, .ref (K 0)), (1, .int (nI (fi))), (2, .int (nI (la))), (3, .int (nI (k)))]) C dX0_fitTogether_4 (by decide) rfl ?_
  refine kx_lv (lv2 := [(0, .ref (K 0)), (1, .int (nI (fi))), (2, .int (nI (la))), (3, .int (nI (k))), (4, .int (nI (sumN (fun t => fitN P Wt (fi + t) k) 0))), (5, .int (nI (fi + 0)))]) [2, 3, 4, 5, 1, 0] rfl ?_
  refine kx_eqw (ws2 := (kwW E K b y o n ls bc tk hk P Wt Tu Sc Ta Wa He Fk Pk)) rfl ?_
  exact lp6 42 0 (by omega) (by omega)

set_option maxHeartbeats 4000000 in
set_option maxRecDepth 100000 in
theorem c_turnBetween (E : KE) (K : Nat → Nat) (b y o n ls bc tk hk : Nat) (P Wt Tu Sc Ta Wa He Fk Pk : Nat → Nat) (f t : Nat) (H0 : f < 24) (H1 : t < 24) : kMi E yX0_turnBetween cX0_turnBetween 5 (rk 2 0) [.ref (K 0), .int (nI (f)), .int (nI (t))] (kwW E K b y o n ls bc tk hk P Wt Tu Sc Ta Wa He Fk Pk) (fun r w => r = nI (turnN b y o f t) ∧ w = (kwW E K b y o n ls bc tk hk P Wt Tu Sc Ta Wa He Fk Pk)) := by
  refine kMi_of (cc := cX0_turnBetween) (maxL := 5) (by decide) (Nat.le_of_ble_eq_true rfl) ?_
  intro G C hE
  have h1 := plc_lt f
  have h2 := plc_lt t
  have h3 : dst (plc f) (plc t) < 12 := by unfold dst; split <;> omega
  refine kx_iload_n C dX0_turnBetween_0 rfl 1 rfl ?_
  refine kx_iload_n C dX0_turnBetween_1 rfl 2 rfl ?_
  refine kx_icmp_ne (tgt := 7) C (by omega) (by omega) dX0_turnBetween_2 (by decide) (fun c1 => ?_) (fun c1 => ?_)
  · skip
    refine kx_iload_n C dX0_turnBetween_7 rfl 1 rfl ?_
    refine kx_callSi (rest := []) (wr := (kwW E K b y o n ls bc tk hk P Wt Tu Sc Ta Wa He Fk Pk)) C (c_placeOf E f (by omega)) g0_176 1 rfl (by decide +kernel) ⟨Nat.le_of_ble_eq_true rfl, Nat.le_of_ble_eq_true rfl⟩ ⟨Nat.le_of_ble_eq_true rfl, Nat.le_of_ble_eq_true rfl⟩ [] [0, 1, 2, 3, 4, 5, 6, 7, 8, 9] rfl rfl (by decide) (by decide) (by decide) rfl (Nat.le_of_ble_eq_true rfl) dX0_turnBetween_8 (fun v w q2 => ?_)
    obtain ⟨rfl, rfl⟩ := q2
    refine kx_eqw (ws2 := (kwW E K b y o n ls bc tk hk P Wt Tu Sc Ta Wa He Fk Pk)) (List.append_nil _) ?_
    refine kx_iload_n C dX0_turnBetween_11 rfl 2 rfl ?_
    refine kx_callSi (rest := [.int (nI (plc f))]) (wr := (kwW E K b y o n ls bc tk hk P Wt Tu Sc Ta Wa He Fk Pk)) C (c_placeOf E t (by omega)) g0_176 1 rfl (by decide +kernel) ⟨Nat.le_of_ble_eq_true rfl, Nat.le_of_ble_eq_true rfl⟩ ⟨Nat.le_of_ble_eq_true rfl, Nat.le_of_ble_eq_true rfl⟩ [] [0, 1, 2, 3, 4, 5, 6, 7, 8, 9] rfl rfl (by decide) (by decide) (by decide) rfl (Nat.le_of_ble_eq_true rfl) dX0_turnBetween_12 (fun v w q3 => ?_)
    obtain ⟨rfl, rfl⟩ := q3
    refine kx_eqw (ws2 := (kwW E K b y o n ls bc tk hk P Wt Tu Sc Ta Wa He Fk Pk)) (List.append_nil _) ?_
    refine kx_isubR C dX0_turnBetween_15 ?_
    refine kx_mabs (a := plc f) (b := plc t) C (by omega) (by omega) m0_179 m_mabss m_math m_mabsc (Nat.le_of_ble_eq_true rfl) (Nat.le_of_ble_eq_true rfl) (Nat.le_of_ble_eq_true rfl) (Nat.le_of_ble_eq_true rfl) dX0_turnBetween_16 ?_
    refine kx_istore_n (lv2 := [(3, .int (nI (dst (plc f) (plc t)))), (0, .ref (K 0)), (1, .int (nI (f))), (2, .int (nI (t)))]) C dX0_turnBetween_19 rfl (by decide) rfl ?_
    refine kx_iload_n C dX0_turnBetween_20 rfl 0 rfl ?_
    refine kx_bipush (v := nI 12) C dX0_turnBetween_21 (by decide +kernel) ?_
    refine kx_iload_n C dX0_turnBetween_23 rfl 0 rfl ?_
    refine kx_isub C (by omega) dX0_turnBetween_24 ?_
    refine kx_mmin C (by omega) (by omega) m0_182 m_mmins m_math m_mminc (Nat.le_of_ble_eq_true rfl) (Nat.le_of_ble_eq_true rfl) (Nat.le_of_ble_eq_true rfl) (Nat.le_of_ble_eq_true rfl) dX0_turnBetween_25 ?_
    refine kx_istore (lv2 := [(4, .int (nI (min (dst (plc f) (plc t)) ((12) - (dst (plc f) (plc t)))))), (3, .int (nI (dst (plc f) (plc t)))), (0, .ref (K 0)), (1, .int (nI (f))), (2, .int (nI (t)))]) C dX0_turnBetween_28 (by decide) rfl ?_
    refine kx_aload_n C dX0_turnBetween_30 rfl 2 rfl ?_
    refine kx_get (v := .int (nI (b))) (ci := 0) C kin0 0 rfl rfl 2 (by decide) fl0_52 rfl rfl dX0_turnBetween_31 ?_
    refine kx_aload_n C dX0_turnBetween_34 rfl 2 rfl ?_
    refine kx_get (v := .int (nI (y))) (ci := 0) C kin0 0 rfl rfl 3 (by decide) fl0_55 rfl rfl dX0_turnBetween_35 ?_
    refine kx_iload C dX0_turnBetween_38 0 rfl ?_
    refine kx_imul C dX0_turnBetween_40 ?_
    refine kx_iadd C dX0_turnBetween_41 ?_
    refine kx_iload_n C dX0_turnBetween_42 rfl 3 rfl ?_
    refine kx_callSi (rest := [.int (nI ((b) + ((y) * (min (dst (plc f) (plc t)) ((12) - (dst (plc f) (plc t)))))))]) (wr := (kwW E K b y o n ls bc tk hk P Wt Tu Sc Ta Wa He Fk Pk)) C (c_modeOf E f (by omega)) g0_165 1 rfl (by decide +kernel) ⟨Nat.le_of_ble_eq_true rfl, Nat.le_of_ble_eq_true rfl⟩ ⟨Nat.le_of_ble_eq_true rfl, Nat.le_of_ble_eq_true rfl⟩ [] [0, 1, 2, 3, 4, 5, 6, 7, 8, 9] rfl rfl (by decide) (by decide) (by decide) rfl (Nat.le_of_ble_eq_true rfl) dX0_turnBetween_43 (fun v w q4 => ?_)
    obtain ⟨rfl, rfl⟩ := q4
    refine kx_eqw (ws2 := (kwW E K b y o n ls bc tk hk P Wt Tu Sc Ta Wa He Fk Pk)) (List.append_nil _) ?_
    refine kx_iload_n C dX0_turnBetween_46 rfl 4 rfl ?_
    refine kx_callSi (rest := [.int (nI (f / 12)), .int (nI ((b) + ((y) * (min (dst (plc f) (plc t)) ((12) - (dst (plc f) (plc t)))))))]) (wr := (kwW E K b y o n ls bc tk hk P Wt Tu Sc Ta Wa He Fk Pk)) C (c_modeOf E t (by omega)) g0_165 1 rfl (by decide +kernel) ⟨Nat.le_of_ble_eq_true rfl, Nat.le_of_ble_eq_true rfl⟩ ⟨Nat.le_of_ble_eq_true rfl, Nat.le_of_ble_eq_true rfl⟩ [] [0, 1, 2, 3, 4, 5, 6, 7, 8, 9] rfl rfl (by decide) (by decide) (by decide) rfl (Nat.le_of_ble_eq_true rfl) dX0_turnBetween_47 (fun v w q5 => ?_)
    obtain ⟨rfl, rfl⟩ := q5
    refine kx_eqw (ws2 := (kwW E K b y o n ls bc tk hk P Wt Tu Sc Ta Wa He Fk Pk)) (List.append_nil _) ?_
    refine kx_icmp_eq (tgt := 60) C (by omega) (by omega) dX0_turnBetween_50 (by decide) (fun c6 => ?_) (fun c6 => ?_)
    · skip
      refine kx_iconst (v := nI 0) C dX0_turnBetween_60 (by decide +kernel) ?_
      refine kx_iadd C dX0_turnBetween_61 ?_
      exact hE (Nat.le_of_ble_eq_true rfl) (Nat.le_of_ble_eq_true rfl) dX0_turnBetween_62 ⟨congrArg nI (by simp [turnN, apt, *]), rfl⟩
    · skip
      refine kx_aload_n C dX0_turnBetween_53 rfl 2 rfl ?_
      refine kx_get (v := .int (nI (o))) (ci := 0) C kin0 0 rfl rfl 4 (by decide) fl0_58 rfl rfl dX0_turnBetween_54 ?_
      refine kx_goto (tgt := 61) C dX0_turnBetween_57 (by decide) ?_
      refine kx_iadd C dX0_turnBetween_61 ?_
      exact hE (Nat.le_of_ble_eq_true rfl) (Nat.le_of_ble_eq_true rfl) dX0_turnBetween_62 ⟨congrArg nI (by simp [turnN, apt, *]), rfl⟩
  · skip
    refine kx_iconst (v := nI 0) C dX0_turnBetween_5 (by decide +kernel) ?_
    exact hE (Nat.le_of_ble_eq_true rfl) (Nat.le_of_ble_eq_true rfl) dX0_turnBetween_6 ⟨congrArg nI (by simp [turnN, apt, *]), rfl⟩

set_option maxHeartbeats 4000000 in
set_option maxRecDepth 100000 in
theorem c_cappedSum (E : KE) (a b : Nat) (H0 : a ≤ 1000000000000000000) (H1 : b ≤ 1000000000000000000) : kMl E yX0_cappedSum cX0_cappedSum 4 (rk 1 0) [.long (lN (a)), .long (lN (b))] [] (fun r w => r = lN (min (a + b) 1000000000000000000) ∧ w = []) := by
  refine kMl_of (cc := cX0_cappedSum) (maxL := 4) (by decide) (Nat.le_of_ble_eq_true rfl) ?_
  intro G C hE
  refine kx_lload_n C dX0_cappedSum_0 rfl 0 rfl ?_
  refine kx_lload_n C dX0_cappedSum_1 rfl 1 rfl ?_
  refine kx_ladd C dX0_cappedSum_2 ?_
  refine kx_ldc2 (v := lN 1000000000000000000) C kc0_100 dX0_cappedSum_3 ?_
  refine kx_mminL C (by omega) (by omega) m0_203 m_mminLs m_math m_mminLc (Nat.le_of_ble_eq_true rfl) (Nat.le_of_ble_eq_true rfl) (Nat.le_of_ble_eq_true rfl) (Nat.le_of_ble_eq_true rfl) dX0_cappedSum_6 ?_
  exact hE (Nat.le_of_ble_eq_true rfl) (Nat.le_of_ble_eq_true rfl) dX0_cappedSum_9 ⟨rfl, rfl⟩
