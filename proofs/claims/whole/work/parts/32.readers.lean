def kO (x : Nat) : Int32 := if x = 24 then -1 else nI x
theorem kO_lt {x : Nat} (h : x < 24) : kO x = nI x := by unfold kO; rw [if_neg (by omega)]
theorem kO_24 : kO 24 = -1 := rfl
theorem k_nIm1 {x : Nat} (h : x < 2 ^ 31) : ¬ nI x = -1 := fun z => by
  have h1 := nI_toInt h
  rw [z] at h1
  have h2 : (-1 : Int32).toInt = -1 := by decide +kernel
  omega

set_option maxHeartbeats 4000000 in
set_option maxRecDepth 100000 in
theorem c_restAfter0 (E : KE) (K : Nat → Nat) (b y o n ls bc tk hk : Nat) (P Wt Tu Sc Ta Wa He Fk Pk : Nat → Nat) (x : Int32) : kMi E yX0_restAfter cX0_restAfter 3 (rk 0 0) [.ref (K 0), .int (-1), .int (x)] (kwW E K b y o n ls bc tk hk P Wt Tu Sc Ta Wa He Fk Pk) (fun r w => r = nI ls ∧ w = (kwW E K b y o n ls bc tk hk P Wt Tu Sc Ta Wa He Fk Pk)) := by
  refine kMi_of (cc := cX0_restAfter) (maxL := 3) (by decide) (Nat.le_of_ble_eq_true rfl) ?_
  intro G C hE
  refine kx_iload_n C dX0_restAfter_0 rfl 1 rfl ?_
  refine kx_if_ltR (tgt := 9) C dX0_restAfter_1 (by decide) (fun c1 => ?_) (fun c1 => ?_)
  · skip
    refine kx_aload_n C dX0_restAfter_9 rfl 0 rfl ?_
    refine kx_get (v := .int (nI (ls))) (ci := 0) C kin0 0 rfl rfl 13 (by decide) fl0_93 rfl rfl dX0_restAfter_10 ?_
    refine kx_goto (tgt := 39) C dX0_restAfter_13 (by decide) ?_
    exact hE (Nat.le_of_ble_eq_true rfl) (Nat.le_of_ble_eq_true rfl) dX0_restAfter_39 ⟨rfl, rfl⟩
  · skip
    exact absurd (by decide +kernel) c1

set_option maxHeartbeats 4000000 in
set_option maxRecDepth 100000 in
theorem c_restAfter1 (E : KE) (K : Nat → Nat) (b y o n ls bc tk hk : Nat) (P Wt Tu Sc Ta Wa He Fk Pk : Nat → Nat) (sl k : Nat) (H0 : sl < 40) (H1 : k < 24) (H2 : Sc (sl * 24 + k) ≤ Ta (sl * 24 + k)) : kMi E yX0_restAfter cX0_restAfter 3 (rk 0 0) [.ref (K 0), .int (nI (sl)), .int (nI (k))] (kwW E K b y o n ls bc tk hk P Wt Tu Sc Ta Wa He Fk Pk) (fun r w => r = nI (Ta (sl * 24 + k) - Sc (sl * 24 + k)) ∧ w = (kwW E K b y o n ls bc tk hk P Wt Tu Sc Ta Wa He Fk Pk)) := by
  refine kMi_of (cc := cX0_restAfter) (maxL := 3) (by decide) (Nat.le_of_ble_eq_true rfl) ?_
  intro G C hE
  refine kx_iload_n C dX0_restAfter_0 rfl 1 rfl ?_
  refine kx_if_ltR (tgt := 9) C dX0_restAfter_1 (by decide) (fun c1 => ?_) (fun c1 => ?_)
  · skip
    exact absurd c1 (nI_pos (by omega))
  · skip
    refine kx_iload_n C dX0_restAfter_4 rfl 2 rfl ?_
    refine kx_iconst (v := (-1)) C dX0_restAfter_5 (by decide +kernel) ?_
    refine kx_icmp_neR (tgt := 16) C dX0_restAfter_6 (by decide) (fun c2 => ?_) (fun c2 => ?_)
    · skip
      refine kx_aload_n C dX0_restAfter_16 rfl 0 rfl ?_
      refine kx_get (v := .ref (K 5)) (ci := 0) C kin0 0 rfl rfl 8 (by decide) fl0_22 rfl rfl dX0_restAfter_17 ?_
      refine kx_iload_n C dX0_restAfter_20 rfl 1 rfl ?_
      refine kx_bipush (v := nI 24) C dX0_restAfter_21 (by decide +kernel) ?_
      refine kx_imul C dX0_restAfter_23 ?_
      refine kx_iload_n C dX0_restAfter_24 rfl 2 rfl ?_
      refine kx_iadd C dX0_restAfter_25 ?_
      refine kx_iald C 5 rfl (j := ((sl) * (24)) + (k)) (by omega) (by decide) dX0_restAfter_26 ?_
      refine kx_aload_n C dX0_restAfter_27 rfl 0 rfl ?_
      refine kx_get (v := .ref (K 4)) (ci := 0) C kin0 0 rfl rfl 7 (by decide) fl0_19 rfl rfl dX0_restAfter_28 ?_
      refine kx_iload_n C dX0_restAfter_31 rfl 1 rfl ?_
      refine kx_bipush (v := nI 24) C dX0_restAfter_32 (by decide +kernel) ?_
      refine kx_imul C dX0_restAfter_34 ?_
      refine kx_iload_n C dX0_restAfter_35 rfl 2 rfl ?_
      refine kx_iadd C dX0_restAfter_36 ?_
      refine kx_iald C 4 rfl (j := ((sl) * (24)) + (k)) (by omega) (by decide) dX0_restAfter_37 ?_
      refine kx_isub C H2 dX0_restAfter_38 ?_
      exact hE (Nat.le_of_ble_eq_true rfl) (Nat.le_of_ble_eq_true rfl) dX0_restAfter_39 ⟨rfl, rfl⟩
    · skip
      exact absurd c2 (k_nIm1 (by omega))

set_option maxHeartbeats 4000000 in
set_option maxRecDepth 100000 in
theorem c_turnInto0 (E : KE) (K : Nat → Nat) (b y o n ls bc tk hk : Nat) (P Wt Tu Sc Ta Wa He Fk Pk : Nat → Nat) (k : Nat) : kMi E yX0_turnInto cX0_turnInto 3 (rk 0 0) [.ref (K 0), .int (-1), .int (nI (k))] (kwW E K b y o n ls bc tk hk P Wt Tu Sc Ta Wa He Fk Pk) (fun r w => r = nI 0 ∧ w = (kwW E K b y o n ls bc tk hk P Wt Tu Sc Ta Wa He Fk Pk)) := by
  refine kMi_of (cc := cX0_turnInto) (maxL := 3) (by decide) (Nat.le_of_ble_eq_true rfl) ?_
  intro G C hE
  refine kx_iload_n C dX0_turnInto_0 rfl 1 rfl ?_
  refine kx_iconst (v := (-1)) C dX0_turnInto_1 (by decide +kernel) ?_
  refine kx_icmp_neR (tgt := 9) C dX0_turnInto_2 (by decide) (fun c1 => ?_) (fun c1 => ?_)
  · skip
    exact absurd rfl c1
  · skip
    refine kx_iconst (v := nI 0) C dX0_turnInto_5 (by decide +kernel) ?_
    refine kx_goto (tgt := 20) C dX0_turnInto_6 (by decide) ?_
    exact hE (Nat.le_of_ble_eq_true rfl) (Nat.le_of_ble_eq_true rfl) dX0_turnInto_20 ⟨rfl, rfl⟩

set_option maxHeartbeats 4000000 in
set_option maxRecDepth 100000 in
theorem c_turnInto1 (E : KE) (K : Nat → Nat) (b y o n ls bc tk hk : Nat) (P Wt Tu Sc Ta Wa He Fk Pk : Nat → Nat) (f k : Nat) (H0 : f < 24) (H1 : k < 24) : kMi E yX0_turnInto cX0_turnInto 3 (rk 0 0) [.ref (K 0), .int (nI (f)), .int (nI (k))] (kwW E K b y o n ls bc tk hk P Wt Tu Sc Ta Wa He Fk Pk) (fun r w => r = nI (Tu (f * 24 + k)) ∧ w = (kwW E K b y o n ls bc tk hk P Wt Tu Sc Ta Wa He Fk Pk)) := by
  refine kMi_of (cc := cX0_turnInto) (maxL := 3) (by decide) (Nat.le_of_ble_eq_true rfl) ?_
  intro G C hE
  refine kx_iload_n C dX0_turnInto_0 rfl 1 rfl ?_
  refine kx_iconst (v := (-1)) C dX0_turnInto_1 (by decide +kernel) ?_
  refine kx_icmp_neR (tgt := 9) C dX0_turnInto_2 (by decide) (fun c1 => ?_) (fun c1 => ?_)
  · skip
    refine kx_aload_n C dX0_turnInto_9 rfl 0 rfl ?_
    refine kx_get (v := .ref (K 3)) (ci := 0) C kin0 0 rfl rfl 6 (by decide) fl0_16 rfl rfl dX0_turnInto_10 ?_
    refine kx_iload_n C dX0_turnInto_13 rfl 1 rfl ?_
    refine kx_bipush (v := nI 24) C dX0_turnInto_14 (by decide +kernel) ?_
    refine kx_imul C dX0_turnInto_16 ?_
    refine kx_iload_n C dX0_turnInto_17 rfl 2 rfl ?_
    refine kx_iadd C dX0_turnInto_18 ?_
    refine kx_iald C 3 rfl (j := ((f) * (24)) + (k)) (by omega) (by decide) dX0_turnInto_19 ?_
    exact hE (Nat.le_of_ble_eq_true rfl) (Nat.le_of_ble_eq_true rfl) dX0_turnInto_20 ⟨rfl, rfl⟩
  · skip
    exact absurd c1 (k_nIm1 (by omega))

set_option maxHeartbeats 4000000 in
set_option maxRecDepth 100000 in
theorem c_leastThrough (E : KE) (K : Nat → Nat) (b y o n ls bc tk hk : Nat) (P Wt Tu Sc Ta Wa He Fk Pk : Nat → Nat) (sl k : Nat) (H0 : sl < 40) (H1 : k < 24) (H2 : Sc (sl * 24 + k) ≤ He (sl * 24 + k) + Ta (sl * 24 + k)) : kMi E yX0_leastThrough cX0_leastThrough 4 (rk 0 0) [.ref (K 0), .int (nI (sl)), .int (nI (k))] (kwW E K b y o n ls bc tk hk P Wt Tu Sc Ta Wa He Fk Pk) (fun r w => r = nI (He (sl * 24 + k) + Ta (sl * 24 + k) - Sc (sl * 24 + k)) ∧ w = (kwW E K b y o n ls bc tk hk P Wt Tu Sc Ta Wa He Fk Pk)) := by
  refine kMi_of (cc := cX0_leastThrough) (maxL := 4) (by decide) (Nat.le_of_ble_eq_true rfl) ?_
  intro G C hE
  refine kx_iload_n C dX0_leastThrough_0 rfl 1 rfl ?_
  refine kx_bipush (v := nI 24) C dX0_leastThrough_1 (by decide +kernel) ?_
  refine kx_imul C dX0_leastThrough_3 ?_
  refine kx_iload_n C dX0_leastThrough_4 rfl 2 rfl ?_
  refine kx_iadd C dX0_leastThrough_5 ?_
  refine kx_istore_n (lv2 := [(3, .int (nI (((sl) * (24)) + (k)))), (0, .ref (K 0)), (1, .int (nI (sl))), (2, .int (nI (k)))]) C dX0_leastThrough_6 rfl (by decide) rfl ?_
  refine kx_aload_n C dX0_leastThrough_7 rfl 1 rfl ?_
  refine kx_get (v := .ref (K 7)) (ci := 0) C kin0 0 rfl rfl 10 (by decide) fl0_29 rfl rfl dX0_leastThrough_8 ?_
  refine kx_iload_n C dX0_leastThrough_11 rfl 0 rfl ?_
  refine kx_iald C 7 rfl (j := ((sl) * (24)) + (k)) (by omega) (by decide) dX0_leastThrough_12 ?_
  refine kx_aload_n C dX0_leastThrough_13 rfl 1 rfl ?_
  refine kx_get (v := .ref (K 5)) (ci := 0) C kin0 0 rfl rfl 8 (by decide) fl0_22 rfl rfl dX0_leastThrough_14 ?_
  refine kx_iload_n C dX0_leastThrough_17 rfl 0 rfl ?_
  refine kx_iald C 5 rfl (j := ((sl) * (24)) + (k)) (by omega) (by decide) dX0_leastThrough_18 ?_
  refine kx_iadd C dX0_leastThrough_19 ?_
  refine kx_aload_n C dX0_leastThrough_20 rfl 1 rfl ?_
  refine kx_get (v := .ref (K 4)) (ci := 0) C kin0 0 rfl rfl 7 (by decide) fl0_19 rfl rfl dX0_leastThrough_21 ?_
  refine kx_iload_n C dX0_leastThrough_24 rfl 0 rfl ?_
  refine kx_iald C 4 rfl (j := ((sl) * (24)) + (k)) (by omega) (by decide) dX0_leastThrough_25 ?_
  refine kx_isub C H2 dX0_leastThrough_26 ?_
  exact hE (Nat.le_of_ble_eq_true rfl) (Nat.le_of_ble_eq_true rfl) dX0_leastThrough_27 ⟨rfl, rfl⟩

set_option maxHeartbeats 4000000 in
set_option maxRecDepth 100000 in
theorem c_changesAt (E : KE) (K : Nat → Nat) (b y o n ls bc tk hk : Nat) (P Wt Tu Sc Ta Wa He Fk Pk : Nat → Nat) (sl : Nat) (H0 : sl < 40) (H1 : 1 ≤ sl) (HFk : ∀ j, Fk j ≤ 24) : kMz E yX0_changesAt cX0_changesAt 2 (rk 0 0) [.ref (K 0), .int (nI (sl))] (kwW E K b y o n ls bc tk hk P Wt Tu Sc Ta Wa He Fk Pk) (fun r w => r = nI (if Fk sl = Fk (sl - 1) then 0 else 1) ∧ w = (kwW E K b y o n ls bc tk hk P Wt Tu Sc Ta Wa He Fk Pk)) := by
  refine kMz_of (cc := cX0_changesAt) (maxL := 2) (by decide) (Nat.le_of_ble_eq_true rfl) ?_
  intro G C hE
  refine kx_aload_n C dX0_changesAt_0 rfl 0 rfl ?_
  refine kx_get (v := .ref (K 8)) (ci := 0) C kin0 0 rfl rfl 11 (by decide) fl0_32 rfl rfl dX0_changesAt_1 ?_
  refine kx_iload_n C dX0_changesAt_4 rfl 1 rfl ?_
  refine kx_iald C 8 rfl (j := sl) (by omega) (by decide) dX0_changesAt_5 ?_
  refine kx_aload_n C dX0_changesAt_6 rfl 0 rfl ?_
  refine kx_get (v := .ref (K 8)) (ci := 0) C kin0 0 rfl rfl 11 (by decide) fl0_32 rfl rfl dX0_changesAt_7 ?_
  refine kx_iload_n C dX0_changesAt_10 rfl 1 rfl ?_
  refine kx_iconst (v := nI 1) C dX0_changesAt_11 (by decide +kernel) ?_
  refine kx_isub C (by omega) dX0_changesAt_12 ?_
  refine kx_iald C 8 rfl (j := (sl) - (1)) (by omega) (by decide) dX0_changesAt_13 ?_
  refine kx_icmp_eq (tgt := 21) C (by have := HFk sl; omega) (by have := HFk (sl - 1); omega) dX0_changesAt_14 (by decide) (fun c1 => ?_) (fun c1 => ?_)
  · skip
    refine kx_iconst (v := nI 0) C dX0_changesAt_21 (by decide +kernel) ?_
    exact hE (Nat.le_of_ble_eq_true rfl) (Nat.le_of_ble_eq_true rfl) dX0_changesAt_22 (by decide +kernel) ⟨by simp [*], rfl⟩
  · skip
    refine kx_iconst (v := nI 1) C dX0_changesAt_17 (by decide +kernel) ?_
    refine kx_goto (tgt := 22) C dX0_changesAt_18 (by decide) ?_
    exact hE (Nat.le_of_ble_eq_true rfl) (Nat.le_of_ble_eq_true rfl) dX0_changesAt_22 (by decide +kernel) ⟨by simp [*], rfl⟩

set_option maxHeartbeats 4000000 in
set_option maxRecDepth 100000 in
theorem c_leastInto (E : KE) (K : Nat → Nat) (b y o n ls bc tk hk : Nat) (P Wt Tu Sc Ta Wa He Fk Pk : Nat → Nat) (sl k : Nat) (H0 : sl < 40) (H1 : 1 ≤ sl) (H2 : k < 24) (HTu : ∀ j, j < 576 → Tu j ≤ 8000) (HHe : ∀ j, j < 24 → He ((sl - 1) * 24 + j) ≤ 10000000) : kMi E yX0_leastInto cX0_leastInto 5 (rk 1 0) [.ref (K 0), .int (nI (sl)), .int (nI (k))] (kwW E K b y o n ls bc tk hk P Wt Tu Sc Ta Wa He Fk Pk) (fun r w => r = nI (minN (fun fr => He ((sl - 1) * 24 + fr) + Tu (fr * 24 + k)) kBIG 24) ∧ w = (kwW E K b y o n ls bc tk hk P Wt Tu Sc Ta Wa He Fk Pk)) := by
  refine kMi_of (cc := cX0_leastInto) (maxL := 5) (by decide) (Nat.le_of_ble_eq_true rfl) ?_
  intro G C hE
  have lp6 : ∀ (N_lp6 : Nat) (i : Nat), (i ≤ 24) → (24 < i + N_lp6) → kx E (rk 1 0) G 5 0 0 (kwW E K b y o n ls bc tk hk P Wt Tu Sc Ta Wa He Fk Pk) [(0, .ref (K 0)), (1, .int (nI (sl))), (2, .int (nI (k))), (3, .int (nI (minN (fun fr => He ((sl - 1) * 24 + fr) + Tu (fr * 24 + k)) kBIG i))), (4, .int (nI (i)))] 6 [] := by
    intro N_lp6
    induction N_lp6 with
    | zero =>
      intro i h0_lp6 hm_lp6
      exact absurd hm_lp6 (by omega)
    | succ N_lp6 ih_lp6 =>
      intro i h0_lp6 hm_lp6
      refine kx_iload C dX0_leastInto_6 4 rfl ?_
      refine kx_bipush (v := nI 24) C dX0_leastInto_8 (by decide +kernel) ?_
      refine kx_icmp_ge (tgt := 51) C (by omega) (by omega) dX0_leastInto_10 (by decide) (fun c1 => ?_) (fun c1 => ?_)
      · skip
        obtain rfl : 24 = i := by omega
        refine kx_iload_n C dX0_leastInto_51 rfl 3 rfl ?_
        exact hE (Nat.le_of_ble_eq_true rfl) (Nat.le_of_ble_eq_true rfl) dX0_leastInto_52 ⟨rfl, rfl⟩
      · skip
        refine kx_iload_n C dX0_leastInto_13 rfl 3 rfl ?_
        refine kx_aload_n C dX0_leastInto_14 rfl 0 rfl ?_
        refine kx_get (v := .ref (K 7)) (ci := 0) C kin0 0 rfl rfl 10 (by decide) fl0_29 rfl rfl dX0_leastInto_15 ?_
        refine kx_iload_n C dX0_leastInto_18 rfl 1 rfl ?_
        refine kx_iconst (v := nI 1) C dX0_leastInto_19 (by decide +kernel) ?_
        refine kx_isub C (by omega) dX0_leastInto_20 ?_
        refine kx_bipush (v := nI 24) C dX0_leastInto_21 (by decide +kernel) ?_
        refine kx_imul C dX0_leastInto_23 ?_
        refine kx_iload C dX0_leastInto_24 4 rfl ?_
        refine kx_iadd C dX0_leastInto_26 ?_
        refine kx_iald C 7 rfl (j := (((sl) - (1)) * (24)) + (i)) (by omega) (by decide) dX0_leastInto_27 ?_
        refine kx_aload_n C dX0_leastInto_28 rfl 0 rfl ?_
        refine kx_get (v := .ref (K 3)) (ci := 0) C kin0 0 rfl rfl 6 (by decide) fl0_16 rfl rfl dX0_leastInto_29 ?_
        refine kx_iload C dX0_leastInto_32 4 rfl ?_
        refine kx_bipush (v := nI 24) C dX0_leastInto_34 (by decide +kernel) ?_
        refine kx_imul C dX0_leastInto_36 ?_
        refine kx_iload_n C dX0_leastInto_37 rfl 2 rfl ?_
        refine kx_iadd C dX0_leastInto_38 ?_
        refine kx_iald C 3 rfl (j := ((i) * (24)) + (k)) (by omega) (by decide) dX0_leastInto_39 ?_
        refine kx_iadd C dX0_leastInto_40 ?_
        refine kx_mmin C (minN_lt31 (fun fr => He ((sl - 1) * 24 + fr) + Tu (fr * 24 + k)) i) (by have := HTu (i * 24 + k) (by omega); have := HHe i (by omega); omega) m0_182 m_mmins m_math m_mminc (Nat.le_of_ble_eq_true rfl) (Nat.le_of_ble_eq_true rfl) (Nat.le_of_ble_eq_true rfl) (Nat.le_of_ble_eq_true rfl) dX0_leastInto_41 ?_
        refine kx_istore_n (lv2 := [(3, .int (nI (min (minN (fun fr => He ((sl - 1) * 24 + fr) + Tu (fr * 24 + k)) kBIG i) ((He ((((sl) - (1)) * (24)) + (i))) + (Tu (((i) * (24)) + (k))))))), (0, .ref (K 0)), (1, .int (nI (sl))), (2, .int (nI (k))), (4, .int (nI (i)))]) C dX0_leastInto_44 rfl (by decide) rfl ?_
        refine kx_iinc (v := nI (i + 1)) (lv2 := [(4, .int (nI (i + 1))), (3, .int (nI (min (minN (fun fr => He ((sl - 1) * 24 + fr) + Tu (fr * 24 + k)) kBIG i) ((He ((((sl) - (1)) * (24)) + (i))) + (Tu (((i) * (24)) + (k))))))), (0, .ref (K 0)), (1, .int (nI (sl))), (2, .int (nI (k)))]) C dX0_leastInto_45 4 rfl (kI1 _) (by decide) rfl ?_
        refine kx_goto (tgt := 6) C dX0_leastInto_48 (by decide) ?_
        refine kx_lv (lv2 := [(0, .ref (K 0)), (1, .int (nI (sl))), (2, .int (nI (k))), (3, .int (nI (minN (fun fr => He ((sl - 1) * 24 + fr) + Tu (fr * 24 + k)) kBIG (i + 1)))), (4, .int (nI (i + 1)))]) [2, 3, 4, 1, 0] rfl ?_
        refine kx_eqw (ws2 := (kwW E K b y o n ls bc tk hk P Wt Tu Sc Ta Wa He Fk Pk)) rfl ?_
        exact ih_lp6 (i + 1) (by omega) (by omega)
  refine kx_ldc (v := nI 1000000000) C kc0_198 dX0_leastInto_0 ?_
  refine kx_istore_n (lv2 := [(3, .int (nI (1000000000))), (0, .ref (K 0)), (1, .int (nI (sl))), (2, .int (nI (k)))]) C dX0_leastInto_2 rfl (by decide) rfl ?_
  refine kx_iconst (v := nI 0) C dX0_leastInto_3 (by decide +kernel) ?_
  refine kx_istore (lv2 := [(4, .int (nI (0))), (3, .int (nI (1000000000))), (0, .ref (K 0)), (1, .int (nI (sl))), (2, .int (nI (k)))]) C dX0_leastInto_4 (by decide) rfl ?_
  refine kx_lv (lv2 := [(0, .ref (K 0)), (1, .int (nI (sl))), (2, .int (nI (k))), (3, .int (nI (minN (fun fr => He ((sl - 1) * 24 + fr) + Tu (fr * 24 + k)) kBIG 0))), (4, .int (nI (0)))]) [2, 3, 4, 1, 0] rfl ?_
  refine kx_eqw (ws2 := (kwW E K b y o n ls bc tk hk P Wt Tu Sc Ta Wa He Fk Pk)) rfl ?_
  exact lp6 25 0 (by omega) (by omega)

set_option maxHeartbeats 4000000 in
set_option maxRecDepth 100000 in
theorem c_forget (E : KE) (K : Nat → Nat) (b y o n ls bc tk hk : Nat) (P Wt Tu Sc Ta Wa He Fk Pk : Nat → Nat) : kMv E yX0_forget cX0_forget 1 (rk 0 0) [.ref (K 0)] (kwW E K b y o n ls bc tk hk P Wt Tu Sc Ta Wa He Fk Pk) (fun w => w = (kwW E K b y o n ls bc 0 0 P Wt Tu Sc Ta Wa He Fk Pk)) := by
  refine kMv_of (cc := cX0_forget) (maxL := 1) (by decide) (Nat.le_of_ble_eq_true rfl) ?_
  intro G C hE
  refine kx_aload_n C dX0_forget_0 rfl 0 rfl ?_
  refine kx_iconst (v := nI 0) C dX0_forget_1 (by decide +kernel) ?_
  refine kx_put (ws2 := (kwW E K b y o n ls bc 0 hk P Wt Tu Sc Ta Wa He Fk Pk)) (ci := 0) C kin0 tyX0_ok nmX0 0 rfl rfl 15 (by decide) fl0_156 rfl rfl (by decide +kernel) (by decide +kernel) (Nat.le_of_ble_eq_true rfl) rfl dX0_forget_2 ?_
  refine kx_aload_n C dX0_forget_5 rfl 0 rfl ?_
  refine kx_iconst (v := nI 0) C dX0_forget_6 (by decide +kernel) ?_
  refine kx_put (ws2 := (kwW E K b y o n ls bc 0 0 P Wt Tu Sc Ta Wa He Fk Pk)) (ci := 0) C kin0 tyX0_ok nmX0 0 rfl rfl 16 (by decide) fl0_160 rfl rfl (by decide +kernel) (by decide +kernel) (Nat.le_of_ble_eq_true rfl) rfl dX0_forget_7 ?_
  exact hE (Nat.le_of_ble_eq_true rfl) (Nat.le_of_ble_eq_true rfl) dX0_forget_10 rfl
