theorem kTuS {b y o : Nat} {Tv : Nat → Nat} (i q : Nat) (h : ∀ j, j < i * 24 + q → Tv j = turnN b y o (j / 24) (j % 24)) (hq : q < 24) : ∀ j, j < i * 24 + (q + 1) → va_up Tv (i * 24 + q) (turnN b y o i q) j = turnN b y o (j / 24) (j % 24) := by
  intro j hj
  by_cases e : j = i * 24 + q
  · rw [e, va_up_self, show (i * 24 + q) / 24 = i by omega, show (i * 24 + q) % 24 = q by omega]
  · rw [va_up_ne _ _ e]
    exact h j (by omega)

set_option maxHeartbeats 4000000 in
set_option maxRecDepth 100000 in
theorem c_fillTurns (E : KE) (K : Nat → Nat) (b y o n ls bc tk hk : Nat) (P Wt Tu Sc Ta Wa He Fk Pk : Nat → Nat) : kMv E yX0_fillTurns cX0_fillTurns 3 (rk 3 0) [.ref (K 0)] (kwW E K b y o n ls bc tk hk P Wt Tu Sc Ta Wa He Fk Pk) (fun w => ∃ Tv : Nat → Nat, (∀ j, j < 576 → Tv j = turnN b y o (j / 24) (j % 24)) ∧ w = (kwW E K b y o n ls bc tk hk P Wt Tv Sc Ta Wa He Fk Pk)) := by
  refine kMv_of (cc := cX0_fillTurns) (maxL := 3) (by decide) (Nat.le_of_ble_eq_true rfl) ?_
  intro G C hE
  have lp2 : ∀ (N_lp2 : Nat) (i : Nat) (Tv : Nat → Nat), (i ≤ 24) → (∀ j, j < i * 24 → Tv j = turnN b y o (j / 24) (j % 24)) → (24 < i + N_lp2) → kx E (rk 3 0) G 3 0 0 (kwW E K b y o n ls bc tk hk P Wt Tv Sc Ta Wa He Fk Pk) [(0, .ref (K 0)), (1, .int (nI (i)))] 2 [] := by
    intro N_lp2
    induction N_lp2 with
    | zero =>
      intro i Tv h0_lp2 h1_lp2 hm_lp2
      exact absurd hm_lp2 (by omega)
    | succ N_lp2 ih_lp2 =>
      intro i Tv h0_lp2 h1_lp2 hm_lp2
      have lp10 : ∀ (N_lp10 : Nat) (q : Nat) (Tv : Nat → Nat), (q ≤ 24) → (∀ j, j < i * 24 + q → Tv j = turnN b y o (j / 24) (j % 24)) → (i < 24) → (24 < q + N_lp10) → kx E (rk 3 0) G 3 0 0 (kwW E K b y o n ls bc tk hk P Wt Tv Sc Ta Wa He Fk Pk) [(0, .ref (K 0)), (1, .int (nI (i))), (2, .int (nI (q)))] 10 [] := by
        intro N_lp10
        induction N_lp10 with
        | zero =>
          intro q Tv h0_lp10 h1_lp10 h2_lp10 hm_lp10
          exact absurd hm_lp10 (by omega)
        | succ N_lp10 ih_lp10 =>
          intro q Tv h0_lp10 h1_lp10 h2_lp10 hm_lp10
          refine kx_iload_n C dX0_fillTurns_10 rfl 2 rfl ?_
          refine kx_bipush (v := nI 24) C dX0_fillTurns_11 (by decide +kernel) ?_
          refine kx_icmp_ge (tgt := 39) C (by omega) (by omega) dX0_fillTurns_13 (by decide) (fun c1 => ?_) (fun c1 => ?_)
          · skip
            obtain rfl : 24 = q := by omega
            refine kx_iinc (v := nI (i + 1)) (lv2 := [(1, .int (nI (i + 1))), (0, .ref (K 0)), (2, .int (nI (24)))]) C dX0_fillTurns_39 1 rfl (kI1 _) (by decide) rfl ?_
            refine kx_goto (tgt := 2) C dX0_fillTurns_42 (by decide) ?_
            refine kx_lv (lv2 := [(0, .ref (K 0)), (1, .int (nI (i + 1)))]) [1, 0] rfl ?_
            refine kx_eqw (ws2 := (kwW E K b y o n ls bc tk hk P Wt Tv Sc Ta Wa He Fk Pk)) rfl ?_
            exact ih_lp2 (i + 1) Tv (by omega) (fun j hj => h1_lp10 j (by omega)) (by omega)
          · skip
            refine kx_aload_n C dX0_fillTurns_16 rfl 0 rfl ?_
            refine kx_get (v := .ref (K 3)) (ci := 0) C kin0 0 rfl rfl 6 (by decide) fl0_16 rfl rfl dX0_fillTurns_17 ?_
            refine kx_iload_n C dX0_fillTurns_20 rfl 1 rfl ?_
            refine kx_bipush (v := nI 24) C dX0_fillTurns_21 (by decide +kernel) ?_
            refine kx_imul C dX0_fillTurns_23 ?_
            refine kx_iload_n C dX0_fillTurns_24 rfl 2 rfl ?_
            refine kx_iadd C dX0_fillTurns_25 ?_
            refine kx_aload_n C dX0_fillTurns_26 rfl 0 rfl ?_
            refine kx_iload_n C dX0_fillTurns_27 rfl 1 rfl ?_
            refine kx_iload_n C dX0_fillTurns_28 rfl 2 rfl ?_
            refine kx_callVi (rest := [.int (nI (((i) * (24)) + (q))), .ref (K 3)]) (wr := []) C (c_turnBetween E K b y o n ls bc tk hk P Wt Tv Sc Ta Wa He Fk Pk i q (by omega) (by omega)) g0_87 2 rfl (by decide +kernel) ⟨Nat.le_of_ble_eq_true rfl, Nat.le_of_ble_eq_true rfl⟩ ⟨Nat.le_of_ble_eq_true rfl, Nat.le_of_ble_eq_true rfl⟩ [0, 1, 2, 3, 4, 5, 6, 7, 8, 9] [] rfl rfl (by decide) (by decide) (by decide) 0 rfl rfl rfl (Nat.le_of_ble_eq_true rfl) dX0_fillTurns_29 (fun v w q2 => ?_)
            obtain ⟨rfl, rfl⟩ := q2
            refine kx_eqw (ws2 := (kwW E K b y o n ls bc tk hk P Wt Tv Sc Ta Wa He Fk Pk)) rfl ?_
            refine kx_iast (ws2 := (kwW E K b y o n ls bc tk hk P Wt (va_up Tv (((i) * (24)) + (q)) (turnN b y o i q)) Sc Ta Wa He Fk Pk)) C 3 rfl (j := ((i) * (24)) + (q)) (v := turnN b y o i q) (by omega) (by decide) rfl dX0_fillTurns_32 ?_
            refine kx_iinc (v := nI (q + 1)) (lv2 := [(2, .int (nI (q + 1))), (0, .ref (K 0)), (1, .int (nI (i)))]) C dX0_fillTurns_33 2 rfl (kI1 _) (by decide) rfl ?_
            refine kx_goto (tgt := 10) C dX0_fillTurns_36 (by decide) ?_
            refine kx_lv (lv2 := [(0, .ref (K 0)), (1, .int (nI (i))), (2, .int (nI (q + 1)))]) [1, 2, 0] rfl ?_
            refine kx_eqw (ws2 := (kwW E K b y o n ls bc tk hk P Wt (va_up Tv (((i) * (24)) + (q)) (turnN b y o i q)) Sc Ta Wa He Fk Pk)) rfl ?_
            exact ih_lp10 (q + 1) (va_up Tv (((i) * (24)) + (q)) (turnN b y o i q)) (by omega) (kTuS i q h1_lp10 (by omega)) h2_lp10 (by omega)
      refine kx_iload_n C dX0_fillTurns_2 rfl 1 rfl ?_
      refine kx_bipush (v := nI 24) C dX0_fillTurns_3 (by decide +kernel) ?_
      refine kx_icmp_ge (tgt := 45) C (by omega) (by omega) dX0_fillTurns_5 (by decide) (fun c3 => ?_) (fun c3 => ?_)
      · skip
        obtain rfl : 24 = i := by omega
        exact hE (Nat.le_of_ble_eq_true rfl) (Nat.le_of_ble_eq_true rfl) dX0_fillTurns_45 ⟨Tv, fun j hj => h1_lp2 j hj, rfl⟩
      · skip
        refine kx_iconst (v := nI 0) C dX0_fillTurns_8 (by decide +kernel) ?_
        refine kx_istore_n (lv2 := [(2, .int (nI (0))), (0, .ref (K 0)), (1, .int (nI (i)))]) C dX0_fillTurns_9 rfl (by decide) rfl ?_
        refine kx_lv (lv2 := [(0, .ref (K 0)), (1, .int (nI (i))), (2, .int (nI (0)))]) [1, 2, 0] rfl ?_
        refine kx_eqw (ws2 := (kwW E K b y o n ls bc tk hk P Wt Tv Sc Ta Wa He Fk Pk)) rfl ?_
        exact lp10 25 0 Tv (by omega) (fun j hj => h1_lp2 j (by omega)) (by omega) (by omega)
  refine kx_iconst (v := nI 0) C dX0_fillTurns_0 (by decide +kernel) ?_
  refine kx_istore_n (lv2 := [(1, .int (nI (0))), (0, .ref (K 0))]) C dX0_fillTurns_1 rfl (by decide) rfl ?_
  refine kx_lv (lv2 := [(0, .ref (K 0)), (1, .int (nI (0)))]) [1, 0] rfl ?_
  refine kx_eqw (ws2 := (kwW E K b y o n ls bc tk hk P Wt Tu Sc Ta Wa He Fk Pk)) rfl ?_
  exact lp2 25 0 Tu (by omega) (fun j hj => absurd hj (by omega)) (by omega)
