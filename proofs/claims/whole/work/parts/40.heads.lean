theorem head0 {P Wt Sv : Nat → Nat} {b y o s q : Nat} (hs : s = 0) (hS : Sv (s * 24 + q) = costN P Wt s q) : Sv (s * 24 + q) + 0 = hdN (costN P Wt) (turnN b y o) s q := by
  subst hs
  rw [hS]
  rfl
theorem head1 {P Wt Sv Hv Tv : Nat → Nat} {b y o s q : Nat} (hs : s ≠ 0) (hq : q < 24) (hS : Sv (s * 24 + q) = costN P Wt s q) (hT : kTuOk b y o Tv) (hH : ∀ k, k < 24 → Hv ((s - 1) * 24 + k) = hdN (costN P Wt) (turnN b y o) (s - 1) k) : Sv (s * 24 + q) + minN (fun fr => Hv ((s - 1) * 24 + fr) + Tv (fr * 24 + q)) kBIG 24 = hdN (costN P Wt) (turnN b y o) s q := by
  obtain ⟨z, rfl⟩ : ∃ z, s = z + 1 := ⟨s - 1, by omega⟩
  rw [hdN, hS]
  refine congrArg (costN P Wt (z + 1) q + ·) (minN_congr fun fr hf => ?_)
  rw [hH fr hf, hT.at hf hq]
  rfl
theorem kHd_le {n b y o : Nat} {P Wt : Nat → Nat} (hn : n ≤ 40) (hP : ∀ j, P j ≤ 99) (hW : ∀ j, Wt j ≤ 200) (hb : b ≤ 1000) (hy : y ≤ 1000) (ho : o ≤ 1000) {s : Nat} (hs : s < n) (k : Nat) : hdN (costN P Wt) (turnN b y o) s k ≤ 10000000 := by
  have h := hdN_le (costN_le hP hW) (turnN_le hb hy ho) s k
  have h2 : (s + 1) * 245600 ≤ 40 * 245600 := Nat.mul_le_mul_right _ (by omega)
  omega
theorem kHeadS {Hv Q : Nat → Nat} {s q v : Nat} (h : ∀ z, z < s → ∀ k, k < 24 → Hv (z * 24 + k) = Q (z * 24 + k)) (hq : q < 24) : ∀ z, z < s → ∀ k, k < 24 → va_up Hv (s * 24 + q) v (z * 24 + k) = Q (z * 24 + k) := by
  intro z hz k hk
  rw [va_up_ne _ _ (by omega)]
  exact h z hz k hk

theorem kHeadT {b y o : Nat} {P Wt Hv : Nat → Nat} {s q v : Nat} (h : ∀ z, z < s → ∀ k, k < 24 → Hv (z * 24 + k) = hdN (costN P Wt) (turnN b y o) z k) (hq : q < 24) : ∀ z, z < s → ∀ k, k < 24 → va_up Hv (s * 24 + q) v (z * 24 + k) = hdN (costN P Wt) (turnN b y o) z k := by
  intro z hz k hk
  rw [va_up_ne _ _ (by omega)]
  exact h z hz k hk
theorem kHeadR {b y o : Nat} {P Wt Hv : Nat → Nat} {s : Nat} (h : ∀ z, z < s → ∀ k, k < 24 → Hv (z * 24 + k) = hdN (costN P Wt) (turnN b y o) z k) (h2 : ∀ k, k < 24 → Hv (s * 24 + k) = hdN (costN P Wt) (turnN b y o) s k) : ∀ z, z < s + 1 → ∀ k, k < 24 → Hv (z * 24 + k) = hdN (costN P Wt) (turnN b y o) z k := by
  intro z hz k hk
  by_cases e : z = s
  · subst e; exact h2 k hk
  · exact h z (by omega) k hk

set_option maxHeartbeats 4000000 in
set_option maxRecDepth 100000 in
theorem c_knowHeads (E : KE) (K : Nat → Nat) (b y o n ls bc tk hk : Nat) (P Wt Tu Sc Ta Wa He Fk Pk : Nat → Nat) (HO : kOk b y o n ls bc tk hk P Wt Tu Sc Ta Wa He Fk Pk) : kMv E yX0_knowHeads cX0_knowHeads 4 (rk 5 0) [.ref (K 0)] (kwW E K b y o n ls bc tk hk P Wt Tu Sc Ta Wa He Fk Pk) (fun w => ∃ (ls2 bc2 : Nat) (Tv Sv Av Vv Fv Hv : Nat → Nat), kOk b y o n ls2 bc2 1 1 P Wt Tv Sv Av Vv Hv Fv Pk ∧ w = (kwW E K b y o n ls2 bc2 1 1 P Wt Tv Sv Av Vv Hv Fv Pk)) := by
  refine kMv_of (cc := cX0_knowHeads) (maxL := 4) (by decide) (Nat.le_of_ble_eq_true rfl) ?_
  intro G C hE
  obtain ⟨H1, HP, HW, Hb, Hy, Ho, Htk, Hhk, Hls, HTa, HWa, HHe, HFk, HPk, HK, HH⟩ := id HO
  refine kx_aload_n C dX0_knowHeads_0 rfl 0 rfl ?_
  refine kx_callVv (rest := []) (wr := []) C (c_knowTails E K b y o n ls bc tk hk P Wt Tu Sc Ta Wa He Fk Pk HO) g0_90 0 rfl (by decide +kernel) ⟨Nat.le_of_ble_eq_true rfl, Nat.le_of_ble_eq_true rfl⟩ ⟨Nat.le_of_ble_eq_true rfl, Nat.le_of_ble_eq_true rfl⟩ [0, 1, 2, 3, 4, 5, 6, 7, 8, 9] [] rfl rfl (by decide) (by decide) (by decide) 0 rfl rfl rfl (Nat.le_of_ble_eq_true rfl) dX0_knowHeads_1 (fun w q1 => ?_)
  obtain ⟨ls2, bc2, Tv, Sv, Av, Vv, Fv, HO2, rfl⟩ := q1
  refine kx_eqw (ws2 := (kwW E K b y o n ls2 bc2 1 hk P Wt Tv Sv Av Vv He Fv Pk)) rfl ?_
  obtain ⟨G1, GP, GW, Gb, Gy, Go, Gtk, Ghk, Gls, GTa, GWa, GHe, GFk, GPk, GK, GH⟩ := id HO2
  obtain ⟨GT, GR, G0, Gn, GF⟩ := GK (by decide)
  have lp14 : ∀ (N_lp14 : Nat) (s : Nat) (Hv : Nat → Nat), (s ≤ n) → (∀ z, z < s → ∀ k, k < 24 → Hv (z * 24 + k) = hdN (costN P Wt) (turnN b y o) z k) → (∀ j, Hv j ≤ 10000000) → (n < s + N_lp14) → kx E (rk 5 0) G 4 0 0 (kwW E K b y o n ls2 bc2 1 hk P Wt Tv Sv Av Vv Hv Fv Pk) [(0, .ref (K 0)), (1, .int (nI (s)))] 14 [] := by
    intro N_lp14
    induction N_lp14 with
    | zero =>
      intro s Hv h0_lp14 h1_lp14 h2_lp14 hm_lp14
      exact absurd hm_lp14 (by omega)
    | succ N_lp14 ih_lp14 =>
      intro s Hv h0_lp14 h1_lp14 h2_lp14 hm_lp14
      have lp24 : ∀ (N_lp24 : Nat) (q : Nat) (Hv : Nat → Nat), (q ≤ 24) → (∀ z, z < s → ∀ k, k < 24 → Hv (z * 24 + k) = hdN (costN P Wt) (turnN b y o) z k) → (∀ k, k < q → Hv (s * 24 + k) = hdN (costN P Wt) (turnN b y o) s k) → (∀ j, Hv j ≤ 10000000) → (s < n) → (24 < q + N_lp24) → kx E (rk 5 0) G 4 0 0 (kwW E K b y o n ls2 bc2 1 hk P Wt Tv Sv Av Vv Hv Fv Pk) [(0, .ref (K 0)), (1, .int (nI (s))), (2, .int (nI (q)))] 24 [] := by
        intro N_lp24
        induction N_lp24 with
        | zero =>
          intro q Hv h0_lp24 h1_lp24 h2_lp24 h3_lp24 h4_lp24 hm_lp24
          exact absurd hm_lp24 (by omega)
        | succ N_lp24 ih_lp24 =>
          intro q Hv h0_lp24 h1_lp24 h2_lp24 h3_lp24 h4_lp24 hm_lp24
          refine kx_iload_n C dX0_knowHeads_24 rfl 2 rfl ?_
          refine kx_bipush (v := nI 24) C dX0_knowHeads_25 (by decide +kernel) ?_
          refine kx_icmp_ge (tgt := 70) C (by omega) (by omega) dX0_knowHeads_27 (by decide) (fun c2 => ?_) (fun c2 => ?_)
          · skip
            obtain rfl : 24 = q := by omega
            refine kx_iinc (v := nI (s + 1)) (lv2 := [(1, .int (nI (s + 1))), (0, .ref (K 0)), (2, .int (nI (24)))]) C dX0_knowHeads_70 1 rfl (kI1 _) (by decide) rfl ?_
            refine kx_goto (tgt := 14) C dX0_knowHeads_73 (by decide) ?_
            refine kx_lv (lv2 := [(0, .ref (K 0)), (1, .int (nI (s + 1)))]) [1, 0] rfl ?_
            refine kx_eqw (ws2 := (kwW E K b y o n ls2 bc2 1 hk P Wt Tv Sv Av Vv Hv Fv Pk)) rfl ?_
            exact ih_lp14 (s + 1) Hv (by omega) (kHeadR h1_lp24 h2_lp24) h3_lp24 (by omega)
          · skip
            refine kx_iload_n C dX0_knowHeads_30 rfl 1 rfl ?_
            refine kx_bipush (v := nI 24) C dX0_knowHeads_31 (by decide +kernel) ?_
            refine kx_imul C dX0_knowHeads_33 ?_
            refine kx_iload_n C dX0_knowHeads_34 rfl 2 rfl ?_
            refine kx_iadd C dX0_knowHeads_35 ?_
            refine kx_istore_n (lv2 := [(3, .int (nI (((s) * (24)) + (q)))), (0, .ref (K 0)), (1, .int (nI (s))), (2, .int (nI (q)))]) C dX0_knowHeads_36 rfl (by decide) rfl ?_
            refine kx_aload_n C dX0_knowHeads_37 rfl 1 rfl ?_
            refine kx_get (v := .ref (K 7)) (ci := 0) C kin0 0 rfl rfl 10 (by decide) fl0_29 rfl rfl dX0_knowHeads_38 ?_
            refine kx_iload_n C dX0_knowHeads_41 rfl 0 rfl ?_
            refine kx_aload_n C dX0_knowHeads_42 rfl 1 rfl ?_
            refine kx_get (v := .ref (K 4)) (ci := 0) C kin0 0 rfl rfl 7 (by decide) fl0_19 rfl rfl dX0_knowHeads_43 ?_
            refine kx_iload_n C dX0_knowHeads_46 rfl 0 rfl ?_
            refine kx_iald C 4 rfl (j := ((s) * (24)) + (q)) (by omega) (by decide) dX0_knowHeads_47 ?_
            refine kx_iload_n C dX0_knowHeads_48 rfl 2 rfl ?_
            refine kx_if_ne (tgt := 56) C (by omega) dX0_knowHeads_49 (by decide) (fun c3 => ?_) (fun c3 => ?_)
            · skip
              have hs0 : s ≠ 0 := c3
              refine kx_aload_n C dX0_knowHeads_56 rfl 1 rfl ?_
              refine kx_iload_n C dX0_knowHeads_57 rfl 2 rfl ?_
              refine kx_iload_n C dX0_knowHeads_58 rfl 3 rfl ?_
              refine kx_callVi (rest := [.int (nI (Sv (((s) * (24)) + (q)))), .int (nI (((s) * (24)) + (q))), .ref (K 7)]) (wr := []) C (c_leastInto E K b y o n ls2 bc2 1 hk P Wt Tv Sv Av Vv Hv Fv Pk s q (by omega) (by omega) (by omega) (GT.le Gb Gy Go) (fun j _ => h3_lp24 _)) g0_211 2 rfl (by decide +kernel) ⟨Nat.le_of_ble_eq_true rfl, Nat.le_of_ble_eq_true rfl⟩ ⟨Nat.le_of_ble_eq_true rfl, Nat.le_of_ble_eq_true rfl⟩ [0, 1, 2, 3, 4, 5, 6, 7, 8, 9] [] rfl rfl (by decide) (by decide) (by decide) 0 rfl rfl rfl (Nat.le_of_ble_eq_true rfl) dX0_knowHeads_59 (fun v w q4 => ?_)
              obtain ⟨rfl, rfl⟩ := q4
              refine kx_eqw (ws2 := (kwW E K b y o n ls2 bc2 1 hk P Wt Tv Sv Av Vv Hv Fv Pk)) rfl ?_
              refine kx_iadd C dX0_knowHeads_62 ?_
              refine kx_topn (b := hdN (costN P Wt) (turnN b y o) s q) (head1 hs0 (by omega) (GR s (Nat.zero_le _) (by omega) q (by omega)).1 GT (fun k hk => h1_lp24 (s - 1) (by omega) k hk)) ?_
              refine kx_iast (ws2 := (kwW E K b y o n ls2 bc2 1 hk P Wt Tv Sv Av Vv (va_up Hv (((s) * (24)) + (q)) (hdN (costN P Wt) (turnN b y o) s q)) Fv Pk)) C 7 rfl (j := ((s) * (24)) + (q)) (v := hdN (costN P Wt) (turnN b y o) s q) (by omega) (by decide) rfl dX0_knowHeads_63 ?_
              refine kx_iinc (v := nI (q + 1)) (lv2 := [(2, .int (nI (q + 1))), (3, .int (nI (((s) * (24)) + (q)))), (0, .ref (K 0)), (1, .int (nI (s)))]) C dX0_knowHeads_64 3 rfl (kI1 _) (by decide) rfl ?_
              refine kx_goto (tgt := 24) C dX0_knowHeads_67 (by decide) ?_
              refine kx_lv (lv2 := [(0, .ref (K 0)), (1, .int (nI (s))), (2, .int (nI (q + 1)))]) [2, 3, 0] rfl ?_
              refine kx_eqw (ws2 := (kwW E K b y o n ls2 bc2 1 hk P Wt Tv Sv Av Vv (va_up Hv (((s) * (24)) + (q)) (hdN (costN P Wt) (turnN b y o) s q)) Fv Pk)) rfl ?_
              exact ih_lp24 (q + 1) (va_up Hv (((s) * (24)) + (q)) (hdN (costN P Wt) (turnN b y o) s q)) (by omega) (kHeadT h1_lp24 (by omega)) (kRowS h2_lp24 rfl) (up_le h3_lp24 (kHd_le G1 GP GW Gb Gy Go h4_lp24 q)) h4_lp24 (by omega)
            · skip
              have hs0 : s = 0 := c3
              refine kx_iconst (v := nI 0) C dX0_knowHeads_52 (by decide +kernel) ?_
              refine kx_goto (tgt := 62) C dX0_knowHeads_53 (by decide) ?_
              refine kx_iadd C dX0_knowHeads_62 ?_
              refine kx_topn (b := hdN (costN P Wt) (turnN b y o) s q) (head0 hs0 (GR s (Nat.zero_le _) (by omega) q (by omega)).1) ?_
              refine kx_iast (ws2 := (kwW E K b y o n ls2 bc2 1 hk P Wt Tv Sv Av Vv (va_up Hv (((s) * (24)) + (q)) (hdN (costN P Wt) (turnN b y o) s q)) Fv Pk)) C 7 rfl (j := ((s) * (24)) + (q)) (v := hdN (costN P Wt) (turnN b y o) s q) (by omega) (by decide) rfl dX0_knowHeads_63 ?_
              refine kx_iinc (v := nI (q + 1)) (lv2 := [(2, .int (nI (q + 1))), (3, .int (nI (((s) * (24)) + (q)))), (0, .ref (K 0)), (1, .int (nI (s)))]) C dX0_knowHeads_64 3 rfl (kI1 _) (by decide) rfl ?_
              refine kx_goto (tgt := 24) C dX0_knowHeads_67 (by decide) ?_
              refine kx_lv (lv2 := [(0, .ref (K 0)), (1, .int (nI (s))), (2, .int (nI (q + 1)))]) [2, 3, 0] rfl ?_
              refine kx_eqw (ws2 := (kwW E K b y o n ls2 bc2 1 hk P Wt Tv Sv Av Vv (va_up Hv (((s) * (24)) + (q)) (hdN (costN P Wt) (turnN b y o) s q)) Fv Pk)) rfl ?_
              exact ih_lp24 (q + 1) (va_up Hv (((s) * (24)) + (q)) (hdN (costN P Wt) (turnN b y o) s q)) (by omega) (kHeadT h1_lp24 (by omega)) (kRowS h2_lp24 rfl) (up_le h3_lp24 (kHd_le G1 GP GW Gb Gy Go h4_lp24 q)) h4_lp24 (by omega)
      refine kx_iload_n C dX0_knowHeads_14 rfl 1 rfl ?_
      refine kx_aload_n C dX0_knowHeads_15 rfl 0 rfl ?_
      refine kx_get (v := .int (nI (n))) (ci := 0) C kin0 0 rfl rfl 5 (by decide) fl0_41 rfl rfl dX0_knowHeads_16 ?_
      refine kx_icmp_ge (tgt := 76) C (by omega) (by omega) dX0_knowHeads_19 (by decide) (fun c5 => ?_) (fun c5 => ?_)
      · skip
        obtain rfl : n = s := by omega
        refine kx_aload_n C dX0_knowHeads_76 rfl 0 rfl ?_
        refine kx_iconst (v := nI 1) C dX0_knowHeads_77 (by decide +kernel) ?_
        refine kx_put (ws2 := (kwW E K b y o n ls2 bc2 1 1 P Wt Tv Sv Av Vv Hv Fv Pk)) (ci := 0) C kin0 tyX0_ok nmX0 0 rfl rfl 16 (by decide) fl0_160 rfl rfl (by decide +kernel) (by decide +kernel) (Nat.le_of_ble_eq_true rfl) rfl dX0_knowHeads_78 ?_
        exact hE (Nat.le_of_ble_eq_true rfl) (Nat.le_of_ble_eq_true rfl) dX0_knowHeads_81 ⟨ls2, bc2, Tv, Sv, Av, Vv, Fv, Hv, ⟨G1, GP, GW, Gb, Gy, Go, Gtk, Nat.le_refl _, Gls, GTa, GWa, h2_lp14, GFk, GPk, GK, fun _ => ⟨by decide, fun z hz k hk => h1_lp14 z (by omega) k hk⟩⟩, rfl⟩
      · skip
        refine kx_iconst (v := nI 0) C dX0_knowHeads_22 (by decide +kernel) ?_
        refine kx_istore_n (lv2 := [(2, .int (nI (0))), (0, .ref (K 0)), (1, .int (nI (s)))]) C dX0_knowHeads_23 rfl (by decide) rfl ?_
        refine kx_lv (lv2 := [(0, .ref (K 0)), (1, .int (nI (s))), (2, .int (nI (0)))]) [1, 2, 0] rfl ?_
        refine kx_eqw (ws2 := (kwW E K b y o n ls2 bc2 1 hk P Wt Tv Sv Av Vv Hv Fv Pk)) rfl ?_
        exact lp24 25 0 Hv (by omega) h1_lp14 (fun k hk => absurd hk (by omega)) h2_lp14 (by omega) (by omega)
  refine kx_aload_n C dX0_knowHeads_4 rfl 0 rfl ?_
  refine kx_get (v := .int (nI (hk))) (ci := 0) C kin0 0 rfl rfl 16 (by decide) fl0_160 rfl rfl dX0_knowHeads_5 ?_
  refine kx_if_eq (tgt := 12) C (by omega) dX0_knowHeads_8 (by decide) (fun c6 => ?_) (fun c6 => ?_)
  · skip
    refine kx_iconst (v := nI 0) C dX0_knowHeads_12 (by decide +kernel) ?_
    refine kx_istore_n (lv2 := [(1, .int (nI (0))), (0, .ref (K 0))]) C dX0_knowHeads_13 rfl (by decide) rfl ?_
    refine kx_lv (lv2 := [(0, .ref (K 0)), (1, .int (nI (0)))]) [1, 0] rfl ?_
    refine kx_eqw (ws2 := (kwW E K b y o n ls2 bc2 1 hk P Wt Tv Sv Av Vv He Fv Pk)) rfl ?_
    exact lp14 42 0 He (by omega) (fun z hz => absurd hz (by omega)) GHe (by omega)
  · skip
    have hk1 : hk = 1 := by omega
    exact hE (Nat.le_of_ble_eq_true rfl) (Nat.le_of_ble_eq_true rfl) dX0_knowHeads_11 ⟨ls2, bc2, Tv, Sv, Av, Vv, Fv, He, by subst hk1; exact HO2, by subst hk1; rfl⟩

set_option maxHeartbeats 4000000 in
set_option maxRecDepth 100000 in
theorem c_nextCost (E : KE) (K : Nat → Nat) (b y o n ls bc tk hk : Nat) (P Wt Tu Sc Ta Wa He Fk Pk : Nat → Nat) (sl : Nat) (H0 : sl < 40) (HTa : ∀ j, Ta j ≤ 10000000) (HHe : ∀ j, He j ≤ 10000000) (HFk : ∀ j, Fk j ≤ 24) (HST : ∀ k, k < 24 → Sc (sl * 24 + k) ≤ He (sl * 24 + k) + Ta (sl * 24 + k)) : kMi E yX0_nextCost cX0_nextCost 4 (rk 1 0) [.ref (K 0), .int (nI (sl))] (kwW E K b y o n ls bc tk hk P Wt Tu Sc Ta Wa He Fk Pk) (fun r w => r = nI (minN (fun k => if k = Fk sl then kBIG else He (sl * 24 + k) + Ta (sl * 24 + k) - Sc (sl * 24 + k)) kBIG 24) ∧ w = (kwW E K b y o n ls bc tk hk P Wt Tu Sc Ta Wa He Fk Pk)) := by
  refine kMi_of (cc := cX0_nextCost) (maxL := 4) (by decide) (Nat.le_of_ble_eq_true rfl) ?_
  intro G C hE
  have lp5 : ∀ (N_lp5 : Nat) (i : Nat), (i ≤ 24) → (24 < i + N_lp5) → kx E (rk 1 0) G 4 0 0 (kwW E K b y o n ls bc tk hk P Wt Tu Sc Ta Wa He Fk Pk) [(0, .ref (K 0)), (1, .int (nI (sl))), (2, .int (nI (minN (fun k => if k = Fk sl then kBIG else He (sl * 24 + k) + Ta (sl * 24 + k) - Sc (sl * 24 + k)) kBIG i))), (3, .int (nI (i)))] 5 [] := by
    intro N_lp5
    induction N_lp5 with
    | zero =>
      intro i h0_lp5 hm_lp5
      exact absurd hm_lp5 (by omega)
    | succ N_lp5 ih_lp5 =>
      intro i h0_lp5 hm_lp5
      refine kx_iload_n C dX0_nextCost_5 rfl 3 rfl ?_
      refine kx_bipush (v := nI 24) C dX0_nextCost_6 (by decide +kernel) ?_
      refine kx_icmp_ge (tgt := 38) C (by omega) (by omega) dX0_nextCost_8 (by decide) (fun c1 => ?_) (fun c1 => ?_)
      · skip
        obtain rfl : 24 = i := by omega
        refine kx_iload_n C dX0_nextCost_38 rfl 2 rfl ?_
        exact hE (Nat.le_of_ble_eq_true rfl) (Nat.le_of_ble_eq_true rfl) dX0_nextCost_39 ⟨rfl, rfl⟩
      · skip
        refine kx_iload_n C dX0_nextCost_11 rfl 3 rfl ?_
        refine kx_aload_n C dX0_nextCost_12 rfl 0 rfl ?_
        refine kx_get (v := .ref (K 8)) (ci := 0) C kin0 0 rfl rfl 11 (by decide) fl0_32 rfl rfl dX0_nextCost_13 ?_
        refine kx_iload_n C dX0_nextCost_16 rfl 1 rfl ?_
        refine kx_iald C 8 rfl (j := sl) (by omega) (by decide) dX0_nextCost_17 ?_
        refine kx_icmp_eq (tgt := 32) C (by omega) (by have := HFk sl; omega) dX0_nextCost_18 (by decide) (fun c2 => ?_) (fun c2 => ?_)
        · skip
          refine kx_iinc (v := nI (i + 1)) (lv2 := [(3, .int (nI (i + 1))), (0, .ref (K 0)), (1, .int (nI (sl))), (2, .int (nI (minN (fun k => if k = Fk sl then kBIG else He (sl * 24 + k) + Ta (sl * 24 + k) - Sc (sl * 24 + k)) kBIG i)))]) C dX0_nextCost_32 3 rfl (kI1 _) (by decide) rfl ?_
          refine kx_goto (tgt := 5) C dX0_nextCost_35 (by decide) ?_
          refine kx_lvn (a := minN (fun k => if k = Fk sl then kBIG else He (sl * 24 + k) + Ta (sl * 24 + k) - Sc (sl * 24 + k)) kBIG i) (b := minN (fun k => if k = Fk sl then kBIG else He (sl * 24 + k) + Ta (sl * 24 + k) - Sc (sl * 24 + k)) kBIG (i + 1)) (lv2 := [(3, .int (nI (i + 1))), (0, .ref (K 0)), (1, .int (nI (sl))), (2, .int (nI (minN (fun k => if k = Fk sl then kBIG else He (sl * 24 + k) + Ta (sl * 24 + k) - Sc (sl * 24 + k)) kBIG (i + 1))))]) (by simp only [minN]; rw [if_pos c2]; exact (Nat.min_eq_left (minN_leM i)).symm) 3 rfl rfl ?_
          refine kx_lv (lv2 := [(0, .ref (K 0)), (1, .int (nI (sl))), (2, .int (nI (minN (fun k => if k = Fk sl then kBIG else He (sl * 24 + k) + Ta (sl * 24 + k) - Sc (sl * 24 + k)) kBIG (i + 1)))), (3, .int (nI (i + 1)))]) [1, 2, 3, 0] rfl ?_
          refine kx_eqw (ws2 := (kwW E K b y o n ls bc tk hk P Wt Tu Sc Ta Wa He Fk Pk)) rfl ?_
          exact ih_lp5 (i + 1) (by omega) (by omega)
        · skip
          refine kx_iload_n C dX0_nextCost_21 rfl 2 rfl ?_
          refine kx_aload_n C dX0_nextCost_22 rfl 0 rfl ?_
          refine kx_iload_n C dX0_nextCost_23 rfl 1 rfl ?_
          refine kx_iload_n C dX0_nextCost_24 rfl 3 rfl ?_
          refine kx_callVi (rest := [.int (nI (minN (fun k => if k = Fk sl then kBIG else He (sl * 24 + k) + Ta (sl * 24 + k) - Sc (sl * 24 + k)) kBIG i))]) (wr := []) C (c_leastThrough E K b y o n ls bc tk hk P Wt Tu Sc Ta Wa He Fk Pk sl i H0 (by omega) (HST i (by omega))) g0_114 2 rfl (by decide +kernel) ⟨Nat.le_of_ble_eq_true rfl, Nat.le_of_ble_eq_true rfl⟩ ⟨Nat.le_of_ble_eq_true rfl, Nat.le_of_ble_eq_true rfl⟩ [0, 1, 2, 3, 4, 5, 6, 7, 8, 9] [] rfl rfl (by decide) (by decide) (by decide) 0 rfl rfl rfl (Nat.le_of_ble_eq_true rfl) dX0_nextCost_25 (fun v w q3 => ?_)
          obtain ⟨rfl, rfl⟩ := q3
          refine kx_eqw (ws2 := (kwW E K b y o n ls bc tk hk P Wt Tu Sc Ta Wa He Fk Pk)) rfl ?_
          refine kx_mmin C (minN_lt31 (fun k => if k = Fk sl then kBIG else He (sl * 24 + k) + Ta (sl * 24 + k) - Sc (sl * 24 + k)) i) (by have := HHe (sl * 24 + i); have := HTa (sl * 24 + i); omega) m0_182 m_mmins m_math m_mminc (Nat.le_of_ble_eq_true rfl) (Nat.le_of_ble_eq_true rfl) (Nat.le_of_ble_eq_true rfl) (Nat.le_of_ble_eq_true rfl) dX0_nextCost_28 ?_
          refine kx_istore_n (lv2 := [(2, .int (nI (min (minN (fun k => if k = Fk sl then kBIG else He (sl * 24 + k) + Ta (sl * 24 + k) - Sc (sl * 24 + k)) kBIG i) (He (sl * 24 + i) + Ta (sl * 24 + i) - Sc (sl * 24 + i))))), (0, .ref (K 0)), (1, .int (nI (sl))), (3, .int (nI (i)))]) C dX0_nextCost_31 rfl (by decide) rfl ?_
          refine kx_iinc (v := nI (i + 1)) (lv2 := [(3, .int (nI (i + 1))), (2, .int (nI (min (minN (fun k => if k = Fk sl then kBIG else He (sl * 24 + k) + Ta (sl * 24 + k) - Sc (sl * 24 + k)) kBIG i) (He (sl * 24 + i) + Ta (sl * 24 + i) - Sc (sl * 24 + i))))), (0, .ref (K 0)), (1, .int (nI (sl)))]) C dX0_nextCost_32 3 rfl (kI1 _) (by decide) rfl ?_
          refine kx_goto (tgt := 5) C dX0_nextCost_35 (by decide) ?_
          refine kx_lvn (a := min (minN (fun k => if k = Fk sl then kBIG else He (sl * 24 + k) + Ta (sl * 24 + k) - Sc (sl * 24 + k)) kBIG i) (He (sl * 24 + i) + Ta (sl * 24 + i) - Sc (sl * 24 + i))) (b := minN (fun k => if k = Fk sl then kBIG else He (sl * 24 + k) + Ta (sl * 24 + k) - Sc (sl * 24 + k)) kBIG (i + 1)) (lv2 := [(3, .int (nI (i + 1))), (2, .int (nI (minN (fun k => if k = Fk sl then kBIG else He (sl * 24 + k) + Ta (sl * 24 + k) - Sc (sl * 24 + k)) kBIG (i + 1)))), (0, .ref (K 0)), (1, .int (nI (sl)))]) (by simp only [minN]; rw [if_neg c2]) 1 rfl rfl ?_
          refine kx_lv (lv2 := [(0, .ref (K 0)), (1, .int (nI (sl))), (2, .int (nI (minN (fun k => if k = Fk sl then kBIG else He (sl * 24 + k) + Ta (sl * 24 + k) - Sc (sl * 24 + k)) kBIG (i + 1)))), (3, .int (nI (i + 1)))]) [2, 3, 1, 0] rfl ?_
          refine kx_eqw (ws2 := (kwW E K b y o n ls bc tk hk P Wt Tu Sc Ta Wa He Fk Pk)) rfl ?_
          exact ih_lp5 (i + 1) (by omega) (by omega)
  refine kx_ldc (v := nI 1000000000) C kc0_198 dX0_nextCost_0 ?_
  refine kx_istore_n (lv2 := [(2, .int (nI (1000000000))), (0, .ref (K 0)), (1, .int (nI (sl)))]) C dX0_nextCost_2 rfl (by decide) rfl ?_
  refine kx_iconst (v := nI 0) C dX0_nextCost_3 (by decide +kernel) ?_
  refine kx_istore_n (lv2 := [(3, .int (nI (0))), (2, .int (nI (1000000000))), (0, .ref (K 0)), (1, .int (nI (sl)))]) C dX0_nextCost_4 rfl (by decide) rfl ?_
  refine kx_lv (lv2 := [(0, .ref (K 0)), (1, .int (nI (sl))), (2, .int (nI (minN (fun k => if k = Fk sl then kBIG else He (sl * 24 + k) + Ta (sl * 24 + k) - Sc (sl * 24 + k)) kBIG 0))), (3, .int (nI (0)))]) [2, 3, 1, 0] rfl ?_
  refine kx_eqw (ws2 := (kwW E K b y o n ls bc tk hk P Wt Tu Sc Ta Wa He Fk Pk)) rfl ?_
  exact lp5 25 0 (by omega) (by omega)

def chN (F : Nat → Nat) : Nat → Nat
  | 0 => 0
  | m + 1 => chN F m + (if m = 0 then 0 else if F m = F (m - 1) then 0 else 1)
theorem chN_le (F : Nat → Nat) : ∀ m, chN F m ≤ m
  | 0 => Nat.le_refl _
  | m + 1 => by
    have := chN_le F m
    simp only [chN]
    split
    · omega
    · split <;> omega
theorem chN_end {F : Nat → Nat} {n i : Nat} (h1 : n ≤ i) (h2 : i ≤ n ∨ i = 1) : chN F i = chN F n := by
  by_cases e : i = n
  · rw [e]
  · obtain rfl : n = 0 := by omega
    obtain rfl : i = 1 := by omega
    rfl
theorem chN_at {F : Nat → Nat} {m : Nat} (h : m ≠ 0) : chN F (m + 1) = chN F m + (if F m = F (m - 1) then 0 else 1) := by
  rw [chN, if_neg h]

set_option maxHeartbeats 4000000 in
set_option maxRecDepth 100000 in
theorem c_changesOfFirst (E : KE) (K : Nat → Nat) (b y o n ls bc tk hk : Nat) (P Wt Tu Sc Ta Wa He Fk Pk : Nat → Nat) (HO : kOk b y o n ls bc tk hk P Wt Tu Sc Ta Wa He Fk Pk) : kMi E yX0_changesOfFirst cX0_changesOfFirst 3 (rk 5 0) [.ref (K 0)] (kwW E K b y o n ls bc tk hk P Wt Tu Sc Ta Wa He Fk Pk) (fun r w => ∃ (ls2 bc2 : Nat) (Tv Sv Av Vv Fv : Nat → Nat), r = nI (chN Fv n) ∧ kOk b y o n ls2 bc2 1 hk P Wt Tv Sv Av Vv He Fv Pk ∧ w = (kwW E K b y o n ls2 bc2 1 hk P Wt Tv Sv Av Vv He Fv Pk)) := by
  refine kMi_of (cc := cX0_changesOfFirst) (maxL := 3) (by decide) (Nat.le_of_ble_eq_true rfl) ?_
  intro G C hE
  obtain ⟨H1, HP, HW, Hb, Hy, Ho, Htk, Hhk, Hls, HTa, HWa, HHe, HFk, HPk, HK, HH⟩ := id HO
  refine kx_aload_n C dX0_changesOfFirst_0 rfl 0 rfl ?_
  refine kx_callVv (rest := []) (wr := []) C (c_knowTails E K b y o n ls bc tk hk P Wt Tu Sc Ta Wa He Fk Pk HO) g0_90 0 rfl (by decide +kernel) ⟨Nat.le_of_ble_eq_true rfl, Nat.le_of_ble_eq_true rfl⟩ ⟨Nat.le_of_ble_eq_true rfl, Nat.le_of_ble_eq_true rfl⟩ [0, 1, 2, 3, 4, 5, 6, 7, 8, 9] [] rfl rfl (by decide) (by decide) (by decide) 0 rfl rfl rfl (Nat.le_of_ble_eq_true rfl) dX0_changesOfFirst_1 (fun w q1 => ?_)
  obtain ⟨ls2, bc2, Tv, Sv, Av, Vv, Fv, HO2, rfl⟩ := q1
  refine kx_eqw (ws2 := (kwW E K b y o n ls2 bc2 1 hk P Wt Tv Sv Av Vv He Fv Pk)) rfl ?_
  obtain ⟨G1, GP, GW, Gb, Gy, Go, Gtk, Ghk, Gls, GTa, GWa, GHe, GFk, GPk, GK, GH⟩ := id HO2
  obtain ⟨GT, GR, G0, Gn, GF⟩ := GK (by decide)
  have lp8 : ∀ (N_lp8 : Nat) (i : Nat), (1 ≤ i) → (i ≤ n ∨ i = 1) → (n + 1 < i + N_lp8) → kx E (rk 5 0) G 3 0 0 (kwW E K b y o n ls2 bc2 1 hk P Wt Tv Sv Av Vv He Fv Pk) [(0, .ref (K 0)), (1, .int (nI (chN Fv i))), (2, .int (nI (i)))] 8 [] := by
    intro N_lp8
    induction N_lp8 with
    | zero =>
      intro i h0_lp8 h1_lp8 hm_lp8
      exact absurd hm_lp8 (by omega)
    | succ N_lp8 ih_lp8 =>
      intro i h0_lp8 h1_lp8 hm_lp8
      refine kx_iload_n C dX0_changesOfFirst_8 rfl 2 rfl ?_
      refine kx_aload_n C dX0_changesOfFirst_9 rfl 0 rfl ?_
      refine kx_get (v := .int (nI (n))) (ci := 0) C kin0 0 rfl rfl 5 (by decide) fl0_41 rfl rfl dX0_changesOfFirst_10 ?_
      refine kx_icmp_ge (tgt := 33) C (by omega) (by omega) dX0_changesOfFirst_13 (by decide) (fun c2 => ?_) (fun c2 => ?_)
      · skip
        have hcz : chN Fv i = chN Fv n := chN_end (by omega) (by omega)
        refine kx_iload_n C dX0_changesOfFirst_33 rfl 1 rfl ?_
        exact hE (Nat.le_of_ble_eq_true rfl) (Nat.le_of_ble_eq_true rfl) dX0_changesOfFirst_34 ⟨ls2, bc2, Tv, Sv, Av, Vv, Fv, by rw [hcz], HO2, rfl⟩
      · skip
        refine kx_aload_n C dX0_changesOfFirst_16 rfl 0 rfl ?_
        refine kx_iload_n C dX0_changesOfFirst_17 rfl 2 rfl ?_
        refine kx_callVz (rest := []) (wr := []) C (c_changesAt E K b y o n ls2 bc2 1 hk P Wt Tv Sv Av Vv He Fv Pk i (by omega) (by omega) GFk) g0_128 1 rfl (by decide +kernel) ⟨Nat.le_of_ble_eq_true rfl, Nat.le_of_ble_eq_true rfl⟩ ⟨Nat.le_of_ble_eq_true rfl, Nat.le_of_ble_eq_true rfl⟩ [0, 1, 2, 3, 4, 5, 6, 7, 8, 9] [] rfl rfl (by decide) (by decide) (by decide) 0 rfl rfl rfl (Nat.le_of_ble_eq_true rfl) dX0_changesOfFirst_18 (fun v w q3 => ?_)
        obtain ⟨rfl, rfl⟩ := q3
        refine kx_eqw (ws2 := (kwW E K b y o n ls2 bc2 1 hk P Wt Tv Sv Av Vv He Fv Pk)) rfl ?_
        refine kx_if_eq (tgt := 27) C (by split <;> omega) dX0_changesOfFirst_21 (by decide) (fun c4 => ?_) (fun c4 => ?_)
        · skip
          refine kx_iinc (v := nI (i + 1)) (lv2 := [(2, .int (nI (i + 1))), (0, .ref (K 0)), (1, .int (nI (chN Fv i)))]) C dX0_changesOfFirst_27 2 rfl (kI1 _) (by decide) rfl ?_
          refine kx_goto (tgt := 8) C dX0_changesOfFirst_30 (by decide) ?_
          refine kx_lvn (a := chN Fv i) (b := chN Fv (i + 1)) (lv2 := [(2, .int (nI (i + 1))), (0, .ref (K 0)), (1, .int (nI (chN Fv (i + 1))))]) (by rw [chN_at (by omega)]; split at c4 <;> simp_all) 2 rfl rfl ?_
          refine kx_lv (lv2 := [(0, .ref (K 0)), (1, .int (nI (chN Fv (i + 1)))), (2, .int (nI (i + 1)))]) [1, 2, 0] rfl ?_
          refine kx_eqw (ws2 := (kwW E K b y o n ls2 bc2 1 hk P Wt Tv Sv Av Vv He Fv Pk)) rfl ?_
          exact ih_lp8 (i + 1) (by omega) (by omega) (by omega)
        · skip
          refine kx_iinc (v := nI (chN Fv i + 1)) (lv2 := [(1, .int (nI (chN Fv i + 1))), (0, .ref (K 0)), (2, .int (nI (i)))]) C dX0_changesOfFirst_24 1 rfl (kI1 _) (by decide) rfl ?_
          refine kx_iinc (v := nI (i + 1)) (lv2 := [(2, .int (nI (i + 1))), (1, .int (nI (chN Fv i + 1))), (0, .ref (K 0))]) C dX0_changesOfFirst_27 2 rfl (kI1 _) (by decide) rfl ?_
          refine kx_goto (tgt := 8) C dX0_changesOfFirst_30 (by decide) ?_
          refine kx_lvn (a := chN Fv i + 1) (b := chN Fv (i + 1)) (lv2 := [(2, .int (nI (i + 1))), (1, .int (nI (chN Fv (i + 1)))), (0, .ref (K 0))]) (by rw [chN_at (by omega)]; split at c4 <;> simp_all) 1 rfl rfl ?_
          refine kx_lv (lv2 := [(0, .ref (K 0)), (1, .int (nI (chN Fv (i + 1)))), (2, .int (nI (i + 1)))]) [2, 1, 0] rfl ?_
          refine kx_eqw (ws2 := (kwW E K b y o n ls2 bc2 1 hk P Wt Tv Sv Av Vv He Fv Pk)) rfl ?_
          exact ih_lp8 (i + 1) (by omega) (by omega) (by omega)
  refine kx_iconst (v := nI 0) C dX0_changesOfFirst_4 (by decide +kernel) ?_
  refine kx_istore_n (lv2 := [(1, .int (nI (0))), (0, .ref (K 0))]) C dX0_changesOfFirst_5 rfl (by decide) rfl ?_
  refine kx_iconst (v := nI 1) C dX0_changesOfFirst_6 (by decide +kernel) ?_
  refine kx_istore_n (lv2 := [(2, .int (nI (1))), (1, .int (nI (0))), (0, .ref (K 0))]) C dX0_changesOfFirst_7 rfl (by decide) rfl ?_
  refine kx_lv (lv2 := [(0, .ref (K 0)), (1, .int (nI (chN Fv 1))), (2, .int (nI (1)))]) [2, 1, 0] rfl ?_
  refine kx_eqw (ws2 := (kwW E K b y o n ls2 bc2 1 hk P Wt Tv Sv Av Vv He Fv Pk)) rfl ?_
  exact lp8 42 1 (by omega) (by omega) (by omega)
