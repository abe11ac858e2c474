theorem bcF_le (n b y o : Nat) (P Wt : Nat → Nat) (k : Nat) : bcF n b y o P Wt k ≤ 1000000000000000000 := by
  unfold bcF
  by_cases e : tlS n b y o P Wt 0 k = lsN n b y o P Wt
  · rw [if_pos e]; exact wyS_le _ _ _ _ _ _ _ _
  · rw [if_neg e]; exact Nat.zero_le _

set_option maxHeartbeats 4000000 in
set_option maxRecDepth 100000 in
theorem m_least (E : KE) (J : Nat → Nat) (cd n b y o : Nat) (Wm Pm Rm Ym Tm Cm Km : Nat → Nat) (HM : kMo n b y o Wm Pm Rm Ym Km) : kMi E yX1_least cX1_least 1 (rk 10 0) [.ref (J 0)] (kmW E J cd n b y o Wm Pm Rm Ym Tm Cm Km) (fun r w => ∃ (Rv Yv Tv Cv Kv : Nat → Nat), r = nI (lsN n b y o Pm Wm) ∧ kMo n b y o Wm Pm Rv Yv Kv ∧ w = (kmW E J 0 n b y o Wm Pm Rv Yv Tv Cv Kv)) := by
  refine kMi_of (cc := cX1_least) (maxL := 1) (by decide) (Nat.le_of_ble_eq_true rfl) ?_
  intro G C hE
  obtain ⟨H1, Hb, Hy, Ho, HP, HW, HRm, HYm, HKm⟩ := id HM
  refine kx_aload_n C dX1_least_0 rfl 0 rfl ?_
  refine kx_iconst (v := nI 0) C dX1_least_1 (by decide +kernel) ?_
  refine kx_put (ws2 := (kmW E J 0 n b y o Wm Pm Rm Ym Tm Cm Km)) (ci := 1) C kin1 tyX1_ok nmX1 0 rfl rfl 0 (by decide) fl1_35 rfl rfl rfl rfl (Nat.le_of_ble_eq_true rfl) rfl dX1_least_2 ?_
  refine kx_aload_n C dX1_least_5 rfl 0 rfl ?_
  refine kx_callVv (rest := []) (wr := []) C (m_lay E J 0 n b y o Wm Pm Rm Ym Tm Cm Km H1 HP HW) g1_95 0 rfl (by decide +kernel) ⟨Nat.le_of_ble_eq_true rfl, Nat.le_of_ble_eq_true rfl⟩ ⟨Nat.le_of_ble_eq_true rfl, Nat.le_of_ble_eq_true rfl⟩ [0, 1, 2, 3, 4, 5, 6, 7] [] rfl rfl (by decide) (by decide) (by decide) 0 rfl rfl rfl (Nat.le_of_ble_eq_true rfl) dX1_least_6 (fun w q1 => ?_)
  obtain ⟨Tv, Cv, hTv, hCv, rfl⟩ := q1
  refine kx_eqw (ws2 := (kmW E J 0 n b y o Wm Pm Rm Ym Tv Cv Km)) rfl ?_
  refine kx_aload_n C dX1_least_9 rfl 0 rfl ?_
  refine kx_iconst (v := (-1)) C dX1_least_10 (by decide +kernel) ?_
  refine kx_iconst (v := nI 0) C dX1_least_11 (by decide +kernel) ?_
  refine kx_callVi (rest := []) (wr := []) C (m_weigh E J 0 n b y o Wm Pm Rm Ym Tv Cv Km (-1) (nI 0) H1 Hb Hy Ho HP HW hTv hCv HRm HYm) g1_98 2 rfl (by decide +kernel) ⟨Nat.le_of_ble_eq_true rfl, Nat.le_of_ble_eq_true rfl⟩ ⟨Nat.le_of_ble_eq_true rfl, Nat.le_of_ble_eq_true rfl⟩ [0, 1, 2, 3, 4, 5, 6, 7] [] rfl rfl (by decide) (by decide) (by decide) 0 rfl rfl rfl (Nat.le_of_ble_eq_true rfl) dX1_least_12 (fun v w q2 => ?_)
  obtain ⟨Rv, Yv, hR_Rv, hA_Rv, hA_Yv, rfl, rfl⟩ := q2
  refine kx_eqw (ws2 := (kmW E J 0 n b y o Wm Pm Rv Yv Tv Cv Km)) rfl ?_
  refine kx_topn (b := lsN n b y o Pm Wm) (ls_of H1) ?_
  have h0_Rv := kR0_of H1 hR_Rv
  exact hE (Nat.le_of_ble_eq_true rfl) (Nat.le_of_ble_eq_true rfl) dX1_least_15 ⟨Rv, Yv, Tv, Cv, Km, rfl, ⟨H1, Hb, Hy, Ho, HP, HW, hA_Rv, hA_Yv, HKm⟩, rfl⟩

set_option maxHeartbeats 4000000 in
set_option maxRecDepth 100000 in
theorem m_count (E : KE) (J : Nat → Nat) (cd n b y o : Nat) (Wm Pm Rm Ym Tm Cm Km : Nat → Nat) (HM : kMo n b y o Wm Pm Rm Ym Km) : kMl E yX1_count cX1_count 5 (rk 10 0) [.ref (J 0)] (kmW E J cd n b y o Wm Pm Rm Ym Tm Cm Km) (fun r w => ∃ (Rv Yv Tv Cv Kv : Nat → Nat), r = lN (bcN n b y o Pm Wm) ∧ kMo n b y o Wm Pm Rv Yv Kv ∧ w = (kmW E J 0 n b y o Wm Pm Rv Yv Tv Cv Kv)) := by
  refine kMl_of (cc := cX1_count) (maxL := 5) (by decide) (Nat.le_of_ble_eq_true rfl) ?_
  intro G C hE
  obtain ⟨H1, Hb, Hy, Ho, HP, HW, HRm, HYm, HKm⟩ := id HM
  refine kx_aload_n C dX1_count_0 rfl 0 rfl ?_
  refine kx_iconst (v := nI 0) C dX1_count_1 (by decide +kernel) ?_
  refine kx_put (ws2 := (kmW E J 0 n b y o Wm Pm Rm Ym Tm Cm Km)) (ci := 1) C kin1 tyX1_ok nmX1 0 rfl rfl 0 (by decide) fl1_35 rfl rfl rfl rfl (Nat.le_of_ble_eq_true rfl) rfl dX1_count_2 ?_
  refine kx_aload_n C dX1_count_5 rfl 0 rfl ?_
  refine kx_callVv (rest := []) (wr := []) C (m_lay E J 0 n b y o Wm Pm Rm Ym Tm Cm Km H1 HP HW) g1_95 0 rfl (by decide +kernel) ⟨Nat.le_of_ble_eq_true rfl, Nat.le_of_ble_eq_true rfl⟩ ⟨Nat.le_of_ble_eq_true rfl, Nat.le_of_ble_eq_true rfl⟩ [0, 1, 2, 3, 4, 5, 6, 7] [] rfl rfl (by decide) (by decide) (by decide) 0 rfl rfl rfl (Nat.le_of_ble_eq_true rfl) dX1_count_6 (fun w q1 => ?_)
  obtain ⟨Tv, Cv, hTv, hCv, rfl⟩ := q1
  refine kx_eqw (ws2 := (kmW E J 0 n b y o Wm Pm Rm Ym Tv Cv Km)) rfl ?_
  refine kx_aload_n C dX1_count_9 rfl 0 rfl ?_
  refine kx_iconst (v := (-1)) C dX1_count_10 (by decide +kernel) ?_
  refine kx_iconst (v := nI 0) C dX1_count_11 (by decide +kernel) ?_
  refine kx_callVi (rest := []) (wr := []) C (m_weigh E J 0 n b y o Wm Pm Rm Ym Tv Cv Km (-1) (nI 0) H1 Hb Hy Ho HP HW hTv hCv HRm HYm) g1_98 2 rfl (by decide +kernel) ⟨Nat.le_of_ble_eq_true rfl, Nat.le_of_ble_eq_true rfl⟩ ⟨Nat.le_of_ble_eq_true rfl, Nat.le_of_ble_eq_true rfl⟩ [0, 1, 2, 3, 4, 5, 6, 7] [] rfl rfl (by decide) (by decide) (by decide) 0 rfl rfl rfl (Nat.le_of_ble_eq_true rfl) dX1_count_12 (fun v w q2 => ?_)
  obtain ⟨Rv, Yv, hR_Rv, hA_Rv, hA_Yv, rfl, rfl⟩ := q2
  refine kx_eqw (ws2 := (kmW E J 0 n b y o Wm Pm Rv Yv Tv Cv Km)) rfl ?_
  refine kx_topn (b := lsN n b y o Pm Wm) (ls_of H1) ?_
  have h0_Rv := kR0_of H1 hR_Rv
  have hls := lsN_le H1 HP HW Hb Hy Ho
  have hcap : kCAP = 1000000000000000000 := rfl
  have lp30 : ∀ (N_lp30 : Nat) (i : Nat), (i ≤ 24) → (n ≠ 0) → (24 < i + N_lp30) → kx E (rk 10 0) G 5 0 0 (kmW E J 0 n b y o Wm Pm Rv Yv Tv Cv Km) [(0, .ref (J 0)), (1, .int (nI (lsN n b y o Pm Wm))), (2, .long (lN (min kCAP (sumN (bcF n b y o Pm Wm) i)))), (4, .int (nI (i)))] 30 [] := by
    intro N_lp30
    induction N_lp30 with
    | zero =>
      intro i h0_lp30 h1_lp30 hm_lp30
      exact absurd hm_lp30 (by omega)
    | succ N_lp30 ih_lp30 =>
      intro i h0_lp30 h1_lp30 hm_lp30
      refine kx_iload C dX1_count_30 3 rfl ?_
      refine kx_bipush (v := nI 24) C dX1_count_32 (by decide +kernel) ?_
      refine kx_icmp_ge (tgt := 84) C (by omega) (by omega) dX1_count_34 (by decide) (fun c3 => ?_) (fun c3 => ?_)
      · skip
        obtain rfl : 24 = i := by omega
        refine kx_lload_n C dX1_count_84 rfl 2 rfl ?_
        exact hE (Nat.le_of_ble_eq_true rfl) (Nat.le_of_ble_eq_true rfl) dX1_count_85 ⟨Rv, Yv, Tv, Cv, Km, (by unfold bcN; rw [if_neg h1_lp30]), ⟨H1, Hb, Hy, Ho, HP, HW, hA_Rv, hA_Yv, HKm⟩, rfl⟩
      · skip
        refine kx_lload_n C dX1_count_37 rfl 2 rfl ?_
        refine kx_aload_n C dX1_count_38 rfl 0 rfl ?_
        refine kx_get (v := .ref (J 3)) (ci := 1) C kin1 0 rfl rfl 7 (by decide) fl1_16 rfl rfl dX1_count_39 ?_
        refine kx_iload C dX1_count_42 3 rfl ?_
        refine kx_iald C 3 rfl (j := i) (by omega) (by decide) dX1_count_44 ?_
        refine kx_topn (b := tlS n b y o Pm Wm 0 i) (by have h := (h0_Rv 0 (by omega) i (by omega)).1; rw [Nat.zero_mul, Nat.zero_add] at h; exact h) ?_
        refine kx_iload_n C dX1_count_45 rfl 1 rfl ?_
        refine kx_icmp_ne (tgt := 59) C (by have := tlS_le H1 HP HW Hb Hy Ho (show 0 < n by omega) i; omega) (by omega) dX1_count_46 (by decide) (fun c4 => ?_) (fun c4 => ?_)
        · skip
          refine kx_lconst (v := lN 0) C dX1_count_59 (by decide +kernel) ?_
          refine kx_topL (b := bcF n b y o Pm Wm i) (by unfold bcF; rw [if_neg c4]) ?_
          have hbi : bcF n b y o Pm Wm i ≤ 1000000000000000000 := bcF_le _ _ _ _ _ _ _
          refine kx_ladd C dX1_count_60 ?_
          refine kx_lstore_n (lv2 := [(2, .long (lN ((min kCAP (sumN (bcF n b y o Pm Wm) i)) + (bcF n b y o Pm Wm i)))), (0, .ref (J 0)), (1, .int (nI (lsN n b y o Pm Wm))), (4, .int (nI (i)))]) C dX1_count_61 rfl (by decide) rfl ?_
          refine kx_lload_n C dX1_count_62 rfl 0 rfl ?_
          refine kx_ldc2 (v := lN 1000000000000000000) C kc1_93 dX1_count_63 ?_
          refine kx_lcmp_le (tgt := 76) C (by omega) (by omega) dX1_count_66 dX1_count_67 (by decide) (fun c5 => ?_) (fun c5 => ?_)
          · skip
            refine kx_lload_n C dX1_count_76 rfl 0 rfl ?_
            refine kx_lstore_n (lv2 := [(2, .long (lN ((min kCAP (sumN (bcF n b y o Pm Wm) i)) + (bcF n b y o Pm Wm i)))), (0, .ref (J 0)), (1, .int (nI (lsN n b y o Pm Wm))), (4, .int (nI (i)))]) C dX1_count_77 rfl (by decide) rfl ?_
            refine kx_iinc (v := nI (i + 1)) (lv2 := [(4, .int (nI (i + 1))), (2, .long (lN ((min kCAP (sumN (bcF n b y o Pm Wm) i)) + (bcF n b y o Pm Wm i)))), (0, .ref (J 0)), (1, .int (nI (lsN n b y o Pm Wm)))]) C dX1_count_78 3 rfl (kI1 _) (by decide) rfl ?_
            refine kx_goto (tgt := 30) C dX1_count_81 (by decide) ?_
            refine kx_lvL (a := (min kCAP (sumN (bcF n b y o Pm Wm) i)) + (bcF n b y o Pm Wm i)) (b := min kCAP (sumN (bcF n b y o Pm Wm) (i + 1))) (lv2 := [(4, .int (nI (i + 1))), (2, .long (lN (min kCAP (sumN (bcF n b y o Pm Wm) (i + 1))))), (0, .ref (J 0)), (1, .int (nI (lsN n b y o Pm Wm)))]) (by simp only [sumN]; omega) 1 rfl rfl ?_
            refine kx_lv (lv2 := [(0, .ref (J 0)), (1, .int (nI (lsN n b y o Pm Wm))), (2, .long (lN (min kCAP (sumN (bcF n b y o Pm Wm) (i + 1))))), (4, .int (nI (i + 1)))]) [2, 3, 1, 0] rfl ?_
            refine kx_eqw (ws2 := (kmW E J 0 n b y o Wm Pm Rv Yv Tv Cv Km)) rfl ?_
            exact ih_lp30 (i + 1) (by omega) h1_lp30 (by omega)
          · skip
            refine kx_ldc2 (v := lN 1000000000000000000) C kc1_93 dX1_count_70 ?_
            refine kx_goto (tgt := 77) C dX1_count_73 (by decide) ?_
            refine kx_lstore_n (lv2 := [(2, .long (lN (1000000000000000000))), (0, .ref (J 0)), (1, .int (nI (lsN n b y o Pm Wm))), (4, .int (nI (i)))]) C dX1_count_77 rfl (by decide) rfl ?_
            refine kx_iinc (v := nI (i + 1)) (lv2 := [(4, .int (nI (i + 1))), (2, .long (lN (1000000000000000000))), (0, .ref (J 0)), (1, .int (nI (lsN n b y o Pm Wm)))]) C dX1_count_78 3 rfl (kI1 _) (by decide) rfl ?_
            refine kx_goto (tgt := 30) C dX1_count_81 (by decide) ?_
            refine kx_lvL (a := 1000000000000000000) (b := min kCAP (sumN (bcF n b y o Pm Wm) (i + 1))) (lv2 := [(4, .int (nI (i + 1))), (2, .long (lN (min kCAP (sumN (bcF n b y o Pm Wm) (i + 1))))), (0, .ref (J 0)), (1, .int (nI (lsN n b y o Pm Wm)))]) (by simp only [sumN]; omega) 1 rfl rfl ?_
            refine kx_lv (lv2 := [(0, .ref (J 0)), (1, .int (nI (lsN n b y o Pm Wm))), (2, .long (lN (min kCAP (sumN (bcF n b y o Pm Wm) (i + 1))))), (4, .int (nI (i + 1)))]) [2, 3, 1, 0] rfl ?_
            refine kx_eqw (ws2 := (kmW E J 0 n b y o Wm Pm Rv Yv Tv Cv Km)) rfl ?_
            exact ih_lp30 (i + 1) (by omega) h1_lp30 (by omega)
        · skip
          refine kx_aload_n C dX1_count_49 rfl 0 rfl ?_
          refine kx_get (v := .ref (J 4)) (ci := 1) C kin1 0 rfl rfl 8 (by decide) fl1_19 rfl rfl dX1_count_50 ?_
          refine kx_iload C dX1_count_53 3 rfl ?_
          refine kx_lald C 4 rfl (j := i) (by omega) (by decide) dX1_count_55 ?_
          refine kx_topL (b := wyS n b y o Pm Wm 0 i) (by have h := (h0_Rv 0 (by omega) i (by omega)).2; rw [Nat.zero_mul, Nat.zero_add] at h; exact h) ?_
          refine kx_goto (tgt := 60) C dX1_count_56 (by decide) ?_
          refine kx_topL (b := bcF n b y o Pm Wm i) (by unfold bcF; rw [if_pos c4]) ?_
          have hbi : bcF n b y o Pm Wm i ≤ 1000000000000000000 := bcF_le _ _ _ _ _ _ _
          refine kx_ladd C dX1_count_60 ?_
          refine kx_lstore_n (lv2 := [(2, .long (lN ((min kCAP (sumN (bcF n b y o Pm Wm) i)) + (bcF n b y o Pm Wm i)))), (0, .ref (J 0)), (1, .int (nI (lsN n b y o Pm Wm))), (4, .int (nI (i)))]) C dX1_count_61 rfl (by decide) rfl ?_
          refine kx_lload_n C dX1_count_62 rfl 0 rfl ?_
          refine kx_ldc2 (v := lN 1000000000000000000) C kc1_93 dX1_count_63 ?_
          refine kx_lcmp_le (tgt := 76) C (by omega) (by omega) dX1_count_66 dX1_count_67 (by decide) (fun c6 => ?_) (fun c6 => ?_)
          · skip
            refine kx_lload_n C dX1_count_76 rfl 0 rfl ?_
            refine kx_lstore_n (lv2 := [(2, .long (lN ((min kCAP (sumN (bcF n b y o Pm Wm) i)) + (bcF n b y o Pm Wm i)))), (0, .ref (J 0)), (1, .int (nI (lsN n b y o Pm Wm))), (4, .int (nI (i)))]) C dX1_count_77 rfl (by decide) rfl ?_
            refine kx_iinc (v := nI (i + 1)) (lv2 := [(4, .int (nI (i + 1))), (2, .long (lN ((min kCAP (sumN (bcF n b y o Pm Wm) i)) + (bcF n b y o Pm Wm i)))), (0, .ref (J 0)), (1, .int (nI (lsN n b y o Pm Wm)))]) C dX1_count_78 3 rfl (kI1 _) (by decide) rfl ?_
            refine kx_goto (tgt := 30) C dX1_count_81 (by decide) ?_
            refine kx_lvL (a := (min kCAP (sumN (bcF n b y o Pm Wm) i)) + (bcF n b y o Pm Wm i)) (b := min kCAP (sumN (bcF n b y o Pm Wm) (i + 1))) (lv2 := [(4, .int (nI (i + 1))), (2, .long (lN (min kCAP (sumN (bcF n b y o Pm Wm) (i + 1))))), (0, .ref (J 0)), (1, .int (nI (lsN n b y o Pm Wm)))]) (by simp only [sumN]; omega) 1 rfl rfl ?_
            refine kx_lv (lv2 := [(0, .ref (J 0)), (1, .int (nI (lsN n b y o Pm Wm))), (2, .long (lN (min kCAP (sumN (bcF n b y o Pm Wm) (i + 1))))), (4, .int (nI (i + 1)))]) [2, 3, 1, 0] rfl ?_
            refine kx_eqw (ws2 := (kmW E J 0 n b y o Wm Pm Rv Yv Tv Cv Km)) rfl ?_
            exact ih_lp30 (i + 1) (by omega) h1_lp30 (by omega)
          · skip
            refine kx_ldc2 (v := lN 1000000000000000000) C kc1_93 dX1_count_70 ?_
            refine kx_goto (tgt := 77) C dX1_count_73 (by decide) ?_
            refine kx_lstore_n (lv2 := [(2, .long (lN (1000000000000000000))), (0, .ref (J 0)), (1, .int (nI (lsN n b y o Pm Wm))), (4, .int (nI (i)))]) C dX1_count_77 rfl (by decide) rfl ?_
            refine kx_iinc (v := nI (i + 1)) (lv2 := [(4, .int (nI (i + 1))), (2, .long (lN (1000000000000000000))), (0, .ref (J 0)), (1, .int (nI (lsN n b y o Pm Wm)))]) C dX1_count_78 3 rfl (kI1 _) (by decide) rfl ?_
            refine kx_goto (tgt := 30) C dX1_count_81 (by decide) ?_
            refine kx_lvL (a := 1000000000000000000) (b := min kCAP (sumN (bcF n b y o Pm Wm) (i + 1))) (lv2 := [(4, .int (nI (i + 1))), (2, .long (lN (min kCAP (sumN (bcF n b y o Pm Wm) (i + 1))))), (0, .ref (J 0)), (1, .int (nI (lsN n b y o Pm Wm)))]) (by simp only [sumN]; omega) 1 rfl rfl ?_
            refine kx_lv (lv2 := [(0, .ref (J 0)), (1, .int (nI (lsN n b y o Pm Wm))), (2, .long (lN (min kCAP (sumN (bcF n b y o Pm Wm) (i + 1))))), (4, .int (nI (i + 1)))]) [2, 3, 1, 0] rfl ?_
            refine kx_eqw (ws2 := (kmW E J 0 n b y o Wm Pm Rv Yv Tv Cv Km)) rfl ?_
            exact ih_lp30 (i + 1) (by omega) h1_lp30 (by omega)
  refine kx_istore_n (lv2 := [(1, .int (nI (lsN n b y o Pm Wm))), (0, .ref (J 0))]) C dX1_count_15 rfl (by decide) rfl ?_
  refine kx_aload_n C dX1_count_16 rfl 1 rfl ?_
  refine kx_get (v := .int (nI (n))) (ci := 1) C kin1 0 rfl rfl 1 (by decide) fl1_39 rfl rfl dX1_count_17 ?_
  refine kx_if_ne (tgt := 25) C (by omega) dX1_count_20 (by decide) (fun c7 => ?_) (fun c7 => ?_)
  · skip
    refine kx_lconst (v := lN 0) C dX1_count_25 (by decide +kernel) ?_
    refine kx_lstore_n (lv2 := [(2, .long (lN (0))), (1, .int (nI (lsN n b y o Pm Wm))), (0, .ref (J 0))]) C dX1_count_26 rfl (by decide) rfl ?_
    refine kx_iconst (v := nI 0) C dX1_count_27 (by decide +kernel) ?_
    refine kx_istore (lv2 := [(4, .int (nI (0))), (2, .long (lN (0))), (1, .int (nI (lsN n b y o Pm Wm))), (0, .ref (J 0))]) C dX1_count_28 (by decide) rfl ?_
    refine kx_lv (lv2 := [(0, .ref (J 0)), (1, .int (nI (lsN n b y o Pm Wm))), (2, .long (lN (min kCAP (sumN (bcF n b y o Pm Wm) 0)))), (4, .int (nI (0)))]) [3, 2, 1, 0] rfl ?_
    refine kx_eqw (ws2 := (kmW E J 0 n b y o Wm Pm Rv Yv Tv Cv Km)) rfl ?_
    exact lp30 25 0 (by omega) (by omega) (by omega)
  · skip
    refine kx_lconst (v := lN 1) C dX1_count_23 (by decide +kernel) ?_
    exact hE (Nat.le_of_ble_eq_true rfl) (Nat.le_of_ble_eq_true rfl) dX1_count_24 ⟨Rv, Yv, Tv, Cv, Km, (by unfold bcN; rw [if_pos (by omega)]), ⟨H1, Hb, Hy, Ho, HP, HW, hA_Rv, hA_Yv, HKm⟩, rfl⟩

set_option maxHeartbeats 4000000 in
set_option maxRecDepth 100000 in
theorem m_walkBehind (E : KE) (J : Nat → Nat) (cd n b y o : Nat) (Wm Pm Rm Ym Tm Cm Km : Nat → Nat) (i0 : Nat) (HI : i0 < 1000000000000000000) (HM : kMo n b y o Wm Pm Rm Ym Km) : kMz E yX1_walkBehind cX1_walkBehind 11 (rk 8 0) [.ref (J 0), .long (lN (i0))] (kmW E J cd n b y o Wm Pm Rm Ym Tm Cm Km) (fun r w => ∃ (Rv Yv Tv Cv Kv : Nat → Nat), kTuOk b y o Tv ∧ (∀ s, s < n → ∀ k, k < 24 → Cv (s * 24 + k) = costN Pm Wm s k) ∧ kMo n b y o Wm Pm Rv Yv Kv ∧ ((r = nI 1 ∧ ∀ j, j < n → Kv j = (kFs n b y o Pm Wm (lsN n b y o Pm Wm) i0 (j + 1)).1) ∨ (r = nI 0 ∧ ∃ j, j < n ∧ (kFs n b y o Pm Wm (lsN n b y o Pm Wm) i0 (j + 1)).1 = 24)) ∧ w = (kmW E J cd n b y o Wm Pm Rv Yv Tv Cv Kv)) := by
  refine kMz_of (cc := cX1_walkBehind) (maxL := 11) (by decide) (Nat.le_of_ble_eq_true rfl) ?_
  intro G C hE
  obtain ⟨H1, Hb, Hy, Ho, HP, HW, HRm, HYm, HKm⟩ := id HM
  refine kx_aload_n C dX1_walkBehind_0 rfl 0 rfl ?_
  refine kx_callVv (rest := []) (wr := []) C (m_lay E J cd n b y o Wm Pm Rm Ym Tm Cm Km H1 HP HW) g1_95 0 rfl (by decide +kernel) ⟨Nat.le_of_ble_eq_true rfl, Nat.le_of_ble_eq_true rfl⟩ ⟨Nat.le_of_ble_eq_true rfl, Nat.le_of_ble_eq_true rfl⟩ [0, 1, 2, 3, 4, 5, 6, 7] [] rfl rfl (by decide) (by decide) (by decide) 0 rfl rfl rfl (Nat.le_of_ble_eq_true rfl) dX1_walkBehind_1 (fun w q1 => ?_)
  obtain ⟨Tv, Cv, hTv, hCv, rfl⟩ := q1
  refine kx_eqw (ws2 := (kmW E J cd n b y o Wm Pm Rm Ym Tv Cv Km)) rfl ?_
  refine kx_aload_n C dX1_walkBehind_4 rfl 0 rfl ?_
  refine kx_iconst (v := (-1)) C dX1_walkBehind_5 (by decide +kernel) ?_
  refine kx_iconst (v := nI 0) C dX1_walkBehind_6 (by decide +kernel) ?_
  refine kx_callVi (rest := []) (wr := []) C (m_weigh E J cd n b y o Wm Pm Rm Ym Tv Cv Km (-1) (nI 0) H1 Hb Hy Ho HP HW hTv hCv HRm HYm) g1_98 2 rfl (by decide +kernel) ⟨Nat.le_of_ble_eq_true rfl, Nat.le_of_ble_eq_true rfl⟩ ⟨Nat.le_of_ble_eq_true rfl, Nat.le_of_ble_eq_true rfl⟩ [0, 1, 2, 3, 4, 5, 6, 7] [] rfl rfl (by decide) (by decide) (by decide) 0 rfl rfl rfl (Nat.le_of_ble_eq_true rfl) dX1_walkBehind_7 (fun v w q2 => ?_)
  obtain ⟨Rv, Yv, hR_Rv, hA_Rv, hA_Yv, rfl, rfl⟩ := q2
  refine kx_eqw (ws2 := (kmW E J cd n b y o Wm Pm Rv Yv Tv Cv Km)) rfl ?_
  refine kx_topn (b := lsN n b y o Pm Wm) (ls_of H1) ?_
  have h0_Rv := kR0_of H1 hR_Rv
  have hls := lsN_le H1 HP HW Hb Hy Ho
  have hcap : kCAP = 1000000000000000000 := rfl
  have lp17 : ∀ (N_lp17 : Nat) (s : Nat) (Kv : Nat → Nat), (s ≤ n) → (s ≠ 0 → (kFs n b y o Pm Wm (lsN n b y o Pm Wm) i0 s).1 < 24) → (∀ j, j < s → Kv j = (kFs n b y o Pm Wm (lsN n b y o Pm Wm) i0 (j + 1)).1) → (∀ j, Kv j ≤ 23) → (n < s + N_lp17) → kx E (rk 8 0) G 11 0 0 (kmW E J cd n b y o Wm Pm Rv Yv Tv Cv Kv) [(0, .ref (J 0)), (1, .long (lN (i0))), (3, .int (nI ((if (kFs n b y o Pm Wm (lsN n b y o Pm Wm) i0 s).1 = 24 then lsN n b y o Pm Wm else tlS n b y o Pm Wm (s - 1) (kFs n b y o Pm Wm (lsN n b y o Pm Wm) i0 s).1 - costN Pm Wm (s - 1) (kFs n b y o Pm Wm (lsN n b y o Pm Wm) i0 s).1)))), (4, .long (lN ((kFs n b y o Pm Wm (lsN n b y o Pm Wm) i0 s).2))), (6, .int (nI (s)))] 17 [] := by
    intro N_lp17
    induction N_lp17 with
    | zero =>
      intro s Kv h0_lp17 h1_lp17 h2_lp17 h3_lp17 hm_lp17
      exact absurd hm_lp17 (by omega)
    | succ N_lp17 ih_lp17 =>
      intro s Kv h0_lp17 h1_lp17 h2_lp17 h3_lp17 hm_lp17
      have hz0 : s = 0 → (kFs n b y o Pm Wm (lsN n b y o Pm Wm) i0 s).1 = 24 := fun z => by subst z; rfl
      have hps : (kFs n b y o Pm Wm (lsN n b y o Pm Wm) i0 (s + 1)) = (selN (fun k => (if (kFs n b y o Pm Wm (lsN n b y o Pm Wm) i0 s).1 = 24 then 0 else turnN b y o (kFs n b y o Pm Wm (lsN n b y o Pm Wm) i0 s).1 k) + tlS n b y o Pm Wm s k) (fun k => wyS n b y o Pm Wm s k) (if (kFs n b y o Pm Wm (lsN n b y o Pm Wm) i0 s).1 = 24 then lsN n b y o Pm Wm else tlS n b y o Pm Wm (s - 1) (kFs n b y o Pm Wm (lsN n b y o Pm Wm) i0 s).1 - costN Pm Wm (s - 1) (kFs n b y o Pm Wm (lsN n b y o Pm Wm) i0 s).1) (kFs n b y o Pm Wm (lsN n b y o Pm Wm) i0 s).2 24) := by rw [kFs, if_neg (fun z => absurd z.2 (Nat.ne_of_lt (h1_lp17 z.1)))]
      have hwb : s < n → (if (kFs n b y o Pm Wm (lsN n b y o Pm Wm) i0 s).1 = 24 then lsN n b y o Pm Wm else tlS n b y o Pm Wm (s - 1) (kFs n b y o Pm Wm (lsN n b y o Pm Wm) i0 s).1 - costN Pm Wm (s - 1) (kFs n b y o Pm Wm (lsN n b y o Pm Wm) i0 s).1) ≤ 10000000 := fun hsn => by split; exact hls; exact Nat.le_trans (Nat.sub_le _ _) (tlS_le H1 HP HW Hb Hy Ho (by omega) _)
      have htb : ∀ i, (if (kFs n b y o Pm Wm (lsN n b y o Pm Wm) i0 s).1 = 24 then 0 else turnN b y o (kFs n b y o Pm Wm (lsN n b y o Pm Wm) i0 s).1 i) ≤ 8000 := fun i => by split; exact Nat.zero_le _; exact turnN_le Hb Hy Ho _ _
      have h32b : s < n → ∀ i, i < 24 → (selN (fun k => (if (kFs n b y o Pm Wm (lsN n b y o Pm Wm) i0 s).1 = 24 then 0 else turnN b y o (kFs n b y o Pm Wm (lsN n b y o Pm Wm) i0 s).1 k) + tlS n b y o Pm Wm s k) (fun k => wyS n b y o Pm Wm s k) (if (kFs n b y o Pm Wm (lsN n b y o Pm Wm) i0 s).1 = 24 then lsN n b y o Pm Wm else tlS n b y o Pm Wm (s - 1) (kFs n b y o Pm Wm (lsN n b y o Pm Wm) i0 s).1 - costN Pm Wm (s - 1) (kFs n b y o Pm Wm (lsN n b y o Pm Wm) i0 s).1) (kFs n b y o Pm Wm (lsN n b y o Pm Wm) i0 s).2 24).1 = i → kx E (rk 8 0) G 11 0 0 (kmW E J cd n b y o Wm Pm Rv Yv Tv Cv Kv) [(0, .ref (J 0)), (1, .long (lN (i0))), (3, .int (nI ((if (kFs n b y o Pm Wm (lsN n b y o Pm Wm) i0 s).1 = 24 then lsN n b y o Pm Wm else tlS n b y o Pm Wm (s - 1) (kFs n b y o Pm Wm (lsN n b y o Pm Wm) i0 s).1 - costN Pm Wm (s - 1) (kFs n b y o Pm Wm (lsN n b y o Pm Wm) i0 s).1)))), (4, .long (lN ((selN (fun k => (if (kFs n b y o Pm Wm (lsN n b y o Pm Wm) i0 s).1 = 24 then 0 else turnN b y o (kFs n b y o Pm Wm (lsN n b y o Pm Wm) i0 s).1 k) + tlS n b y o Pm Wm s k) (fun k => wyS n b y o Pm Wm s k) (if (kFs n b y o Pm Wm (lsN n b y o Pm Wm) i0 s).1 = 24 then lsN n b y o Pm Wm else tlS n b y o Pm Wm (s - 1) (kFs n b y o Pm Wm (lsN n b y o Pm Wm) i0 s).1 - costN Pm Wm (s - 1) (kFs n b y o Pm Wm (lsN n b y o Pm Wm) i0 s).1) (kFs n b y o Pm Wm (lsN n b y o Pm Wm) i0 s).2 24).2))), (6, .int (nI (s))), (7, .int (nI (i))), (8, .int (nI (1)))] 32 [] := by
        intro hsn i hi hsel
        refine kx_iload C dX1_walkBehind_32 5 rfl ?_
        refine kx_bipush (v := nI 24) C dX1_walkBehind_34 (by decide +kernel) ?_
        refine kx_icmp_ge (tgt := 183) C (by omega) (by omega) dX1_walkBehind_36 (by decide) (fun c3 => ?_) (fun c3 => ?_)
        · skip
          exact absurd c3 (by omega)
        · skip
          refine kx_iload C dX1_walkBehind_39 6 rfl ?_
          refine kx_if_ne (tgt := 183) C (by omega) dX1_walkBehind_41 (by decide) (fun c4 => ?_) (fun c4 => ?_)
          · skip
            refine kx_iload C dX1_walkBehind_183 6 rfl ?_
            refine kx_if_ne (tgt := 190) C (by omega) dX1_walkBehind_185 (by decide) (fun c5 => ?_) (fun c5 => ?_)
            · skip
              refine kx_aload_n C dX1_walkBehind_190 rfl 0 rfl ?_
              refine kx_get (v := .ref (J 7)) (ci := 1) C kin1 0 rfl rfl 11 (by decide) fl1_29 rfl rfl dX1_walkBehind_191 ?_
              refine kx_iload C dX1_walkBehind_194 4 rfl ?_
              refine kx_iload C dX1_walkBehind_196 5 rfl ?_
              refine kx_iast (ws2 := (kmW E J cd n b y o Wm Pm Rv Yv Tv Cv (va_up Kv (s) (i)))) C 7 rfl (j := s) (v := i) (by omega) (by decide) rfl dX1_walkBehind_198 ?_
              refine kx_aload_n C dX1_walkBehind_199 rfl 0 rfl ?_
              refine kx_get (v := .ref (J 3)) (ci := 1) C kin1 0 rfl rfl 7 (by decide) fl1_16 rfl rfl dX1_walkBehind_200 ?_
              refine kx_bipush (v := nI 24) C dX1_walkBehind_203 (by decide +kernel) ?_
              refine kx_iload C dX1_walkBehind_205 4 rfl ?_
              refine kx_imul C dX1_walkBehind_207 ?_
              refine kx_iload C dX1_walkBehind_208 5 rfl ?_
              refine kx_iadd C dX1_walkBehind_210 ?_
              refine kx_topn (b := s * 24 + i) (by omega) ?_
              refine kx_iald C 3 rfl (j := s * 24 + i) (by omega) (by decide) dX1_walkBehind_211 ?_
              refine kx_topn (b := tlS n b y o Pm Wm s i) (h0_Rv s hsn i hi).1 ?_
              refine kx_aload_n C dX1_walkBehind_212 rfl 0 rfl ?_
              refine kx_get (v := .ref (J 6)) (ci := 1) C kin1 0 rfl rfl 10 (by decide) fl1_26 rfl rfl dX1_walkBehind_213 ?_
              refine kx_bipush (v := nI 24) C dX1_walkBehind_216 (by decide +kernel) ?_
              refine kx_iload C dX1_walkBehind_218 4 rfl ?_
              refine kx_imul C dX1_walkBehind_220 ?_
              refine kx_iload C dX1_walkBehind_221 5 rfl ?_
              refine kx_iadd C dX1_walkBehind_223 ?_
              refine kx_topn (b := s * 24 + i) (by omega) ?_
              refine kx_iald C 6 rfl (j := s * 24 + i) (by omega) (by decide) dX1_walkBehind_224 ?_
              refine kx_topn (b := costN Pm Wm s i) (hCv s hsn i hi) ?_
              refine kx_isub C cost_le_tlS dX1_walkBehind_225 ?_
              refine kx_istore_n (lv2 := [(3, .int (nI ((tlS n b y o Pm Wm s i) - (costN Pm Wm s i)))), (0, .ref (J 0)), (1, .long (lN (i0))), (4, .long (lN ((selN (fun k => (if (kFs n b y o Pm Wm (lsN n b y o Pm Wm) i0 s).1 = 24 then 0 else turnN b y o (kFs n b y o Pm Wm (lsN n b y o Pm Wm) i0 s).1 k) + tlS n b y o Pm Wm s k) (fun k => wyS n b y o Pm Wm s k) (if (kFs n b y o Pm Wm (lsN n b y o Pm Wm) i0 s).1 = 24 then lsN n b y o Pm Wm else tlS n b y o Pm Wm (s - 1) (kFs n b y o Pm Wm (lsN n b y o Pm Wm) i0 s).1 - costN Pm Wm (s - 1) (kFs n b y o Pm Wm (lsN n b y o Pm Wm) i0 s).1) (kFs n b y o Pm Wm (lsN n b y o Pm Wm) i0 s).2 24).2))), (6, .int (nI (s))), (7, .int (nI (i))), (8, .int (nI (1)))]) C dX1_walkBehind_226 rfl (by decide) rfl ?_
              refine kx_iinc (v := nI (s + 1)) (lv2 := [(6, .int (nI (s + 1))), (3, .int (nI ((tlS n b y o Pm Wm s i) - (costN Pm Wm s i)))), (0, .ref (J 0)), (1, .long (lN (i0))), (4, .long (lN ((selN (fun k => (if (kFs n b y o Pm Wm (lsN n b y o Pm Wm) i0 s).1 = 24 then 0 else turnN b y o (kFs n b y o Pm Wm (lsN n b y o Pm Wm) i0 s).1 k) + tlS n b y o Pm Wm s k) (fun k => wyS n b y o Pm Wm s k) (if (kFs n b y o Pm Wm (lsN n b y o Pm Wm) i0 s).1 = 24 then lsN n b y o Pm Wm else tlS n b y o Pm Wm (s - 1) (kFs n b y o Pm Wm (lsN n b y o Pm Wm) i0 s).1 - costN Pm Wm (s - 1) (kFs n b y o Pm Wm (lsN n b y o Pm Wm) i0 s).1) (kFs n b y o Pm Wm (lsN n b y o Pm Wm) i0 s).2 24).2))), (7, .int (nI (i))), (8, .int (nI (1)))]) C dX1_walkBehind_227 4 rfl (kI1 _) (by decide) rfl ?_
              refine kx_goto (tgt := 17) C dX1_walkBehind_230 (by decide) ?_
              refine kx_lvn (a := (tlS n b y o Pm Wm s i) - (costN Pm Wm s i)) (b := (if (kFs n b y o Pm Wm (lsN n b y o Pm Wm) i0 (s + 1)).1 = 24 then lsN n b y o Pm Wm else tlS n b y o Pm Wm (s + 1 - 1) (kFs n b y o Pm Wm (lsN n b y o Pm Wm) i0 (s + 1)).1 - costN Pm Wm (s + 1 - 1) (kFs n b y o Pm Wm (lsN n b y o Pm Wm) i0 (s + 1)).1)) (lv2 := [(6, .int (nI (s + 1))), (3, .int (nI ((if (kFs n b y o Pm Wm (lsN n b y o Pm Wm) i0 (s + 1)).1 = 24 then lsN n b y o Pm Wm else tlS n b y o Pm Wm (s + 1 - 1) (kFs n b y o Pm Wm (lsN n b y o Pm Wm) i0 (s + 1)).1 - costN Pm Wm (s + 1 - 1) (kFs n b y o Pm Wm (lsN n b y o Pm Wm) i0 (s + 1)).1)))), (0, .ref (J 0)), (1, .long (lN (i0))), (4, .long (lN ((selN (fun k => (if (kFs n b y o Pm Wm (lsN n b y o Pm Wm) i0 s).1 = 24 then 0 else turnN b y o (kFs n b y o Pm Wm (lsN n b y o Pm Wm) i0 s).1 k) + tlS n b y o Pm Wm s k) (fun k => wyS n b y o Pm Wm s k) (if (kFs n b y o Pm Wm (lsN n b y o Pm Wm) i0 s).1 = 24 then lsN n b y o Pm Wm else tlS n b y o Pm Wm (s - 1) (kFs n b y o Pm Wm (lsN n b y o Pm Wm) i0 s).1 - costN Pm Wm (s - 1) (kFs n b y o Pm Wm (lsN n b y o Pm Wm) i0 s).1) (kFs n b y o Pm Wm (lsN n b y o Pm Wm) i0 s).2 24).2))), (7, .int (nI (i))), (8, .int (nI (1)))]) (by rw [hps, hsel, if_neg (Nat.ne_of_lt hi)]; rfl) 1 rfl rfl ?_
              refine kx_lvL (a := (selN (fun k => (if (kFs n b y o Pm Wm (lsN n b y o Pm Wm) i0 s).1 = 24 then 0 else turnN b y o (kFs n b y o Pm Wm (lsN n b y o Pm Wm) i0 s).1 k) + tlS n b y o Pm Wm s k) (fun k => wyS n b y o Pm Wm s k) (if (kFs n b y o Pm Wm (lsN n b y o Pm Wm) i0 s).1 = 24 then lsN n b y o Pm Wm else tlS n b y o Pm Wm (s - 1) (kFs n b y o Pm Wm (lsN n b y o Pm Wm) i0 s).1 - costN Pm Wm (s - 1) (kFs n b y o Pm Wm (lsN n b y o Pm Wm) i0 s).1) (kFs n b y o Pm Wm (lsN n b y o Pm Wm) i0 s).2 24).2) (b := (kFs n b y o Pm Wm (lsN n b y o Pm Wm) i0 (s + 1)).2) (lv2 := [(6, .int (nI (s + 1))), (3, .int (nI ((if (kFs n b y o Pm Wm (lsN n b y o Pm Wm) i0 (s + 1)).1 = 24 then lsN n b y o Pm Wm else tlS n b y o Pm Wm (s + 1 - 1) (kFs n b y o Pm Wm (lsN n b y o Pm Wm) i0 (s + 1)).1 - costN Pm Wm (s + 1 - 1) (kFs n b y o Pm Wm (lsN n b y o Pm Wm) i0 (s + 1)).1)))), (0, .ref (J 0)), (1, .long (lN (i0))), (4, .long (lN ((kFs n b y o Pm Wm (lsN n b y o Pm Wm) i0 (s + 1)).2))), (7, .int (nI (i))), (8, .int (nI (1)))]) (by rw [hps]) 4 rfl rfl ?_
              refine kx_lv (lv2 := [(0, .ref (J 0)), (1, .long (lN (i0))), (3, .int (nI ((if (kFs n b y o Pm Wm (lsN n b y o Pm Wm) i0 (s + 1)).1 = 24 then lsN n b y o Pm Wm else tlS n b y o Pm Wm (s + 1 - 1) (kFs n b y o Pm Wm (lsN n b y o Pm Wm) i0 (s + 1)).1 - costN Pm Wm (s + 1 - 1) (kFs n b y o Pm Wm (lsN n b y o Pm Wm) i0 (s + 1)).1)))), (4, .long (lN ((kFs n b y o Pm Wm (lsN n b y o Pm Wm) i0 (s + 1)).2))), (6, .int (nI (s + 1)))]) [2, 3, 1, 4, 0] rfl ?_
              refine kx_eqw (ws2 := (kmW E J cd n b y o Wm Pm Rv Yv Tv Cv (va_up Kv (s) (i)))) rfl ?_
              exact ih_lp17 (s + 1) (va_up Kv (s) (i)) (by omega) (fun _ => by rw [hps, hsel]; exact hi) (kRow h2_lp17 (by rw [hps, hsel])) (up_le h3_lp17 (by omega)) (by omega)
            · skip
              exact absurd c5 (by decide)
          · skip
            exact absurd c4 (by decide)
      have lp32 : ∀ (N_lp32 : Nat) (i : Nat), (i ≤ 24) → (s < n) → ((selN (fun k => (if (kFs n b y o Pm Wm (lsN n b y o Pm Wm) i0 s).1 = 24 then 0 else turnN b y o (kFs n b y o Pm Wm (lsN n b y o Pm Wm) i0 s).1 k) + tlS n b y o Pm Wm s k) (fun k => wyS n b y o Pm Wm s k) (if (kFs n b y o Pm Wm (lsN n b y o Pm Wm) i0 s).1 = 24 then lsN n b y o Pm Wm else tlS n b y o Pm Wm (s - 1) (kFs n b y o Pm Wm (lsN n b y o Pm Wm) i0 s).1 - costN Pm Wm (s - 1) (kFs n b y o Pm Wm (lsN n b y o Pm Wm) i0 s).1) (kFs n b y o Pm Wm (lsN n b y o Pm Wm) i0 s).2 i).1 = 24) → (24 < i + N_lp32) → kx E (rk 8 0) G 11 0 0 (kmW E J cd n b y o Wm Pm Rv Yv Tv Cv Kv) [(0, .ref (J 0)), (1, .long (lN (i0))), (3, .int (nI ((if (kFs n b y o Pm Wm (lsN n b y o Pm Wm) i0 s).1 = 24 then lsN n b y o Pm Wm else tlS n b y o Pm Wm (s - 1) (kFs n b y o Pm Wm (lsN n b y o Pm Wm) i0 s).1 - costN Pm Wm (s - 1) (kFs n b y o Pm Wm (lsN n b y o Pm Wm) i0 s).1)))), (4, .long (lN ((selN (fun k => (if (kFs n b y o Pm Wm (lsN n b y o Pm Wm) i0 s).1 = 24 then 0 else turnN b y o (kFs n b y o Pm Wm (lsN n b y o Pm Wm) i0 s).1 k) + tlS n b y o Pm Wm s k) (fun k => wyS n b y o Pm Wm s k) (if (kFs n b y o Pm Wm (lsN n b y o Pm Wm) i0 s).1 = 24 then lsN n b y o Pm Wm else tlS n b y o Pm Wm (s - 1) (kFs n b y o Pm Wm (lsN n b y o Pm Wm) i0 s).1 - costN Pm Wm (s - 1) (kFs n b y o Pm Wm (lsN n b y o Pm Wm) i0 s).1) (kFs n b y o Pm Wm (lsN n b y o Pm Wm) i0 s).2 i).2))), (6, .int (nI (s))), (7, .int (nI (i))), (8, .int (nI (0)))] 32 [] := by
        intro N_lp32
        induction N_lp32 with
        | zero =>
          intro i h0_lp32 h1_lp32 h2_lp32 hm_lp32
          exact absurd hm_lp32 (by omega)
        | succ N_lp32 ih_lp32 =>
          intro i h0_lp32 h1_lp32 h2_lp32 hm_lp32
          refine kx_iload C dX1_walkBehind_32 5 rfl ?_
          refine kx_bipush (v := nI 24) C dX1_walkBehind_34 (by decide +kernel) ?_
          refine kx_icmp_ge (tgt := 183) C (by omega) (by omega) dX1_walkBehind_36 (by decide) (fun c6 => ?_) (fun c6 => ?_)
          · skip
            obtain rfl : 24 = i := by omega
            refine kx_iload C dX1_walkBehind_183 6 rfl ?_
            refine kx_if_ne (tgt := 190) C (by omega) dX1_walkBehind_185 (by decide) (fun c7 => ?_) (fun c7 => ?_)
            · skip
              exact absurd c7 (by decide)
            · skip
              refine kx_iconst (v := nI 0) C dX1_walkBehind_188 (by decide +kernel) ?_
              exact hE (Nat.le_of_ble_eq_true rfl) (Nat.le_of_ble_eq_true rfl) dX1_walkBehind_189 (by decide +kernel) ⟨Rv, Yv, Tv, Cv, Kv, hTv, hCv, ⟨H1, Hb, Hy, Ho, HP, HW, hA_Rv, hA_Yv, h3_lp17⟩, Or.inr ⟨rfl, s, by omega, by rw [hps]; exact h2_lp32⟩, rfl⟩
          · skip
            refine kx_iload C dX1_walkBehind_39 6 rfl ?_
            refine kx_if_ne (tgt := 183) C (by omega) dX1_walkBehind_41 (by decide) (fun c8 => ?_) (fun c8 => ?_)
            · skip
              exact absurd c8 (by decide)
            · skip
              refine kx_iload C dX1_walkBehind_44 4 rfl ?_
              refine kx_if_ne (tgt := 53) C (by omega) dX1_walkBehind_46 (by decide) (fun c9 => ?_) (fun c9 => ?_)
              · skip
                refine kx_aload_n C dX1_walkBehind_53 rfl 0 rfl ?_
                refine kx_get (v := .ref (J 5)) (ci := 1) C kin1 0 rfl rfl 9 (by decide) fl1_23 rfl rfl dX1_walkBehind_54 ?_
                refine kx_bipush (v := nI 24) C dX1_walkBehind_57 (by decide +kernel) ?_
                refine kx_aload_n C dX1_walkBehind_59 rfl 0 rfl ?_
                refine kx_get (v := .ref (J 7)) (ci := 1) C kin1 0 rfl rfl 11 (by decide) fl1_29 rfl rfl dX1_walkBehind_60 ?_
                refine kx_iload C dX1_walkBehind_63 4 rfl ?_
                refine kx_iconst (v := nI 1) C dX1_walkBehind_65 (by decide +kernel) ?_
                refine kx_isub C (by omega) dX1_walkBehind_66 ?_
                refine kx_iald C 7 rfl (j := (s) - (1)) (by omega) (by decide) dX1_walkBehind_67 ?_
                refine kx_topn (b := (kFs n b y o Pm Wm (lsN n b y o Pm Wm) i0 s).1) (by have h := h2_lp17 (s - 1) (by omega); rw [show s - 1 + 1 = s by omega] at h; exact h) ?_
                refine kx_imul C dX1_walkBehind_68 ?_
                refine kx_iload C dX1_walkBehind_69 5 rfl ?_
                refine kx_iadd C dX1_walkBehind_71 ?_
                have hpt : (kFs n b y o Pm Wm (lsN n b y o Pm Wm) i0 s).1 < 24 := h1_lp17 (by omega)
                refine kx_topn (b := (kFs n b y o Pm Wm (lsN n b y o Pm Wm) i0 s).1 * 24 + i) (by rw [Nat.mul_comm]) ?_
                refine kx_iald C 5 rfl (j := (kFs n b y o Pm Wm (lsN n b y o Pm Wm) i0 s).1 * 24 + i) (by omega) (by decide) dX1_walkBehind_72 ?_
                refine kx_topn (b := (if (kFs n b y o Pm Wm (lsN n b y o Pm Wm) i0 s).1 = 24 then 0 else turnN b y o (kFs n b y o Pm Wm (lsN n b y o Pm Wm) i0 s).1 i)) (by rw [if_neg (Nat.ne_of_lt hpt)]; exact hTv.at hpt (by omega)) ?_
                refine kx_istore (lv2 := [(9, .int (nI ((if (kFs n b y o Pm Wm (lsN n b y o Pm Wm) i0 s).1 = 24 then 0 else turnN b y o (kFs n b y o Pm Wm (lsN n b y o Pm Wm) i0 s).1 i)))), (0, .ref (J 0)), (1, .long (lN (i0))), (3, .int (nI ((if (kFs n b y o Pm Wm (lsN n b y o Pm Wm) i0 s).1 = 24 then lsN n b y o Pm Wm else tlS n b y o Pm Wm (s - 1) (kFs n b y o Pm Wm (lsN n b y o Pm Wm) i0 s).1 - costN Pm Wm (s - 1) (kFs n b y o Pm Wm (lsN n b y o Pm Wm) i0 s).1)))), (4, .long (lN ((selN (fun k => (if (kFs n b y o Pm Wm (lsN n b y o Pm Wm) i0 s).1 = 24 then 0 else turnN b y o (kFs n b y o Pm Wm (lsN n b y o Pm Wm) i0 s).1 k) + tlS n b y o Pm Wm s k) (fun k => wyS n b y o Pm Wm s k) (if (kFs n b y o Pm Wm (lsN n b y o Pm Wm) i0 s).1 = 24 then lsN n b y o Pm Wm else tlS n b y o Pm Wm (s - 1) (kFs n b y o Pm Wm (lsN n b y o Pm Wm) i0 s).1 - costN Pm Wm (s - 1) (kFs n b y o Pm Wm (lsN n b y o Pm Wm) i0 s).1) (kFs n b y o Pm Wm (lsN n b y o Pm Wm) i0 s).2 i).2))), (6, .int (nI (s))), (7, .int (nI (i))), (8, .int (nI (0)))]) C dX1_walkBehind_73 (by decide) rfl ?_
                refine kx_aload_n C dX1_walkBehind_75 rfl 1 rfl ?_
                refine kx_get (v := .ref (J 3)) (ci := 1) C kin1 0 rfl rfl 7 (by decide) fl1_16 rfl rfl dX1_walkBehind_76 ?_
                refine kx_bipush (v := nI 24) C dX1_walkBehind_79 (by decide +kernel) ?_
                refine kx_iload C dX1_walkBehind_81 5 rfl ?_
                refine kx_imul C dX1_walkBehind_83 ?_
                refine kx_iload C dX1_walkBehind_84 6 rfl ?_
                refine kx_iadd C dX1_walkBehind_86 ?_
                refine kx_topn (b := s * 24 + i) (by omega) ?_
                refine kx_iald C 3 rfl (j := s * 24 + i) (by omega) (by decide) dX1_walkBehind_87 ?_
                refine kx_topn (b := tlS n b y o Pm Wm s i) (h0_Rv s (by omega) i (by omega)).1 ?_
                refine kx_iload C dX1_walkBehind_88 0 rfl ?_
                refine kx_iadd C dX1_walkBehind_90 ?_
                refine kx_topn (b := (if (kFs n b y o Pm Wm (lsN n b y o Pm Wm) i0 s).1 = 24 then 0 else turnN b y o (kFs n b y o Pm Wm (lsN n b y o Pm Wm) i0 s).1 i) + tlS n b y o Pm Wm s i) (Nat.add_comm _ _) ?_
                refine kx_iload_n C dX1_walkBehind_91 rfl 3 rfl ?_
                refine kx_icmp_ne (tgt := 99) C (by have := htb i; have := tlS_le H1 HP HW Hb Hy Ho (show s < n by omega) i; omega) (by have := hwb (by omega); omega) dX1_walkBehind_92 (by decide) (fun c10 => ?_) (fun c10 => ?_)
                · skip
                  refine kx_iconst (v := nI 0) C dX1_walkBehind_99 (by decide +kernel) ?_
                  refine kx_istore (lv2 := [(10, .int (nI (0))), (9, .int (nI ((if (kFs n b y o Pm Wm (lsN n b y o Pm Wm) i0 s).1 = 24 then 0 else turnN b y o (kFs n b y o Pm Wm (lsN n b y o Pm Wm) i0 s).1 i)))), (0, .ref (J 0)), (1, .long (lN (i0))), (3, .int (nI ((if (kFs n b y o Pm Wm (lsN n b y o Pm Wm) i0 s).1 = 24 then lsN n b y o Pm Wm else tlS n b y o Pm Wm (s - 1) (kFs n b y o Pm Wm (lsN n b y o Pm Wm) i0 s).1 - costN Pm Wm (s - 1) (kFs n b y o Pm Wm (lsN n b y o Pm Wm) i0 s).1)))), (4, .long (lN ((selN (fun k => (if (kFs n b y o Pm Wm (lsN n b y o Pm Wm) i0 s).1 = 24 then 0 else turnN b y o (kFs n b y o Pm Wm (lsN n b y o Pm Wm) i0 s).1 k) + tlS n b y o Pm Wm s k) (fun k => wyS n b y o Pm Wm s k) (if (kFs n b y o Pm Wm (lsN n b y o Pm Wm) i0 s).1 = 24 then lsN n b y o Pm Wm else tlS n b y o Pm Wm (s - 1) (kFs n b y o Pm Wm (lsN n b y o Pm Wm) i0 s).1 - costN Pm Wm (s - 1) (kFs n b y o Pm Wm (lsN n b y o Pm Wm) i0 s).1) (kFs n b y o Pm Wm (lsN n b y o Pm Wm) i0 s).2 i).2))), (6, .int (nI (s))), (7, .int (nI (i))), (8, .int (nI (0)))]) C dX1_walkBehind_100 (by decide) rfl ?_
                  refine kx_iload C dX1_walkBehind_102 0 rfl ?_
                  refine kx_if_eq (tgt := 130) C (by omega) dX1_walkBehind_104 (by decide) (fun c11 => ?_) (fun c11 => ?_)
                  · skip
                    refine kx_iconst (v := nI 0) C dX1_walkBehind_130 (by decide +kernel) ?_
                    refine kx_istore (lv2 := [(8, .int (nI (0))), (10, .int (nI (0))), (9, .int (nI ((if (kFs n b y o Pm Wm (lsN n b y o Pm Wm) i0 s).1 = 24 then 0 else turnN b y o (kFs n b y o Pm Wm (lsN n b y o Pm Wm) i0 s).1 i)))), (0, .ref (J 0)), (1, .long (lN (i0))), (3, .int (nI ((if (kFs n b y o Pm Wm (lsN n b y o Pm Wm) i0 s).1 = 24 then lsN n b y o Pm Wm else tlS n b y o Pm Wm (s - 1) (kFs n b y o Pm Wm (lsN n b y o Pm Wm) i0 s).1 - costN Pm Wm (s - 1) (kFs n b y o Pm Wm (lsN n b y o Pm Wm) i0 s).1)))), (4, .long (lN ((selN (fun k => (if (kFs n b y o Pm Wm (lsN n b y o Pm Wm) i0 s).1 = 24 then 0 else turnN b y o (kFs n b y o Pm Wm (lsN n b y o Pm Wm) i0 s).1 k) + tlS n b y o Pm Wm s k) (fun k => wyS n b y o Pm Wm s k) (if (kFs n b y o Pm Wm (lsN n b y o Pm Wm) i0 s).1 = 24 then lsN n b y o Pm Wm else tlS n b y o Pm Wm (s - 1) (kFs n b y o Pm Wm (lsN n b y o Pm Wm) i0 s).1 - costN Pm Wm (s - 1) (kFs n b y o Pm Wm (lsN n b y o Pm Wm) i0 s).1) (kFs n b y o Pm Wm (lsN n b y o Pm Wm) i0 s).2 i).2))), (6, .int (nI (s))), (7, .int (nI (i)))]) C dX1_walkBehind_131 (by decide) rfl ?_
                    refine kx_lload C dX1_walkBehind_133 6 rfl ?_
                    refine kx_iload C dX1_walkBehind_135 1 rfl ?_
                    refine kx_if_eq (tgt := 161) C (by omega) dX1_walkBehind_137 (by decide) (fun c12 => ?_) (fun c12 => ?_)
                    · skip
                      refine kx_lconst (v := lN 0) C dX1_walkBehind_161 (by decide +kernel) ?_
                      refine kx_lsub C (by omega) dX1_walkBehind_162 ?_
                      refine kx_lstore (lv2 := [(4, .long (lN (((selN (fun k => (if (kFs n b y o Pm Wm (lsN n b y o Pm Wm) i0 s).1 = 24 then 0 else turnN b y o (kFs n b y o Pm Wm (lsN n b y o Pm Wm) i0 s).1 k) + tlS n b y o Pm Wm s k) (fun k => wyS n b y o Pm Wm s k) (if (kFs n b y o Pm Wm (lsN n b y o Pm Wm) i0 s).1 = 24 then lsN n b y o Pm Wm else tlS n b y o Pm Wm (s - 1) (kFs n b y o Pm Wm (lsN n b y o Pm Wm) i0 s).1 - costN Pm Wm (s - 1) (kFs n b y o Pm Wm (lsN n b y o Pm Wm) i0 s).1) (kFs n b y o Pm Wm (lsN n b y o Pm Wm) i0 s).2 i).2) - (0)))), (8, .int (nI (0))), (10, .int (nI (0))), (9, .int (nI ((if (kFs n b y o Pm Wm (lsN n b y o Pm Wm) i0 s).1 = 24 then 0 else turnN b y o (kFs n b y o Pm Wm (lsN n b y o Pm Wm) i0 s).1 i)))), (0, .ref (J 0)), (1, .long (lN (i0))), (3, .int (nI ((if (kFs n b y o Pm Wm (lsN n b y o Pm Wm) i0 s).1 = 24 then lsN n b y o Pm Wm else tlS n b y o Pm Wm (s - 1) (kFs n b y o Pm Wm (lsN n b y o Pm Wm) i0 s).1 - costN Pm Wm (s - 1) (kFs n b y o Pm Wm (lsN n b y o Pm Wm) i0 s).1)))), (6, .int (nI (s))), (7, .int (nI (i)))]) C dX1_walkBehind_163 (by decide) rfl ?_
                      refine kx_iload C dX1_walkBehind_165 8 rfl ?_
                      refine kx_iload C dX1_walkBehind_167 1 rfl ?_
                      refine kx_if_eq (tgt := 176) C (by omega) dX1_walkBehind_169 (by decide) (fun c13 => ?_) (fun c13 => ?_)
                      · skip
                        refine kx_iconst (v := nI 1) C dX1_walkBehind_176 (by decide +kernel) ?_
                        refine kx_iadd C dX1_walkBehind_177 ?_
                        refine kx_istore (lv2 := [(7, .int (nI ((i) + (1)))), (4, .long (lN (((selN (fun k => (if (kFs n b y o Pm Wm (lsN n b y o Pm Wm) i0 s).1 = 24 then 0 else turnN b y o (kFs n b y o Pm Wm (lsN n b y o Pm Wm) i0 s).1 k) + tlS n b y o Pm Wm s k) (fun k => wyS n b y o Pm Wm s k) (if (kFs n b y o Pm Wm (lsN n b y o Pm Wm) i0 s).1 = 24 then lsN n b y o Pm Wm else tlS n b y o Pm Wm (s - 1) (kFs n b y o Pm Wm (lsN n b y o Pm Wm) i0 s).1 - costN Pm Wm (s - 1) (kFs n b y o Pm Wm (lsN n b y o Pm Wm) i0 s).1) (kFs n b y o Pm Wm (lsN n b y o Pm Wm) i0 s).2 i).2) - (0)))), (8, .int (nI (0))), (10, .int (nI (0))), (9, .int (nI ((if (kFs n b y o Pm Wm (lsN n b y o Pm Wm) i0 s).1 = 24 then 0 else turnN b y o (kFs n b y o Pm Wm (lsN n b y o Pm Wm) i0 s).1 i)))), (0, .ref (J 0)), (1, .long (lN (i0))), (3, .int (nI ((if (kFs n b y o Pm Wm (lsN n b y o Pm Wm) i0 s).1 = 24 then lsN n b y o Pm Wm else tlS n b y o Pm Wm (s - 1) (kFs n b y o Pm Wm (lsN n b y o Pm Wm) i0 s).1 - costN Pm Wm (s - 1) (kFs n b y o Pm Wm (lsN n b y o Pm Wm) i0 s).1)))), (6, .int (nI (s)))]) C dX1_walkBehind_178 (by decide) rfl ?_
                        refine kx_goto (tgt := 32) C dX1_walkBehind_180 (by decide) ?_
                        have e27 : (selN (fun k => (if (kFs n b y o Pm Wm (lsN n b y o Pm Wm) i0 s).1 = 24 then 0 else turnN b y o (kFs n b y o Pm Wm (lsN n b y o Pm Wm) i0 s).1 k) + tlS n b y o Pm Wm s k) (fun k => wyS n b y o Pm Wm s k) (if (kFs n b y o Pm Wm (lsN n b y o Pm Wm) i0 s).1 = 24 then lsN n b y o Pm Wm else tlS n b y o Pm Wm (s - 1) (kFs n b y o Pm Wm (lsN n b y o Pm Wm) i0 s).1 - costN Pm Wm (s - 1) (kFs n b y o Pm Wm (lsN n b y o Pm Wm) i0 s).1) (kFs n b y o Pm Wm (lsN n b y o Pm Wm) i0 s).2 (i + 1)) = (24, (selN (fun k => (if (kFs n b y o Pm Wm (lsN n b y o Pm Wm) i0 s).1 = 24 then 0 else turnN b y o (kFs n b y o Pm Wm (lsN n b y o Pm Wm) i0 s).1 k) + tlS n b y o Pm Wm s k) (fun k => wyS n b y o Pm Wm s k) (if (kFs n b y o Pm Wm (lsN n b y o Pm Wm) i0 s).1 = 24 then lsN n b y o Pm Wm else tlS n b y o Pm Wm (s - 1) (kFs n b y o Pm Wm (lsN n b y o Pm Wm) i0 s).1 - costN Pm Wm (s - 1) (kFs n b y o Pm Wm (lsN n b y o Pm Wm) i0 s).1) (kFs n b y o Pm Wm (lsN n b y o Pm Wm) i0 s).2 i).2) := selN_ne (f := (fun k => (if (kFs n b y o Pm Wm (lsN n b y o Pm Wm) i0 s).1 = 24 then 0 else turnN b y o (kFs n b y o Pm Wm (lsN n b y o Pm Wm) i0 s).1 k) + tlS n b y o Pm Wm s k)) (g := (fun k => wyS n b y o Pm Wm s k)) h2_lp32 c10
                        refine kx_lvL (a := ((selN (fun k => (if (kFs n b y o Pm Wm (lsN n b y o Pm Wm) i0 s).1 = 24 then 0 else turnN b y o (kFs n b y o Pm Wm (lsN n b y o Pm Wm) i0 s).1 k) + tlS n b y o Pm Wm s k) (fun k => wyS n b y o Pm Wm s k) (if (kFs n b y o Pm Wm (lsN n b y o Pm Wm) i0 s).1 = 24 then lsN n b y o Pm Wm else tlS n b y o Pm Wm (s - 1) (kFs n b y o Pm Wm (lsN n b y o Pm Wm) i0 s).1 - costN Pm Wm (s - 1) (kFs n b y o Pm Wm (lsN n b y o Pm Wm) i0 s).1) (kFs n b y o Pm Wm (lsN n b y o Pm Wm) i0 s).2 i).2) - (0)) (b := (selN (fun k => (if (kFs n b y o Pm Wm (lsN n b y o Pm Wm) i0 s).1 = 24 then 0 else turnN b y o (kFs n b y o Pm Wm (lsN n b y o Pm Wm) i0 s).1 k) + tlS n b y o Pm Wm s k) (fun k => wyS n b y o Pm Wm s k) (if (kFs n b y o Pm Wm (lsN n b y o Pm Wm) i0 s).1 = 24 then lsN n b y o Pm Wm else tlS n b y o Pm Wm (s - 1) (kFs n b y o Pm Wm (lsN n b y o Pm Wm) i0 s).1 - costN Pm Wm (s - 1) (kFs n b y o Pm Wm (lsN n b y o Pm Wm) i0 s).1) (kFs n b y o Pm Wm (lsN n b y o Pm Wm) i0 s).2 (i + 1)).2) (lv2 := [(7, .int (nI ((i) + (1)))), (4, .long (lN ((selN (fun k => (if (kFs n b y o Pm Wm (lsN n b y o Pm Wm) i0 s).1 = 24 then 0 else turnN b y o (kFs n b y o Pm Wm (lsN n b y o Pm Wm) i0 s).1 k) + tlS n b y o Pm Wm s k) (fun k => wyS n b y o Pm Wm s k) (if (kFs n b y o Pm Wm (lsN n b y o Pm Wm) i0 s).1 = 24 then lsN n b y o Pm Wm else tlS n b y o Pm Wm (s - 1) (kFs n b y o Pm Wm (lsN n b y o Pm Wm) i0 s).1 - costN Pm Wm (s - 1) (kFs n b y o Pm Wm (lsN n b y o Pm Wm) i0 s).1) (kFs n b y o Pm Wm (lsN n b y o Pm Wm) i0 s).2 (i + 1)).2))), (8, .int (nI (0))), (10, .int (nI (0))), (9, .int (nI ((if (kFs n b y o Pm Wm (lsN n b y o Pm Wm) i0 s).1 = 24 then 0 else turnN b y o (kFs n b y o Pm Wm (lsN n b y o Pm Wm) i0 s).1 i)))), (0, .ref (J 0)), (1, .long (lN (i0))), (3, .int (nI ((if (kFs n b y o Pm Wm (lsN n b y o Pm Wm) i0 s).1 = 24 then lsN n b y o Pm Wm else tlS n b y o Pm Wm (s - 1) (kFs n b y o Pm Wm (lsN n b y o Pm Wm) i0 s).1 - costN Pm Wm (s - 1) (kFs n b y o Pm Wm (lsN n b y o Pm Wm) i0 s).1)))), (6, .int (nI (s)))]) ((Nat.sub_zero _).trans (congrArg Prod.snd e27).symm) 1 rfl rfl ?_
                        refine kx_lv (lv2 := [(0, .ref (J 0)), (1, .long (lN (i0))), (3, .int (nI ((if (kFs n b y o Pm Wm (lsN n b y o Pm Wm) i0 s).1 = 24 then lsN n b y o Pm Wm else tlS n b y o Pm Wm (s - 1) (kFs n b y o Pm Wm (lsN n b y o Pm Wm) i0 s).1 - costN Pm Wm (s - 1) (kFs n b y o Pm Wm (lsN n b y o Pm Wm) i0 s).1)))), (4, .long (lN ((selN (fun k => (if (kFs n b y o Pm Wm (lsN n b y o Pm Wm) i0 s).1 = 24 then 0 else turnN b y o (kFs n b y o Pm Wm (lsN n b y o Pm Wm) i0 s).1 k) + tlS n b y o Pm Wm s k) (fun k => wyS n b y o Pm Wm s k) (if (kFs n b y o Pm Wm (lsN n b y o Pm Wm) i0 s).1 = 24 then lsN n b y o Pm Wm else tlS n b y o Pm Wm (s - 1) (kFs n b y o Pm Wm (lsN n b y o Pm Wm) i0 s).1 - costN Pm Wm (s - 1) (kFs n b y o Pm Wm (lsN n b y o Pm Wm) i0 s).1) (kFs n b y o Pm Wm (lsN n b y o Pm Wm) i0 s).2 (i + 1)).2))), (6, .int (nI (s))), (7, .int (nI (i + 1))), (8, .int (nI (0)))]) [5, 6, 7, 1, 8, 0, 2] rfl ?_
                        refine kx_eqw (ws2 := (kmW E J cd n b y o Wm Pm Rv Yv Tv Cv Kv)) rfl ?_
                        exact ih_lp32 (i + 1) (by omega) h1_lp32 (by rw [e27]) (by omega)
                      · skip
                        exact absurd c13 (by decide)
                    · skip
                      exact absurd c12 (by decide)
                  · skip
                    exact absurd c11 (by decide)
                · skip
                  refine kx_iconst (v := nI 1) C dX1_walkBehind_95 (by decide +kernel) ?_
                  refine kx_goto (tgt := 100) C dX1_walkBehind_96 (by decide) ?_
                  refine kx_istore (lv2 := [(10, .int (nI (1))), (9, .int (nI ((if (kFs n b y o Pm Wm (lsN n b y o Pm Wm) i0 s).1 = 24 then 0 else turnN b y o (kFs n b y o Pm Wm (lsN n b y o Pm Wm) i0 s).1 i)))), (0, .ref (J 0)), (1, .long (lN (i0))), (3, .int (nI ((if (kFs n b y o Pm Wm (lsN n b y o Pm Wm) i0 s).1 = 24 then lsN n b y o Pm Wm else tlS n b y o Pm Wm (s - 1) (kFs n b y o Pm Wm (lsN n b y o Pm Wm) i0 s).1 - costN Pm Wm (s - 1) (kFs n b y o Pm Wm (lsN n b y o Pm Wm) i0 s).1)))), (4, .long (lN ((selN (fun k => (if (kFs n b y o Pm Wm (lsN n b y o Pm Wm) i0 s).1 = 24 then 0 else turnN b y o (kFs n b y o Pm Wm (lsN n b y o Pm Wm) i0 s).1 k) + tlS n b y o Pm Wm s k) (fun k => wyS n b y o Pm Wm s k) (if (kFs n b y o Pm Wm (lsN n b y o Pm Wm) i0 s).1 = 24 then lsN n b y o Pm Wm else tlS n b y o Pm Wm (s - 1) (kFs n b y o Pm Wm (lsN n b y o Pm Wm) i0 s).1 - costN Pm Wm (s - 1) (kFs n b y o Pm Wm (lsN n b y o Pm Wm) i0 s).1) (kFs n b y o Pm Wm (lsN n b y o Pm Wm) i0 s).2 i).2))), (6, .int (nI (s))), (7, .int (nI (i))), (8, .int (nI (0)))]) C dX1_walkBehind_100 (by decide) rfl ?_
                  refine kx_iload C dX1_walkBehind_102 0 rfl ?_
                  refine kx_if_eq (tgt := 130) C (by omega) dX1_walkBehind_104 (by decide) (fun c14 => ?_) (fun c14 => ?_)
                  · skip
                    exact absurd c14 (by decide)
                  · skip
                    refine kx_lload C dX1_walkBehind_107 5 rfl ?_
                    refine kx_aload_n C dX1_walkBehind_109 rfl 2 rfl ?_
                    refine kx_get (v := .ref (J 4)) (ci := 1) C kin1 0 rfl rfl 8 (by decide) fl1_19 rfl rfl dX1_walkBehind_110 ?_
                    refine kx_bipush (v := nI 24) C dX1_walkBehind_113 (by decide +kernel) ?_
                    refine kx_iload C dX1_walkBehind_115 6 rfl ?_
                    refine kx_imul C dX1_walkBehind_117 ?_
                    refine kx_iload C dX1_walkBehind_118 7 rfl ?_
                    refine kx_iadd C dX1_walkBehind_120 ?_
                    refine kx_topn (b := s * 24 + i) (by omega) ?_
                    refine kx_lald C 4 rfl (j := s * 24 + i) (by omega) (by decide) dX1_walkBehind_121 ?_
                    refine kx_topL (b := wyS n b y o Pm Wm s i) (h0_Rv s (by omega) i (by omega)).2 ?_
                    refine kx_lcmp_ge (tgt := 130) C (Nat.lt_of_le_of_lt (Nat.le_trans (selN_left _) (kFs_left s)) (by omega)) (by have := wyS_le n b y o Pm Wm s i; omega) dX1_walkBehind_122 dX1_walkBehind_123 (by decide) (fun c15 => ?_) (fun c15 => ?_)
                    · skip
                      refine kx_iconst (v := nI 0) C dX1_walkBehind_130 (by decide +kernel) ?_
                      refine kx_istore (lv2 := [(8, .int (nI (0))), (10, .int (nI (1))), (9, .int (nI ((if (kFs n b y o Pm Wm (lsN n b y o Pm Wm) i0 s).1 = 24 then 0 else turnN b y o (kFs n b y o Pm Wm (lsN n b y o Pm Wm) i0 s).1 i)))), (0, .ref (J 0)), (1, .long (lN (i0))), (3, .int (nI ((if (kFs n b y o Pm Wm (lsN n b y o Pm Wm) i0 s).1 = 24 then lsN n b y o Pm Wm else tlS n b y o Pm Wm (s - 1) (kFs n b y o Pm Wm (lsN n b y o Pm Wm) i0 s).1 - costN Pm Wm (s - 1) (kFs n b y o Pm Wm (lsN n b y o Pm Wm) i0 s).1)))), (4, .long (lN ((selN (fun k => (if (kFs n b y o Pm Wm (lsN n b y o Pm Wm) i0 s).1 = 24 then 0 else turnN b y o (kFs n b y o Pm Wm (lsN n b y o Pm Wm) i0 s).1 k) + tlS n b y o Pm Wm s k) (fun k => wyS n b y o Pm Wm s k) (if (kFs n b y o Pm Wm (lsN n b y o Pm Wm) i0 s).1 = 24 then lsN n b y o Pm Wm else tlS n b y o Pm Wm (s - 1) (kFs n b y o Pm Wm (lsN n b y o Pm Wm) i0 s).1 - costN Pm Wm (s - 1) (kFs n b y o Pm Wm (lsN n b y o Pm Wm) i0 s).1) (kFs n b y o Pm Wm (lsN n b y o Pm Wm) i0 s).2 i).2))), (6, .int (nI (s))), (7, .int (nI (i)))]) C dX1_walkBehind_131 (by decide) rfl ?_
                      refine kx_lload C dX1_walkBehind_133 6 rfl ?_
                      refine kx_iload C dX1_walkBehind_135 1 rfl ?_
                      refine kx_if_eq (tgt := 161) C (by omega) dX1_walkBehind_137 (by decide) (fun c16 => ?_) (fun c16 => ?_)
                      · skip
                        exact absurd c16 (by decide)
                      · skip
                        refine kx_iload C dX1_walkBehind_140 0 rfl ?_
                        refine kx_if_ne (tgt := 161) C (by omega) dX1_walkBehind_142 (by decide) (fun c17 => ?_) (fun c17 => ?_)
                        · skip
                          exact absurd c17 (by decide)
                        · skip
                          refine kx_aload_n C dX1_walkBehind_145 rfl 3 rfl ?_
                          refine kx_get (v := .ref (J 4)) (ci := 1) C kin1 0 rfl rfl 8 (by decide) fl1_19 rfl rfl dX1_walkBehind_146 ?_
                          refine kx_bipush (v := nI 24) C dX1_walkBehind_149 (by decide +kernel) ?_
                          refine kx_iload C dX1_walkBehind_151 7 rfl ?_
                          refine kx_imul C dX1_walkBehind_153 ?_
                          refine kx_iload C dX1_walkBehind_154 8 rfl ?_
                          refine kx_iadd C dX1_walkBehind_156 ?_
                          refine kx_topn (b := s * 24 + i) (by omega) ?_
                          refine kx_lald C 4 rfl (j := s * 24 + i) (by omega) (by decide) dX1_walkBehind_157 ?_
                          refine kx_topL (b := wyS n b y o Pm Wm s i) (h0_Rv s (by omega) i (by omega)).2 ?_
                          refine kx_goto (tgt := 162) C dX1_walkBehind_158 (by decide) ?_
                          refine kx_lsub C (by omega) dX1_walkBehind_162 ?_
                          refine kx_lstore (lv2 := [(4, .long (lN (((selN (fun k => (if (kFs n b y o Pm Wm (lsN n b y o Pm Wm) i0 s).1 = 24 then 0 else turnN b y o (kFs n b y o Pm Wm (lsN n b y o Pm Wm) i0 s).1 k) + tlS n b y o Pm Wm s k) (fun k => wyS n b y o Pm Wm s k) (if (kFs n b y o Pm Wm (lsN n b y o Pm Wm) i0 s).1 = 24 then lsN n b y o Pm Wm else tlS n b y o Pm Wm (s - 1) (kFs n b y o Pm Wm (lsN n b y o Pm Wm) i0 s).1 - costN Pm Wm (s - 1) (kFs n b y o Pm Wm (lsN n b y o Pm Wm) i0 s).1) (kFs n b y o Pm Wm (lsN n b y o Pm Wm) i0 s).2 i).2) - (wyS n b y o Pm Wm s i)))), (8, .int (nI (0))), (10, .int (nI (1))), (9, .int (nI ((if (kFs n b y o Pm Wm (lsN n b y o Pm Wm) i0 s).1 = 24 then 0 else turnN b y o (kFs n b y o Pm Wm (lsN n b y o Pm Wm) i0 s).1 i)))), (0, .ref (J 0)), (1, .long (lN (i0))), (3, .int (nI ((if (kFs n b y o Pm Wm (lsN n b y o Pm Wm) i0 s).1 = 24 then lsN n b y o Pm Wm else tlS n b y o Pm Wm (s - 1) (kFs n b y o Pm Wm (lsN n b y o Pm Wm) i0 s).1 - costN Pm Wm (s - 1) (kFs n b y o Pm Wm (lsN n b y o Pm Wm) i0 s).1)))), (6, .int (nI (s))), (7, .int (nI (i)))]) C dX1_walkBehind_163 (by decide) rfl ?_
                          refine kx_iload C dX1_walkBehind_165 8 rfl ?_
                          refine kx_iload C dX1_walkBehind_167 1 rfl ?_
                          refine kx_if_eq (tgt := 176) C (by omega) dX1_walkBehind_169 (by decide) (fun c18 => ?_) (fun c18 => ?_)
                          · skip
                            refine kx_iconst (v := nI 1) C dX1_walkBehind_176 (by decide +kernel) ?_
                            refine kx_iadd C dX1_walkBehind_177 ?_
                            refine kx_istore (lv2 := [(7, .int (nI ((i) + (1)))), (4, .long (lN (((selN (fun k => (if (kFs n b y o Pm Wm (lsN n b y o Pm Wm) i0 s).1 = 24 then 0 else turnN b y o (kFs n b y o Pm Wm (lsN n b y o Pm Wm) i0 s).1 k) + tlS n b y o Pm Wm s k) (fun k => wyS n b y o Pm Wm s k) (if (kFs n b y o Pm Wm (lsN n b y o Pm Wm) i0 s).1 = 24 then lsN n b y o Pm Wm else tlS n b y o Pm Wm (s - 1) (kFs n b y o Pm Wm (lsN n b y o Pm Wm) i0 s).1 - costN Pm Wm (s - 1) (kFs n b y o Pm Wm (lsN n b y o Pm Wm) i0 s).1) (kFs n b y o Pm Wm (lsN n b y o Pm Wm) i0 s).2 i).2) - (wyS n b y o Pm Wm s i)))), (8, .int (nI (0))), (10, .int (nI (1))), (9, .int (nI ((if (kFs n b y o Pm Wm (lsN n b y o Pm Wm) i0 s).1 = 24 then 0 else turnN b y o (kFs n b y o Pm Wm (lsN n b y o Pm Wm) i0 s).1 i)))), (0, .ref (J 0)), (1, .long (lN (i0))), (3, .int (nI ((if (kFs n b y o Pm Wm (lsN n b y o Pm Wm) i0 s).1 = 24 then lsN n b y o Pm Wm else tlS n b y o Pm Wm (s - 1) (kFs n b y o Pm Wm (lsN n b y o Pm Wm) i0 s).1 - costN Pm Wm (s - 1) (kFs n b y o Pm Wm (lsN n b y o Pm Wm) i0 s).1)))), (6, .int (nI (s)))]) C dX1_walkBehind_178 (by decide) rfl ?_
                            refine kx_goto (tgt := 32) C dX1_walkBehind_180 (by decide) ?_
                            have e27 : (selN (fun k => (if (kFs n b y o Pm Wm (lsN n b y o Pm Wm) i0 s).1 = 24 then 0 else turnN b y o (kFs n b y o Pm Wm (lsN n b y o Pm Wm) i0 s).1 k) + tlS n b y o Pm Wm s k) (fun k => wyS n b y o Pm Wm s k) (if (kFs n b y o Pm Wm (lsN n b y o Pm Wm) i0 s).1 = 24 then lsN n b y o Pm Wm else tlS n b y o Pm Wm (s - 1) (kFs n b y o Pm Wm (lsN n b y o Pm Wm) i0 s).1 - costN Pm Wm (s - 1) (kFs n b y o Pm Wm (lsN n b y o Pm Wm) i0 s).1) (kFs n b y o Pm Wm (lsN n b y o Pm Wm) i0 s).2 (i + 1)) = (24, (selN (fun k => (if (kFs n b y o Pm Wm (lsN n b y o Pm Wm) i0 s).1 = 24 then 0 else turnN b y o (kFs n b y o Pm Wm (lsN n b y o Pm Wm) i0 s).1 k) + tlS n b y o Pm Wm s k) (fun k => wyS n b y o Pm Wm s k) (if (kFs n b y o Pm Wm (lsN n b y o Pm Wm) i0 s).1 = 24 then lsN n b y o Pm Wm else tlS n b y o Pm Wm (s - 1) (kFs n b y o Pm Wm (lsN n b y o Pm Wm) i0 s).1 - costN Pm Wm (s - 1) (kFs n b y o Pm Wm (lsN n b y o Pm Wm) i0 s).1) (kFs n b y o Pm Wm (lsN n b y o Pm Wm) i0 s).2 i).2 - wyS n b y o Pm Wm s i) := selN_sub (f := (fun k => (if (kFs n b y o Pm Wm (lsN n b y o Pm Wm) i0 s).1 = 24 then 0 else turnN b y o (kFs n b y o Pm Wm (lsN n b y o Pm Wm) i0 s).1 k) + tlS n b y o Pm Wm s k)) (g := (fun k => wyS n b y o Pm Wm s k)) h2_lp32 c10 c15
                            refine kx_lvL (a := ((selN (fun k => (if (kFs n b y o Pm Wm (lsN n b y o Pm Wm) i0 s).1 = 24 then 0 else turnN b y o (kFs n b y o Pm Wm (lsN n b y o Pm Wm) i0 s).1 k) + tlS n b y o Pm Wm s k) (fun k => wyS n b y o Pm Wm s k) (if (kFs n b y o Pm Wm (lsN n b y o Pm Wm) i0 s).1 = 24 then lsN n b y o Pm Wm else tlS n b y o Pm Wm (s - 1) (kFs n b y o Pm Wm (lsN n b y o Pm Wm) i0 s).1 - costN Pm Wm (s - 1) (kFs n b y o Pm Wm (lsN n b y o Pm Wm) i0 s).1) (kFs n b y o Pm Wm (lsN n b y o Pm Wm) i0 s).2 i).2) - (wyS n b y o Pm Wm s i)) (b := (selN (fun k => (if (kFs n b y o Pm Wm (lsN n b y o Pm Wm) i0 s).1 = 24 then 0 else turnN b y o (kFs n b y o Pm Wm (lsN n b y o Pm Wm) i0 s).1 k) + tlS n b y o Pm Wm s k) (fun k => wyS n b y o Pm Wm s k) (if (kFs n b y o Pm Wm (lsN n b y o Pm Wm) i0 s).1 = 24 then lsN n b y o Pm Wm else tlS n b y o Pm Wm (s - 1) (kFs n b y o Pm Wm (lsN n b y o Pm Wm) i0 s).1 - costN Pm Wm (s - 1) (kFs n b y o Pm Wm (lsN n b y o Pm Wm) i0 s).1) (kFs n b y o Pm Wm (lsN n b y o Pm Wm) i0 s).2 (i + 1)).2) (lv2 := [(7, .int (nI ((i) + (1)))), (4, .long (lN ((selN (fun k => (if (kFs n b y o Pm Wm (lsN n b y o Pm Wm) i0 s).1 = 24 then 0 else turnN b y o (kFs n b y o Pm Wm (lsN n b y o Pm Wm) i0 s).1 k) + tlS n b y o Pm Wm s k) (fun k => wyS n b y o Pm Wm s k) (if (kFs n b y o Pm Wm (lsN n b y o Pm Wm) i0 s).1 = 24 then lsN n b y o Pm Wm else tlS n b y o Pm Wm (s - 1) (kFs n b y o Pm Wm (lsN n b y o Pm Wm) i0 s).1 - costN Pm Wm (s - 1) (kFs n b y o Pm Wm (lsN n b y o Pm Wm) i0 s).1) (kFs n b y o Pm Wm (lsN n b y o Pm Wm) i0 s).2 (i + 1)).2))), (8, .int (nI (0))), (10, .int (nI (1))), (9, .int (nI ((if (kFs n b y o Pm Wm (lsN n b y o Pm Wm) i0 s).1 = 24 then 0 else turnN b y o (kFs n b y o Pm Wm (lsN n b y o Pm Wm) i0 s).1 i)))), (0, .ref (J 0)), (1, .long (lN (i0))), (3, .int (nI ((if (kFs n b y o Pm Wm (lsN n b y o Pm Wm) i0 s).1 = 24 then lsN n b y o Pm Wm else tlS n b y o Pm Wm (s - 1) (kFs n b y o Pm Wm (lsN n b y o Pm Wm) i0 s).1 - costN Pm Wm (s - 1) (kFs n b y o Pm Wm (lsN n b y o Pm Wm) i0 s).1)))), (6, .int (nI (s)))]) (by rw [e27]; try rfl) 1 rfl rfl ?_
                            refine kx_lv (lv2 := [(0, .ref (J 0)), (1, .long (lN (i0))), (3, .int (nI ((if (kFs n b y o Pm Wm (lsN n b y o Pm Wm) i0 s).1 = 24 then lsN n b y o Pm Wm else tlS n b y o Pm Wm (s - 1) (kFs n b y o Pm Wm (lsN n b y o Pm Wm) i0 s).1 - costN Pm Wm (s - 1) (kFs n b y o Pm Wm (lsN n b y o Pm Wm) i0 s).1)))), (4, .long (lN ((selN (fun k => (if (kFs n b y o Pm Wm (lsN n b y o Pm Wm) i0 s).1 = 24 then 0 else turnN b y o (kFs n b y o Pm Wm (lsN n b y o Pm Wm) i0 s).1 k) + tlS n b y o Pm Wm s k) (fun k => wyS n b y o Pm Wm s k) (if (kFs n b y o Pm Wm (lsN n b y o Pm Wm) i0 s).1 = 24 then lsN n b y o Pm Wm else tlS n b y o Pm Wm (s - 1) (kFs n b y o Pm Wm (lsN n b y o Pm Wm) i0 s).1 - costN Pm Wm (s - 1) (kFs n b y o Pm Wm (lsN n b y o Pm Wm) i0 s).1) (kFs n b y o Pm Wm (lsN n b y o Pm Wm) i0 s).2 (i + 1)).2))), (6, .int (nI (s))), (7, .int (nI (i + 1))), (8, .int (nI (0)))]) [5, 6, 7, 1, 8, 0, 2] rfl ?_
                            refine kx_eqw (ws2 := (kmW E J cd n b y o Wm Pm Rv Yv Tv Cv Kv)) rfl ?_
                            exact ih_lp32 (i + 1) (by omega) h1_lp32 (by rw [e27]) (by omega)
                          · skip
                            exact absurd c18 (by decide)
                    · skip
                      refine kx_iconst (v := nI 1) C dX1_walkBehind_126 (by decide +kernel) ?_
                      refine kx_goto (tgt := 131) C dX1_walkBehind_127 (by decide) ?_
                      refine kx_istore (lv2 := [(8, .int (nI (1))), (10, .int (nI (1))), (9, .int (nI ((if (kFs n b y o Pm Wm (lsN n b y o Pm Wm) i0 s).1 = 24 then 0 else turnN b y o (kFs n b y o Pm Wm (lsN n b y o Pm Wm) i0 s).1 i)))), (0, .ref (J 0)), (1, .long (lN (i0))), (3, .int (nI ((if (kFs n b y o Pm Wm (lsN n b y o Pm Wm) i0 s).1 = 24 then lsN n b y o Pm Wm else tlS n b y o Pm Wm (s - 1) (kFs n b y o Pm Wm (lsN n b y o Pm Wm) i0 s).1 - costN Pm Wm (s - 1) (kFs n b y o Pm Wm (lsN n b y o Pm Wm) i0 s).1)))), (4, .long (lN ((selN (fun k => (if (kFs n b y o Pm Wm (lsN n b y o Pm Wm) i0 s).1 = 24 then 0 else turnN b y o (kFs n b y o Pm Wm (lsN n b y o Pm Wm) i0 s).1 k) + tlS n b y o Pm Wm s k) (fun k => wyS n b y o Pm Wm s k) (if (kFs n b y o Pm Wm (lsN n b y o Pm Wm) i0 s).1 = 24 then lsN n b y o Pm Wm else tlS n b y o Pm Wm (s - 1) (kFs n b y o Pm Wm (lsN n b y o Pm Wm) i0 s).1 - costN Pm Wm (s - 1) (kFs n b y o Pm Wm (lsN n b y o Pm Wm) i0 s).1) (kFs n b y o Pm Wm (lsN n b y o Pm Wm) i0 s).2 i).2))), (6, .int (nI (s))), (7, .int (nI (i)))]) C dX1_walkBehind_131 (by decide) rfl ?_
                      refine kx_lload C dX1_walkBehind_133 6 rfl ?_
                      refine kx_iload C dX1_walkBehind_135 1 rfl ?_
                      refine kx_if_eq (tgt := 161) C (by omega) dX1_walkBehind_137 (by decide) (fun c19 => ?_) (fun c19 => ?_)
                      · skip
                        exact absurd c19 (by decide)
                      · skip
                        refine kx_iload C dX1_walkBehind_140 0 rfl ?_
                        refine kx_if_ne (tgt := 161) C (by omega) dX1_walkBehind_142 (by decide) (fun c20 => ?_) (fun c20 => ?_)
                        · skip
                          refine kx_lconst (v := lN 0) C dX1_walkBehind_161 (by decide +kernel) ?_
                          refine kx_lsub C (by omega) dX1_walkBehind_162 ?_
                          refine kx_lstore (lv2 := [(4, .long (lN (((selN (fun k => (if (kFs n b y o Pm Wm (lsN n b y o Pm Wm) i0 s).1 = 24 then 0 else turnN b y o (kFs n b y o Pm Wm (lsN n b y o Pm Wm) i0 s).1 k) + tlS n b y o Pm Wm s k) (fun k => wyS n b y o Pm Wm s k) (if (kFs n b y o Pm Wm (lsN n b y o Pm Wm) i0 s).1 = 24 then lsN n b y o Pm Wm else tlS n b y o Pm Wm (s - 1) (kFs n b y o Pm Wm (lsN n b y o Pm Wm) i0 s).1 - costN Pm Wm (s - 1) (kFs n b y o Pm Wm (lsN n b y o Pm Wm) i0 s).1) (kFs n b y o Pm Wm (lsN n b y o Pm Wm) i0 s).2 i).2) - (0)))), (8, .int (nI (1))), (10, .int (nI (1))), (9, .int (nI ((if (kFs n b y o Pm Wm (lsN n b y o Pm Wm) i0 s).1 = 24 then 0 else turnN b y o (kFs n b y o Pm Wm (lsN n b y o Pm Wm) i0 s).1 i)))), (0, .ref (J 0)), (1, .long (lN (i0))), (3, .int (nI ((if (kFs n b y o Pm Wm (lsN n b y o Pm Wm) i0 s).1 = 24 then lsN n b y o Pm Wm else tlS n b y o Pm Wm (s - 1) (kFs n b y o Pm Wm (lsN n b y o Pm Wm) i0 s).1 - costN Pm Wm (s - 1) (kFs n b y o Pm Wm (lsN n b y o Pm Wm) i0 s).1)))), (6, .int (nI (s))), (7, .int (nI (i)))]) C dX1_walkBehind_163 (by decide) rfl ?_
                          refine kx_iload C dX1_walkBehind_165 8 rfl ?_
                          refine kx_iload C dX1_walkBehind_167 1 rfl ?_
                          refine kx_if_eq (tgt := 176) C (by omega) dX1_walkBehind_169 (by decide) (fun c21 => ?_) (fun c21 => ?_)
                          · skip
                            exact absurd c21 (by decide)
                          · skip
                            refine kx_iconst (v := nI 0) C dX1_walkBehind_172 (by decide +kernel) ?_
                            refine kx_goto (tgt := 177) C dX1_walkBehind_173 (by decide) ?_
                            refine kx_iadd C dX1_walkBehind_177 ?_
                            refine kx_istore (lv2 := [(7, .int (nI ((i) + (0)))), (4, .long (lN (((selN (fun k => (if (kFs n b y o Pm Wm (lsN n b y o Pm Wm) i0 s).1 = 24 then 0 else turnN b y o (kFs n b y o Pm Wm (lsN n b y o Pm Wm) i0 s).1 k) + tlS n b y o Pm Wm s k) (fun k => wyS n b y o Pm Wm s k) (if (kFs n b y o Pm Wm (lsN n b y o Pm Wm) i0 s).1 = 24 then lsN n b y o Pm Wm else tlS n b y o Pm Wm (s - 1) (kFs n b y o Pm Wm (lsN n b y o Pm Wm) i0 s).1 - costN Pm Wm (s - 1) (kFs n b y o Pm Wm (lsN n b y o Pm Wm) i0 s).1) (kFs n b y o Pm Wm (lsN n b y o Pm Wm) i0 s).2 i).2) - (0)))), (8, .int (nI (1))), (10, .int (nI (1))), (9, .int (nI ((if (kFs n b y o Pm Wm (lsN n b y o Pm Wm) i0 s).1 = 24 then 0 else turnN b y o (kFs n b y o Pm Wm (lsN n b y o Pm Wm) i0 s).1 i)))), (0, .ref (J 0)), (1, .long (lN (i0))), (3, .int (nI ((if (kFs n b y o Pm Wm (lsN n b y o Pm Wm) i0 s).1 = 24 then lsN n b y o Pm Wm else tlS n b y o Pm Wm (s - 1) (kFs n b y o Pm Wm (lsN n b y o Pm Wm) i0 s).1 - costN Pm Wm (s - 1) (kFs n b y o Pm Wm (lsN n b y o Pm Wm) i0 s).1)))), (6, .int (nI (s)))]) C dX1_walkBehind_178 (by decide) rfl ?_
                            refine kx_goto (tgt := 32) C dX1_walkBehind_180 (by decide) ?_
                            have e27 : (selN (fun k => (if (kFs n b y o Pm Wm (lsN n b y o Pm Wm) i0 s).1 = 24 then 0 else turnN b y o (kFs n b y o Pm Wm (lsN n b y o Pm Wm) i0 s).1 k) + tlS n b y o Pm Wm s k) (fun k => wyS n b y o Pm Wm s k) (if (kFs n b y o Pm Wm (lsN n b y o Pm Wm) i0 s).1 = 24 then lsN n b y o Pm Wm else tlS n b y o Pm Wm (s - 1) (kFs n b y o Pm Wm (lsN n b y o Pm Wm) i0 s).1 - costN Pm Wm (s - 1) (kFs n b y o Pm Wm (lsN n b y o Pm Wm) i0 s).1) (kFs n b y o Pm Wm (lsN n b y o Pm Wm) i0 s).2 (i + 1)) = (i, (selN (fun k => (if (kFs n b y o Pm Wm (lsN n b y o Pm Wm) i0 s).1 = 24 then 0 else turnN b y o (kFs n b y o Pm Wm (lsN n b y o Pm Wm) i0 s).1 k) + tlS n b y o Pm Wm s k) (fun k => wyS n b y o Pm Wm s k) (if (kFs n b y o Pm Wm (lsN n b y o Pm Wm) i0 s).1 = 24 then lsN n b y o Pm Wm else tlS n b y o Pm Wm (s - 1) (kFs n b y o Pm Wm (lsN n b y o Pm Wm) i0 s).1 - costN Pm Wm (s - 1) (kFs n b y o Pm Wm (lsN n b y o Pm Wm) i0 s).1) (kFs n b y o Pm Wm (lsN n b y o Pm Wm) i0 s).2 i).2) := selN_hit (f := (fun k => (if (kFs n b y o Pm Wm (lsN n b y o Pm Wm) i0 s).1 = 24 then 0 else turnN b y o (kFs n b y o Pm Wm (lsN n b y o Pm Wm) i0 s).1 k) + tlS n b y o Pm Wm s k)) (g := (fun k => wyS n b y o Pm Wm s k)) h2_lp32 c10 c15
                            have e28 : (selN (fun k => (if (kFs n b y o Pm Wm (lsN n b y o Pm Wm) i0 s).1 = 24 then 0 else turnN b y o (kFs n b y o Pm Wm (lsN n b y o Pm Wm) i0 s).1 k) + tlS n b y o Pm Wm s k) (fun k => wyS n b y o Pm Wm s k) (if (kFs n b y o Pm Wm (lsN n b y o Pm Wm) i0 s).1 = 24 then lsN n b y o Pm Wm else tlS n b y o Pm Wm (s - 1) (kFs n b y o Pm Wm (lsN n b y o Pm Wm) i0 s).1 - costN Pm Wm (s - 1) (kFs n b y o Pm Wm (lsN n b y o Pm Wm) i0 s).1) (kFs n b y o Pm Wm (lsN n b y o Pm Wm) i0 s).2 24) = (i, (selN (fun k => (if (kFs n b y o Pm Wm (lsN n b y o Pm Wm) i0 s).1 = 24 then 0 else turnN b y o (kFs n b y o Pm Wm (lsN n b y o Pm Wm) i0 s).1 k) + tlS n b y o Pm Wm s k) (fun k => wyS n b y o Pm Wm s k) (if (kFs n b y o Pm Wm (lsN n b y o Pm Wm) i0 s).1 = 24 then lsN n b y o Pm Wm else tlS n b y o Pm Wm (s - 1) (kFs n b y o Pm Wm (lsN n b y o Pm Wm) i0 s).1 - costN Pm Wm (s - 1) (kFs n b y o Pm Wm (lsN n b y o Pm Wm) i0 s).1) (kFs n b y o Pm Wm (lsN n b y o Pm Wm) i0 s).2 i).2) := by have h := selN_stay (f := (fun k => (if (kFs n b y o Pm Wm (lsN n b y o Pm Wm) i0 s).1 = 24 then 0 else turnN b y o (kFs n b y o Pm Wm (lsN n b y o Pm Wm) i0 s).1 k) + tlS n b y o Pm Wm s k)) (g := (fun k => wyS n b y o Pm Wm s k)) (rest := (if (kFs n b y o Pm Wm (lsN n b y o Pm Wm) i0 s).1 = 24 then lsN n b y o Pm Wm else tlS n b y o Pm Wm (s - 1) (kFs n b y o Pm Wm (lsN n b y o Pm Wm) i0 s).1 - costN Pm Wm (s - 1) (kFs n b y o Pm Wm (lsN n b y o Pm Wm) i0 s).1)) (left := (kFs n b y o Pm Wm (lsN n b y o Pm Wm) i0 s).2) (k := i + 1) (by rw [e27]; show i ≠ 24; omega) (24 - (i + 1)); rw [show i + 1 + (24 - (i + 1)) = 24 by omega] at h; exact h.trans e27
                            refine kx_lvL (a := ((selN (fun k => (if (kFs n b y o Pm Wm (lsN n b y o Pm Wm) i0 s).1 = 24 then 0 else turnN b y o (kFs n b y o Pm Wm (lsN n b y o Pm Wm) i0 s).1 k) + tlS n b y o Pm Wm s k) (fun k => wyS n b y o Pm Wm s k) (if (kFs n b y o Pm Wm (lsN n b y o Pm Wm) i0 s).1 = 24 then lsN n b y o Pm Wm else tlS n b y o Pm Wm (s - 1) (kFs n b y o Pm Wm (lsN n b y o Pm Wm) i0 s).1 - costN Pm Wm (s - 1) (kFs n b y o Pm Wm (lsN n b y o Pm Wm) i0 s).1) (kFs n b y o Pm Wm (lsN n b y o Pm Wm) i0 s).2 i).2) - (0)) (b := (selN (fun k => (if (kFs n b y o Pm Wm (lsN n b y o Pm Wm) i0 s).1 = 24 then 0 else turnN b y o (kFs n b y o Pm Wm (lsN n b y o Pm Wm) i0 s).1 k) + tlS n b y o Pm Wm s k) (fun k => wyS n b y o Pm Wm s k) (if (kFs n b y o Pm Wm (lsN n b y o Pm Wm) i0 s).1 = 24 then lsN n b y o Pm Wm else tlS n b y o Pm Wm (s - 1) (kFs n b y o Pm Wm (lsN n b y o Pm Wm) i0 s).1 - costN Pm Wm (s - 1) (kFs n b y o Pm Wm (lsN n b y o Pm Wm) i0 s).1) (kFs n b y o Pm Wm (lsN n b y o Pm Wm) i0 s).2 24).2) (lv2 := [(7, .int (nI ((i) + (0)))), (4, .long (lN ((selN (fun k => (if (kFs n b y o Pm Wm (lsN n b y o Pm Wm) i0 s).1 = 24 then 0 else turnN b y o (kFs n b y o Pm Wm (lsN n b y o Pm Wm) i0 s).1 k) + tlS n b y o Pm Wm s k) (fun k => wyS n b y o Pm Wm s k) (if (kFs n b y o Pm Wm (lsN n b y o Pm Wm) i0 s).1 = 24 then lsN n b y o Pm Wm else tlS n b y o Pm Wm (s - 1) (kFs n b y o Pm Wm (lsN n b y o Pm Wm) i0 s).1 - costN Pm Wm (s - 1) (kFs n b y o Pm Wm (lsN n b y o Pm Wm) i0 s).1) (kFs n b y o Pm Wm (lsN n b y o Pm Wm) i0 s).2 24).2))), (8, .int (nI (1))), (10, .int (nI (1))), (9, .int (nI ((if (kFs n b y o Pm Wm (lsN n b y o Pm Wm) i0 s).1 = 24 then 0 else turnN b y o (kFs n b y o Pm Wm (lsN n b y o Pm Wm) i0 s).1 i)))), (0, .ref (J 0)), (1, .long (lN (i0))), (3, .int (nI ((if (kFs n b y o Pm Wm (lsN n b y o Pm Wm) i0 s).1 = 24 then lsN n b y o Pm Wm else tlS n b y o Pm Wm (s - 1) (kFs n b y o Pm Wm (lsN n b y o Pm Wm) i0 s).1 - costN Pm Wm (s - 1) (kFs n b y o Pm Wm (lsN n b y o Pm Wm) i0 s).1)))), (6, .int (nI (s)))]) ((Nat.sub_zero _).trans (congrArg Prod.snd e28).symm) 1 rfl rfl ?_
                            refine kx_lv (lv2 := [(0, .ref (J 0)), (1, .long (lN (i0))), (3, .int (nI ((if (kFs n b y o Pm Wm (lsN n b y o Pm Wm) i0 s).1 = 24 then lsN n b y o Pm Wm else tlS n b y o Pm Wm (s - 1) (kFs n b y o Pm Wm (lsN n b y o Pm Wm) i0 s).1 - costN Pm Wm (s - 1) (kFs n b y o Pm Wm (lsN n b y o Pm Wm) i0 s).1)))), (4, .long (lN ((selN (fun k => (if (kFs n b y o Pm Wm (lsN n b y o Pm Wm) i0 s).1 = 24 then 0 else turnN b y o (kFs n b y o Pm Wm (lsN n b y o Pm Wm) i0 s).1 k) + tlS n b y o Pm Wm s k) (fun k => wyS n b y o Pm Wm s k) (if (kFs n b y o Pm Wm (lsN n b y o Pm Wm) i0 s).1 = 24 then lsN n b y o Pm Wm else tlS n b y o Pm Wm (s - 1) (kFs n b y o Pm Wm (lsN n b y o Pm Wm) i0 s).1 - costN Pm Wm (s - 1) (kFs n b y o Pm Wm (lsN n b y o Pm Wm) i0 s).1) (kFs n b y o Pm Wm (lsN n b y o Pm Wm) i0 s).2 24).2))), (6, .int (nI (s))), (7, .int (nI (i))), (8, .int (nI (1)))]) [5, 6, 7, 1, 8, 0, 2] rfl ?_
                            exact h32b (by omega) i (by omega) (congrArg Prod.fst e28)
                        · skip
                          exact absurd c20 (by decide)
              · skip
                refine kx_iconst (v := nI 0) C dX1_walkBehind_49 (by decide +kernel) ?_
                refine kx_goto (tgt := 73) C dX1_walkBehind_50 (by decide) ?_
                refine kx_topn (b := (if (kFs n b y o Pm Wm (lsN n b y o Pm Wm) i0 s).1 = 24 then 0 else turnN b y o (kFs n b y o Pm Wm (lsN n b y o Pm Wm) i0 s).1 i)) (by rw [if_pos (hz0 (by omega))]) ?_
                refine kx_istore (lv2 := [(9, .int (nI ((if (kFs n b y o Pm Wm (lsN n b y o Pm Wm) i0 s).1 = 24 then 0 else turnN b y o (kFs n b y o Pm Wm (lsN n b y o Pm Wm) i0 s).1 i)))), (0, .ref (J 0)), (1, .long (lN (i0))), (3, .int (nI ((if (kFs n b y o Pm Wm (lsN n b y o Pm Wm) i0 s).1 = 24 then lsN n b y o Pm Wm else tlS n b y o Pm Wm (s - 1) (kFs n b y o Pm Wm (lsN n b y o Pm Wm) i0 s).1 - costN Pm Wm (s - 1) (kFs n b y o Pm Wm (lsN n b y o Pm Wm) i0 s).1)))), (4, .long (lN ((selN (fun k => (if (kFs n b y o Pm Wm (lsN n b y o Pm Wm) i0 s).1 = 24 then 0 else turnN b y o (kFs n b y o Pm Wm (lsN n b y o Pm Wm) i0 s).1 k) + tlS n b y o Pm Wm s k) (fun k => wyS n b y o Pm Wm s k) (if (kFs n b y o Pm Wm (lsN n b y o Pm Wm) i0 s).1 = 24 then lsN n b y o Pm Wm else tlS n b y o Pm Wm (s - 1) (kFs n b y o Pm Wm (lsN n b y o Pm Wm) i0 s).1 - costN Pm Wm (s - 1) (kFs n b y o Pm Wm (lsN n b y o Pm Wm) i0 s).1) (kFs n b y o Pm Wm (lsN n b y o Pm Wm) i0 s).2 i).2))), (6, .int (nI (s))), (7, .int (nI (i))), (8, .int (nI (0)))]) C dX1_walkBehind_73 (by decide) rfl ?_
                refine kx_aload_n C dX1_walkBehind_75 rfl 1 rfl ?_
                refine kx_get (v := .ref (J 3)) (ci := 1) C kin1 0 rfl rfl 7 (by decide) fl1_16 rfl rfl dX1_walkBehind_76 ?_
                refine kx_bipush (v := nI 24) C dX1_walkBehind_79 (by decide +kernel) ?_
                refine kx_iload C dX1_walkBehind_81 5 rfl ?_
                refine kx_imul C dX1_walkBehind_83 ?_
                refine kx_iload C dX1_walkBehind_84 6 rfl ?_
                refine kx_iadd C dX1_walkBehind_86 ?_
                refine kx_topn (b := s * 24 + i) (by omega) ?_
                refine kx_iald C 3 rfl (j := s * 24 + i) (by omega) (by decide) dX1_walkBehind_87 ?_
                refine kx_topn (b := tlS n b y o Pm Wm s i) (h0_Rv s (by omega) i (by omega)).1 ?_
                refine kx_iload C dX1_walkBehind_88 0 rfl ?_
                refine kx_iadd C dX1_walkBehind_90 ?_
                refine kx_topn (b := (if (kFs n b y o Pm Wm (lsN n b y o Pm Wm) i0 s).1 = 24 then 0 else turnN b y o (kFs n b y o Pm Wm (lsN n b y o Pm Wm) i0 s).1 i) + tlS n b y o Pm Wm s i) (Nat.add_comm _ _) ?_
                refine kx_iload_n C dX1_walkBehind_91 rfl 3 rfl ?_
                refine kx_icmp_ne (tgt := 99) C (by have := htb i; have := tlS_le H1 HP HW Hb Hy Ho (show s < n by omega) i; omega) (by have := hwb (by omega); omega) dX1_walkBehind_92 (by decide) (fun c22 => ?_) (fun c22 => ?_)
                · skip
                  refine kx_iconst (v := nI 0) C dX1_walkBehind_99 (by decide +kernel) ?_
                  refine kx_istore (lv2 := [(10, .int (nI (0))), (9, .int (nI ((if (kFs n b y o Pm Wm (lsN n b y o Pm Wm) i0 s).1 = 24 then 0 else turnN b y o (kFs n b y o Pm Wm (lsN n b y o Pm Wm) i0 s).1 i)))), (0, .ref (J 0)), (1, .long (lN (i0))), (3, .int (nI ((if (kFs n b y o Pm Wm (lsN n b y o Pm Wm) i0 s).1 = 24 then lsN n b y o Pm Wm else tlS n b y o Pm Wm (s - 1) (kFs n b y o Pm Wm (lsN n b y o Pm Wm) i0 s).1 - costN Pm Wm (s - 1) (kFs n b y o Pm Wm (lsN n b y o Pm Wm) i0 s).1)))), (4, .long (lN ((selN (fun k => (if (kFs n b y o Pm Wm (lsN n b y o Pm Wm) i0 s).1 = 24 then 0 else turnN b y o (kFs n b y o Pm Wm (lsN n b y o Pm Wm) i0 s).1 k) + tlS n b y o Pm Wm s k) (fun k => wyS n b y o Pm Wm s k) (if (kFs n b y o Pm Wm (lsN n b y o Pm Wm) i0 s).1 = 24 then lsN n b y o Pm Wm else tlS n b y o Pm Wm (s - 1) (kFs n b y o Pm Wm (lsN n b y o Pm Wm) i0 s).1 - costN Pm Wm (s - 1) (kFs n b y o Pm Wm (lsN n b y o Pm Wm) i0 s).1) (kFs n b y o Pm Wm (lsN n b y o Pm Wm) i0 s).2 i).2))), (6, .int (nI (s))), (7, .int (nI (i))), (8, .int (nI (0)))]) C dX1_walkBehind_100 (by decide) rfl ?_
                  refine kx_iload C dX1_walkBehind_102 0 rfl ?_
                  refine kx_if_eq (tgt := 130) C (by omega) dX1_walkBehind_104 (by decide) (fun c23 => ?_) (fun c23 => ?_)
                  · skip
                    refine kx_iconst (v := nI 0) C dX1_walkBehind_130 (by decide +kernel) ?_
                    refine kx_istore (lv2 := [(8, .int (nI (0))), (10, .int (nI (0))), (9, .int (nI ((if (kFs n b y o Pm Wm (lsN n b y o Pm Wm) i0 s).1 = 24 then 0 else turnN b y o (kFs n b y o Pm Wm (lsN n b y o Pm Wm) i0 s).1 i)))), (0, .ref (J 0)), (1, .long (lN (i0))), (3, .int (nI ((if (kFs n b y o Pm Wm (lsN n b y o Pm Wm) i0 s).1 = 24 then lsN n b y o Pm Wm else tlS n b y o Pm Wm (s - 1) (kFs n b y o Pm Wm (lsN n b y o Pm Wm) i0 s).1 - costN Pm Wm (s - 1) (kFs n b y o Pm Wm (lsN n b y o Pm Wm) i0 s).1)))), (4, .long (lN ((selN (fun k => (if (kFs n b y o Pm Wm (lsN n b y o Pm Wm) i0 s).1 = 24 then 0 else turnN b y o (kFs n b y o Pm Wm (lsN n b y o Pm Wm) i0 s).1 k) + tlS n b y o Pm Wm s k) (fun k => wyS n b y o Pm Wm s k) (if (kFs n b y o Pm Wm (lsN n b y o Pm Wm) i0 s).1 = 24 then lsN n b y o Pm Wm else tlS n b y o Pm Wm (s - 1) (kFs n b y o Pm Wm (lsN n b y o Pm Wm) i0 s).1 - costN Pm Wm (s - 1) (kFs n b y o Pm Wm (lsN n b y o Pm Wm) i0 s).1) (kFs n b y o Pm Wm (lsN n b y o Pm Wm) i0 s).2 i).2))), (6, .int (nI (s))), (7, .int (nI (i)))]) C dX1_walkBehind_131 (by decide) rfl ?_
                    refine kx_lload C dX1_walkBehind_133 6 rfl ?_
                    refine kx_iload C dX1_walkBehind_135 1 rfl ?_
                    refine kx_if_eq (tgt := 161) C (by omega) dX1_walkBehind_137 (by decide) (fun c24 => ?_) (fun c24 => ?_)
                    · skip
                      refine kx_lconst (v := lN 0) C dX1_walkBehind_161 (by decide +kernel) ?_
                      refine kx_lsub C (by omega) dX1_walkBehind_162 ?_
                      refine kx_lstore (lv2 := [(4, .long (lN (((selN (fun k => (if (kFs n b y o Pm Wm (lsN n b y o Pm Wm) i0 s).1 = 24 then 0 else turnN b y o (kFs n b y o Pm Wm (lsN n b y o Pm Wm) i0 s).1 k) + tlS n b y o Pm Wm s k) (fun k => wyS n b y o Pm Wm s k) (if (kFs n b y o Pm Wm (lsN n b y o Pm Wm) i0 s).1 = 24 then lsN n b y o Pm Wm else tlS n b y o Pm Wm (s - 1) (kFs n b y o Pm Wm (lsN n b y o Pm Wm) i0 s).1 - costN Pm Wm (s - 1) (kFs n b y o Pm Wm (lsN n b y o Pm Wm) i0 s).1) (kFs n b y o Pm Wm (lsN n b y o Pm Wm) i0 s).2 i).2) - (0)))), (8, .int (nI (0))), (10, .int (nI (0))), (9, .int (nI ((if (kFs n b y o Pm Wm (lsN n b y o Pm Wm) i0 s).1 = 24 then 0 else turnN b y o (kFs n b y o Pm Wm (lsN n b y o Pm Wm) i0 s).1 i)))), (0, .ref (J 0)), (1, .long (lN (i0))), (3, .int (nI ((if (kFs n b y o Pm Wm (lsN n b y o Pm Wm) i0 s).1 = 24 then lsN n b y o Pm Wm else tlS n b y o Pm Wm (s - 1) (kFs n b y o Pm Wm (lsN n b y o Pm Wm) i0 s).1 - costN Pm Wm (s - 1) (kFs n b y o Pm Wm (lsN n b y o Pm Wm) i0 s).1)))), (6, .int (nI (s))), (7, .int (nI (i)))]) C dX1_walkBehind_163 (by decide) rfl ?_
                      refine kx_iload C dX1_walkBehind_165 8 rfl ?_
                      refine kx_iload C dX1_walkBehind_167 1 rfl ?_
                      refine kx_if_eq (tgt := 176) C (by omega) dX1_walkBehind_169 (by decide) (fun c25 => ?_) (fun c25 => ?_)
                      · skip
                        refine kx_iconst (v := nI 1) C dX1_walkBehind_176 (by decide +kernel) ?_
                        refine kx_iadd C dX1_walkBehind_177 ?_
                        refine kx_istore (lv2 := [(7, .int (nI ((i) + (1)))), (4, .long (lN (((selN (fun k => (if (kFs n b y o Pm Wm (lsN n b y o Pm Wm) i0 s).1 = 24 then 0 else turnN b y o (kFs n b y o Pm Wm (lsN n b y o Pm Wm) i0 s).1 k) + tlS n b y o Pm Wm s k) (fun k => wyS n b y o Pm Wm s k) (if (kFs n b y o Pm Wm (lsN n b y o Pm Wm) i0 s).1 = 24 then lsN n b y o Pm Wm else tlS n b y o Pm Wm (s - 1) (kFs n b y o Pm Wm (lsN n b y o Pm Wm) i0 s).1 - costN Pm Wm (s - 1) (kFs n b y o Pm Wm (lsN n b y o Pm Wm) i0 s).1) (kFs n b y o Pm Wm (lsN n b y o Pm Wm) i0 s).2 i).2) - (0)))), (8, .int (nI (0))), (10, .int (nI (0))), (9, .int (nI ((if (kFs n b y o Pm Wm (lsN n b y o Pm Wm) i0 s).1 = 24 then 0 else turnN b y o (kFs n b y o Pm Wm (lsN n b y o Pm Wm) i0 s).1 i)))), (0, .ref (J 0)), (1, .long (lN (i0))), (3, .int (nI ((if (kFs n b y o Pm Wm (lsN n b y o Pm Wm) i0 s).1 = 24 then lsN n b y o Pm Wm else tlS n b y o Pm Wm (s - 1) (kFs n b y o Pm Wm (lsN n b y o Pm Wm) i0 s).1 - costN Pm Wm (s - 1) (kFs n b y o Pm Wm (lsN n b y o Pm Wm) i0 s).1)))), (6, .int (nI (s)))]) C dX1_walkBehind_178 (by decide) rfl ?_
                        refine kx_goto (tgt := 32) C dX1_walkBehind_180 (by decide) ?_
                        have e27 : (selN (fun k => (if (kFs n b y o Pm Wm (lsN n b y o Pm Wm) i0 s).1 = 24 then 0 else turnN b y o (kFs n b y o Pm Wm (lsN n b y o Pm Wm) i0 s).1 k) + tlS n b y o Pm Wm s k) (fun k => wyS n b y o Pm Wm s k) (if (kFs n b y o Pm Wm (lsN n b y o Pm Wm) i0 s).1 = 24 then lsN n b y o Pm Wm else tlS n b y o Pm Wm (s - 1) (kFs n b y o Pm Wm (lsN n b y o Pm Wm) i0 s).1 - costN Pm Wm (s - 1) (kFs n b y o Pm Wm (lsN n b y o Pm Wm) i0 s).1) (kFs n b y o Pm Wm (lsN n b y o Pm Wm) i0 s).2 (i + 1)) = (24, (selN (fun k => (if (kFs n b y o Pm Wm (lsN n b y o Pm Wm) i0 s).1 = 24 then 0 else turnN b y o (kFs n b y o Pm Wm (lsN n b y o Pm Wm) i0 s).1 k) + tlS n b y o Pm Wm s k) (fun k => wyS n b y o Pm Wm s k) (if (kFs n b y o Pm Wm (lsN n b y o Pm Wm) i0 s).1 = 24 then lsN n b y o Pm Wm else tlS n b y o Pm Wm (s - 1) (kFs n b y o Pm Wm (lsN n b y o Pm Wm) i0 s).1 - costN Pm Wm (s - 1) (kFs n b y o Pm Wm (lsN n b y o Pm Wm) i0 s).1) (kFs n b y o Pm Wm (lsN n b y o Pm Wm) i0 s).2 i).2) := selN_ne (f := (fun k => (if (kFs n b y o Pm Wm (lsN n b y o Pm Wm) i0 s).1 = 24 then 0 else turnN b y o (kFs n b y o Pm Wm (lsN n b y o Pm Wm) i0 s).1 k) + tlS n b y o Pm Wm s k)) (g := (fun k => wyS n b y o Pm Wm s k)) h2_lp32 c22
                        refine kx_lvL (a := ((selN (fun k => (if (kFs n b y o Pm Wm (lsN n b y o Pm Wm) i0 s).1 = 24 then 0 else turnN b y o (kFs n b y o Pm Wm (lsN n b y o Pm Wm) i0 s).1 k) + tlS n b y o Pm Wm s k) (fun k => wyS n b y o Pm Wm s k) (if (kFs n b y o Pm Wm (lsN n b y o Pm Wm) i0 s).1 = 24 then lsN n b y o Pm Wm else tlS n b y o Pm Wm (s - 1) (kFs n b y o Pm Wm (lsN n b y o Pm Wm) i0 s).1 - costN Pm Wm (s - 1) (kFs n b y o Pm Wm (lsN n b y o Pm Wm) i0 s).1) (kFs n b y o Pm Wm (lsN n b y o Pm Wm) i0 s).2 i).2) - (0)) (b := (selN (fun k => (if (kFs n b y o Pm Wm (lsN n b y o Pm Wm) i0 s).1 = 24 then 0 else turnN b y o (kFs n b y o Pm Wm (lsN n b y o Pm Wm) i0 s).1 k) + tlS n b y o Pm Wm s k) (fun k => wyS n b y o Pm Wm s k) (if (kFs n b y o Pm Wm (lsN n b y o Pm Wm) i0 s).1 = 24 then lsN n b y o Pm Wm else tlS n b y o Pm Wm (s - 1) (kFs n b y o Pm Wm (lsN n b y o Pm Wm) i0 s).1 - costN Pm Wm (s - 1) (kFs n b y o Pm Wm (lsN n b y o Pm Wm) i0 s).1) (kFs n b y o Pm Wm (lsN n b y o Pm Wm) i0 s).2 (i + 1)).2) (lv2 := [(7, .int (nI ((i) + (1)))), (4, .long (lN ((selN (fun k => (if (kFs n b y o Pm Wm (lsN n b y o Pm Wm) i0 s).1 = 24 then 0 else turnN b y o (kFs n b y o Pm Wm (lsN n b y o Pm Wm) i0 s).1 k) + tlS n b y o Pm Wm s k) (fun k => wyS n b y o Pm Wm s k) (if (kFs n b y o Pm Wm (lsN n b y o Pm Wm) i0 s).1 = 24 then lsN n b y o Pm Wm else tlS n b y o Pm Wm (s - 1) (kFs n b y o Pm Wm (lsN n b y o Pm Wm) i0 s).1 - costN Pm Wm (s - 1) (kFs n b y o Pm Wm (lsN n b y o Pm Wm) i0 s).1) (kFs n b y o Pm Wm (lsN n b y o Pm Wm) i0 s).2 (i + 1)).2))), (8, .int (nI (0))), (10, .int (nI (0))), (9, .int (nI ((if (kFs n b y o Pm Wm (lsN n b y o Pm Wm) i0 s).1 = 24 then 0 else turnN b y o (kFs n b y o Pm Wm (lsN n b y o Pm Wm) i0 s).1 i)))), (0, .ref (J 0)), (1, .long (lN (i0))), (3, .int (nI ((if (kFs n b y o Pm Wm (lsN n b y o Pm Wm) i0 s).1 = 24 then lsN n b y o Pm Wm else tlS n b y o Pm Wm (s - 1) (kFs n b y o Pm Wm (lsN n b y o Pm Wm) i0 s).1 - costN Pm Wm (s - 1) (kFs n b y o Pm Wm (lsN n b y o Pm Wm) i0 s).1)))), (6, .int (nI (s)))]) ((Nat.sub_zero _).trans (congrArg Prod.snd e27).symm) 1 rfl rfl ?_
                        refine kx_lv (lv2 := [(0, .ref (J 0)), (1, .long (lN (i0))), (3, .int (nI ((if (kFs n b y o Pm Wm (lsN n b y o Pm Wm) i0 s).1 = 24 then lsN n b y o Pm Wm else tlS n b y o Pm Wm (s - 1) (kFs n b y o Pm Wm (lsN n b y o Pm Wm) i0 s).1 - costN Pm Wm (s - 1) (kFs n b y o Pm Wm (lsN n b y o Pm Wm) i0 s).1)))), (4, .long (lN ((selN (fun k => (if (kFs n b y o Pm Wm (lsN n b y o Pm Wm) i0 s).1 = 24 then 0 else turnN b y o (kFs n b y o Pm Wm (lsN n b y o Pm Wm) i0 s).1 k) + tlS n b y o Pm Wm s k) (fun k => wyS n b y o Pm Wm s k) (if (kFs n b y o Pm Wm (lsN n b y o Pm Wm) i0 s).1 = 24 then lsN n b y o Pm Wm else tlS n b y o Pm Wm (s - 1) (kFs n b y o Pm Wm (lsN n b y o Pm Wm) i0 s).1 - costN Pm Wm (s - 1) (kFs n b y o Pm Wm (lsN n b y o Pm Wm) i0 s).1) (kFs n b y o Pm Wm (lsN n b y o Pm Wm) i0 s).2 (i + 1)).2))), (6, .int (nI (s))), (7, .int (nI (i + 1))), (8, .int (nI (0)))]) [5, 6, 7, 1, 8, 0, 2] rfl ?_
                        refine kx_eqw (ws2 := (kmW E J cd n b y o Wm Pm Rv Yv Tv Cv Kv)) rfl ?_
                        exact ih_lp32 (i + 1) (by omega) h1_lp32 (by rw [e27]) (by omega)
                      · skip
                        exact absurd c25 (by decide)
                    · skip
                      exact absurd c24 (by decide)
                  · skip
                    exact absurd c23 (by decide)
                · skip
                  refine kx_iconst (v := nI 1) C dX1_walkBehind_95 (by decide +kernel) ?_
                  refine kx_goto (tgt := 100) C dX1_walkBehind_96 (by decide) ?_
                  refine kx_istore (lv2 := [(10, .int (nI (1))), (9, .int (nI ((if (kFs n b y o Pm Wm (lsN n b y o Pm Wm) i0 s).1 = 24 then 0 else turnN b y o (kFs n b y o Pm Wm (lsN n b y o Pm Wm) i0 s).1 i)))), (0, .ref (J 0)), (1, .long (lN (i0))), (3, .int (nI ((if (kFs n b y o Pm Wm (lsN n b y o Pm Wm) i0 s).1 = 24 then lsN n b y o Pm Wm else tlS n b y o Pm Wm (s - 1) (kFs n b y o Pm Wm (lsN n b y o Pm Wm) i0 s).1 - costN Pm Wm (s - 1) (kFs n b y o Pm Wm (lsN n b y o Pm Wm) i0 s).1)))), (4, .long (lN ((selN (fun k => (if (kFs n b y o Pm Wm (lsN n b y o Pm Wm) i0 s).1 = 24 then 0 else turnN b y o (kFs n b y o Pm Wm (lsN n b y o Pm Wm) i0 s).1 k) + tlS n b y o Pm Wm s k) (fun k => wyS n b y o Pm Wm s k) (if (kFs n b y o Pm Wm (lsN n b y o Pm Wm) i0 s).1 = 24 then lsN n b y o Pm Wm else tlS n b y o Pm Wm (s - 1) (kFs n b y o Pm Wm (lsN n b y o Pm Wm) i0 s).1 - costN Pm Wm (s - 1) (kFs n b y o Pm Wm (lsN n b y o Pm Wm) i0 s).1) (kFs n b y o Pm Wm (lsN n b y o Pm Wm) i0 s).2 i).2))), (6, .int (nI (s))), (7, .int (nI (i))), (8, .int (nI (0)))]) C dX1_walkBehind_100 (by decide) rfl ?_
                  refine kx_iload C dX1_walkBehind_102 0 rfl ?_
                  refine kx_if_eq (tgt := 130) C (by omega) dX1_walkBehind_104 (by decide) (fun c26 => ?_) (fun c26 => ?_)
                  · skip
                    exact absurd c26 (by decide)
                  · skip
                    refine kx_lload C dX1_walkBehind_107 5 rfl ?_
                    refine kx_aload_n C dX1_walkBehind_109 rfl 2 rfl ?_
                    refine kx_get (v := .ref (J 4)) (ci := 1) C kin1 0 rfl rfl 8 (by decide) fl1_19 rfl rfl dX1_walkBehind_110 ?_
                    refine kx_bipush (v := nI 24) C dX1_walkBehind_113 (by decide +kernel) ?_
                    refine kx_iload C dX1_walkBehind_115 6 rfl ?_
                    refine kx_imul C dX1_walkBehind_117 ?_
                    refine kx_iload C dX1_walkBehind_118 7 rfl ?_
                    refine kx_iadd C dX1_walkBehind_120 ?_
                    refine kx_topn (b := s * 24 + i) (by omega) ?_
                    refine kx_lald C 4 rfl (j := s * 24 + i) (by omega) (by decide) dX1_walkBehind_121 ?_
                    refine kx_topL (b := wyS n b y o Pm Wm s i) (h0_Rv s (by omega) i (by omega)).2 ?_
                    refine kx_lcmp_ge (tgt := 130) C (Nat.lt_of_le_of_lt (Nat.le_trans (selN_left _) (kFs_left s)) (by omega)) (by have := wyS_le n b y o Pm Wm s i; omega) dX1_walkBehind_122 dX1_walkBehind_123 (by decide) (fun c27 => ?_) (fun c27 => ?_)
                    · skip
                      refine kx_iconst (v := nI 0) C dX1_walkBehind_130 (by decide +kernel) ?_
                      refine kx_istore (lv2 := [(8, .int (nI (0))), (10, .int (nI (1))), (9, .int (nI ((if (kFs n b y o Pm Wm (lsN n b y o Pm Wm) i0 s).1 = 24 then 0 else turnN b y o (kFs n b y o Pm Wm (lsN n b y o Pm Wm) i0 s).1 i)))), (0, .ref (J 0)), (1, .long (lN (i0))), (3, .int (nI ((if (kFs n b y o Pm Wm (lsN n b y o Pm Wm) i0 s).1 = 24 then lsN n b y o Pm Wm else tlS n b y o Pm Wm (s - 1) (kFs n b y o Pm Wm (lsN n b y o Pm Wm) i0 s).1 - costN Pm Wm (s - 1) (kFs n b y o Pm Wm (lsN n b y o Pm Wm) i0 s).1)))), (4, .long (lN ((selN (fun k => (if (kFs n b y o Pm Wm (lsN n b y o Pm Wm) i0 s).1 = 24 then 0 else turnN b y o (kFs n b y o Pm Wm (lsN n b y o Pm Wm) i0 s).1 k) + tlS n b y o Pm Wm s k) (fun k => wyS n b y o Pm Wm s k) (if (kFs n b y o Pm Wm (lsN n b y o Pm Wm) i0 s).1 = 24 then lsN n b y o Pm Wm else tlS n b y o Pm Wm (s - 1) (kFs n b y o Pm Wm (lsN n b y o Pm Wm) i0 s).1 - costN Pm Wm (s - 1) (kFs n b y o Pm Wm (lsN n b y o Pm Wm) i0 s).1) (kFs n b y o Pm Wm (lsN n b y o Pm Wm) i0 s).2 i).2))), (6, .int (nI (s))), (7, .int (nI (i)))]) C dX1_walkBehind_131 (by decide) rfl ?_
                      refine kx_lload C dX1_walkBehind_133 6 rfl ?_
                      refine kx_iload C dX1_walkBehind_135 1 rfl ?_
                      refine kx_if_eq (tgt := 161) C (by omega) dX1_walkBehind_137 (by decide) (fun c28 => ?_) (fun c28 => ?_)
                      · skip
                        exact absurd c28 (by decide)
                      · skip
                        refine kx_iload C dX1_walkBehind_140 0 rfl ?_
                        refine kx_if_ne (tgt := 161) C (by omega) dX1_walkBehind_142 (by decide) (fun c29 => ?_) (fun c29 => ?_)
                        · skip
                          exact absurd c29 (by decide)
                        · skip
                          refine kx_aload_n C dX1_walkBehind_145 rfl 3 rfl ?_
                          refine kx_get (v := .ref (J 4)) (ci := 1) C kin1 0 rfl rfl 8 (by decide) fl1_19 rfl rfl dX1_walkBehind_146 ?_
                          refine kx_bipush (v := nI 24) C dX1_walkBehind_149 (by decide +kernel) ?_
                          refine kx_iload C dX1_walkBehind_151 7 rfl ?_
                          refine kx_imul C dX1_walkBehind_153 ?_
                          refine kx_iload C dX1_walkBehind_154 8 rfl ?_
                          refine kx_iadd C dX1_walkBehind_156 ?_
                          refine kx_topn (b := s * 24 + i) (by omega) ?_
                          refine kx_lald C 4 rfl (j := s * 24 + i) (by omega) (by decide) dX1_walkBehind_157 ?_
                          refine kx_topL (b := wyS n b y o Pm Wm s i) (h0_Rv s (by omega) i (by omega)).2 ?_
                          refine kx_goto (tgt := 162) C dX1_walkBehind_158 (by decide) ?_
                          refine kx_lsub C (by omega) dX1_walkBehind_162 ?_
                          refine kx_lstore (lv2 := [(4, .long (lN (((selN (fun k => (if (kFs n b y o Pm Wm (lsN n b y o Pm Wm) i0 s).1 = 24 then 0 else turnN b y o (kFs n b y o Pm Wm (lsN n b y o Pm Wm) i0 s).1 k) + tlS n b y o Pm Wm s k) (fun k => wyS n b y o Pm Wm s k) (if (kFs n b y o Pm Wm (lsN n b y o Pm Wm) i0 s).1 = 24 then lsN n b y o Pm Wm else tlS n b y o Pm Wm (s - 1) (kFs n b y o Pm Wm (lsN n b y o Pm Wm) i0 s).1 - costN Pm Wm (s - 1) (kFs n b y o Pm Wm (lsN n b y o Pm Wm) i0 s).1) (kFs n b y o Pm Wm (lsN n b y o Pm Wm) i0 s).2 i).2) - (wyS n b y o Pm Wm s i)))), (8, .int (nI (0))), (10, .int (nI (1))), (9, .int (nI ((if (kFs n b y o Pm Wm (lsN n b y o Pm Wm) i0 s).1 = 24 then 0 else turnN b y o (kFs n b y o Pm Wm (lsN n b y o Pm Wm) i0 s).1 i)))), (0, .ref (J 0)), (1, .long (lN (i0))), (3, .int (nI ((if (kFs n b y o Pm Wm (lsN n b y o Pm Wm) i0 s).1 = 24 then lsN n b y o Pm Wm else tlS n b y o Pm Wm (s - 1) (kFs n b y o Pm Wm (lsN n b y o Pm Wm) i0 s).1 - costN Pm Wm (s - 1) (kFs n b y o Pm Wm (lsN n b y o Pm Wm) i0 s).1)))), (6, .int (nI (s))), (7, .int (nI (i)))]) C dX1_walkBehind_163 (by decide) rfl ?_
                          refine kx_iload C dX1_walkBehind_165 8 rfl ?_
                          refine kx_iload C dX1_walkBehind_167 1 rfl ?_
                          refine kx_if_eq (tgt := 176) C (by omega) dX1_walkBehind_169 (by decide) (fun c30 => ?_) (fun c30 => ?_)
                          · skip
                            refine kx_iconst (v := nI 1) C dX1_walkBehind_176 (by decide +kernel) ?_
                            refine kx_iadd C dX1_walkBehind_177 ?_
                            refine kx_istore (lv2 := [(7, .int (nI ((i) + (1)))), (4, .long (lN (((selN (fun k => (if (kFs n b y o Pm Wm (lsN n b y o Pm Wm) i0 s).1 = 24 then 0 else turnN b y o (kFs n b y o Pm Wm (lsN n b y o Pm Wm) i0 s).1 k) + tlS n b y o Pm Wm s k) (fun k => wyS n b y o Pm Wm s k) (if (kFs n b y o Pm Wm (lsN n b y o Pm Wm) i0 s).1 = 24 then lsN n b y o Pm Wm else tlS n b y o Pm Wm (s - 1) (kFs n b y o Pm Wm (lsN n b y o Pm Wm) i0 s).1 - costN Pm Wm (s - 1) (kFs n b y o Pm Wm (lsN n b y o Pm Wm) i0 s).1) (kFs n b y o Pm Wm (lsN n b y o Pm Wm) i0 s).2 i).2) - (wyS n b y o Pm Wm s i)))), (8, .int (nI (0))), (10, .int (nI (1))), (9, .int (nI ((if (kFs n b y o Pm Wm (lsN n b y o Pm Wm) i0 s).1 = 24 then 0 else turnN b y o (kFs n b y o Pm Wm (lsN n b y o Pm Wm) i0 s).1 i)))), (0, .ref (J 0)), (1, .long (lN (i0))), (3, .int (nI ((if (kFs n b y o Pm Wm (lsN n b y o Pm Wm) i0 s).1 = 24 then lsN n b y o Pm Wm else tlS n b y o Pm Wm (s - 1) (kFs n b y o Pm Wm (lsN n b y o Pm Wm) i0 s).1 - costN Pm Wm (s - 1) (kFs n b y o Pm Wm (lsN n b y o Pm Wm) i0 s).1)))), (6, .int (nI (s)))]) C dX1_walkBehind_178 (by decide) rfl ?_
                            refine kx_goto (tgt := 32) C dX1_walkBehind_180 (by decide) ?_
                            have e27 : (selN (fun k => (if (kFs n b y o Pm Wm (lsN n b y o Pm Wm) i0 s).1 = 24 then 0 else turnN b y o (kFs n b y o Pm Wm (lsN n b y o Pm Wm) i0 s).1 k) + tlS n b y o Pm Wm s k) (fun k => wyS n b y o Pm Wm s k) (if (kFs n b y o Pm Wm (lsN n b y o Pm Wm) i0 s).1 = 24 then lsN n b y o Pm Wm else tlS n b y o Pm Wm (s - 1) (kFs n b y o Pm Wm (lsN n b y o Pm Wm) i0 s).1 - costN Pm Wm (s - 1) (kFs n b y o Pm Wm (lsN n b y o Pm Wm) i0 s).1) (kFs n b y o Pm Wm (lsN n b y o Pm Wm) i0 s).2 (i + 1)) = (24, (selN (fun k => (if (kFs n b y o Pm Wm (lsN n b y o Pm Wm) i0 s).1 = 24 then 0 else turnN b y o (kFs n b y o Pm Wm (lsN n b y o Pm Wm) i0 s).1 k) + tlS n b y o Pm Wm s k) (fun k => wyS n b y o Pm Wm s k) (if (kFs n b y o Pm Wm (lsN n b y o Pm Wm) i0 s).1 = 24 then lsN n b y o Pm Wm else tlS n b y o Pm Wm (s - 1) (kFs n b y o Pm Wm (lsN n b y o Pm Wm) i0 s).1 - costN Pm Wm (s - 1) (kFs n b y o Pm Wm (lsN n b y o Pm Wm) i0 s).1) (kFs n b y o Pm Wm (lsN n b y o Pm Wm) i0 s).2 i).2 - wyS n b y o Pm Wm s i) := selN_sub (f := (fun k => (if (kFs n b y o Pm Wm (lsN n b y o Pm Wm) i0 s).1 = 24 then 0 else turnN b y o (kFs n b y o Pm Wm (lsN n b y o Pm Wm) i0 s).1 k) + tlS n b y o Pm Wm s k)) (g := (fun k => wyS n b y o Pm Wm s k)) h2_lp32 c22 c27
                            refine kx_lvL (a := ((selN (fun k => (if (kFs n b y o Pm Wm (lsN n b y o Pm Wm) i0 s).1 = 24 then 0 else turnN b y o (kFs n b y o Pm Wm (lsN n b y o Pm Wm) i0 s).1 k) + tlS n b y o Pm Wm s k) (fun k => wyS n b y o Pm Wm s k) (if (kFs n b y o Pm Wm (lsN n b y o Pm Wm) i0 s).1 = 24 then lsN n b y o Pm Wm else tlS n b y o Pm Wm (s - 1) (kFs n b y o Pm Wm (lsN n b y o Pm Wm) i0 s).1 - costN Pm Wm (s - 1) (kFs n b y o Pm Wm (lsN n b y o Pm Wm) i0 s).1) (kFs n b y o Pm Wm (lsN n b y o Pm Wm) i0 s).2 i).2) - (wyS n b y o Pm Wm s i)) (b := (selN (fun k => (if (kFs n b y o Pm Wm (lsN n b y o Pm Wm) i0 s).1 = 24 then 0 else turnN b y o (kFs n b y o Pm Wm (lsN n b y o Pm Wm) i0 s).1 k) + tlS n b y o Pm Wm s k) (fun k => wyS n b y o Pm Wm s k) (if (kFs n b y o Pm Wm (lsN n b y o Pm Wm) i0 s).1 = 24 then lsN n b y o Pm Wm else tlS n b y o Pm Wm (s - 1) (kFs n b y o Pm Wm (lsN n b y o Pm Wm) i0 s).1 - costN Pm Wm (s - 1) (kFs n b y o Pm Wm (lsN n b y o Pm Wm) i0 s).1) (kFs n b y o Pm Wm (lsN n b y o Pm Wm) i0 s).2 (i + 1)).2) (lv2 := [(7, .int (nI ((i) + (1)))), (4, .long (lN ((selN (fun k => (if (kFs n b y o Pm Wm (lsN n b y o Pm Wm) i0 s).1 = 24 then 0 else turnN b y o (kFs n b y o Pm Wm (lsN n b y o Pm Wm) i0 s).1 k) + tlS n b y o Pm Wm s k) (fun k => wyS n b y o Pm Wm s k) (if (kFs n b y o Pm Wm (lsN n b y o Pm Wm) i0 s).1 = 24 then lsN n b y o Pm Wm else tlS n b y o Pm Wm (s - 1) (kFs n b y o Pm Wm (lsN n b y o Pm Wm) i0 s).1 - costN Pm Wm (s - 1) (kFs n b y o Pm Wm (lsN n b y o Pm Wm) i0 s).1) (kFs n b y o Pm Wm (lsN n b y o Pm Wm) i0 s).2 (i + 1)).2))), (8, .int (nI (0))), (10, .int (nI (1))), (9, .int (nI ((if (kFs n b y o Pm Wm (lsN n b y o Pm Wm) i0 s).1 = 24 then 0 else turnN b y o (kFs n b y o Pm Wm (lsN n b y o Pm Wm) i0 s).1 i)))), (0, .ref (J 0)), (1, .long (lN (i0))), (3, .int (nI ((if (kFs n b y o Pm Wm (lsN n b y o Pm Wm) i0 s).1 = 24 then lsN n b y o Pm Wm else tlS n b y o Pm Wm (s - 1) (kFs n b y o Pm Wm (lsN n b y o Pm Wm) i0 s).1 - costN Pm Wm (s - 1) (kFs n b y o Pm Wm (lsN n b y o Pm Wm) i0 s).1)))), (6, .int (nI (s)))]) (by rw [e27]; try rfl) 1 rfl rfl ?_
                            refine kx_lv (lv2 := [(0, .ref (J 0)), (1, .long (lN (i0))), (3, .int (nI ((if (kFs n b y o Pm Wm (lsN n b y o Pm Wm) i0 s).1 = 24 then lsN n b y o Pm Wm else tlS n b y o Pm Wm (s - 1) (kFs n b y o Pm Wm (lsN n b y o Pm Wm) i0 s).1 - costN Pm Wm (s - 1) (kFs n b y o Pm Wm (lsN n b y o Pm Wm) i0 s).1)))), (4, .long (lN ((selN (fun k => (if (kFs n b y o Pm Wm (lsN n b y o Pm Wm) i0 s).1 = 24 then 0 else turnN b y o (kFs n b y o Pm Wm (lsN n b y o Pm Wm) i0 s).1 k) + tlS n b y o Pm Wm s k) (fun k => wyS n b y o Pm Wm s k) (if (kFs n b y o Pm Wm (lsN n b y o Pm Wm) i0 s).1 = 24 then lsN n b y o Pm Wm else tlS n b y o Pm Wm (s - 1) (kFs n b y o Pm Wm (lsN n b y o Pm Wm) i0 s).1 - costN Pm Wm (s - 1) (kFs n b y o Pm Wm (lsN n b y o Pm Wm) i0 s).1) (kFs n b y o Pm Wm (lsN n b y o Pm Wm) i0 s).2 (i + 1)).2))), (6, .int (nI (s))), (7, .int (nI (i + 1))), (8, .int (nI (0)))]) [5, 6, 7, 1, 8, 0, 2] rfl ?_
                            refine kx_eqw (ws2 := (kmW E J cd n b y o Wm Pm Rv Yv Tv Cv Kv)) rfl ?_
                            exact ih_lp32 (i + 1) (by omega) h1_lp32 (by rw [e27]) (by omega)
                          · skip
                            exact absurd c30 (by decide)
                    · skip
                      refine kx_iconst (v := nI 1) C dX1_walkBehind_126 (by decide +kernel) ?_
                      refine kx_goto (tgt := 131) C dX1_walkBehind_127 (by decide) ?_
                      refine kx_istore (lv2 := [(8, .int (nI (1))), (10, .int (nI (1))), (9, .int (nI ((if (kFs n b y o Pm Wm (lsN n b y o Pm Wm) i0 s).1 = 24 then 0 else turnN b y o (kFs n b y o Pm Wm (lsN n b y o Pm Wm) i0 s).1 i)))), (0, .ref (J 0)), (1, .long (lN (i0))), (3, .int (nI ((if (kFs n b y o Pm Wm (lsN n b y o Pm Wm) i0 s).1 = 24 then lsN n b y o Pm Wm else tlS n b y o Pm Wm (s - 1) (kFs n b y o Pm Wm (lsN n b y o Pm Wm) i0 s).1 - costN Pm Wm (s - 1) (kFs n b y o Pm Wm (lsN n b y o Pm Wm) i0 s).1)))), (4, .long (lN ((selN (fun k => (if (kFs n b y o Pm Wm (lsN n b y o Pm Wm) i0 s).1 = 24 then 0 else turnN b y o (kFs n b y o Pm Wm (lsN n b y o Pm Wm) i0 s).1 k) + tlS n b y o Pm Wm s k) (fun k => wyS n b y o Pm Wm s k) (if (kFs n b y o Pm Wm (lsN n b y o Pm Wm) i0 s).1 = 24 then lsN n b y o Pm Wm else tlS n b y o Pm Wm (s - 1) (kFs n b y o Pm Wm (lsN n b y o Pm Wm) i0 s).1 - costN Pm Wm (s - 1) (kFs n b y o Pm Wm (lsN n b y o Pm Wm) i0 s).1) (kFs n b y o Pm Wm (lsN n b y o Pm Wm) i0 s).2 i).2))), (6, .int (nI (s))), (7, .int (nI (i)))]) C dX1_walkBehind_131 (by decide) rfl ?_
                      refine kx_lload C dX1_walkBehind_133 6 rfl ?_
                      refine kx_iload C dX1_walkBehind_135 1 rfl ?_
                      refine kx_if_eq (tgt := 161) C (by omega) dX1_walkBehind_137 (by decide) (fun c31 => ?_) (fun c31 => ?_)
                      · skip
                        exact absurd c31 (by decide)
                      · skip
                        refine kx_iload C dX1_walkBehind_140 0 rfl ?_
                        refine kx_if_ne (tgt := 161) C (by omega) dX1_walkBehind_142 (by decide) (fun c32 => ?_) (fun c32 => ?_)
                        · skip
                          refine kx_lconst (v := lN 0) C dX1_walkBehind_161 (by decide +kernel) ?_
                          refine kx_lsub C (by omega) dX1_walkBehind_162 ?_
                          refine kx_lstore (lv2 := [(4, .long (lN (((selN (fun k => (if (kFs n b y o Pm Wm (lsN n b y o Pm Wm) i0 s).1 = 24 then 0 else turnN b y o (kFs n b y o Pm Wm (lsN n b y o Pm Wm) i0 s).1 k) + tlS n b y o Pm Wm s k) (fun k => wyS n b y o Pm Wm s k) (if (kFs n b y o Pm Wm (lsN n b y o Pm Wm) i0 s).1 = 24 then lsN n b y o Pm Wm else tlS n b y o Pm Wm (s - 1) (kFs n b y o Pm Wm (lsN n b y o Pm Wm) i0 s).1 - costN Pm Wm (s - 1) (kFs n b y o Pm Wm (lsN n b y o Pm Wm) i0 s).1) (kFs n b y o Pm Wm (lsN n b y o Pm Wm) i0 s).2 i).2) - (0)))), (8, .int (nI (1))), (10, .int (nI (1))), (9, .int (nI ((if (kFs n b y o Pm Wm (lsN n b y o Pm Wm) i0 s).1 = 24 then 0 else turnN b y o (kFs n b y o Pm Wm (lsN n b y o Pm Wm) i0 s).1 i)))), (0, .ref (J 0)), (1, .long (lN (i0))), (3, .int (nI ((if (kFs n b y o Pm Wm (lsN n b y o Pm Wm) i0 s).1 = 24 then lsN n b y o Pm Wm else tlS n b y o Pm Wm (s - 1) (kFs n b y o Pm Wm (lsN n b y o Pm Wm) i0 s).1 - costN Pm Wm (s - 1) (kFs n b y o Pm Wm (lsN n b y o Pm Wm) i0 s).1)))), (6, .int (nI (s))), (7, .int (nI (i)))]) C dX1_walkBehind_163 (by decide) rfl ?_
                          refine kx_iload C dX1_walkBehind_165 8 rfl ?_
                          refine kx_iload C dX1_walkBehind_167 1 rfl ?_
                          refine kx_if_eq (tgt := 176) C (by omega) dX1_walkBehind_169 (by decide) (fun c33 => ?_) (fun c33 => ?_)
                          · skip
                            exact absurd c33 (by decide)
                          · skip
                            refine kx_iconst (v := nI 0) C dX1_walkBehind_172 (by decide +kernel) ?_
                            refine kx_goto (tgt := 177) C dX1_walkBehind_173 (by decide) ?_
                            refine kx_iadd C dX1_walkBehind_177 ?_
                            refine kx_istore (lv2 := [(7, .int (nI ((i) + (0)))), (4, .long (lN (((selN (fun k => (if (kFs n b y o Pm Wm (lsN n b y o Pm Wm) i0 s).1 = 24 then 0 else turnN b y o (kFs n b y o Pm Wm (lsN n b y o Pm Wm) i0 s).1 k) + tlS n b y o Pm Wm s k) (fun k => wyS n b y o Pm Wm s k) (if (kFs n b y o Pm Wm (lsN n b y o Pm Wm) i0 s).1 = 24 then lsN n b y o Pm Wm else tlS n b y o Pm Wm (s - 1) (kFs n b y o Pm Wm (lsN n b y o Pm Wm) i0 s).1 - costN Pm Wm (s - 1) (kFs n b y o Pm Wm (lsN n b y o Pm Wm) i0 s).1) (kFs n b y o Pm Wm (lsN n b y o Pm Wm) i0 s).2 i).2) - (0)))), (8, .int (nI (1))), (10, .int (nI (1))), (9, .int (nI ((if (kFs n b y o Pm Wm (lsN n b y o Pm Wm) i0 s).1 = 24 then 0 else turnN b y o (kFs n b y o Pm Wm (lsN n b y o Pm Wm) i0 s).1 i)))), (0, .ref (J 0)), (1, .long (lN (i0))), (3, .int (nI ((if (kFs n b y o Pm Wm (lsN n b y o Pm Wm) i0 s).1 = 24 then lsN n b y o Pm Wm else tlS n b y o Pm Wm (s - 1) (kFs n b y o Pm Wm (lsN n b y o Pm Wm) i0 s).1 - costN Pm Wm (s - 1) (kFs n b y o Pm Wm (lsN n b y o Pm Wm) i0 s).1)))), (6, .int (nI (s)))]) C dX1_walkBehind_178 (by decide) rfl ?_
                            refine kx_goto (tgt := 32) C dX1_walkBehind_180 (by decide) ?_
                            have e27 : (selN (fun k => (if (kFs n b y o Pm Wm (lsN n b y o Pm Wm) i0 s).1 = 24 then 0 else turnN b y o (kFs n b y o Pm Wm (lsN n b y o Pm Wm) i0 s).1 k) + tlS n b y o Pm Wm s k) (fun k => wyS n b y o Pm Wm s k) (if (kFs n b y o Pm Wm (lsN n b y o Pm Wm) i0 s).1 = 24 then lsN n b y o Pm Wm else tlS n b y o Pm Wm (s - 1) (kFs n b y o Pm Wm (lsN n b y o Pm Wm) i0 s).1 - costN Pm Wm (s - 1) (kFs n b y o Pm Wm (lsN n b y o Pm Wm) i0 s).1) (kFs n b y o Pm Wm (lsN n b y o Pm Wm) i0 s).2 (i + 1)) = (i, (selN (fun k => (if (kFs n b y o Pm Wm (lsN n b y o Pm Wm) i0 s).1 = 24 then 0 else turnN b y o (kFs n b y o Pm Wm (lsN n b y o Pm Wm) i0 s).1 k) + tlS n b y o Pm Wm s k) (fun k => wyS n b y o Pm Wm s k) (if (kFs n b y o Pm Wm (lsN n b y o Pm Wm) i0 s).1 = 24 then lsN n b y o Pm Wm else tlS n b y o Pm Wm (s - 1) (kFs n b y o Pm Wm (lsN n b y o Pm Wm) i0 s).1 - costN Pm Wm (s - 1) (kFs n b y o Pm Wm (lsN n b y o Pm Wm) i0 s).1) (kFs n b y o Pm Wm (lsN n b y o Pm Wm) i0 s).2 i).2) := selN_hit (f := (fun k => (if (kFs n b y o Pm Wm (lsN n b y o Pm Wm) i0 s).1 = 24 then 0 else turnN b y o (kFs n b y o Pm Wm (lsN n b y o Pm Wm) i0 s).1 k) + tlS n b y o Pm Wm s k)) (g := (fun k => wyS n b y o Pm Wm s k)) h2_lp32 c22 c27
                            have e28 : (selN (fun k => (if (kFs n b y o Pm Wm (lsN n b y o Pm Wm) i0 s).1 = 24 then 0 else turnN b y o (kFs n b y o Pm Wm (lsN n b y o Pm Wm) i0 s).1 k) + tlS n b y o Pm Wm s k) (fun k => wyS n b y o Pm Wm s k) (if (kFs n b y o Pm Wm (lsN n b y o Pm Wm) i0 s).1 = 24 then lsN n b y o Pm Wm else tlS n b y o Pm Wm (s - 1) (kFs n b y o Pm Wm (lsN n b y o Pm Wm) i0 s).1 - costN Pm Wm (s - 1) (kFs n b y o Pm Wm (lsN n b y o Pm Wm) i0 s).1) (kFs n b y o Pm Wm (lsN n b y o Pm Wm) i0 s).2 24) = (i, (selN (fun k => (if (kFs n b y o Pm Wm (lsN n b y o Pm Wm) i0 s).1 = 24 then 0 else turnN b y o (kFs n b y o Pm Wm (lsN n b y o Pm Wm) i0 s).1 k) + tlS n b y o Pm Wm s k) (fun k => wyS n b y o Pm Wm s k) (if (kFs n b y o Pm Wm (lsN n b y o Pm Wm) i0 s).1 = 24 then lsN n b y o Pm Wm else tlS n b y o Pm Wm (s - 1) (kFs n b y o Pm Wm (lsN n b y o Pm Wm) i0 s).1 - costN Pm Wm (s - 1) (kFs n b y o Pm Wm (lsN n b y o Pm Wm) i0 s).1) (kFs n b y o Pm Wm (lsN n b y o Pm Wm) i0 s).2 i).2) := by have h := selN_stay (f := (fun k => (if (kFs n b y o Pm Wm (lsN n b y o Pm Wm) i0 s).1 = 24 then 0 else turnN b y o (kFs n b y o Pm Wm (lsN n b y o Pm Wm) i0 s).1 k) + tlS n b y o Pm Wm s k)) (g := (fun k => wyS n b y o Pm Wm s k)) (rest := (if (kFs n b y o Pm Wm (lsN n b y o Pm Wm) i0 s).1 = 24 then lsN n b y o Pm Wm else tlS n b y o Pm Wm (s - 1) (kFs n b y o Pm Wm (lsN n b y o Pm Wm) i0 s).1 - costN Pm Wm (s - 1) (kFs n b y o Pm Wm (lsN n b y o Pm Wm) i0 s).1)) (left := (kFs n b y o Pm Wm (lsN n b y o Pm Wm) i0 s).2) (k := i + 1) (by rw [e27]; show i ≠ 24; omega) (24 - (i + 1)); rw [show i + 1 + (24 - (i + 1)) = 24 by omega] at h; exact h.trans e27
                            refine kx_lvL (a := ((selN (fun k => (if (kFs n b y o Pm Wm (lsN n b y o Pm Wm) i0 s).1 = 24 then 0 else turnN b y o (kFs n b y o Pm Wm (lsN n b y o Pm Wm) i0 s).1 k) + tlS n b y o Pm Wm s k) (fun k => wyS n b y o Pm Wm s k) (if (kFs n b y o Pm Wm (lsN n b y o Pm Wm) i0 s).1 = 24 then lsN n b y o Pm Wm else tlS n b y o Pm Wm (s - 1) (kFs n b y o Pm Wm (lsN n b y o Pm Wm) i0 s).1 - costN Pm Wm (s - 1) (kFs n b y o Pm Wm (lsN n b y o Pm Wm) i0 s).1) (kFs n b y o Pm Wm (lsN n b y o Pm Wm) i0 s).2 i).2) - (0)) (b := (selN (fun k => (if (kFs n b y o Pm Wm (lsN n b y o Pm Wm) i0 s).1 = 24 then 0 else turnN b y o (kFs n b y o Pm Wm (lsN n b y o Pm Wm) i0 s).1 k) + tlS n b y o Pm Wm s k) (fun k => wyS n b y o Pm Wm s k) (if (kFs n b y o Pm Wm (lsN n b y o Pm Wm) i0 s).1 = 24 then lsN n b y o Pm Wm else tlS n b y o Pm Wm (s - 1) (kFs n b y o Pm Wm (lsN n b y o Pm Wm) i0 s).1 - costN Pm Wm (s - 1) (kFs n b y o Pm Wm (lsN n b y o Pm Wm) i0 s).1) (kFs n b y o Pm Wm (lsN n b y o Pm Wm) i0 s).2 24).2) (lv2 := [(7, .int (nI ((i) + (0)))), (4, .long (lN ((selN (fun k => (if (kFs n b y o Pm Wm (lsN n b y o Pm Wm) i0 s).1 = 24 then 0 else turnN b y o (kFs n b y o Pm Wm (lsN n b y o Pm Wm) i0 s).1 k) + tlS n b y o Pm Wm s k) (fun k => wyS n b y o Pm Wm s k) (if (kFs n b y o Pm Wm (lsN n b y o Pm Wm) i0 s).1 = 24 then lsN n b y o Pm Wm else tlS n b y o Pm Wm (s - 1) (kFs n b y o Pm Wm (lsN n b y o Pm Wm) i0 s).1 - costN Pm Wm (s - 1) (kFs n b y o Pm Wm (lsN n b y o Pm Wm) i0 s).1) (kFs n b y o Pm Wm (lsN n b y o Pm Wm) i0 s).2 24).2))), (8, .int (nI (1))), (10, .int (nI (1))), (9, .int (nI ((if (kFs n b y o Pm Wm (lsN n b y o Pm Wm) i0 s).1 = 24 then 0 else turnN b y o (kFs n b y o Pm Wm (lsN n b y o Pm Wm) i0 s).1 i)))), (0, .ref (J 0)), (1, .long (lN (i0))), (3, .int (nI ((if (kFs n b y o Pm Wm (lsN n b y o Pm Wm) i0 s).1 = 24 then lsN n b y o Pm Wm else tlS n b y o Pm Wm (s - 1) (kFs n b y o Pm Wm (lsN n b y o Pm Wm) i0 s).1 - costN Pm Wm (s - 1) (kFs n b y o Pm Wm (lsN n b y o Pm Wm) i0 s).1)))), (6, .int (nI (s)))]) ((Nat.sub_zero _).trans (congrArg Prod.snd e28).symm) 1 rfl rfl ?_
                            refine kx_lv (lv2 := [(0, .ref (J 0)), (1, .long (lN (i0))), (3, .int (nI ((if (kFs n b y o Pm Wm (lsN n b y o Pm Wm) i0 s).1 = 24 then lsN n b y o Pm Wm else tlS n b y o Pm Wm (s - 1) (kFs n b y o Pm Wm (lsN n b y o Pm Wm) i0 s).1 - costN Pm Wm (s - 1) (kFs n b y o Pm Wm (lsN n b y o Pm Wm) i0 s).1)))), (4, .long (lN ((selN (fun k => (if (kFs n b y o Pm Wm (lsN n b y o Pm Wm) i0 s).1 = 24 then 0 else turnN b y o (kFs n b y o Pm Wm (lsN n b y o Pm Wm) i0 s).1 k) + tlS n b y o Pm Wm s k) (fun k => wyS n b y o Pm Wm s k) (if (kFs n b y o Pm Wm (lsN n b y o Pm Wm) i0 s).1 = 24 then lsN n b y o Pm Wm else tlS n b y o Pm Wm (s - 1) (kFs n b y o Pm Wm (lsN n b y o Pm Wm) i0 s).1 - costN Pm Wm (s - 1) (kFs n b y o Pm Wm (lsN n b y o Pm Wm) i0 s).1) (kFs n b y o Pm Wm (lsN n b y o Pm Wm) i0 s).2 24).2))), (6, .int (nI (s))), (7, .int (nI (i))), (8, .int (nI (1)))]) [5, 6, 7, 1, 8, 0, 2] rfl ?_
                            exact h32b (by omega) i (by omega) (congrArg Prod.fst e28)
                        · skip
                          exact absurd c32 (by decide)
      refine kx_iload C dX1_walkBehind_17 4 rfl ?_
      refine kx_aload_n C dX1_walkBehind_19 rfl 0 rfl ?_
      refine kx_get (v := .int (nI (n))) (ci := 1) C kin1 0 rfl rfl 1 (by decide) fl1_39 rfl rfl dX1_walkBehind_20 ?_
      refine kx_icmp_ge (tgt := 233) C (by omega) (by omega) dX1_walkBehind_23 (by decide) (fun c34 => ?_) (fun c34 => ?_)
      · skip
        obtain rfl : n = s := by omega
        refine kx_iconst (v := nI 1) C dX1_walkBehind_233 (by decide +kernel) ?_
        exact hE (Nat.le_of_ble_eq_true rfl) (Nat.le_of_ble_eq_true rfl) dX1_walkBehind_234 (by decide +kernel) ⟨Rv, Yv, Tv, Cv, Kv, hTv, hCv, ⟨H1, Hb, Hy, Ho, HP, HW, hA_Rv, hA_Yv, h3_lp17⟩, Or.inl ⟨rfl, h2_lp17⟩, rfl⟩
      · skip
        refine kx_iconst (v := nI 0) C dX1_walkBehind_26 (by decide +kernel) ?_
        refine kx_istore (lv2 := [(7, .int (nI (0))), (0, .ref (J 0)), (1, .long (lN (i0))), (3, .int (nI ((if (kFs n b y o Pm Wm (lsN n b y o Pm Wm) i0 s).1 = 24 then lsN n b y o Pm Wm else tlS n b y o Pm Wm (s - 1) (kFs n b y o Pm Wm (lsN n b y o Pm Wm) i0 s).1 - costN Pm Wm (s - 1) (kFs n b y o Pm Wm (lsN n b y o Pm Wm) i0 s).1)))), (4, .long (lN ((kFs n b y o Pm Wm (lsN n b y o Pm Wm) i0 s).2))), (6, .int (nI (s)))]) C dX1_walkBehind_27 (by decide) rfl ?_
        refine kx_iconst (v := nI 0) C dX1_walkBehind_29 (by decide +kernel) ?_
        refine kx_istore (lv2 := [(8, .int (nI (0))), (7, .int (nI (0))), (0, .ref (J 0)), (1, .long (lN (i0))), (3, .int (nI ((if (kFs n b y o Pm Wm (lsN n b y o Pm Wm) i0 s).1 = 24 then lsN n b y o Pm Wm else tlS n b y o Pm Wm (s - 1) (kFs n b y o Pm Wm (lsN n b y o Pm Wm) i0 s).1 - costN Pm Wm (s - 1) (kFs n b y o Pm Wm (lsN n b y o Pm Wm) i0 s).1)))), (4, .long (lN ((kFs n b y o Pm Wm (lsN n b y o Pm Wm) i0 s).2))), (6, .int (nI (s)))]) C dX1_walkBehind_30 (by decide) rfl ?_
        refine kx_lv (lv2 := [(0, .ref (J 0)), (1, .long (lN (i0))), (3, .int (nI ((if (kFs n b y o Pm Wm (lsN n b y o Pm Wm) i0 s).1 = 24 then lsN n b y o Pm Wm else tlS n b y o Pm Wm (s - 1) (kFs n b y o Pm Wm (lsN n b y o Pm Wm) i0 s).1 - costN Pm Wm (s - 1) (kFs n b y o Pm Wm (lsN n b y o Pm Wm) i0 s).1)))), (4, .long (lN ((selN (fun k => (if (kFs n b y o Pm Wm (lsN n b y o Pm Wm) i0 s).1 = 24 then 0 else turnN b y o (kFs n b y o Pm Wm (lsN n b y o Pm Wm) i0 s).1 k) + tlS n b y o Pm Wm s k) (fun k => wyS n b y o Pm Wm s k) (if (kFs n b y o Pm Wm (lsN n b y o Pm Wm) i0 s).1 = 24 then lsN n b y o Pm Wm else tlS n b y o Pm Wm (s - 1) (kFs n b y o Pm Wm (lsN n b y o Pm Wm) i0 s).1 - costN Pm Wm (s - 1) (kFs n b y o Pm Wm (lsN n b y o Pm Wm) i0 s).1) (kFs n b y o Pm Wm (lsN n b y o Pm Wm) i0 s).2 0).2))), (6, .int (nI (s))), (7, .int (nI (0))), (8, .int (nI (0)))]) [2, 3, 4, 5, 6, 1, 0] rfl ?_
        refine kx_eqw (ws2 := (kmW E J cd n b y o Wm Pm Rv Yv Tv Cv Kv)) rfl ?_
        exact lp32 25 0 (by omega) (by omega) rfl (by omega)
  refine kx_istore_n (lv2 := [(3, .int (nI (lsN n b y o Pm Wm))), (0, .ref (J 0)), (1, .long (lN (i0)))]) C dX1_walkBehind_10 rfl (by decide) rfl ?_
  refine kx_lload_n C dX1_walkBehind_11 rfl 2 rfl ?_
  refine kx_lstore (lv2 := [(4, .long (lN (i0))), (3, .int (nI (lsN n b y o Pm Wm))), (0, .ref (J 0)), (1, .long (lN (i0)))]) C dX1_walkBehind_12 (by decide) rfl ?_
  refine kx_iconst (v := nI 0) C dX1_walkBehind_14 (by decide +kernel) ?_
  refine kx_istore (lv2 := [(6, .int (nI (0))), (4, .long (lN (i0))), (3, .int (nI (lsN n b y o Pm Wm))), (0, .ref (J 0)), (1, .long (lN (i0)))]) C dX1_walkBehind_15 (by decide) rfl ?_
  refine kx_lv (lv2 := [(0, .ref (J 0)), (1, .long (lN (i0))), (3, .int (nI ((if (kFs n b y o Pm Wm (lsN n b y o Pm Wm) i0 0).1 = 24 then lsN n b y o Pm Wm else tlS n b y o Pm Wm (0 - 1) (kFs n b y o Pm Wm (lsN n b y o Pm Wm) i0 0).1 - costN Pm Wm (0 - 1) (kFs n b y o Pm Wm (lsN n b y o Pm Wm) i0 0).1)))), (4, .long (lN ((kFs n b y o Pm Wm (lsN n b y o Pm Wm) i0 0).2))), (6, .int (nI (0)))]) [3, 4, 2, 1, 0] rfl ?_
  refine kx_eqw (ws2 := (kmW E J cd n b y o Wm Pm Rv Yv Tv Cv Km)) rfl ?_
  exact lp17 42 0 Km (by omega) (fun z => absurd rfl z) (fun j hj => absurd hj (by omega)) HKm (by omega)
