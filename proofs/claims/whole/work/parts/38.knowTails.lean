set_option maxHeartbeats 4000000 in
set_option maxRecDepth 100000 in
theorem c_knowTails (E : KE) (K : Nat → Nat) (b y o n ls bc tk hk : Nat) (P Wt Tu Sc Ta Wa He Fk Pk : Nat → Nat) (HO : kOk b y o n ls bc tk hk P Wt Tu Sc Ta Wa He Fk Pk) : kMv E yX0_knowTails cX0_knowTails 3 (rk 4 0) [.ref (K 0)] (kwW E K b y o n ls bc tk hk P Wt Tu Sc Ta Wa He Fk Pk) (fun w => ∃ (ls2 bc2 : Nat) (Tv Sv Av Vv Fv : Nat → Nat), kOk b y o n ls2 bc2 1 hk P Wt Tv Sv Av Vv He Fv Pk ∧ w = (kwW E K b y o n ls2 bc2 1 hk P Wt Tv Sv Av Vv He Fv Pk)) := by
  refine kMv_of (cc := cX0_knowTails) (maxL := 3) (by decide) (Nat.le_of_ble_eq_true rfl) ?_
  intro G C hE
  obtain ⟨H1, HP, HW, Hb, Hy, Ho, Htk, Hhk, Hls, HTa, HWa, HHe, HFk, HPk, HK, HH⟩ := id HO
  refine kx_aload_n C dX0_knowTails_0 rfl 0 rfl ?_
  refine kx_get (v := .int (nI (tk))) (ci := 0) C kin0 0 rfl rfl 15 (by decide) fl0_156 rfl rfl dX0_knowTails_1 ?_
  refine kx_if_eq (tgt := 8) C (by omega) dX0_knowTails_4 (by decide) (fun c1 => ?_) (fun c1 => ?_)
  · skip
    refine kx_aload_n C dX0_knowTails_8 rfl 0 rfl ?_
    refine kx_callVv (rest := []) (wr := []) C (c_fillTurns E K b y o n ls bc tk hk P Wt Tu Sc Ta Wa He Fk Pk) g0_185 0 rfl (by decide +kernel) ⟨Nat.le_of_ble_eq_true rfl, Nat.le_of_ble_eq_true rfl⟩ ⟨Nat.le_of_ble_eq_true rfl, Nat.le_of_ble_eq_true rfl⟩ [0, 1, 2, 3, 4, 5, 6, 7, 8, 9] [] rfl rfl (by decide) (by decide) (by decide) 0 rfl rfl rfl (Nat.le_of_ble_eq_true rfl) dX0_knowTails_9 (fun w q2 => ?_)
    obtain ⟨Tv, hTv, rfl⟩ := q2
    refine kx_eqw (ws2 := (kwW E K b y o n ls bc tk hk P Wt Tv Sc Ta Wa He Fk Pk)) rfl ?_
    have hTv : kTuOk b y o Tv := hTv
    have hTl := hTv.le Hb Hy Ho
    have h54 : ∀ (Sv Av Vv : Nat → Nat), kRows n b y o P Wt Sv Av Vv 0 → (∀ j, Av j ≤ 10000000) → (∀ j, Vv j ≤ 1000000000000000000) → kx E (rk 4 0) G 3 0 0 (kwW E K b y o n ls bc tk hk P Wt Tv Sv Av Vv He Fk Pk) [(0, .ref (K 0))] 54 [] := by
      intro Sv Av Vv hR hA hV
      by_cases e0 : n = 0
      · skip
        refine kx_aload_n C dX0_knowTails_54 rfl 0 rfl ?_
        refine kx_callVv (rest := []) (wr := []) C (c_fillLeast E K b y o n ls bc tk hk P Wt Tv Sv Av Vv He Fk Pk (fun j _ => hA j) (fun j _ => hV j) H1) g0_195 0 rfl (by decide +kernel) ⟨Nat.le_of_ble_eq_true rfl, Nat.le_of_ble_eq_true rfl⟩ ⟨Nat.le_of_ble_eq_true rfl, Nat.le_of_ble_eq_true rfl⟩ [0, 1, 2, 3, 4, 5, 6, 7, 8, 9] [] rfl rfl (by decide) (by decide) (by decide) 0 rfl rfl rfl (Nat.le_of_ble_eq_true rfl) dX0_knowTails_55 (fun w q3 => ?_)
        obtain rfl := q3.1 e0
        refine kx_eqw (ws2 := (kwW E K b y o n 0 1 tk hk P Wt Tv Sv Av Vv He Fk Pk)) rfl ?_
        refine kx_aload_n C dX0_knowTails_58 rfl 0 rfl ?_
        refine kx_get (v := .int (nI (n))) (ci := 0) C kin0 0 rfl rfl 5 (by decide) fl0_41 rfl rfl dX0_knowTails_59 ?_
        refine kx_if_le (tgt := 81) C (by omega) dX0_knowTails_62 (by decide) (fun c4 => ?_) (fun c4 => ?_)
        · skip
          refine kx_aload_n C dX0_knowTails_81 rfl 0 rfl ?_
          refine kx_iconst (v := nI 1) C dX0_knowTails_82 (by decide +kernel) ?_
          refine kx_put (ws2 := (kwW E K b y o n 0 1 1 hk P Wt Tv Sv Av Vv He Fk Pk)) (ci := 0) C kin0 tyX0_ok nmX0 0 rfl rfl 15 (by decide) fl0_156 rfl rfl (by decide +kernel) (by decide +kernel) (Nat.le_of_ble_eq_true rfl) rfl dX0_knowTails_83 ?_
          exact hE (Nat.le_of_ble_eq_true rfl) (Nat.le_of_ble_eq_true rfl) dX0_knowTails_86 ⟨_, _, _, _, _, _, _, ⟨H1, HP, HW, Hb, Hy, Ho, Nat.le_refl _, Hhk, Nat.zero_le _, hA, hV, HHe, HFk, HPk, fun _ => ⟨hTv, hR, fun _ => ⟨rfl, rfl⟩, fun z => absurd e0 z, fun s hs => absurd hs (by omega)⟩, fun z => ⟨by decide, (HH z).2⟩⟩, rfl⟩
        · skip
          exact absurd c4 (by omega)
      · skip
        refine kx_aload_n C dX0_knowTails_54 rfl 0 rfl ?_
        refine kx_callVv (rest := []) (wr := []) C (c_fillLeast E K b y o n ls bc tk hk P Wt Tv Sv Av Vv He Fk Pk (fun j _ => hA j) (fun j _ => hV j) H1) g0_195 0 rfl (by decide +kernel) ⟨Nat.le_of_ble_eq_true rfl, Nat.le_of_ble_eq_true rfl⟩ ⟨Nat.le_of_ble_eq_true rfl, Nat.le_of_ble_eq_true rfl⟩ [0, 1, 2, 3, 4, 5, 6, 7, 8, 9] [] rfl rfl (by decide) (by decide) (by decide) 0 rfl rfl rfl (Nat.le_of_ble_eq_true rfl) dX0_knowTails_55 (fun w q5 => ?_)
        obtain rfl := q5.2 e0
        refine kx_eqw (ws2 := (kwW E K b y o n (minN Av kBIG 24) (cntN Av Vv 24) tk hk P Wt Tv Sv Av Vv He Fk Pk)) rfl ?_
        refine kx_aload_n C dX0_knowTails_58 rfl 0 rfl ?_
        refine kx_get (v := .int (nI (n))) (ci := 0) C kin0 0 rfl rfl 5 (by decide) fl0_41 rfl rfl dX0_knowTails_59 ?_
        refine kx_if_le (tgt := 81) C (by omega) dX0_knowTails_62 (by decide) (fun c6 => ?_) (fun c6 => ?_)
        · skip
          exact absurd c6 (by omega)
        · skip
          have hls : minN Av kBIG 24 ≤ 10000000 := Nat.le_trans (minN_le (f := Av) (M := kBIG) (n := 24) (j := 0) (by decide)) (hA 0)
          refine kx_aload_n C dX0_knowTails_65 rfl 0 rfl ?_
          refine kx_lconst (v := lN 0) C dX0_knowTails_66 (by decide +kernel) ?_
          refine kx_aload_n C dX0_knowTails_67 rfl 0 rfl ?_
          refine kx_get (v := .int (nI (n))) (ci := 0) C kin0 0 rfl rfl 5 (by decide) fl0_41 rfl rfl dX0_knowTails_68 ?_
          refine kx_iconst (v := nI 1) C dX0_knowTails_71 (by decide +kernel) ?_
          refine kx_isub C (by omega) dX0_knowTails_72 ?_
          refine kx_aload_n C dX0_knowTails_73 rfl 0 rfl ?_
          refine kx_get (v := .ref (K 8)) (ci := 0) C kin0 0 rfl rfl 11 (by decide) fl0_32 rfl rfl dX0_knowTails_74 ?_
          refine kx_callVi (rest := []) (wr := []) C (c_followBest8 E K b y o n (minN Av kBIG 24) (cntN Av Vv 24) tk hk P Wt Tv Sv Av Vv He Fk Pk 0 (n - 1) (by omega) (by omega) hls hTl hA hV (fun j hj => hR.st j (by omega)) HFk) g0_107 3 rfl (by decide +kernel) ⟨Nat.le_of_ble_eq_true rfl, Nat.le_of_ble_eq_true rfl⟩ ⟨Nat.le_of_ble_eq_true rfl, Nat.le_of_ble_eq_true rfl⟩ [0, 1, 2, 3, 4, 5, 6, 7, 8, 9] [] rfl rfl (by decide) (by decide) (by decide) 0 rfl rfl rfl (Nat.le_of_ble_eq_true rfl) dX0_knowTails_77 (fun v w q7 => ?_)
          obtain ⟨-, Fv, hrow, hFb, rfl⟩ := q7
          refine kx_eqw (ws2 := (kwW E K b y o n (minN Av kBIG 24) (cntN Av Vv 24) tk hk P Wt Tv Sv Av Vv He Fv Pk)) rfl ?_
          refine kx_pop C dX0_knowTails_80 rfl ?_
          refine kx_aload_n C dX0_knowTails_81 rfl 0 rfl ?_
          refine kx_iconst (v := nI 1) C dX0_knowTails_82 (by decide +kernel) ?_
          refine kx_put (ws2 := (kwW E K b y o n (minN Av kBIG 24) (cntN Av Vv 24) 1 hk P Wt Tv Sv Av Vv He Fv Pk)) (ci := 0) C kin0 tyX0_ok nmX0 0 rfl rfl 15 (by decide) fl0_156 rfl rfl (by decide +kernel) (by decide +kernel) (Nat.le_of_ble_eq_true rfl) rfl dX0_knowTails_83 ?_
          exact hE (Nat.le_of_ble_eq_true rfl) (Nat.le_of_ble_eq_true rfl) dX0_knowTails_86 ⟨_, _, _, _, _, _, _, ⟨H1, HP, HW, Hb, Hy, Ho, Nat.le_refl _, Hhk, hls, hA, hV, HHe, hFb, HPk, fun _ => kTails_mk e0 hTv hR hrow, fun z => ⟨by decide, (HH z).2⟩⟩, rfl⟩
    have lp19 : ∀ (N_lp19 : Nat) (m : Nat) (Sv : Nat → Nat) (Av : Nat → Nat) (Vv : Nat → Nat), (m ≤ n) → (kRows n b y o P Wt Sv Av Vv m) → (∀ j, Av j ≤ 10000000) → (∀ j, Vv j ≤ 1000000000000000000) → (m < 0 + N_lp19) → kx E (rk 4 0) G 3 0 0 (kwW E K b y o n ls bc tk hk P Wt Tv Sv Av Vv He Fk Pk) [(0, .ref (K 0)), (1, .int ((nI (m)) - (nI (1))))] 19 [] := by
      intro N_lp19
      induction N_lp19 with
      | zero =>
        intro m Sv Av Vv h0_lp19 h1_lp19 h2_lp19 h3_lp19 hm_lp19
        exact absurd hm_lp19 (by omega)
      | succ N_lp19 ih_lp19 =>
        intro m Sv Av Vv h0_lp19 h1_lp19 h2_lp19 h3_lp19 hm_lp19
        refine kx_iload_n C dX0_knowTails_19 rfl 1 rfl ?_
        refine kx_if_ltR (tgt := 54) C dX0_knowTails_20 (by decide) (fun c8 => ?_) (fun c8 => ?_)
        · skip
          obtain rfl : m = 0 := (kD_neg (by omega)).mp c8
          refine kx_lv (lv2 := [(0, .ref (K 0))]) [0] rfl ?_
          exact h54 _ _ _ h1_lp19 h2_lp19 h3_lp19
        · skip
          obtain ⟨m1, rfl⟩ : ∃ x, m = x + 1 := ⟨m - 1, by have hz : m ≠ 0 := fun z => c8 ((kD_neg (by omega)).mpr z); omega⟩
          refine kx_lvv (x := .int ((nI ((m1 + 1))) - (nI (1)))) (z := .int (nI (m1))) (lv2 := [(0, .ref (K 0)), (1, .int (nI (m1)))]) (by rw [pk_sub (Nat.le_add_left 1 m1)]; rfl) 1 rfl rfl ?_
          refine kx_aload_n C dX0_knowTails_23 rfl 0 rfl ?_
          refine kx_iload_n C dX0_knowTails_24 rfl 1 rfl ?_
          refine kx_callVv (rest := []) (wr := []) C (c_fillSliceCosts E K b y o n ls bc tk hk P Wt Tv Sv Av Vv He Fk Pk m1 (by omega) HP HW) g0_188 1 rfl (by decide +kernel) ⟨Nat.le_of_ble_eq_true rfl, Nat.le_of_ble_eq_true rfl⟩ ⟨Nat.le_of_ble_eq_true rfl, Nat.le_of_ble_eq_true rfl⟩ [0, 1, 2, 3, 4, 5, 6, 7, 8, 9] [] rfl rfl (by decide) (by decide) (by decide) 0 rfl rfl rfl (Nat.le_of_ble_eq_true rfl) dX0_knowTails_25 (fun w q9 => ?_)
          obtain ⟨Sw, hS1, hS2, rfl⟩ := q9
          refine kx_eqw (ws2 := (kwW E K b y o n ls bc tk hk P Wt Tv Sw Av Vv He Fk Pk)) rfl ?_
          have hR1 := h1_lp19.sc hS2
          have lp30 : ∀ (N_lp30 : Nat) (q : Nat) (Aw : Nat → Nat) (Vw : Nat → Nat), (q ≤ 24) → (kRows n b y o P Wt Sw Aw Vw (m1 + 1)) → (∀ k, k < q → Aw (m1 * 24 + k) = tlS n b y o P Wt m1 k) → (∀ k, k < q → Vw (m1 * 24 + k) = wyS n b y o P Wt m1 k) → (∀ j, Aw j ≤ 10000000) → (∀ j, Vw j ≤ 1000000000000000000) → (24 < q + N_lp30) → kx E (rk 4 0) G 3 0 0 (kwW E K b y o n ls bc tk hk P Wt Tv Sw Aw Vw He Fk Pk) [(0, .ref (K 0)), (1, .int (nI (m1))), (2, .int (nI (q)))] 30 [] := by
            intro N_lp30
            induction N_lp30 with
            | zero =>
              intro q Aw Vw h0_lp30 h1_lp30 h2_lp30 h3_lp30 h4_lp30 h5_lp30 hm_lp30
              exact absurd hm_lp30 (by omega)
            | succ N_lp30 ih_lp30 =>
              intro q Aw Vw h0_lp30 h1_lp30 h2_lp30 h3_lp30 h4_lp30 h5_lp30 hm_lp30
              refine kx_iload_n C dX0_knowTails_30 rfl 2 rfl ?_
              refine kx_bipush (v := nI 24) C dX0_knowTails_31 (by decide +kernel) ?_
              refine kx_icmp_ge (tgt := 48) C (by omega) (by omega) dX0_knowTails_33 (by decide) (fun c10 => ?_) (fun c10 => ?_)
              · skip
                obtain rfl : 24 = q := by omega
                refine kx_iinc (v := (nI (m1)) - (nI (1))) (lv2 := [(1, .int ((nI (m1)) - (nI (1)))), (0, .ref (K 0)), (2, .int (nI (24)))]) C dX0_knowTails_48 1 rfl (kID _) (by decide) rfl ?_
                refine kx_goto (tgt := 19) C dX0_knowTails_51 (by decide) ?_
                refine kx_lv (lv2 := [(0, .ref (K 0)), (1, .int ((nI (m1)) - (nI (1))))]) [1, 0] rfl ?_
                refine kx_eqw (ws2 := (kwW E K b y o n ls bc tk hk P Wt Tv Sw Aw Vw He Fk Pk)) rfl ?_
                exact ih_lp19 m1 Sw Aw Vw (by omega) (h1_lp30.row hS1 (fun k hk => ⟨h2_lp30 k hk, h3_lp30 k hk⟩)) h4_lp30 h5_lp30 (by omega)
              · skip
                refine kx_aload_n C dX0_knowTails_36 rfl 0 rfl ?_
                refine kx_iload_n C dX0_knowTails_37 rfl 1 rfl ?_
                refine kx_iload_n C dX0_knowTails_38 rfl 2 rfl ?_
                refine kx_callVv (rest := []) (wr := []) C (c_fillTail E K b y o n ls bc tk hk P Wt Tv Sw Aw Vw He Fk Pk m1 q (by omega) H1 (by omega) hTl (fun j _ => h4_lp30 _) (fun j _ => h5_lp30 _)) g0_191 2 rfl (by decide +kernel) ⟨Nat.le_of_ble_eq_true rfl, Nat.le_of_ble_eq_true rfl⟩ ⟨Nat.le_of_ble_eq_true rfl, Nat.le_of_ble_eq_true rfl⟩ [0, 1, 2, 3, 4, 5, 6, 7, 8, 9] [] rfl rfl (by decide) (by decide) (by decide) 0 rfl rfl rfl (Nat.le_of_ble_eq_true rfl) dX0_knowTails_39 (fun w q11 => ?_)
                obtain rfl := q11
                obtain ⟨t1, t2⟩ := tail_val hTv (sl := m1) (k := q) (by omega) (by omega) (hS1 q (by omega)) h1_lp30
                refine kx_eqw (ws2 := (kwW E K b y o n ls bc tk hk P Wt Tv Sw (va_up Aw (m1 * 24 + q) (tlS n b y o P Wt m1 q)) (va_up Vw (m1 * 24 + q) (wyS n b y o P Wt m1 q)) He Fk Pk)) (by rw [← t1, ← t2]; rfl) ?_
                refine kx_iinc (v := nI (q + 1)) (lv2 := [(2, .int (nI (q + 1))), (0, .ref (K 0)), (1, .int (nI (m1)))]) C dX0_knowTails_42 2 rfl (kI1 _) (by decide) rfl ?_
                refine kx_goto (tgt := 30) C dX0_knowTails_45 (by decide) ?_
                refine kx_lv (lv2 := [(0, .ref (K 0)), (1, .int (nI (m1))), (2, .int (nI (q + 1)))]) [1, 2, 0] rfl ?_
                refine kx_eqw (ws2 := (kwW E K b y o n ls bc tk hk P Wt Tv Sw (va_up Aw (m1 * 24 + q) (tlS n b y o P Wt m1 q)) (va_up Vw (m1 * 24 + q) (wyS n b y o P Wt m1 q)) He Fk Pk)) rfl ?_
                exact ih_lp30 (q + 1) (va_up Aw (m1 * 24 + q) (tlS n b y o P Wt m1 q)) (va_up Vw (m1 * 24 + q) (wyS n b y o P Wt m1 q)) (by omega) (h1_lp30.put (by omega)) (kRowS h2_lp30 rfl) (kRowS h3_lp30 rfl) (up_le h4_lp30 (tlS_le H1 HP HW Hb Hy Ho (by omega) q)) (up_le h5_lp30 (wyS_le _ _ _ _ _ _ _ _)) (by omega)
          refine kx_iconst (v := nI 0) C dX0_knowTails_28 (by decide +kernel) ?_
          refine kx_istore_n (lv2 := [(2, .int (nI (0))), (0, .ref (K 0)), (1, .int (nI (m1)))]) C dX0_knowTails_29 rfl (by decide) rfl ?_
          refine kx_lv (lv2 := [(0, .ref (K 0)), (1, .int (nI (m1))), (2, .int (nI (0)))]) [1, 2, 0] rfl ?_
          refine kx_eqw (ws2 := (kwW E K b y o n ls bc tk hk P Wt Tv Sw Av Vv He Fk Pk)) rfl ?_
          exact lp30 25 0 Av Vv (by omega) hR1 (fun k hk => absurd hk (by omega)) (fun k hk => absurd hk (by omega)) h2_lp19 h3_lp19 (by omega)
    refine kx_aload_n C dX0_knowTails_12 rfl 0 rfl ?_
    refine kx_get (v := .int (nI (n))) (ci := 0) C kin0 0 rfl rfl 5 (by decide) fl0_41 rfl rfl dX0_knowTails_13 ?_
    refine kx_iconst (v := nI 1) C dX0_knowTails_16 (by decide +kernel) ?_
    refine kx_isubR C dX0_knowTails_17 ?_
    refine kx_istore_n (lv2 := [(1, .int ((nI (n)) - (nI (1)))), (0, .ref (K 0))]) C dX0_knowTails_18 rfl (by decide) rfl ?_
    refine kx_lv (lv2 := [(0, .ref (K 0)), (1, .int ((nI (n)) - (nI (1))))]) [1, 0] rfl ?_
    refine kx_eqw (ws2 := (kwW E K b y o n ls bc tk hk P Wt Tv Sc Ta Wa He Fk Pk)) rfl ?_
    exact lp19 41 n Sc Ta Wa (Nat.le_refl _) (fun s h1 h2 => absurd h2 (by omega)) HTa HWa (by omega)
  · skip
    have tk1 : tk = 1 := by omega
    exact hE (Nat.le_of_ble_eq_true rfl) (Nat.le_of_ble_eq_true rfl) dX0_knowTails_7 ⟨ls, bc, Tu, Sc, Ta, Wa, Fk, by rw [← tk1]; exact HO, by rw [← tk1]⟩
