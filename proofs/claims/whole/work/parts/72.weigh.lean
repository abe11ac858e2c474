set_option maxHeartbeats 4000000 in
set_option maxRecDepth 100000 in
theorem m_lay (E : KE) (J : Nat → Nat) (cd n b y o : Nat) (Wm Pm Rm Ym Tm Cm Km : Nat → Nat) (H1 : n ≤ 40) (HP : ∀ j, Pm j ≤ 99) (HW : ∀ j, Wm j ≤ 200) : kMv E yX1_lay cX1_lay 4 (rk 2 0) [.ref (J 0)] (kmW E J cd n b y o Wm Pm Rm Ym Tm Cm Km) (fun w => ∃ (Tv Cv : Nat → Nat), kTuOk b y o Tv ∧ (∀ s, s < n → ∀ k, k < 24 → Cv (s * 24 + k) = costN Pm Wm s k) ∧ w = (kmW E J cd n b y o Wm Pm Rm Ym Tv Cv Km)) := by
  refine kMv_of (cc := cX1_lay) (maxL := 4) (by decide) (Nat.le_of_ble_eq_true rfl) ?_
  intro G C hE
  have h33 : ∀ Tv : Nat → Nat, kTuOk b y o Tv → kx E (rk 2 0) G 4 0 0 (kmW E J cd n b y o Wm Pm Rm Ym Tv Cm Km) [(0, .ref (J 0))] 33 [] := by
    intro Tv hTv
    have lp35 : ∀ (N_lp35 : Nat) (s : Nat) (Cv : Nat → Nat), (s ≤ n) → (∀ z, z < s → ∀ k, k < 24 → Cv (z * 24 + k) = costN Pm Wm z k) → (n < s + N_lp35) → kx E (rk 2 0) G 4 0 0 (kmW E J cd n b y o Wm Pm Rm Ym Tv Cv Km) [(0, .ref (J 0)), (1, .int (nI (s)))] 35 [] := by
      intro N_lp35
      induction N_lp35 with
      | zero =>
        intro s Cv h0_lp35 h1_lp35 hm_lp35
        exact absurd hm_lp35 (by omega)
      | succ N_lp35 ih_lp35 =>
        intro s Cv h0_lp35 h1_lp35 hm_lp35
        have lp109 : ∀ (N_lp109 : Nat) (q : Nat) (Cv : Nat → Nat), (q ≤ 24) → (∀ z, z < s → ∀ k, k < 24 → Cv (z * 24 + k) = costN Pm Wm z k) → (∀ k, k < q → Cv (s * 24 + k) = costN Pm Wm s k) → (∀ k, q ≤ k → k < 24 → Cv (s * 24 + k) = fitN Pm Wm s k) → (s < n) → (24 < q + N_lp109) → kx E (rk 2 0) G 4 0 0 (kmW E J cd n b y o Wm Pm Rm Ym Tv Cv Km) [(0, .ref (J 0)), (1, .int (nI (s))), (2, .int (nI (gfit Pm Wm s))), (3, .int (nI (q)))] 109 [] := by
          intro N_lp109
          induction N_lp109 with
          | zero =>
            intro q Cv h0_lp109 h1_lp109 h2_lp109 h3_lp109 h4_lp109 hm_lp109
            exact absurd hm_lp109 (by omega)
          | succ N_lp109 ih_lp109 =>
            intro q Cv h0_lp109 h1_lp109 h2_lp109 h3_lp109 h4_lp109 hm_lp109
            refine kx_iload_n C dX1_lay_109 rfl 3 rfl ?_
            refine kx_bipush (v := nI 24) C dX1_lay_110 (by decide +kernel) ?_
            refine kx_icmp_ge (tgt := 145) C (by omega) (by omega) dX1_lay_112 (by decide) (fun c1 => ?_) (fun c1 => ?_)
            · skip
              obtain rfl : 24 = q := by omega
              refine kx_iinc (v := nI (s + 1)) (lv2 := [(1, .int (nI (s + 1))), (0, .ref (J 0)), (2, .int (nI (gfit Pm Wm s))), (3, .int (nI (24)))]) C dX1_lay_145 1 rfl (kI1 _) (by decide) rfl ?_
              refine kx_goto (tgt := 35) C dX1_lay_148 (by decide) ?_
              refine kx_lv (lv2 := [(0, .ref (J 0)), (1, .int (nI (s + 1)))]) [1, 0] rfl ?_
              refine kx_eqw (ws2 := (kmW E J cd n b y o Wm Pm Rm Ym Tv Cv Km)) rfl ?_
              exact ih_lp35 (s + 1) Cv (by omega) (kPrevS h1_lp109 h2_lp109) (by omega)
            · skip
              refine kx_aload_n C dX1_lay_115 rfl 0 rfl ?_
              refine kx_get (v := .ref (J 6)) (ci := 1) C kin1 0 rfl rfl 10 (by decide) fl1_26 rfl rfl dX1_lay_116 ?_
              refine kx_bipush (v := nI 24) C dX1_lay_119 (by decide +kernel) ?_
              refine kx_iload_n C dX1_lay_121 rfl 1 rfl ?_
              refine kx_imul C dX1_lay_122 ?_
              refine kx_iload_n C dX1_lay_123 rfl 3 rfl ?_
              refine kx_iadd C dX1_lay_124 ?_
              refine kx_topn (b := s * 24 + q) (by omega) ?_
              refine kx_iload_n C dX1_lay_125 rfl 2 rfl ?_
              refine kx_aload_n C dX1_lay_126 rfl 0 rfl ?_
              refine kx_get (v := .ref (J 6)) (ci := 1) C kin1 0 rfl rfl 10 (by decide) fl1_26 rfl rfl dX1_lay_127 ?_
              refine kx_bipush (v := nI 24) C dX1_lay_130 (by decide +kernel) ?_
              refine kx_iload_n C dX1_lay_132 rfl 1 rfl ?_
              refine kx_imul C dX1_lay_133 ?_
              refine kx_iload_n C dX1_lay_134 rfl 3 rfl ?_
              refine kx_iadd C dX1_lay_135 ?_
              refine kx_topn (b := s * 24 + q) (by omega) ?_
              refine kx_iald C 6 rfl (j := s * 24 + q) (by omega) (by decide) dX1_lay_136 ?_
              refine kx_isub C (by rw [h3_lp109 q (Nat.le_refl _) (by omega)]; exact le_maxN (f := fun k => fitN Pm Wm s k) (by omega)) dX1_lay_137 ?_
              refine kx_iast (ws2 := (kmW E J cd n b y o Wm Pm Rm Ym Tv (va_up Cv (s * 24 + q) ((gfit Pm Wm s) - (Cv (s * 24 + q)))) Km)) C 6 rfl (j := s * 24 + q) (v := (gfit Pm Wm s) - (Cv (s * 24 + q))) (by omega) (by decide) rfl dX1_lay_138 ?_
              refine kx_iinc (v := nI (q + 1)) (lv2 := [(3, .int (nI (q + 1))), (0, .ref (J 0)), (1, .int (nI (s))), (2, .int (nI (gfit Pm Wm s)))]) C dX1_lay_139 3 rfl (kI1 _) (by decide) rfl ?_
              refine kx_goto (tgt := 109) C dX1_lay_142 (by decide) ?_
              refine kx_lv (lv2 := [(0, .ref (J 0)), (1, .int (nI (s))), (2, .int (nI (gfit Pm Wm s))), (3, .int (nI (q + 1)))]) [1, 2, 3, 0] rfl ?_
              refine kx_eqw (ws2 := (kmW E J cd n b y o Wm Pm Rm Ym Tv (va_up Cv (s * 24 + q) ((gfit Pm Wm s) - (Cv (s * 24 + q)))) Km)) rfl ?_
              exact ih_lp109 (q + 1) (va_up Cv (s * 24 + q) ((gfit Pm Wm s) - (Cv (s * 24 + q)))) (by omega) (kPrev h1_lp109 (by omega)) (kSc3 h2_lp109 (h3_lp109 q (Nat.le_refl _) (by omega))) (kSc4 h3_lp109) h4_lp109 (by omega)
        have lp47 : ∀ (N_lp47 : Nat) (i : Nat) (Cv : Nat → Nat), (i ≤ 24) → (∀ z, z < s → ∀ k, k < 24 → Cv (z * 24 + k) = costN Pm Wm z k) → (∀ k, k < i → Cv (s * 24 + k) = fitN Pm Wm s k) → (s < n) → (24 < i + N_lp47) → kx E (rk 2 0) G 4 0 0 (kmW E J cd n b y o Wm Pm Rm Ym Tv Cv Km) [(0, .ref (J 0)), (1, .int (nI (s))), (2, .int (nI (maxN (fun k => fitN Pm Wm s k) i))), (3, .int (nI (i)))] 47 [] := by
          intro N_lp47
          induction N_lp47 with
          | zero =>
            intro i Cv h0_lp47 h1_lp47 h2_lp47 h3_lp47 hm_lp47
            exact absurd hm_lp47 (by omega)
          | succ N_lp47 ih_lp47 =>
            intro i Cv h0_lp47 h1_lp47 h2_lp47 h3_lp47 hm_lp47
            refine kx_iload_n C dX1_lay_47 rfl 3 rfl ?_
            refine kx_bipush (v := nI 24) C dX1_lay_48 (by decide +kernel) ?_
            refine kx_icmp_ge (tgt := 107) C (by omega) (by omega) dX1_lay_50 (by decide) (fun c2 => ?_) (fun c2 => ?_)
            · skip
              obtain rfl : 24 = i := by omega
              refine kx_iconst (v := nI 0) C dX1_lay_107 (by decide +kernel) ?_
              refine kx_istore_n (lv2 := [(3, .int (nI (0))), (0, .ref (J 0)), (1, .int (nI (s))), (2, .int (nI (maxN (fun k => fitN Pm Wm s k) 24)))]) C dX1_lay_108 rfl (by decide) rfl ?_
              refine kx_lv (lv2 := [(0, .ref (J 0)), (1, .int (nI (s))), (2, .int (nI (gfit Pm Wm s))), (3, .int (nI (0)))]) [1, 2, 3, 0] rfl ?_
              refine kx_eqw (ws2 := (kmW E J cd n b y o Wm Pm Rm Ym Tv Cv Km)) rfl ?_
              exact lp109 25 0 Cv (by omega) h1_lp47 (fun j hj => absurd hj (by omega)) (fun j _ hj => h2_lp47 j hj) h3_lp47 (by omega)
            · skip
              refine kx_aload_n C dX1_lay_53 rfl 0 rfl ?_
              refine kx_get (v := .ref (J 6)) (ci := 1) C kin1 0 rfl rfl 10 (by decide) fl1_26 rfl rfl dX1_lay_54 ?_
              refine kx_bipush (v := nI 24) C dX1_lay_57 (by decide +kernel) ?_
              refine kx_iload_n C dX1_lay_59 rfl 1 rfl ?_
              refine kx_imul C dX1_lay_60 ?_
              refine kx_iload_n C dX1_lay_61 rfl 3 rfl ?_
              refine kx_iadd C dX1_lay_62 ?_
              refine kx_topn (b := s * 24 + i) (by omega) ?_
              refine kx_aload_n C dX1_lay_63 rfl 0 rfl ?_
              refine kx_iload_n C dX1_lay_64 rfl 1 rfl ?_
              refine kx_iload_n C dX1_lay_65 rfl 3 rfl ?_
              refine kx_callVi (rest := [.int (nI (s * 24 + i)), .ref (J 6)]) (wr := []) C (m_fitOf E J cd n b y o Wm Pm Rm Ym Tv Cv Km s i (by omega) (by omega)) g1_76 2 rfl (by decide +kernel) ⟨Nat.le_of_ble_eq_true rfl, Nat.le_of_ble_eq_true rfl⟩ ⟨Nat.le_of_ble_eq_true rfl, Nat.le_of_ble_eq_true rfl⟩ [0, 1, 2, 3, 4, 5, 6, 7] [] rfl rfl (by decide) (by decide) (by decide) 0 rfl rfl rfl (Nat.le_of_ble_eq_true rfl) dX1_lay_66 (fun v w q3 => ?_)
              obtain ⟨rfl, rfl⟩ := q3
              refine kx_eqw (ws2 := (kmW E J cd n b y o Wm Pm Rm Ym Tv Cv Km)) rfl ?_
              refine kx_iast (ws2 := (kmW E J cd n b y o Wm Pm Rm Ym Tv (va_up Cv (s * 24 + i) (fitN Pm Wm s i)) Km)) C 6 rfl (j := s * 24 + i) (v := fitN Pm Wm s i) (by omega) (by decide) rfl dX1_lay_69 ?_
              refine kx_aload_n C dX1_lay_70 rfl 0 rfl ?_
              refine kx_get (v := .ref (J 6)) (ci := 1) C kin1 0 rfl rfl 10 (by decide) fl1_26 rfl rfl dX1_lay_71 ?_
              refine kx_bipush (v := nI 24) C dX1_lay_74 (by decide +kernel) ?_
              refine kx_iload_n C dX1_lay_76 rfl 1 rfl ?_
              refine kx_imul C dX1_lay_77 ?_
              refine kx_iload_n C dX1_lay_78 rfl 3 rfl ?_
              refine kx_iadd C dX1_lay_79 ?_
              refine kx_topn (b := s * 24 + i) (by omega) ?_
              refine kx_iald C 6 rfl (j := s * 24 + i) (by omega) (by decide) dX1_lay_80 ?_
              refine kx_topn (b := fitN Pm Wm s i) (va_up_self _ _ _) ?_
              refine kx_iload_n C dX1_lay_81 rfl 2 rfl ?_
              refine kx_icmp_le (tgt := 99) C (Nat.lt_of_le_of_lt (fitN_le HP HW _ _) (by decide)) (Nat.lt_of_le_of_lt (maxN_le (fun k => fitN_le HP HW s k) i) (by decide)) dX1_lay_82 (by decide) (fun c4 => ?_) (fun c4 => ?_)
              · skip
                refine kx_iload_n C dX1_lay_99 rfl 2 rfl ?_
                refine kx_istore_n (lv2 := [(2, .int (nI (maxN (fun k => fitN Pm Wm s k) i))), (0, .ref (J 0)), (1, .int (nI (s))), (3, .int (nI (i)))]) C dX1_lay_100 rfl (by decide) rfl ?_
                refine kx_iinc (v := nI (i + 1)) (lv2 := [(3, .int (nI (i + 1))), (2, .int (nI (maxN (fun k => fitN Pm Wm s k) i))), (0, .ref (J 0)), (1, .int (nI (s)))]) C dX1_lay_101 3 rfl (kI1 _) (by decide) rfl ?_
                refine kx_goto (tgt := 47) C dX1_lay_104 (by decide) ?_
                refine kx_lvn (a := maxN (fun k => fitN Pm Wm s k) i) (b := maxN (fun k => fitN Pm Wm s k) (i + 1)) (lv2 := [(3, .int (nI (i + 1))), (2, .int (nI (maxN (fun k => fitN Pm Wm s k) (i + 1)))), (0, .ref (J 0)), (1, .int (nI (s)))]) (by simp only [maxN]; omega) 1 rfl rfl ?_
                refine kx_lv (lv2 := [(0, .ref (J 0)), (1, .int (nI (s))), (2, .int (nI (maxN (fun k => fitN Pm Wm s k) (i + 1)))), (3, .int (nI (i + 1)))]) [2, 3, 1, 0] rfl ?_
                refine kx_eqw (ws2 := (kmW E J cd n b y o Wm Pm Rm Ym Tv (va_up Cv (s * 24 + i) (fitN Pm Wm s i)) Km)) rfl ?_
                exact ih_lp47 (i + 1) (va_up Cv (s * 24 + i) (fitN Pm Wm s i)) (by omega) (kPrev h1_lp47 (by omega)) (kSc1 h2_lp47) h3_lp47 (by omega)
              · skip
                refine kx_aload_n C dX1_lay_85 rfl 0 rfl ?_
                refine kx_get (v := .ref (J 6)) (ci := 1) C kin1 0 rfl rfl 10 (by decide) fl1_26 rfl rfl dX1_lay_86 ?_
                refine kx_bipush (v := nI 24) C dX1_lay_89 (by decide +kernel) ?_
                refine kx_iload_n C dX1_lay_91 rfl 1 rfl ?_
                refine kx_imul C dX1_lay_92 ?_
                refine kx_iload_n C dX1_lay_93 rfl 3 rfl ?_
                refine kx_iadd C dX1_lay_94 ?_
                refine kx_topn (b := s * 24 + i) (by omega) ?_
                refine kx_iald C 6 rfl (j := s * 24 + i) (by omega) (by decide) dX1_lay_95 ?_
                refine kx_topn (b := fitN Pm Wm s i) (va_up_self _ _ _) ?_
                refine kx_goto (tgt := 100) C dX1_lay_96 (by decide) ?_
                refine kx_istore_n (lv2 := [(2, .int (nI (fitN Pm Wm s i))), (0, .ref (J 0)), (1, .int (nI (s))), (3, .int (nI (i)))]) C dX1_lay_100 rfl (by decide) rfl ?_
                refine kx_iinc (v := nI (i + 1)) (lv2 := [(3, .int (nI (i + 1))), (2, .int (nI (fitN Pm Wm s i))), (0, .ref (J 0)), (1, .int (nI (s)))]) C dX1_lay_101 3 rfl (kI1 _) (by decide) rfl ?_
                refine kx_goto (tgt := 47) C dX1_lay_104 (by decide) ?_
                refine kx_lvn (a := fitN Pm Wm s i) (b := maxN (fun k => fitN Pm Wm s k) (i + 1)) (lv2 := [(3, .int (nI (i + 1))), (2, .int (nI (maxN (fun k => fitN Pm Wm s k) (i + 1)))), (0, .ref (J 0)), (1, .int (nI (s)))]) (by simp only [maxN]; omega) 1 rfl rfl ?_
                refine kx_lv (lv2 := [(0, .ref (J 0)), (1, .int (nI (s))), (2, .int (nI (maxN (fun k => fitN Pm Wm s k) (i + 1)))), (3, .int (nI (i + 1)))]) [2, 3, 1, 0] rfl ?_
                refine kx_eqw (ws2 := (kmW E J cd n b y o Wm Pm Rm Ym Tv (va_up Cv (s * 24 + i) (fitN Pm Wm s i)) Km)) rfl ?_
                exact ih_lp47 (i + 1) (va_up Cv (s * 24 + i) (fitN Pm Wm s i)) (by omega) (kPrev h1_lp47 (by omega)) (kSc1 h2_lp47) h3_lp47 (by omega)
        refine kx_iload_n C dX1_lay_35 rfl 1 rfl ?_
        refine kx_aload_n C dX1_lay_36 rfl 0 rfl ?_
        refine kx_get (v := .int (nI (n))) (ci := 1) C kin1 0 rfl rfl 1 (by decide) fl1_39 rfl rfl dX1_lay_37 ?_
        refine kx_icmp_ge (tgt := 151) C (by omega) (by omega) dX1_lay_40 (by decide) (fun c5 => ?_) (fun c5 => ?_)
        · skip
          obtain rfl : n = s := by omega
          exact hE (Nat.le_of_ble_eq_true rfl) (Nat.le_of_ble_eq_true rfl) dX1_lay_151 ⟨Tv, Cv, hTv, h1_lp35, rfl⟩
        · skip
          refine kx_iconst (v := nI 0) C dX1_lay_43 (by decide +kernel) ?_
          refine kx_istore_n (lv2 := [(2, .int (nI (0))), (0, .ref (J 0)), (1, .int (nI (s)))]) C dX1_lay_44 rfl (by decide) rfl ?_
          refine kx_iconst (v := nI 0) C dX1_lay_45 (by decide +kernel) ?_
          refine kx_istore_n (lv2 := [(3, .int (nI (0))), (2, .int (nI (0))), (0, .ref (J 0)), (1, .int (nI (s)))]) C dX1_lay_46 rfl (by decide) rfl ?_
          refine kx_lv (lv2 := [(0, .ref (J 0)), (1, .int (nI (s))), (2, .int (nI (maxN (fun k => fitN Pm Wm s k) 0))), (3, .int (nI (0)))]) [2, 3, 1, 0] rfl ?_
          refine kx_eqw (ws2 := (kmW E J cd n b y o Wm Pm Rm Ym Tv Cv Km)) rfl ?_
          exact lp47 25 0 Cv (by omega) h1_lp35 (fun j hj => absurd hj (by omega)) (by omega) (by omega)
    refine kx_iconst (v := nI 0) C dX1_lay_33 (by decide +kernel) ?_
    refine kx_istore_n (lv2 := [(1, .int (nI (0))), (0, .ref (J 0))]) C dX1_lay_34 rfl (by decide) rfl ?_
    refine kx_lv (lv2 := [(0, .ref (J 0)), (1, .int (nI (0)))]) [1, 0] rfl ?_
    refine kx_eqw (ws2 := (kmW E J cd n b y o Wm Pm Rm Ym Tv Cm Km)) rfl ?_
    exact lp35 42 0 Cm (by omega) (fun z hz => absurd hz (by omega)) (by omega)
  have lp2 : ∀ (N_lp2 : Nat) (i : Nat) (Tv : Nat → Nat), (i ≤ 576) → (∀ j, j < i → Tv j = turnN b y o (j / 24) (j % 24)) → (576 < i + N_lp2) → kx E (rk 2 0) G 4 0 0 (kmW E J cd n b y o Wm Pm Rm Ym Tv Cm Km) [(0, .ref (J 0)), (1, .int (nI (i)))] 2 [] := by
    intro N_lp2
    induction N_lp2 with
    | zero =>
      intro i Tv h0_lp2 h1_lp2 hm_lp2
      exact absurd hm_lp2 (by omega)
    | succ N_lp2 ih_lp2 =>
      intro i Tv h0_lp2 h1_lp2 hm_lp2
      refine kx_iload_n C dX1_lay_2 rfl 1 rfl ?_
      refine kx_sipush (v := nI 576) C dX1_lay_3 (by decide +kernel) ?_
      refine kx_icmp_ge (tgt := 33) C (by omega) (by omega) dX1_lay_6 (by decide) (fun c6 => ?_) (fun c6 => ?_)
      · skip
        obtain rfl : 576 = i := by omega
        refine kx_lv (lv2 := [(0, .ref (J 0))]) [0] rfl ?_
        exact h33 Tv h1_lp2
      · skip
        refine kx_aload_n C dX1_lay_9 rfl 0 rfl ?_
        refine kx_get (v := .ref (J 5)) (ci := 1) C kin1 0 rfl rfl 9 (by decide) fl1_23 rfl rfl dX1_lay_10 ?_
        refine kx_iload_n C dX1_lay_13 rfl 1 rfl ?_
        refine kx_aload_n C dX1_lay_14 rfl 0 rfl ?_
        refine kx_iload_n C dX1_lay_15 rfl 1 rfl ?_
        refine kx_bipush (v := nI 24) C dX1_lay_16 (by decide +kernel) ?_
        refine kx_idiv C (by omega) (by decide) (by decide) dX1_lay_18 ?_
        refine kx_iload_n C dX1_lay_19 rfl 1 rfl ?_
        refine kx_bipush (v := nI 24) C dX1_lay_20 (by decide +kernel) ?_
        refine kx_irem C (by omega) (by decide) (by decide) dX1_lay_22 ?_
        refine kx_callVi (rest := [.int (nI (i)), .ref (J 5)]) (wr := []) C (m_turnOf E J cd n b y o Wm Pm Rm Ym Tv Cm Km ((i) / (24)) ((i) % (24)) (by omega) (by omega)) g1_89 2 rfl (by decide +kernel) ⟨Nat.le_of_ble_eq_true rfl, Nat.le_of_ble_eq_true rfl⟩ ⟨Nat.le_of_ble_eq_true rfl, Nat.le_of_ble_eq_true rfl⟩ [0, 1, 2, 3, 4, 5, 6, 7] [] rfl rfl (by decide) (by decide) (by decide) 0 rfl rfl rfl (Nat.le_of_ble_eq_true rfl) dX1_lay_23 (fun v w q7 => ?_)
        obtain ⟨rfl, rfl⟩ := q7
        refine kx_eqw (ws2 := (kmW E J cd n b y o Wm Pm Rm Ym Tv Cm Km)) rfl ?_
        refine kx_iast (ws2 := (kmW E J cd n b y o Wm Pm Rm Ym (va_up Tv (i) (turnN b y o (i / 24) (i % 24))) Cm Km)) C 5 rfl (j := i) (v := turnN b y o (i / 24) (i % 24)) (by omega) (by decide) rfl dX1_lay_26 ?_
        refine kx_iinc (v := nI (i + 1)) (lv2 := [(1, .int (nI (i + 1))), (0, .ref (J 0))]) C dX1_lay_27 1 rfl (kI1 _) (by decide) rfl ?_
        refine kx_goto (tgt := 2) C dX1_lay_30 (by decide) ?_
        refine kx_lv (lv2 := [(0, .ref (J 0)), (1, .int (nI (i + 1)))]) [1, 0] rfl ?_
        refine kx_eqw (ws2 := (kmW E J cd n b y o Wm Pm Rm Ym (va_up Tv (i) (turnN b y o (i / 24) (i % 24))) Cm Km)) rfl ?_
        exact ih_lp2 (i + 1) (va_up Tv (i) (turnN b y o (i / 24) (i % 24))) (by omega) (kTuS2 h1_lp2) (by omega)
  refine kx_iconst (v := nI 0) C dX1_lay_0 (by decide +kernel) ?_
  refine kx_istore_n (lv2 := [(1, .int (nI (0))), (0, .ref (J 0))]) C dX1_lay_1 rfl (by decide) rfl ?_
  refine kx_lv (lv2 := [(0, .ref (J 0)), (1, .int (nI (0)))]) [1, 0] rfl ?_
  refine kx_eqw (ws2 := (kmW E J cd n b y o Wm Pm Rm Ym Tm Cm Km)) rfl ?_
  exact lp2 577 0 Tm (by omega) (fun j hj => absurd hj (by omega)) (by omega)

set_option maxHeartbeats 4000000 in
set_option maxRecDepth 100000 in
theorem m_weigh (E : KE) (J : Nat → Nat) (cd n b y o : Nat) (Wm Pm Rm Ym Tm Cm Km : Nat → Nat) (x y9 : Int32) (H1 : n ≤ 40) (Hb : b ≤ 1000) (Hy : y ≤ 1000) (Ho : o ≤ 1000) (HP : ∀ j, Pm j ≤ 99) (HW : ∀ j, Wm j ≤ 200) (HT : kTuOk b y o Tm) (HC : ∀ s, s < n → ∀ k, k < 24 → Cm (s * 24 + k) = costN Pm Wm s k) (HRm : ∀ j, Rm j ≤ 1000237600) (HYm : ∀ j, Ym j ≤ 1000000000000000000) : kMi E yX1_weigh cX1_weigh 10 (rk 0 0) [.ref (J 0), .int (x), .int (y9)] (kmW E J cd n b y o Wm Pm Rm Ym Tm Cm Km) (fun r w => ∃ Rv Yv : Nat → Nat, kRs n b y o Pm Wm (mayB x y9) Rv Yv 0 ∧ (∀ j, Rv j ≤ 1000237600) ∧ (∀ j, Yv j ≤ 1000000000000000000) ∧ r = nI (if n = 0 then 0 else minN (fun k => rsS n b y o Pm Wm (mayB x y9) 0 k) kBIG 24) ∧ w = (kmW E J cd n b y o Wm Pm Rv Yv Tm Cm Km)) := by
  refine kMi_of (cc := cX1_weigh) (maxL := 10) (by decide) (Nat.le_of_ble_eq_true rfl) ?_
  intro G C hE
  have hTl := HT.le Hb Hy Ho
  have h344 : ∀ (Rv Yv : Nat → Nat), kRs n b y o Pm Wm (mayB x y9) Rv Yv 0 → (∀ j, Rv j ≤ 1000237600) → (∀ j, Yv j ≤ 1000000000000000000) → kx E (rk 0 0) G 10 0 0 (kmW E J cd n b y o Wm Pm Rv Yv Tm Cm Km) [(0, .ref (J 0)), (1, .int (x)), (2, .int (y9))] 344 [] := by
    intro Rv Yv hR hA hY
    by_cases e0 : n = 0
    · skip
      refine kx_aload_n C dX1_weigh_344 rfl 0 rfl ?_
      refine kx_get (v := .int (nI (n))) (ci := 1) C kin1 0 rfl rfl 1 (by decide) fl1_39 rfl rfl dX1_weigh_345 ?_
      refine kx_if_ne (tgt := 355) C (by omega) dX1_weigh_348 (by decide) (fun c1 => ?_) (fun c1 => ?_)
      · skip
        exact absurd c1 (by omega)
      · skip
        refine kx_iconst (v := nI 0) C dX1_weigh_351 (by decide +kernel) ?_
        refine kx_goto (tgt := 357) C dX1_weigh_352 (by decide) ?_
        refine kx_istore_n (lv2 := [(3, .int (nI (0))), (0, .ref (J 0)), (1, .int (x)), (2, .int (y9))]) C dX1_weigh_357 rfl (by decide) rfl ?_
        refine kx_iconst (v := nI 0) C dX1_weigh_358 (by decide +kernel) ?_
        refine kx_istore (lv2 := [(4, .int (nI (0))), (3, .int (nI (0))), (0, .ref (J 0)), (1, .int (x)), (2, .int (y9))]) C dX1_weigh_359 (by decide) rfl ?_
        refine kx_iload C dX1_weigh_361 0 rfl ?_
        refine kx_bipush (v := nI 24) C dX1_weigh_363 (by decide +kernel) ?_
        refine kx_icmp_ge (tgt := 404) C (by omega) (by omega) dX1_weigh_365 (by decide) (fun c2 => ?_) (fun c2 => ?_)
        · skip
          exact absurd c2 (by decide)
        · skip
          refine kx_aload_n C dX1_weigh_368 rfl 2 rfl ?_
          refine kx_get (v := .int (nI (n))) (ci := 1) C kin1 0 rfl rfl 1 (by decide) fl1_39 rfl rfl dX1_weigh_369 ?_
          refine kx_if_le (tgt := 404) C (by omega) dX1_weigh_372 (by decide) (fun c3 => ?_) (fun c3 => ?_)
          · skip
            refine kx_iload_n C dX1_weigh_404 rfl 1 rfl ?_
            exact hE (Nat.le_of_ble_eq_true rfl) (Nat.le_of_ble_eq_true rfl) dX1_weigh_405 ⟨Rv, Yv, hR, hA, hY, congrArg nI (by rw [if_pos e0]), rfl⟩
          · skip
            exact absurd c3 (by omega)
    · skip
      have hm0 : minN Rv kBIG 24 = (if n = 0 then 0 else minN (fun k => rsS n b y o Pm Wm (mayB x y9) 0 k) kBIG 24) := by rw [if_neg e0]; exact minN_congr fun k hk => by have h := (hR 0 (Nat.le_refl _) (by omega) k hk).1; rw [Nat.zero_mul, Nat.zero_add] at h; exact h
      have lp361 : ∀ (N_lp361 : Nat) (i : Nat), (i ≤ 24) → (24 < i + N_lp361) → kx E (rk 0 0) G 10 0 0 (kmW E J cd n b y o Wm Pm Rv Yv Tm Cm Km) [(0, .ref (J 0)), (1, .int (x)), (2, .int (y9)), (3, .int (nI (minN Rv kBIG i))), (4, .int (nI (i)))] 361 [] := by
        intro N_lp361
        induction N_lp361 with
        | zero =>
          intro i h0_lp361 hm_lp361
          exact absurd hm_lp361 (by omega)
        | succ N_lp361 ih_lp361 =>
          intro i h0_lp361 hm_lp361
          refine kx_iload C dX1_weigh_361 4 rfl ?_
          refine kx_bipush (v := nI 24) C dX1_weigh_363 (by decide +kernel) ?_
          refine kx_icmp_ge (tgt := 404) C (by omega) (by omega) dX1_weigh_365 (by decide) (fun c4 => ?_) (fun c4 => ?_)
          · skip
            obtain rfl : 24 = i := by omega
            refine kx_iload_n C dX1_weigh_404 rfl 3 rfl ?_
            exact hE (Nat.le_of_ble_eq_true rfl) (Nat.le_of_ble_eq_true rfl) dX1_weigh_405 ⟨Rv, Yv, hR, hA, hY, congrArg nI hm0, rfl⟩
          · skip
            refine kx_aload_n C dX1_weigh_368 rfl 0 rfl ?_
            refine kx_get (v := .int (nI (n))) (ci := 1) C kin1 0 rfl rfl 1 (by decide) fl1_39 rfl rfl dX1_weigh_369 ?_
            refine kx_if_le (tgt := 404) C (by omega) dX1_weigh_372 (by decide) (fun c5 => ?_) (fun c5 => ?_)
            · skip
              exact absurd c5 (by omega)
            · skip
              refine kx_aload_n C dX1_weigh_375 rfl 0 rfl ?_
              refine kx_get (v := .ref (J 3)) (ci := 1) C kin1 0 rfl rfl 7 (by decide) fl1_16 rfl rfl dX1_weigh_376 ?_
              refine kx_iload C dX1_weigh_379 4 rfl ?_
              refine kx_iald C 3 rfl (j := i) (by omega) (by decide) dX1_weigh_381 ?_
              refine kx_iload_n C dX1_weigh_382 rfl 3 rfl ?_
              refine kx_icmp_ge (tgt := 396) C (by have := hA i; omega) (minN_lt31 Rv i) dX1_weigh_383 (by decide) (fun c6 => ?_) (fun c6 => ?_)
              · skip
                refine kx_iload_n C dX1_weigh_396 rfl 3 rfl ?_
                refine kx_istore_n (lv2 := [(3, .int (nI (minN Rv kBIG i))), (0, .ref (J 0)), (1, .int (x)), (2, .int (y9)), (4, .int (nI (i)))]) C dX1_weigh_397 rfl (by decide) rfl ?_
                refine kx_iinc (v := nI (i + 1)) (lv2 := [(4, .int (nI (i + 1))), (3, .int (nI (minN Rv kBIG i))), (0, .ref (J 0)), (1, .int (x)), (2, .int (y9))]) C dX1_weigh_398 4 rfl (kI1 _) (by decide) rfl ?_
                refine kx_goto (tgt := 361) C dX1_weigh_401 (by decide) ?_
                refine kx_lvn (a := minN Rv kBIG i) (b := minN Rv kBIG (i + 1)) (lv2 := [(4, .int (nI (i + 1))), (3, .int (nI (minN Rv kBIG (i + 1)))), (0, .ref (J 0)), (1, .int (x)), (2, .int (y9))]) (by simp only [minN]; omega) 1 rfl rfl ?_
                refine kx_lv (lv2 := [(0, .ref (J 0)), (1, .int (x)), (2, .int (y9)), (3, .int (nI (minN Rv kBIG (i + 1)))), (4, .int (nI (i + 1)))]) [2, 3, 4, 1, 0] rfl ?_
                refine kx_eqw (ws2 := (kmW E J cd n b y o Wm Pm Rv Yv Tm Cm Km)) rfl ?_
                exact ih_lp361 (i + 1) (by omega) (by omega)
              · skip
                refine kx_aload_n C dX1_weigh_386 rfl 0 rfl ?_
                refine kx_get (v := .ref (J 3)) (ci := 1) C kin1 0 rfl rfl 7 (by decide) fl1_16 rfl rfl dX1_weigh_387 ?_
                refine kx_iload C dX1_weigh_390 4 rfl ?_
                refine kx_iald C 3 rfl (j := i) (by omega) (by decide) dX1_weigh_392 ?_
                refine kx_goto (tgt := 397) C dX1_weigh_393 (by decide) ?_
                refine kx_istore_n (lv2 := [(3, .int (nI (Rv (i)))), (0, .ref (J 0)), (1, .int (x)), (2, .int (y9)), (4, .int (nI (i)))]) C dX1_weigh_397 rfl (by decide) rfl ?_
                refine kx_iinc (v := nI (i + 1)) (lv2 := [(4, .int (nI (i + 1))), (3, .int (nI (Rv (i)))), (0, .ref (J 0)), (1, .int (x)), (2, .int (y9))]) C dX1_weigh_398 4 rfl (kI1 _) (by decide) rfl ?_
                refine kx_goto (tgt := 361) C dX1_weigh_401 (by decide) ?_
                refine kx_lvn (a := Rv (i)) (b := minN Rv kBIG (i + 1)) (lv2 := [(4, .int (nI (i + 1))), (3, .int (nI (minN Rv kBIG (i + 1)))), (0, .ref (J 0)), (1, .int (x)), (2, .int (y9))]) (by simp only [minN]; omega) 1 rfl rfl ?_
                refine kx_lv (lv2 := [(0, .ref (J 0)), (1, .int (x)), (2, .int (y9)), (3, .int (nI (minN Rv kBIG (i + 1)))), (4, .int (nI (i + 1)))]) [2, 3, 4, 1, 0] rfl ?_
                refine kx_eqw (ws2 := (kmW E J cd n b y o Wm Pm Rv Yv Tm Cm Km)) rfl ?_
                exact ih_lp361 (i + 1) (by omega) (by omega)
      refine kx_aload_n C dX1_weigh_344 rfl 0 rfl ?_
      refine kx_get (v := .int (nI (n))) (ci := 1) C kin1 0 rfl rfl 1 (by decide) fl1_39 rfl rfl dX1_weigh_345 ?_
      refine kx_if_ne (tgt := 355) C (by omega) dX1_weigh_348 (by decide) (fun c7 => ?_) (fun c7 => ?_)
      · skip
        refine kx_ldc (v := nI 1000000000) C kc1_92 dX1_weigh_355 ?_
        refine kx_istore_n (lv2 := [(3, .int (nI (1000000000))), (0, .ref (J 0)), (1, .int (x)), (2, .int (y9))]) C dX1_weigh_357 rfl (by decide) rfl ?_
        refine kx_iconst (v := nI 0) C dX1_weigh_358 (by decide +kernel) ?_
        refine kx_istore (lv2 := [(4, .int (nI (0))), (3, .int (nI (1000000000))), (0, .ref (J 0)), (1, .int (x)), (2, .int (y9))]) C dX1_weigh_359 (by decide) rfl ?_
        refine kx_lv (lv2 := [(0, .ref (J 0)), (1, .int (x)), (2, .int (y9)), (3, .int (nI (minN Rv kBIG 0))), (4, .int (nI (0)))]) [2, 3, 4, 1, 0] rfl ?_
        refine kx_eqw (ws2 := (kmW E J cd n b y o Wm Pm Rv Yv Tm Cm Km)) rfl ?_
        exact lp361 25 0 (by omega) (by omega)
      · skip
        exact absurd c7 (by omega)
  have lp7 : ∀ (N_lp7 : Nat) (m : Nat) (Rv : Nat → Nat) (Yv : Nat → Nat), (m ≤ n) → (kRs n b y o Pm Wm (mayB x y9) Rv Yv m) → (∀ j, Rv j ≤ 1000237600) → (∀ j, Yv j ≤ 1000000000000000000) → (m < 0 + N_lp7) → kx E (rk 0 0) G 10 0 0 (kmW E J cd n b y o Wm Pm Rv Yv Tm Cm Km) [(0, .ref (J 0)), (1, .int (x)), (2, .int (y9)), (3, .int ((nI (m)) - (nI (1))))] 7 [] := by
    intro N_lp7
    induction N_lp7 with
    | zero =>
      intro m Rv Yv h0_lp7 h1_lp7 h2_lp7 h3_lp7 hm_lp7
      exact absurd hm_lp7 (by omega)
    | succ N_lp7 ih_lp7 =>
      intro m Rv Yv h0_lp7 h1_lp7 h2_lp7 h3_lp7 hm_lp7
      refine kx_iload_n C dX1_weigh_7 rfl 3 rfl ?_
      refine kx_if_ltR (tgt := 344) C dX1_weigh_8 (by decide) (fun c8 => ?_) (fun c8 => ?_)
      · skip
        obtain rfl : m = 0 := (kD_neg (by omega)).mp c8
        refine kx_lv (lv2 := [(0, .ref (J 0)), (1, .int (x)), (2, .int (y9))]) [0, 1, 2] rfl ?_
        exact h344 _ _ h1_lp7 h2_lp7 h3_lp7
      · skip
        obtain ⟨m1, rfl⟩ : ∃ x, m = x + 1 := ⟨m - 1, by have hz : m ≠ 0 := fun z => c8 ((kD_neg (by omega)).mpr z); omega⟩
        refine kx_lvv (x := .int ((nI ((m1 + 1))) - (nI (1)))) (z := .int (nI (m1))) (lv2 := [(0, .ref (J 0)), (1, .int (x)), (2, .int (y9)), (3, .int (nI (m1)))]) (by rw [pk_sub (Nat.le_add_left 1 m1)]; rfl) 3 rfl rfl ?_
        have lp14 : ∀ (N_lp14 : Nat) (q : Nat) (Rw : Nat → Nat) (Yw : Nat → Nat), (q ≤ 24) → (kRs n b y o Pm Wm (mayB x y9) Rw Yw (m1 + 1)) → (∀ k, k < q → Rw (m1 * 24 + k) = rsS n b y o Pm Wm (mayB x y9) m1 k) → (∀ k, k < q → Yw (m1 * 24 + k) = ysS n b y o Pm Wm (mayB x y9) m1 k) → (∀ j, Rw j ≤ 1000237600) → (∀ j, Yw j ≤ 1000000000000000000) → (m1 < n) → (24 < q + N_lp14) → kx E (rk 0 0) G 10 0 0 (kmW E J cd n b y o Wm Pm Rw Yw Tm Cm Km) [(0, .ref (J 0)), (1, .int (x)), (2, .int (y9)), (3, .int (nI (m1))), (4, .int (nI (q)))] 14 [] := by
          intro N_lp14
          induction N_lp14 with
          | zero =>
            intro q Rw Yw h0_lp14 h1_lp14 h2_lp14 h3_lp14 h4_lp14 h5_lp14 h6_lp14 hm_lp14
            exact absurd hm_lp14 (by omega)
          | succ N_lp14 ih_lp14 =>
            intro q Rw Yw h0_lp14 h1_lp14 h2_lp14 h3_lp14 h4_lp14 h5_lp14 h6_lp14 hm_lp14
            have h255 : q < 24 → ∀ X Y : Nat, X ≤ 1000000000 → Y ≤ 1000000000000000000 → rsS n b y o Pm Wm (mayB x y9) m1 q = (if (mayB x y9) m1 q then X + costN Pm Wm m1 q else kBIG) → ysS n b y o Pm Wm (mayB x y9) m1 q = (if (mayB x y9) m1 q then Y else 0) → kx E (rk 0 0) G 10 0 0 (kmW E J cd n b y o Wm Pm (va_up Rw (m1 * 24 + q) X) (va_up Yw (m1 * 24 + q) Y) Tm Cm Km) [(0, .ref (J 0)), (1, .int (x)), (2, .int (y9)), (3, .int (nI (m1))), (4, .int (nI (q))), (5, .int (nI (m1 * 24 + q)))] 255 [] := by
              intro hq24 X Y hX hY hrs hys
              refine kx_iload_n C dX1_weigh_255 rfl 3 rfl ?_
              refine kx_iload_n C dX1_weigh_256 rfl 1 rfl ?_
              refine kx_icmp_neR (tgt := 270) C dX1_weigh_257 (by decide) (fun c9 => ?_) (fun c9 => ?_)
              · skip
                have hmay : (mayB x y9) m1 q = true := may_t c9
                refine kx_iconst (v := nI 1) C dX1_weigh_270 (by decide +kernel) ?_
                refine kx_goto (tgt := 275) C dX1_weigh_271 (by decide) ?_
                refine kx_istore (lv2 := [(6, .int (nI (1))), (0, .ref (J 0)), (1, .int (x)), (2, .int (y9)), (3, .int (nI (m1))), (4, .int (nI (q))), (5, .int (nI (m1 * 24 + q)))]) C dX1_weigh_275 (by decide) rfl ?_
                refine kx_aload_n C dX1_weigh_277 rfl 1 rfl ?_
                refine kx_get (v := .ref (J 3)) (ci := 1) C kin1 0 rfl rfl 7 (by decide) fl1_16 rfl rfl dX1_weigh_278 ?_
                refine kx_iload C dX1_weigh_281 6 rfl ?_
                refine kx_iload C dX1_weigh_283 0 rfl ?_
                refine kx_if_eq (tgt := 306) C (by omega) dX1_weigh_285 (by decide) (fun c10 => ?_) (fun c10 => ?_)
                · skip
                  exact absurd c10 (by decide)
                · skip
                  refine kx_aload_n C dX1_weigh_288 rfl 1 rfl ?_
                  refine kx_get (v := .ref (J 3)) (ci := 1) C kin1 0 rfl rfl 7 (by decide) fl1_16 rfl rfl dX1_weigh_289 ?_
                  refine kx_iload C dX1_weigh_292 6 rfl ?_
                  refine kx_iald C 3 rfl (j := m1 * 24 + q) (by omega) (by decide) dX1_weigh_294 ?_
                  refine kx_topn (b := X) (va_up_self _ _ _) ?_
                  refine kx_aload_n C dX1_weigh_295 rfl 1 rfl ?_
                  refine kx_get (v := .ref (J 6)) (ci := 1) C kin1 0 rfl rfl 10 (by decide) fl1_26 rfl rfl dX1_weigh_296 ?_
                  refine kx_iload C dX1_weigh_299 6 rfl ?_
                  refine kx_iald C 6 rfl (j := m1 * 24 + q) (by omega) (by decide) dX1_weigh_301 ?_
                  refine kx_topn (b := costN Pm Wm m1 q) (HC m1 (by omega) q hq24) ?_
                  refine kx_iadd C dX1_weigh_302 ?_
                  refine kx_goto (tgt := 308) C dX1_weigh_303 (by decide) ?_
                  refine kx_topn (b := rsS n b y o Pm Wm (mayB x y9) m1 q) (by rw [hrs, hmay]; rfl) ?_
                  refine kx_iast (ws2 := (kmW E J cd n b y o Wm Pm (va_up (va_up Rw (m1 * 24 + q) X) (m1 * 24 + q) (rsS n b y o Pm Wm (mayB x y9) m1 q)) (va_up Yw (m1 * 24 + q) Y) Tm Cm Km)) C 3 rfl (j := m1 * 24 + q) (v := rsS n b y o Pm Wm (mayB x y9) m1 q) (by omega) (by decide) rfl dX1_weigh_308 ?_
                  refine kx_eqw (ws2 := (kmW E J cd n b y o Wm Pm (va_up Rw (m1 * 24 + q) (rsS n b y o Pm Wm (mayB x y9) m1 q)) (va_up Yw (m1 * 24 + q) Y) Tm Cm Km)) (by rw [← bx_uu Rw (m1 * 24 + q) X (rsS n b y o Pm Wm (mayB x y9) m1 q)]) ?_
                  refine kx_aload_n C dX1_weigh_309 rfl 1 rfl ?_
                  refine kx_get (v := .ref (J 4)) (ci := 1) C kin1 0 rfl rfl 8 (by decide) fl1_19 rfl rfl dX1_weigh_310 ?_
                  refine kx_iload C dX1_weigh_313 6 rfl ?_
                  refine kx_iload C dX1_weigh_315 0 rfl ?_
                  refine kx_if_eq (tgt := 330) C (by omega) dX1_weigh_317 (by decide) (fun c11 => ?_) (fun c11 => ?_)
                  · skip
                    exact absurd c11 (by decide)
                  · skip
                    refine kx_aload_n C dX1_weigh_320 rfl 1 rfl ?_
                    refine kx_get (v := .ref (J 4)) (ci := 1) C kin1 0 rfl rfl 8 (by decide) fl1_19 rfl rfl dX1_weigh_321 ?_
                    refine kx_iload C dX1_weigh_324 6 rfl ?_
                    refine kx_lald C 4 rfl (j := m1 * 24 + q) (by omega) (by decide) dX1_weigh_326 ?_
                    refine kx_topL (b := Y) (va_up_self _ _ _) ?_
                    refine kx_goto (tgt := 331) C dX1_weigh_327 (by decide) ?_
                    refine kx_topL (b := ysS n b y o Pm Wm (mayB x y9) m1 q) (by rw [hys, hmay]; rfl) ?_
                    refine kx_last (ws2 := (kmW E J cd n b y o Wm Pm (va_up Rw (m1 * 24 + q) (rsS n b y o Pm Wm (mayB x y9) m1 q)) (va_up (va_up Yw (m1 * 24 + q) Y) (m1 * 24 + q) (ysS n b y o Pm Wm (mayB x y9) m1 q)) Tm Cm Km)) C 4 rfl (j := m1 * 24 + q) (v := ysS n b y o Pm Wm (mayB x y9) m1 q) (by omega) (by decide) rfl dX1_weigh_331 ?_
                    refine kx_eqw (ws2 := (kmW E J cd n b y o Wm Pm (va_up Rw (m1 * 24 + q) (rsS n b y o Pm Wm (mayB x y9) m1 q)) (va_up Yw (m1 * 24 + q) (ysS n b y o Pm Wm (mayB x y9) m1 q)) Tm Cm Km)) (by rw [← bx_uu Yw (m1 * 24 + q) Y (ysS n b y o Pm Wm (mayB x y9) m1 q)]) ?_
                    refine kx_iinc (v := nI (q + 1)) (lv2 := [(4, .int (nI (q + 1))), (6, .int (nI (1))), (0, .ref (J 0)), (1, .int (x)), (2, .int (y9)), (3, .int (nI (m1))), (5, .int (nI (m1 * 24 + q)))]) C dX1_weigh_332 5 rfl (kI1 _) (by decide) rfl ?_
                    refine kx_goto (tgt := 14) C dX1_weigh_335 (by decide) ?_
                    refine kx_lv (lv2 := [(0, .ref (J 0)), (1, .int (x)), (2, .int (y9)), (3, .int (nI (m1))), (4, .int (nI (q + 1)))]) [2, 3, 4, 5, 0] rfl ?_
                    refine kx_eqw (ws2 := (kmW E J cd n b y o Wm Pm (va_up Rw (m1 * 24 + q) (rsS n b y o Pm Wm (mayB x y9) m1 q)) (va_up Yw (m1 * 24 + q) (ysS n b y o Pm Wm (mayB x y9) m1 q)) Tm Cm Km)) rfl ?_
                    exact ih_lp14 (q + 1) (va_up Rw (m1 * 24 + q) (rsS n b y o Pm Wm (mayB x y9) m1 q)) (va_up Yw (m1 * 24 + q) (ysS n b y o Pm Wm (mayB x y9) m1 q)) (by omega) (h1_lp14.put (by omega)) (kRowS h2_lp14 rfl) (kRowS h3_lp14 rfl) (up_le h4_lp14 (rsS_le HP HW _ _)) (up_le h5_lp14 (ysS_le _ _ _ _ _ _ _ _ _)) h6_lp14 (by omega)
              · skip
                refine kx_iload_n C dX1_weigh_260 rfl 2 rfl ?_
                refine kx_iload C dX1_weigh_261 4 rfl ?_
                refine kx_ishrR C dX1_weigh_263 ?_
                refine kx_iconst (v := nI 1) C dX1_weigh_264 (by decide +kernel) ?_
                refine kx_iandR C dX1_weigh_265 ?_
                refine kx_iconst (v := nI 1) C dX1_weigh_266 (by decide +kernel) ?_
                refine kx_icmp_neR (tgt := 274) C dX1_weigh_267 (by decide) (fun c12 => ?_) (fun c12 => ?_)
                · skip
                  have hmay : (mayB x y9) m1 q = false := may_f c9 c12
                  refine kx_iconst (v := nI 0) C dX1_weigh_274 (by decide +kernel) ?_
                  refine kx_istore (lv2 := [(6, .int (nI (0))), (0, .ref (J 0)), (1, .int (x)), (2, .int (y9)), (3, .int (nI (m1))), (4, .int (nI (q))), (5, .int (nI (m1 * 24 + q)))]) C dX1_weigh_275 (by decide) rfl ?_
                  refine kx_aload_n C dX1_weigh_277 rfl 1 rfl ?_
                  refine kx_get (v := .ref (J 3)) (ci := 1) C kin1 0 rfl rfl 7 (by decide) fl1_16 rfl rfl dX1_weigh_278 ?_
                  refine kx_iload C dX1_weigh_281 6 rfl ?_
                  refine kx_iload C dX1_weigh_283 0 rfl ?_
                  refine kx_if_eq (tgt := 306) C (by omega) dX1_weigh_285 (by decide) (fun c13 => ?_) (fun c13 => ?_)
                  · skip
                    refine kx_ldc (v := nI 1000000000) C kc1_92 dX1_weigh_306 ?_
                    refine kx_topn (b := rsS n b y o Pm Wm (mayB x y9) m1 q) (by rw [hrs, hmay]; rfl) ?_
                    refine kx_iast (ws2 := (kmW E J cd n b y o Wm Pm (va_up (va_up Rw (m1 * 24 + q) X) (m1 * 24 + q) (rsS n b y o Pm Wm (mayB x y9) m1 q)) (va_up Yw (m1 * 24 + q) Y) Tm Cm Km)) C 3 rfl (j := m1 * 24 + q) (v := rsS n b y o Pm Wm (mayB x y9) m1 q) (by omega) (by decide) rfl dX1_weigh_308 ?_
                    refine kx_eqw (ws2 := (kmW E J cd n b y o Wm Pm (va_up Rw (m1 * 24 + q) (rsS n b y o Pm Wm (mayB x y9) m1 q)) (va_up Yw (m1 * 24 + q) Y) Tm Cm Km)) (by rw [← bx_uu Rw (m1 * 24 + q) X (rsS n b y o Pm Wm (mayB x y9) m1 q)]) ?_
                    refine kx_aload_n C dX1_weigh_309 rfl 1 rfl ?_
                    refine kx_get (v := .ref (J 4)) (ci := 1) C kin1 0 rfl rfl 8 (by decide) fl1_19 rfl rfl dX1_weigh_310 ?_
                    refine kx_iload C dX1_weigh_313 6 rfl ?_
                    refine kx_iload C dX1_weigh_315 0 rfl ?_
                    refine kx_if_eq (tgt := 330) C (by omega) dX1_weigh_317 (by decide) (fun c14 => ?_) (fun c14 => ?_)
                    · skip
                      refine kx_lconst (v := lN 0) C dX1_weigh_330 (by decide +kernel) ?_
                      refine kx_topL (b := ysS n b y o Pm Wm (mayB x y9) m1 q) (by rw [hys, hmay]; rfl) ?_
                      refine kx_last (ws2 := (kmW E J cd n b y o Wm Pm (va_up Rw (m1 * 24 + q) (rsS n b y o Pm Wm (mayB x y9) m1 q)) (va_up (va_up Yw (m1 * 24 + q) Y) (m1 * 24 + q) (ysS n b y o Pm Wm (mayB x y9) m1 q)) Tm Cm Km)) C 4 rfl (j := m1 * 24 + q) (v := ysS n b y o Pm Wm (mayB x y9) m1 q) (by omega) (by decide) rfl dX1_weigh_331 ?_
                      refine kx_eqw (ws2 := (kmW E J cd n b y o Wm Pm (va_up Rw (m1 * 24 + q) (rsS n b y o Pm Wm (mayB x y9) m1 q)) (va_up Yw (m1 * 24 + q) (ysS n b y o Pm Wm (mayB x y9) m1 q)) Tm Cm Km)) (by rw [← bx_uu Yw (m1 * 24 + q) Y (ysS n b y o Pm Wm (mayB x y9) m1 q)]) ?_
                      refine kx_iinc (v := nI (q + 1)) (lv2 := [(4, .int (nI (q + 1))), (6, .int (nI (0))), (0, .ref (J 0)), (1, .int (x)), (2, .int (y9)), (3, .int (nI (m1))), (5, .int (nI (m1 * 24 + q)))]) C dX1_weigh_332 5 rfl (kI1 _) (by decide) rfl ?_
                      refine kx_goto (tgt := 14) C dX1_weigh_335 (by decide) ?_
                      refine kx_lv (lv2 := [(0, .ref (J 0)), (1, .int (x)), (2, .int (y9)), (3, .int (nI (m1))), (4, .int (nI (q + 1)))]) [2, 3, 4, 5, 0] rfl ?_
                      refine kx_eqw (ws2 := (kmW E J cd n b y o Wm Pm (va_up Rw (m1 * 24 + q) (rsS n b y o Pm Wm (mayB x y9) m1 q)) (va_up Yw (m1 * 24 + q) (ysS n b y o Pm Wm (mayB x y9) m1 q)) Tm Cm Km)) rfl ?_
                      exact ih_lp14 (q + 1) (va_up Rw (m1 * 24 + q) (rsS n b y o Pm Wm (mayB x y9) m1 q)) (va_up Yw (m1 * 24 + q) (ysS n b y o Pm Wm (mayB x y9) m1 q)) (by omega) (h1_lp14.put (by omega)) (kRowS h2_lp14 rfl) (kRowS h3_lp14 rfl) (up_le h4_lp14 (rsS_le HP HW _ _)) (up_le h5_lp14 (ysS_le _ _ _ _ _ _ _ _ _)) h6_lp14 (by omega)
                    · skip
                      exact absurd c14 (by decide)
                  · skip
                    exact absurd c13 (by decide)
                · skip
                  have hmay : (mayB x y9) m1 q = true := may_b c12
                  refine kx_iconst (v := nI 1) C dX1_weigh_270 (by decide +kernel) ?_
                  refine kx_goto (tgt := 275) C dX1_weigh_271 (by decide) ?_
                  refine kx_istore (lv2 := [(6, .int (nI (1))), (0, .ref (J 0)), (1, .int (x)), (2, .int (y9)), (3, .int (nI (m1))), (4, .int (nI (q))), (5, .int (nI (m1 * 24 + q)))]) C dX1_weigh_275 (by decide) rfl ?_
                  refine kx_aload_n C dX1_weigh_277 rfl 1 rfl ?_
                  refine kx_get (v := .ref (J 3)) (ci := 1) C kin1 0 rfl rfl 7 (by decide) fl1_16 rfl rfl dX1_weigh_278 ?_
                  refine kx_iload C dX1_weigh_281 6 rfl ?_
                  refine kx_iload C dX1_weigh_283 0 rfl ?_
                  refine kx_if_eq (tgt := 306) C (by omega) dX1_weigh_285 (by decide) (fun c15 => ?_) (fun c15 => ?_)
                  · skip
                    exact absurd c15 (by decide)
                  · skip
                    refine kx_aload_n C dX1_weigh_288 rfl 1 rfl ?_
                    refine kx_get (v := .ref (J 3)) (ci := 1) C kin1 0 rfl rfl 7 (by decide) fl1_16 rfl rfl dX1_weigh_289 ?_
                    refine kx_iload C dX1_weigh_292 6 rfl ?_
                    refine kx_iald C 3 rfl (j := m1 * 24 + q) (by omega) (by decide) dX1_weigh_294 ?_
                    refine kx_topn (b := X) (va_up_self _ _ _) ?_
                    refine kx_aload_n C dX1_weigh_295 rfl 1 rfl ?_
                    refine kx_get (v := .ref (J 6)) (ci := 1) C kin1 0 rfl rfl 10 (by decide) fl1_26 rfl rfl dX1_weigh_296 ?_
                    refine kx_iload C dX1_weigh_299 6 rfl ?_
                    refine kx_iald C 6 rfl (j := m1 * 24 + q) (by omega) (by decide) dX1_weigh_301 ?_
                    refine kx_topn (b := costN Pm Wm m1 q) (HC m1 (by omega) q hq24) ?_
                    refine kx_iadd C dX1_weigh_302 ?_
                    refine kx_goto (tgt := 308) C dX1_weigh_303 (by decide) ?_
                    refine kx_topn (b := rsS n b y o Pm Wm (mayB x y9) m1 q) (by rw [hrs, hmay]; rfl) ?_
                    refine kx_iast (ws2 := (kmW E J cd n b y o Wm Pm (va_up (va_up Rw (m1 * 24 + q) X) (m1 * 24 + q) (rsS n b y o Pm Wm (mayB x y9) m1 q)) (va_up Yw (m1 * 24 + q) Y) Tm Cm Km)) C 3 rfl (j := m1 * 24 + q) (v := rsS n b y o Pm Wm (mayB x y9) m1 q) (by omega) (by decide) rfl dX1_weigh_308 ?_
                    refine kx_eqw (ws2 := (kmW E J cd n b y o Wm Pm (va_up Rw (m1 * 24 + q) (rsS n b y o Pm Wm (mayB x y9) m1 q)) (va_up Yw (m1 * 24 + q) Y) Tm Cm Km)) (by rw [← bx_uu Rw (m1 * 24 + q) X (rsS n b y o Pm Wm (mayB x y9) m1 q)]) ?_
                    refine kx_aload_n C dX1_weigh_309 rfl 1 rfl ?_
                    refine kx_get (v := .ref (J 4)) (ci := 1) C kin1 0 rfl rfl 8 (by decide) fl1_19 rfl rfl dX1_weigh_310 ?_
                    refine kx_iload C dX1_weigh_313 6 rfl ?_
                    refine kx_iload C dX1_weigh_315 0 rfl ?_
                    refine kx_if_eq (tgt := 330) C (by omega) dX1_weigh_317 (by decide) (fun c16 => ?_) (fun c16 => ?_)
                    · skip
                      exact absurd c16 (by decide)
                    · skip
                      refine kx_aload_n C dX1_weigh_320 rfl 1 rfl ?_
                      refine kx_get (v := .ref (J 4)) (ci := 1) C kin1 0 rfl rfl 8 (by decide) fl1_19 rfl rfl dX1_weigh_321 ?_
                      refine kx_iload C dX1_weigh_324 6 rfl ?_
                      refine kx_lald C 4 rfl (j := m1 * 24 + q) (by omega) (by decide) dX1_weigh_326 ?_
                      refine kx_topL (b := Y) (va_up_self _ _ _) ?_
                      refine kx_goto (tgt := 331) C dX1_weigh_327 (by decide) ?_
                      refine kx_topL (b := ysS n b y o Pm Wm (mayB x y9) m1 q) (by rw [hys, hmay]; rfl) ?_
                      refine kx_last (ws2 := (kmW E J cd n b y o Wm Pm (va_up Rw (m1 * 24 + q) (rsS n b y o Pm Wm (mayB x y9) m1 q)) (va_up (va_up Yw (m1 * 24 + q) Y) (m1 * 24 + q) (ysS n b y o Pm Wm (mayB x y9) m1 q)) Tm Cm Km)) C 4 rfl (j := m1 * 24 + q) (v := ysS n b y o Pm Wm (mayB x y9) m1 q) (by omega) (by decide) rfl dX1_weigh_331 ?_
                      refine kx_eqw (ws2 := (kmW E J cd n b y o Wm Pm (va_up Rw (m1 * 24 + q) (rsS n b y o Pm Wm (mayB x y9) m1 q)) (va_up Yw (m1 * 24 + q) (ysS n b y o Pm Wm (mayB x y9) m1 q)) Tm Cm Km)) (by rw [← bx_uu Yw (m1 * 24 + q) Y (ysS n b y o Pm Wm (mayB x y9) m1 q)]) ?_
                      refine kx_iinc (v := nI (q + 1)) (lv2 := [(4, .int (nI (q + 1))), (6, .int (nI (1))), (0, .ref (J 0)), (1, .int (x)), (2, .int (y9)), (3, .int (nI (m1))), (5, .int (nI (m1 * 24 + q)))]) C dX1_weigh_332 5 rfl (kI1 _) (by decide) rfl ?_
                      refine kx_goto (tgt := 14) C dX1_weigh_335 (by decide) ?_
                      refine kx_lv (lv2 := [(0, .ref (J 0)), (1, .int (x)), (2, .int (y9)), (3, .int (nI (m1))), (4, .int (nI (q + 1)))]) [2, 3, 4, 5, 0] rfl ?_
                      refine kx_eqw (ws2 := (kmW E J cd n b y o Wm Pm (va_up Rw (m1 * 24 + q) (rsS n b y o Pm Wm (mayB x y9) m1 q)) (va_up Yw (m1 * 24 + q) (ysS n b y o Pm Wm (mayB x y9) m1 q)) Tm Cm Km)) rfl ?_
                      exact ih_lp14 (q + 1) (va_up Rw (m1 * 24 + q) (rsS n b y o Pm Wm (mayB x y9) m1 q)) (va_up Yw (m1 * 24 + q) (ysS n b y o Pm Wm (mayB x y9) m1 q)) (by omega) (h1_lp14.put (by omega)) (kRowS h2_lp14 rfl) (kRowS h3_lp14 rfl) (up_le h4_lp14 (rsS_le HP HW _ _)) (up_le h5_lp14 (ysS_le _ _ _ _ _ _ _ _ _)) h6_lp14 (by omega)
            refine kx_iload C dX1_weigh_14 4 rfl ?_
            refine kx_bipush (v := nI 24) C dX1_weigh_16 (by decide +kernel) ?_
            refine kx_icmp_ge (tgt := 338) C (by omega) (by omega) dX1_weigh_18 (by decide) (fun c17 => ?_) (fun c17 => ?_)
            · skip
              obtain rfl : 24 = q := by omega
              refine kx_iinc (v := (nI (m1)) - (nI (1))) (lv2 := [(3, .int ((nI (m1)) - (nI (1)))), (0, .ref (J 0)), (1, .int (x)), (2, .int (y9)), (4, .int (nI (24)))]) C dX1_weigh_338 3 rfl (kID _) (by decide) rfl ?_
              refine kx_goto (tgt := 7) C dX1_weigh_341 (by decide) ?_
              refine kx_lv (lv2 := [(0, .ref (J 0)), (1, .int (x)), (2, .int (y9)), (3, .int ((nI (m1)) - (nI (1))))]) [1, 2, 3, 0] rfl ?_
              refine kx_eqw (ws2 := (kmW E J cd n b y o Wm Pm Rw Yw Tm Cm Km)) rfl ?_
              exact ih_lp7 m1 Rw Yw (by omega) (h1_lp14.row h2_lp14 h3_lp14) h4_lp14 h5_lp14 (by omega)
            · skip
              refine kx_bipush (v := nI 24) C dX1_weigh_21 (by decide +kernel) ?_
              refine kx_iload_n C dX1_weigh_23 rfl 3 rfl ?_
              refine kx_imul C dX1_weigh_24 ?_
              refine kx_iload C dX1_weigh_25 4 rfl ?_
              refine kx_iadd C dX1_weigh_27 ?_
              refine kx_topn (b := m1 * 24 + q) (by omega) ?_
              refine kx_istore (lv2 := [(5, .int (nI (m1 * 24 + q))), (0, .ref (J 0)), (1, .int (x)), (2, .int (y9)), (3, .int (nI (m1))), (4, .int (nI (q)))]) C dX1_weigh_28 (by decide) rfl ?_
              by_cases eL : m1 = n - 1
              · skip
                refine kx_aload_n C dX1_weigh_30 rfl 1 rfl ?_
                refine kx_get (v := .ref (J 3)) (ci := 1) C kin1 0 rfl rfl 7 (by decide) fl1_16 rfl rfl dX1_weigh_31 ?_
                refine kx_iload C dX1_weigh_34 0 rfl ?_
                refine kx_iload_n C dX1_weigh_36 rfl 4 rfl ?_
                refine kx_aload_n C dX1_weigh_37 rfl 1 rfl ?_
                refine kx_get (v := .int (nI (n))) (ci := 1) C kin1 0 rfl rfl 1 (by decide) fl1_39 rfl rfl dX1_weigh_38 ?_
                refine kx_iconst (v := nI 1) C dX1_weigh_41 (by decide +kernel) ?_
                refine kx_isub C (by omega) dX1_weigh_42 ?_
                refine kx_icmp_ne (tgt := 50) C (by omega) (by omega) dX1_weigh_43 (by decide) (fun c18 => ?_) (fun c18 => ?_)
                · skip
                  exact absurd c18 (by omega)
                · skip
                  refine kx_iconst (v := nI 0) C dX1_weigh_46 (by decide +kernel) ?_
                  refine kx_goto (tgt := 52) C dX1_weigh_47 (by decide) ?_
                  refine kx_iast (ws2 := (kmW E J cd n b y o Wm Pm (va_up Rw (m1 * 24 + q) (0)) Yw Tm Cm Km)) C 3 rfl (j := m1 * 24 + q) (v := 0) (by omega) (by decide) rfl dX1_weigh_52 ?_
                  refine kx_aload_n C dX1_weigh_53 rfl 1 rfl ?_
                  refine kx_get (v := .ref (J 4)) (ci := 1) C kin1 0 rfl rfl 8 (by decide) fl1_19 rfl rfl dX1_weigh_54 ?_
                  refine kx_iload C dX1_weigh_57 0 rfl ?_
                  refine kx_iload_n C dX1_weigh_59 rfl 4 rfl ?_
                  refine kx_aload_n C dX1_weigh_60 rfl 1 rfl ?_
                  refine kx_get (v := .int (nI (n))) (ci := 1) C kin1 0 rfl rfl 1 (by decide) fl1_39 rfl rfl dX1_weigh_61 ?_
                  refine kx_iconst (v := nI 1) C dX1_weigh_64 (by decide +kernel) ?_
                  refine kx_isub C (by omega) dX1_weigh_65 ?_
                  refine kx_icmp_ne (tgt := 73) C (by omega) (by omega) dX1_weigh_66 (by decide) (fun c19 => ?_) (fun c19 => ?_)
                  · skip
                    exact absurd c19 (by omega)
                  · skip
                    refine kx_lconst (v := lN 1) C dX1_weigh_69 (by decide +kernel) ?_
                    refine kx_goto (tgt := 74) C dX1_weigh_70 (by decide) ?_
                    refine kx_last (ws2 := (kmW E J cd n b y o Wm Pm (va_up Rw (m1 * 24 + q) (0)) (va_up Yw (m1 * 24 + q) (1)) Tm Cm Km)) C 4 rfl (j := m1 * 24 + q) (v := 1) (by omega) (by decide) rfl dX1_weigh_74 ?_
                    refine kx_iconst (v := nI 0) C dX1_weigh_75 (by decide +kernel) ?_
                    refine kx_istore (lv2 := [(6, .int (nI (0))), (5, .int (nI (m1 * 24 + q))), (0, .ref (J 0)), (1, .int (x)), (2, .int (y9)), (3, .int (nI (m1))), (4, .int (nI (q)))]) C dX1_weigh_76 (by decide) rfl ?_
                    refine kx_iload C dX1_weigh_78 0 rfl ?_
                    refine kx_bipush (v := nI 24) C dX1_weigh_80 (by decide +kernel) ?_
                    refine kx_icmp_ge (tgt := 255) C (by omega) (by omega) dX1_weigh_82 (by decide) (fun c20 => ?_) (fun c20 => ?_)
                    · skip
                      exact absurd c20 (by decide)
                    · skip
                      refine kx_iload_n C dX1_weigh_85 rfl 5 rfl ?_
                      refine kx_aload_n C dX1_weigh_86 rfl 2 rfl ?_
                      refine kx_get (v := .int (nI (n))) (ci := 1) C kin1 0 rfl rfl 1 (by decide) fl1_39 rfl rfl dX1_weigh_87 ?_
                      refine kx_iconst (v := nI 1) C dX1_weigh_90 (by decide +kernel) ?_
                      refine kx_isub C (by omega) dX1_weigh_91 ?_
                      refine kx_icmp_ge (tgt := 255) C (by omega) (by omega) dX1_weigh_92 (by decide) (fun c21 => ?_) (fun c21 => ?_)
                      · skip
                        refine kx_lv (lv2 := [(0, .ref (J 0)), (1, .int (x)), (2, .int (y9)), (3, .int (nI (m1))), (4, .int (nI (q))), (5, .int (nI (m1 * 24 + q)))]) [2, 3, 4, 5, 6, 1] rfl ?_
                        exact h255 (by omega) 0 1 (by decide) (by decide) (rs_last eL).1 (rs_last eL).2
                      · skip
                        exact absurd c21 (by omega)
              · skip
                have lp78 : ∀ (N_lp78 : Nat) (i : Nat), (i ≤ 24) → (24 < i + N_lp78) → kx E (rk 0 0) G 10 0 0 (kmW E J cd n b y o Wm Pm (va_up Rw (m1 * 24 + q) (minN (fun to => Tm (q * 24 + to) + Rw ((m1 + 1) * 24 + to)) kBIG i)) (va_up Yw (m1 * 24 + q) (cntN (fun to => Tm (q * 24 + to) + Rw ((m1 + 1) * 24 + to)) (fun to => Yw ((m1 + 1) * 24 + to)) i)) Tm Cm Km) [(0, .ref (J 0)), (1, .int (x)), (2, .int (y9)), (3, .int (nI (m1))), (4, .int (nI (q))), (5, .int (nI (m1 * 24 + q))), (6, .int (nI (i)))] 78 [] := by
                  intro N_lp78
                  induction N_lp78 with
                  | zero =>
                    intro i h0_lp78 hm_lp78
                    exact absurd hm_lp78 (by omega)
                  | succ N_lp78 ih_lp78 =>
                    intro i h0_lp78 hm_lp78
                    refine kx_iload C dX1_weigh_78 6 rfl ?_
                    refine kx_bipush (v := nI 24) C dX1_weigh_80 (by decide +kernel) ?_
                    refine kx_icmp_ge (tgt := 255) C (by omega) (by omega) dX1_weigh_82 (by decide) (fun c22 => ?_) (fun c22 => ?_)
                    · skip
                      obtain rfl : 24 = i := by omega
                      refine kx_lv (lv2 := [(0, .ref (J 0)), (1, .int (x)), (2, .int (y9)), (3, .int (nI (m1))), (4, .int (nI (q))), (5, .int (nI (m1 * 24 + q)))]) [0, 1, 2, 3, 4, 5] rfl ?_
                      exact h255 (by omega) (minN (fun to => Tm (q * 24 + to) + Rw ((m1 + 1) * 24 + to)) kBIG 24) (cntN (fun to => Tm (q * 24 + to) + Rw ((m1 + 1) * 24 + to)) (fun to => Yw ((m1 + 1) * 24 + to)) 24) (minN_leM 24) (cntN_le _ _ _) (rs_more HT (by omega) eL (by omega) h1_lp14).1 (rs_more HT (by omega) eL (by omega) h1_lp14).2
                    · skip
                      refine kx_iload_n C dX1_weigh_85 rfl 3 rfl ?_
                      refine kx_aload_n C dX1_weigh_86 rfl 0 rfl ?_
                      refine kx_get (v := .int (nI (n))) (ci := 1) C kin1 0 rfl rfl 1 (by decide) fl1_39 rfl rfl dX1_weigh_87 ?_
                      refine kx_iconst (v := nI 1) C dX1_weigh_90 (by decide +kernel) ?_
                      refine kx_isub C (by omega) dX1_weigh_91 ?_
                      refine kx_icmp_ge (tgt := 255) C (by omega) (by omega) dX1_weigh_92 (by decide) (fun c23 => ?_) (fun c23 => ?_)
                      · skip
                        exact absurd c23 (by omega)
                      · skip
                        refine kx_aload_n C dX1_weigh_95 rfl 0 rfl ?_
                        refine kx_get (v := .ref (J 5)) (ci := 1) C kin1 0 rfl rfl 9 (by decide) fl1_23 rfl rfl dX1_weigh_96 ?_
                        refine kx_bipush (v := nI 24) C dX1_weigh_99 (by decide +kernel) ?_
                        refine kx_iload C dX1_weigh_101 4 rfl ?_
                        refine kx_imul C dX1_weigh_103 ?_
                        refine kx_iload C dX1_weigh_104 6 rfl ?_
                        refine kx_iadd C dX1_weigh_106 ?_
                        refine kx_topn (b := q * 24 + i) (by omega) ?_
                        refine kx_iald C 5 rfl (j := q * 24 + i) (by omega) (by decide) dX1_weigh_107 ?_
                        refine kx_aload_n C dX1_weigh_108 rfl 0 rfl ?_
                        refine kx_get (v := .ref (J 3)) (ci := 1) C kin1 0 rfl rfl 7 (by decide) fl1_16 rfl rfl dX1_weigh_109 ?_
                        refine kx_iload C dX1_weigh_112 5 rfl ?_
                        refine kx_iload C dX1_weigh_114 4 rfl ?_
                        refine kx_isub C (by omega) dX1_weigh_116 ?_
                        refine kx_bipush (v := nI 24) C dX1_weigh_117 (by decide +kernel) ?_
                        refine kx_iadd C dX1_weigh_119 ?_
                        refine kx_iload C dX1_weigh_120 6 rfl ?_
                        refine kx_iadd C dX1_weigh_122 ?_
                        refine kx_topn (b := (m1 + 1) * 24 + i) (by omega) ?_
                        refine kx_iald C 3 rfl (j := (m1 + 1) * 24 + i) (by omega) (by decide) dX1_weigh_123 ?_
                        refine kx_topn (b := Rw ((m1 + 1) * 24 + i)) (va_up_ne _ _ (by omega)) ?_
                        refine kx_iadd C dX1_weigh_124 ?_
                        refine kx_istore (lv2 := [(7, .int (nI ((Tm (q * 24 + i)) + (Rw ((m1 + 1) * 24 + i))))), (0, .ref (J 0)), (1, .int (x)), (2, .int (y9)), (3, .int (nI (m1))), (4, .int (nI (q))), (5, .int (nI (m1 * 24 + q))), (6, .int (nI (i)))]) C dX1_weigh_125 (by decide) rfl ?_
                        refine kx_iload C dX1_weigh_127 0 rfl ?_
                        refine kx_aload_n C dX1_weigh_129 rfl 1 rfl ?_
                        refine kx_get (v := .ref (J 3)) (ci := 1) C kin1 0 rfl rfl 7 (by decide) fl1_16 rfl rfl dX1_weigh_130 ?_
                        refine kx_iload C dX1_weigh_133 6 rfl ?_
                        refine kx_iald C 3 rfl (j := m1 * 24 + q) (by omega) (by decide) dX1_weigh_135 ?_
                        refine kx_topn (b := minN (fun to => Tm (q * 24 + to) + Rw ((m1 + 1) * 24 + to)) kBIG i) (va_up_self _ _ _) ?_
                        refine kx_icmp_le (tgt := 143) C (by have := hTl (q * 24 + i) (by omega); have := h4_lp14 ((m1 + 1) * 24 + i); omega) (minN_lt31 (fun to => Tm (q * 24 + to) + Rw ((m1 + 1) * 24 + to)) i) dX1_weigh_136 (by decide) (fun c24 => ?_) (fun c24 => ?_)
                        · skip
                          refine kx_aload_n C dX1_weigh_143 rfl 1 rfl ?_
                          refine kx_get (v := .ref (J 4)) (ci := 1) C kin1 0 rfl rfl 8 (by decide) fl1_19 rfl rfl dX1_weigh_144 ?_
                          refine kx_iload C dX1_weigh_147 6 rfl ?_
                          refine kx_iload C dX1_weigh_149 5 rfl ?_
                          refine kx_isub C (by omega) dX1_weigh_151 ?_
                          refine kx_bipush (v := nI 24) C dX1_weigh_152 (by decide +kernel) ?_
                          refine kx_iadd C dX1_weigh_154 ?_
                          refine kx_iload C dX1_weigh_155 7 rfl ?_
                          refine kx_iadd C dX1_weigh_157 ?_
                          refine kx_topn (b := (m1 + 1) * 24 + i) (by omega) ?_
                          refine kx_lald C 4 rfl (j := (m1 + 1) * 24 + i) (by omega) (by decide) dX1_weigh_158 ?_
                          refine kx_topL (b := Yw ((m1 + 1) * 24 + i)) (va_up_ne _ _ (by omega)) ?_
                          refine kx_lstore (lv2 := [(8, .long (lN (Yw ((m1 + 1) * 24 + i)))), (7, .int (nI ((Tm (q * 24 + i)) + (Rw ((m1 + 1) * 24 + i))))), (0, .ref (J 0)), (1, .int (x)), (2, .int (y9)), (3, .int (nI (m1))), (4, .int (nI (q))), (5, .int (nI (m1 * 24 + q))), (6, .int (nI (i)))]) C dX1_weigh_159 (by decide) rfl ?_
                          refine kx_aload_n C dX1_weigh_161 rfl 2 rfl ?_
                          refine kx_get (v := .ref (J 4)) (ci := 1) C kin1 0 rfl rfl 8 (by decide) fl1_19 rfl rfl dX1_weigh_162 ?_
                          refine kx_iload C dX1_weigh_165 7 rfl ?_
                          refine kx_iload C dX1_weigh_167 1 rfl ?_
                          refine kx_aload_n C dX1_weigh_169 rfl 2 rfl ?_
                          refine kx_get (v := .ref (J 3)) (ci := 1) C kin1 0 rfl rfl 7 (by decide) fl1_16 rfl rfl dX1_weigh_170 ?_
                          refine kx_iload C dX1_weigh_173 7 rfl ?_
                          refine kx_iald C 3 rfl (j := m1 * 24 + q) (by omega) (by decide) dX1_weigh_175 ?_
                          refine kx_topn (b := minN (fun to => Tm (q * 24 + to) + Rw ((m1 + 1) * 24 + to)) kBIG i) (va_up_self _ _ _) ?_
                          refine kx_icmp_ge (tgt := 184) C (by have := hTl (q * 24 + i) (by omega); have := h4_lp14 ((m1 + 1) * 24 + i); omega) (minN_lt31 (fun to => Tm (q * 24 + to) + Rw ((m1 + 1) * 24 + to)) i) dX1_weigh_176 (by decide) (fun c25 => ?_) (fun c25 => ?_)
                          · skip
                            have hEq : Tm (q * 24 + i) + Rw ((m1 + 1) * 24 + i) = minN (fun to => Tm (q * 24 + to) + Rw ((m1 + 1) * 24 + to)) kBIG i := by omega
                            refine kx_aload_n C dX1_weigh_184 rfl 2 rfl ?_
                            refine kx_get (v := .ref (J 4)) (ci := 1) C kin1 0 rfl rfl 8 (by decide) fl1_19 rfl rfl dX1_weigh_185 ?_
                            refine kx_iload C dX1_weigh_188 7 rfl ?_
                            refine kx_lald C 4 rfl (j := m1 * 24 + q) (by omega) (by decide) dX1_weigh_190 ?_
                            refine kx_topL (b := cntN (fun to => Tm (q * 24 + to) + Rw ((m1 + 1) * 24 + to)) (fun to => Yw ((m1 + 1) * 24 + to)) i) (va_up_self _ _ _) ?_
                            refine kx_lload C dX1_weigh_191 0 rfl ?_
                            refine kx_ladd C dX1_weigh_193 ?_
                            refine kx_ldc2 (v := lN 1000000000000000000) C kc1_93 dX1_weigh_194 ?_
                            refine kx_lcmp_le (tgt := 207) C (by have h1 := cntN_le (fun to => Tm (q * 24 + to) + Rw ((m1 + 1) * 24 + to)) (fun to => Yw ((m1 + 1) * 24 + to)) i; have h2 := h5_lp14 ((m1 + 1) * 24 + i); have h3 : kCAP = 1000000000000000000 := rfl; omega) (by decide) dX1_weigh_197 dX1_weigh_198 (by decide) (fun c26 => ?_) (fun c26 => ?_)
                            · skip
                              refine kx_aload_n C dX1_weigh_207 rfl 2 rfl ?_
                              refine kx_get (v := .ref (J 4)) (ci := 1) C kin1 0 rfl rfl 8 (by decide) fl1_19 rfl rfl dX1_weigh_208 ?_
                              refine kx_iload C dX1_weigh_211 7 rfl ?_
                              refine kx_lald C 4 rfl (j := m1 * 24 + q) (by omega) (by decide) dX1_weigh_213 ?_
                              refine kx_topL (b := cntN (fun to => Tm (q * 24 + to) + Rw ((m1 + 1) * 24 + to)) (fun to => Yw ((m1 + 1) * 24 + to)) i) (va_up_self _ _ _) ?_
                              refine kx_lload C dX1_weigh_214 0 rfl ?_
                              refine kx_ladd C dX1_weigh_216 ?_
                              refine kx_topL (b := cntN (fun to => Tm (q * 24 + to) + Rw ((m1 + 1) * 24 + to)) (fun to => Yw ((m1 + 1) * 24 + to)) (i + 1)) (cnt_sum (F := (fun to => Tm (q * 24 + to) + Rw ((m1 + 1) * 24 + to))) (G := (fun to => Yw ((m1 + 1) * 24 + to))) hEq c26) ?_
                              refine kx_last (ws2 := (kmW E J cd n b y o Wm Pm (va_up Rw (m1 * 24 + q) (minN (fun to => Tm (q * 24 + to) + Rw ((m1 + 1) * 24 + to)) kBIG i)) (va_up (va_up Yw (m1 * 24 + q) (cntN (fun to => Tm (q * 24 + to) + Rw ((m1 + 1) * 24 + to)) (fun to => Yw ((m1 + 1) * 24 + to)) i)) (m1 * 24 + q) (cntN (fun to => Tm (q * 24 + to) + Rw ((m1 + 1) * 24 + to)) (fun to => Yw ((m1 + 1) * 24 + to)) (i + 1))) Tm Cm Km)) C 4 rfl (j := m1 * 24 + q) (v := cntN (fun to => Tm (q * 24 + to) + Rw ((m1 + 1) * 24 + to)) (fun to => Yw ((m1 + 1) * 24 + to)) (i + 1)) (by omega) (by decide) rfl dX1_weigh_217 ?_
                              refine kx_eqw (ws2 := (kmW E J cd n b y o Wm Pm (va_up Rw (m1 * 24 + q) (minN (fun to => Tm (q * 24 + to) + Rw ((m1 + 1) * 24 + to)) kBIG i)) (va_up Yw (m1 * 24 + q) (cntN (fun to => Tm (q * 24 + to) + Rw ((m1 + 1) * 24 + to)) (fun to => Yw ((m1 + 1) * 24 + to)) (i + 1))) Tm Cm Km)) (by rw [← bx_uu Yw (m1 * 24 + q) (cntN (fun to => Tm (q * 24 + to) + Rw ((m1 + 1) * 24 + to)) (fun to => Yw ((m1 + 1) * 24 + to)) i) (cntN (fun to => Tm (q * 24 + to) + Rw ((m1 + 1) * 24 + to)) (fun to => Yw ((m1 + 1) * 24 + to)) (i + 1))]) ?_
                              refine kx_aload_n C dX1_weigh_218 rfl 2 rfl ?_
                              refine kx_get (v := .ref (J 3)) (ci := 1) C kin1 0 rfl rfl 7 (by decide) fl1_16 rfl rfl dX1_weigh_219 ?_
                              refine kx_iload C dX1_weigh_222 7 rfl ?_
                              refine kx_iload C dX1_weigh_224 1 rfl ?_
                              refine kx_aload_n C dX1_weigh_226 rfl 2 rfl ?_
                              refine kx_get (v := .ref (J 3)) (ci := 1) C kin1 0 rfl rfl 7 (by decide) fl1_16 rfl rfl dX1_weigh_227 ?_
                              refine kx_iload C dX1_weigh_230 7 rfl ?_
                              refine kx_iald C 3 rfl (j := m1 * 24 + q) (by omega) (by decide) dX1_weigh_232 ?_
                              refine kx_topn (b := minN (fun to => Tm (q * 24 + to) + Rw ((m1 + 1) * 24 + to)) kBIG i) (va_up_self _ _ _) ?_
                              refine kx_icmp_ge (tgt := 241) C (by have := hTl (q * 24 + i) (by omega); have := h4_lp14 ((m1 + 1) * 24 + i); omega) (minN_lt31 (fun to => Tm (q * 24 + to) + Rw ((m1 + 1) * 24 + to)) i) dX1_weigh_233 (by decide) (fun c27 => ?_) (fun c27 => ?_)
                              · skip
                                refine kx_aload_n C dX1_weigh_241 rfl 2 rfl ?_
                                refine kx_get (v := .ref (J 3)) (ci := 1) C kin1 0 rfl rfl 7 (by decide) fl1_16 rfl rfl dX1_weigh_242 ?_
                                refine kx_iload C dX1_weigh_245 7 rfl ?_
                                refine kx_iald C 3 rfl (j := m1 * 24 + q) (by omega) (by decide) dX1_weigh_247 ?_
                                refine kx_topn (b := minN (fun to => Tm (q * 24 + to) + Rw ((m1 + 1) * 24 + to)) kBIG i) (va_up_self _ _ _) ?_
                                refine kx_topn (b := minN (fun to => Tm (q * 24 + to) + Rw ((m1 + 1) * 24 + to)) kBIG (i + 1)) (min_ge (F := (fun to => Tm (q * 24 + to) + Rw ((m1 + 1) * 24 + to))) (by omega)) ?_
                                refine kx_iast (ws2 := (kmW E J cd n b y o Wm Pm (va_up (va_up Rw (m1 * 24 + q) (minN (fun to => Tm (q * 24 + to) + Rw ((m1 + 1) * 24 + to)) kBIG i)) (m1 * 24 + q) (minN (fun to => Tm (q * 24 + to) + Rw ((m1 + 1) * 24 + to)) kBIG (i + 1))) (va_up Yw (m1 * 24 + q) (cntN (fun to => Tm (q * 24 + to) + Rw ((m1 + 1) * 24 + to)) (fun to => Yw ((m1 + 1) * 24 + to)) (i + 1))) Tm Cm Km)) C 3 rfl (j := m1 * 24 + q) (v := minN (fun to => Tm (q * 24 + to) + Rw ((m1 + 1) * 24 + to)) kBIG (i + 1)) (by omega) (by decide) rfl dX1_weigh_248 ?_
                                refine kx_eqw (ws2 := (kmW E J cd n b y o Wm Pm (va_up Rw (m1 * 24 + q) (minN (fun to => Tm (q * 24 + to) + Rw ((m1 + 1) * 24 + to)) kBIG (i + 1))) (va_up Yw (m1 * 24 + q) (cntN (fun to => Tm (q * 24 + to) + Rw ((m1 + 1) * 24 + to)) (fun to => Yw ((m1 + 1) * 24 + to)) (i + 1))) Tm Cm Km)) (by rw [← bx_uu Rw (m1 * 24 + q) (minN (fun to => Tm (q * 24 + to) + Rw ((m1 + 1) * 24 + to)) kBIG i) (minN (fun to => Tm (q * 24 + to) + Rw ((m1 + 1) * 24 + to)) kBIG (i + 1))]) ?_
                                refine kx_iinc (v := nI (i + 1)) (lv2 := [(6, .int (nI (i + 1))), (8, .long (lN (Yw ((m1 + 1) * 24 + i)))), (7, .int (nI ((Tm (q * 24 + i)) + (Rw ((m1 + 1) * 24 + i))))), (0, .ref (J 0)), (1, .int (x)), (2, .int (y9)), (3, .int (nI (m1))), (4, .int (nI (q))), (5, .int (nI (m1 * 24 + q)))]) C dX1_weigh_249 8 rfl (kI1 _) (by decide) rfl ?_
                                refine kx_goto (tgt := 78) C dX1_weigh_252 (by decide) ?_
                                refine kx_lv (lv2 := [(0, .ref (J 0)), (1, .int (x)), (2, .int (y9)), (3, .int (nI (m1))), (4, .int (nI (q))), (5, .int (nI (m1 * 24 + q))), (6, .int (nI (i + 1)))]) [3, 4, 5, 6, 7, 8, 0] rfl ?_
                                refine kx_eqw (ws2 := (kmW E J cd n b y o Wm Pm (va_up Rw (m1 * 24 + q) (minN (fun to => Tm (q * 24 + to) + Rw ((m1 + 1) * 24 + to)) kBIG (i + 1))) (va_up Yw (m1 * 24 + q) (cntN (fun to => Tm (q * 24 + to) + Rw ((m1 + 1) * 24 + to)) (fun to => Yw ((m1 + 1) * 24 + to)) (i + 1))) Tm Cm Km)) rfl ?_
                                exact ih_lp78 (i + 1) (by omega) (by omega)
                              · skip
                                exact absurd c27 (by omega)
                            · skip
                              refine kx_ldc2 (v := lN 1000000000000000000) C kc1_93 dX1_weigh_201 ?_
                              refine kx_goto (tgt := 217) C dX1_weigh_204 (by decide) ?_
                              refine kx_topL (b := cntN (fun to => Tm (q * 24 + to) + Rw ((m1 + 1) * 24 + to)) (fun to => Yw ((m1 + 1) * 24 + to)) (i + 1)) (cnt_cap (F := (fun to => Tm (q * 24 + to) + Rw ((m1 + 1) * 24 + to))) (G := (fun to => Yw ((m1 + 1) * 24 + to))) hEq c26) ?_
                              refine kx_last (ws2 := (kmW E J cd n b y o Wm Pm (va_up Rw (m1 * 24 + q) (minN (fun to => Tm (q * 24 + to) + Rw ((m1 + 1) * 24 + to)) kBIG i)) (va_up (va_up Yw (m1 * 24 + q) (cntN (fun to => Tm (q * 24 + to) + Rw ((m1 + 1) * 24 + to)) (fun to => Yw ((m1 + 1) * 24 + to)) i)) (m1 * 24 + q) (cntN (fun to => Tm (q * 24 + to) + Rw ((m1 + 1) * 24 + to)) (fun to => Yw ((m1 + 1) * 24 + to)) (i + 1))) Tm Cm Km)) C 4 rfl (j := m1 * 24 + q) (v := cntN (fun to => Tm (q * 24 + to) + Rw ((m1 + 1) * 24 + to)) (fun to => Yw ((m1 + 1) * 24 + to)) (i + 1)) (by omega) (by decide) rfl dX1_weigh_217 ?_
                              refine kx_eqw (ws2 := (kmW E J cd n b y o Wm Pm (va_up Rw (m1 * 24 + q) (minN (fun to => Tm (q * 24 + to) + Rw ((m1 + 1) * 24 + to)) kBIG i)) (va_up Yw (m1 * 24 + q) (cntN (fun to => Tm (q * 24 + to) + Rw ((m1 + 1) * 24 + to)) (fun to => Yw ((m1 + 1) * 24 + to)) (i + 1))) Tm Cm Km)) (by rw [← bx_uu Yw (m1 * 24 + q) (cntN (fun to => Tm (q * 24 + to) + Rw ((m1 + 1) * 24 + to)) (fun to => Yw ((m1 + 1) * 24 + to)) i) (cntN (fun to => Tm (q * 24 + to) + Rw ((m1 + 1) * 24 + to)) (fun to => Yw ((m1 + 1) * 24 + to)) (i + 1))]) ?_
                              refine kx_aload_n C dX1_weigh_218 rfl 2 rfl ?_
                              refine kx_get (v := .ref (J 3)) (ci := 1) C kin1 0 rfl rfl 7 (by decide) fl1_16 rfl rfl dX1_weigh_219 ?_
                              refine kx_iload C dX1_weigh_222 7 rfl ?_
                              refine kx_iload C dX1_weigh_224 1 rfl ?_
                              refine kx_aload_n C dX1_weigh_226 rfl 2 rfl ?_
                              refine kx_get (v := .ref (J 3)) (ci := 1) C kin1 0 rfl rfl 7 (by decide) fl1_16 rfl rfl dX1_weigh_227 ?_
                              refine kx_iload C dX1_weigh_230 7 rfl ?_
                              refine kx_iald C 3 rfl (j := m1 * 24 + q) (by omega) (by decide) dX1_weigh_232 ?_
                              refine kx_topn (b := minN (fun to => Tm (q * 24 + to) + Rw ((m1 + 1) * 24 + to)) kBIG i) (va_up_self _ _ _) ?_
                              refine kx_icmp_ge (tgt := 241) C (by have := hTl (q * 24 + i) (by omega); have := h4_lp14 ((m1 + 1) * 24 + i); omega) (minN_lt31 (fun to => Tm (q * 24 + to) + Rw ((m1 + 1) * 24 + to)) i) dX1_weigh_233 (by decide) (fun c28 => ?_) (fun c28 => ?_)
                              · skip
                                refine kx_aload_n C dX1_weigh_241 rfl 2 rfl ?_
                                refine kx_get (v := .ref (J 3)) (ci := 1) C kin1 0 rfl rfl 7 (by decide) fl1_16 rfl rfl dX1_weigh_242 ?_
                                refine kx_iload C dX1_weigh_245 7 rfl ?_
                                refine kx_iald C 3 rfl (j := m1 * 24 + q) (by omega) (by decide) dX1_weigh_247 ?_
                                refine kx_topn (b := minN (fun to => Tm (q * 24 + to) + Rw ((m1 + 1) * 24 + to)) kBIG i) (va_up_self _ _ _) ?_
                                refine kx_topn (b := minN (fun to => Tm (q * 24 + to) + Rw ((m1 + 1) * 24 + to)) kBIG (i + 1)) (min_ge (F := (fun to => Tm (q * 24 + to) + Rw ((m1 + 1) * 24 + to))) (by omega)) ?_
                                refine kx_iast (ws2 := (kmW E J cd n b y o Wm Pm (va_up (va_up Rw (m1 * 24 + q) (minN (fun to => Tm (q * 24 + to) + Rw ((m1 + 1) * 24 + to)) kBIG i)) (m1 * 24 + q) (minN (fun to => Tm (q * 24 + to) + Rw ((m1 + 1) * 24 + to)) kBIG (i + 1))) (va_up Yw (m1 * 24 + q) (cntN (fun to => Tm (q * 24 + to) + Rw ((m1 + 1) * 24 + to)) (fun to => Yw ((m1 + 1) * 24 + to)) (i + 1))) Tm Cm Km)) C 3 rfl (j := m1 * 24 + q) (v := minN (fun to => Tm (q * 24 + to) + Rw ((m1 + 1) * 24 + to)) kBIG (i + 1)) (by omega) (by decide) rfl dX1_weigh_248 ?_
                                refine kx_eqw (ws2 := (kmW E J cd n b y o Wm Pm (va_up Rw (m1 * 24 + q) (minN (fun to => Tm (q * 24 + to) + Rw ((m1 + 1) * 24 + to)) kBIG (i + 1))) (va_up Yw (m1 * 24 + q) (cntN (fun to => Tm (q * 24 + to) + Rw ((m1 + 1) * 24 + to)) (fun to => Yw ((m1 + 1) * 24 + to)) (i + 1))) Tm Cm Km)) (by rw [← bx_uu Rw (m1 * 24 + q) (minN (fun to => Tm (q * 24 + to) + Rw ((m1 + 1) * 24 + to)) kBIG i) (minN (fun to => Tm (q * 24 + to) + Rw ((m1 + 1) * 24 + to)) kBIG (i + 1))]) ?_
                                refine kx_iinc (v := nI (i + 1)) (lv2 := [(6, .int (nI (i + 1))), (8, .long (lN (Yw ((m1 + 1) * 24 + i)))), (7, .int (nI ((Tm (q * 24 + i)) + (Rw ((m1 + 1) * 24 + i))))), (0, .ref (J 0)), (1, .int (x)), (2, .int (y9)), (3, .int (nI (m1))), (4, .int (nI (q))), (5, .int (nI (m1 * 24 + q)))]) C dX1_weigh_249 8 rfl (kI1 _) (by decide) rfl ?_
                                refine kx_goto (tgt := 78) C dX1_weigh_252 (by decide) ?_
                                refine kx_lv (lv2 := [(0, .ref (J 0)), (1, .int (x)), (2, .int (y9)), (3, .int (nI (m1))), (4, .int (nI (q))), (5, .int (nI (m1 * 24 + q))), (6, .int (nI (i + 1)))]) [3, 4, 5, 6, 7, 8, 0] rfl ?_
                                refine kx_eqw (ws2 := (kmW E J cd n b y o Wm Pm (va_up Rw (m1 * 24 + q) (minN (fun to => Tm (q * 24 + to) + Rw ((m1 + 1) * 24 + to)) kBIG (i + 1))) (va_up Yw (m1 * 24 + q) (cntN (fun to => Tm (q * 24 + to) + Rw ((m1 + 1) * 24 + to)) (fun to => Yw ((m1 + 1) * 24 + to)) (i + 1))) Tm Cm Km)) rfl ?_
                                exact ih_lp78 (i + 1) (by omega) (by omega)
                              · skip
                                exact absurd c28 (by omega)
                          · skip
                            refine kx_lload C dX1_weigh_179 0 rfl ?_
                            refine kx_goto (tgt := 217) C dX1_weigh_181 (by decide) ?_
                            refine kx_topL (b := cntN (fun to => Tm (q * 24 + to) + Rw ((m1 + 1) * 24 + to)) (fun to => Yw ((m1 + 1) * 24 + to)) (i + 1)) (cnt_lt (F := (fun to => Tm (q * 24 + to) + Rw ((m1 + 1) * 24 + to))) (G := (fun to => Yw ((m1 + 1) * 24 + to))) (Nat.not_le.mp (fun z => absurd c25 (Nat.not_lt.mpr z))) (h5_lp14 _)) ?_
                            refine kx_last (ws2 := (kmW E J cd n b y o Wm Pm (va_up Rw (m1 * 24 + q) (minN (fun to => Tm (q * 24 + to) + Rw ((m1 + 1) * 24 + to)) kBIG i)) (va_up (va_up Yw (m1 * 24 + q) (cntN (fun to => Tm (q * 24 + to) + Rw ((m1 + 1) * 24 + to)) (fun to => Yw ((m1 + 1) * 24 + to)) i)) (m1 * 24 + q) (cntN (fun to => Tm (q * 24 + to) + Rw ((m1 + 1) * 24 + to)) (fun to => Yw ((m1 + 1) * 24 + to)) (i + 1))) Tm Cm Km)) C 4 rfl (j := m1 * 24 + q) (v := cntN (fun to => Tm (q * 24 + to) + Rw ((m1 + 1) * 24 + to)) (fun to => Yw ((m1 + 1) * 24 + to)) (i + 1)) (by omega) (by decide) rfl dX1_weigh_217 ?_
                            refine kx_eqw (ws2 := (kmW E J cd n b y o Wm Pm (va_up Rw (m1 * 24 + q) (minN (fun to => Tm (q * 24 + to) + Rw ((m1 + 1) * 24 + to)) kBIG i)) (va_up Yw (m1 * 24 + q) (cntN (fun to => Tm (q * 24 + to) + Rw ((m1 + 1) * 24 + to)) (fun to => Yw ((m1 + 1) * 24 + to)) (i + 1))) Tm Cm Km)) (by rw [← bx_uu Yw (m1 * 24 + q) (cntN (fun to => Tm (q * 24 + to) + Rw ((m1 + 1) * 24 + to)) (fun to => Yw ((m1 + 1) * 24 + to)) i) (cntN (fun to => Tm (q * 24 + to) + Rw ((m1 + 1) * 24 + to)) (fun to => Yw ((m1 + 1) * 24 + to)) (i + 1))]) ?_
                            refine kx_aload_n C dX1_weigh_218 rfl 2 rfl ?_
                            refine kx_get (v := .ref (J 3)) (ci := 1) C kin1 0 rfl rfl 7 (by decide) fl1_16 rfl rfl dX1_weigh_219 ?_
                            refine kx_iload C dX1_weigh_222 7 rfl ?_
                            refine kx_iload C dX1_weigh_224 1 rfl ?_
                            refine kx_aload_n C dX1_weigh_226 rfl 2 rfl ?_
                            refine kx_get (v := .ref (J 3)) (ci := 1) C kin1 0 rfl rfl 7 (by decide) fl1_16 rfl rfl dX1_weigh_227 ?_
                            refine kx_iload C dX1_weigh_230 7 rfl ?_
                            refine kx_iald C 3 rfl (j := m1 * 24 + q) (by omega) (by decide) dX1_weigh_232 ?_
                            refine kx_topn (b := minN (fun to => Tm (q * 24 + to) + Rw ((m1 + 1) * 24 + to)) kBIG i) (va_up_self _ _ _) ?_
                            refine kx_icmp_ge (tgt := 241) C (by have := hTl (q * 24 + i) (by omega); have := h4_lp14 ((m1 + 1) * 24 + i); omega) (minN_lt31 (fun to => Tm (q * 24 + to) + Rw ((m1 + 1) * 24 + to)) i) dX1_weigh_233 (by decide) (fun c29 => ?_) (fun c29 => ?_)
                            · skip
                              exact absurd c29 (by omega)
                            · skip
                              refine kx_iload C dX1_weigh_236 1 rfl ?_
                              refine kx_goto (tgt := 248) C dX1_weigh_238 (by decide) ?_
                              refine kx_topn (b := minN (fun to => Tm (q * 24 + to) + Rw ((m1 + 1) * 24 + to)) kBIG (i + 1)) (min_lt (F := (fun to => Tm (q * 24 + to) + Rw ((m1 + 1) * 24 + to))) (by omega)) ?_
                              refine kx_iast (ws2 := (kmW E J cd n b y o Wm Pm (va_up (va_up Rw (m1 * 24 + q) (minN (fun to => Tm (q * 24 + to) + Rw ((m1 + 1) * 24 + to)) kBIG i)) (m1 * 24 + q) (minN (fun to => Tm (q * 24 + to) + Rw ((m1 + 1) * 24 + to)) kBIG (i + 1))) (va_up Yw (m1 * 24 + q) (cntN (fun to => Tm (q * 24 + to) + Rw ((m1 + 1) * 24 + to)) (fun to => Yw ((m1 + 1) * 24 + to)) (i + 1))) Tm Cm Km)) C 3 rfl (j := m1 * 24 + q) (v := minN (fun to => Tm (q * 24 + to) + Rw ((m1 + 1) * 24 + to)) kBIG (i + 1)) (by omega) (by decide) rfl dX1_weigh_248 ?_
                              refine kx_eqw (ws2 := (kmW E J cd n b y o Wm Pm (va_up Rw (m1 * 24 + q) (minN (fun to => Tm (q * 24 + to) + Rw ((m1 + 1) * 24 + to)) kBIG (i + 1))) (va_up Yw (m1 * 24 + q) (cntN (fun to => Tm (q * 24 + to) + Rw ((m1 + 1) * 24 + to)) (fun to => Yw ((m1 + 1) * 24 + to)) (i + 1))) Tm Cm Km)) (by rw [← bx_uu Rw (m1 * 24 + q) (minN (fun to => Tm (q * 24 + to) + Rw ((m1 + 1) * 24 + to)) kBIG i) (minN (fun to => Tm (q * 24 + to) + Rw ((m1 + 1) * 24 + to)) kBIG (i + 1))]) ?_
                              refine kx_iinc (v := nI (i + 1)) (lv2 := [(6, .int (nI (i + 1))), (8, .long (lN (Yw ((m1 + 1) * 24 + i)))), (7, .int (nI ((Tm (q * 24 + i)) + (Rw ((m1 + 1) * 24 + i))))), (0, .ref (J 0)), (1, .int (x)), (2, .int (y9)), (3, .int (nI (m1))), (4, .int (nI (q))), (5, .int (nI (m1 * 24 + q)))]) C dX1_weigh_249 8 rfl (kI1 _) (by decide) rfl ?_
                              refine kx_goto (tgt := 78) C dX1_weigh_252 (by decide) ?_
                              refine kx_lv (lv2 := [(0, .ref (J 0)), (1, .int (x)), (2, .int (y9)), (3, .int (nI (m1))), (4, .int (nI (q))), (5, .int (nI (m1 * 24 + q))), (6, .int (nI (i + 1)))]) [3, 4, 5, 6, 7, 8, 0] rfl ?_
                              refine kx_eqw (ws2 := (kmW E J cd n b y o Wm Pm (va_up Rw (m1 * 24 + q) (minN (fun to => Tm (q * 24 + to) + Rw ((m1 + 1) * 24 + to)) kBIG (i + 1))) (va_up Yw (m1 * 24 + q) (cntN (fun to => Tm (q * 24 + to) + Rw ((m1 + 1) * 24 + to)) (fun to => Yw ((m1 + 1) * 24 + to)) (i + 1))) Tm Cm Km)) rfl ?_
                              exact ih_lp78 (i + 1) (by omega) (by omega)
                        · skip
                          refine kx_lconst (v := lN 0) C dX1_weigh_139 (by decide +kernel) ?_
                          refine kx_goto (tgt := 159) C dX1_weigh_140 (by decide) ?_
                          refine kx_lstore (lv2 := [(8, .long (lN (0))), (7, .int (nI ((Tm (q * 24 + i)) + (Rw ((m1 + 1) * 24 + i))))), (0, .ref (J 0)), (1, .int (x)), (2, .int (y9)), (3, .int (nI (m1))), (4, .int (nI (q))), (5, .int (nI (m1 * 24 + q))), (6, .int (nI (i)))]) C dX1_weigh_159 (by decide) rfl ?_
                          refine kx_aload_n C dX1_weigh_161 rfl 2 rfl ?_
                          refine kx_get (v := .ref (J 4)) (ci := 1) C kin1 0 rfl rfl 8 (by decide) fl1_19 rfl rfl dX1_weigh_162 ?_
                          refine kx_iload C dX1_weigh_165 7 rfl ?_
                          refine kx_iload C dX1_weigh_167 1 rfl ?_
                          refine kx_aload_n C dX1_weigh_169 rfl 2 rfl ?_
                          refine kx_get (v := .ref (J 3)) (ci := 1) C kin1 0 rfl rfl 7 (by decide) fl1_16 rfl rfl dX1_weigh_170 ?_
                          refine kx_iload C dX1_weigh_173 7 rfl ?_
                          refine kx_iald C 3 rfl (j := m1 * 24 + q) (by omega) (by decide) dX1_weigh_175 ?_
                          refine kx_topn (b := minN (fun to => Tm (q * 24 + to) + Rw ((m1 + 1) * 24 + to)) kBIG i) (va_up_self _ _ _) ?_
                          refine kx_icmp_ge (tgt := 184) C (by have := hTl (q * 24 + i) (by omega); have := h4_lp14 ((m1 + 1) * 24 + i); omega) (minN_lt31 (fun to => Tm (q * 24 + to) + Rw ((m1 + 1) * 24 + to)) i) dX1_weigh_176 (by decide) (fun c30 => ?_) (fun c30 => ?_)
                          · skip
                            refine kx_aload_n C dX1_weigh_184 rfl 2 rfl ?_
                            refine kx_get (v := .ref (J 4)) (ci := 1) C kin1 0 rfl rfl 8 (by decide) fl1_19 rfl rfl dX1_weigh_185 ?_
                            refine kx_iload C dX1_weigh_188 7 rfl ?_
                            refine kx_lald C 4 rfl (j := m1 * 24 + q) (by omega) (by decide) dX1_weigh_190 ?_
                            refine kx_topL (b := cntN (fun to => Tm (q * 24 + to) + Rw ((m1 + 1) * 24 + to)) (fun to => Yw ((m1 + 1) * 24 + to)) i) (va_up_self _ _ _) ?_
                            refine kx_lload C dX1_weigh_191 0 rfl ?_
                            refine kx_ladd C dX1_weigh_193 ?_
                            refine kx_ldc2 (v := lN 1000000000000000000) C kc1_93 dX1_weigh_194 ?_
                            refine kx_lcmp_le (tgt := 207) C (by have h1 := cntN_le (fun to => Tm (q * 24 + to) + Rw ((m1 + 1) * 24 + to)) (fun to => Yw ((m1 + 1) * 24 + to)) i; have h2 := h5_lp14 ((m1 + 1) * 24 + i); have h3 : kCAP = 1000000000000000000 := rfl; omega) (by decide) dX1_weigh_197 dX1_weigh_198 (by decide) (fun c31 => ?_) (fun c31 => ?_)
                            · skip
                              refine kx_aload_n C dX1_weigh_207 rfl 2 rfl ?_
                              refine kx_get (v := .ref (J 4)) (ci := 1) C kin1 0 rfl rfl 8 (by decide) fl1_19 rfl rfl dX1_weigh_208 ?_
                              refine kx_iload C dX1_weigh_211 7 rfl ?_
                              refine kx_lald C 4 rfl (j := m1 * 24 + q) (by omega) (by decide) dX1_weigh_213 ?_
                              refine kx_topL (b := cntN (fun to => Tm (q * 24 + to) + Rw ((m1 + 1) * 24 + to)) (fun to => Yw ((m1 + 1) * 24 + to)) i) (va_up_self _ _ _) ?_
                              refine kx_lload C dX1_weigh_214 0 rfl ?_
                              refine kx_ladd C dX1_weigh_216 ?_
                              refine kx_topL (b := cntN (fun to => Tm (q * 24 + to) + Rw ((m1 + 1) * 24 + to)) (fun to => Yw ((m1 + 1) * 24 + to)) (i + 1)) (cnt_gt (F := (fun to => Tm (q * 24 + to) + Rw ((m1 + 1) * 24 + to))) (G := (fun to => Yw ((m1 + 1) * 24 + to))) c24) ?_
                              refine kx_last (ws2 := (kmW E J cd n b y o Wm Pm (va_up Rw (m1 * 24 + q) (minN (fun to => Tm (q * 24 + to) + Rw ((m1 + 1) * 24 + to)) kBIG i)) (va_up (va_up Yw (m1 * 24 + q) (cntN (fun to => Tm (q * 24 + to) + Rw ((m1 + 1) * 24 + to)) (fun to => Yw ((m1 + 1) * 24 + to)) i)) (m1 * 24 + q) (cntN (fun to => Tm (q * 24 + to) + Rw ((m1 + 1) * 24 + to)) (fun to => Yw ((m1 + 1) * 24 + to)) (i + 1))) Tm Cm Km)) C 4 rfl (j := m1 * 24 + q) (v := cntN (fun to => Tm (q * 24 + to) + Rw ((m1 + 1) * 24 + to)) (fun to => Yw ((m1 + 1) * 24 + to)) (i + 1)) (by omega) (by decide) rfl dX1_weigh_217 ?_
                              refine kx_eqw (ws2 := (kmW E J cd n b y o Wm Pm (va_up Rw (m1 * 24 + q) (minN (fun to => Tm (q * 24 + to) + Rw ((m1 + 1) * 24 + to)) kBIG i)) (va_up Yw (m1 * 24 + q) (cntN (fun to => Tm (q * 24 + to) + Rw ((m1 + 1) * 24 + to)) (fun to => Yw ((m1 + 1) * 24 + to)) (i + 1))) Tm Cm Km)) (by rw [← bx_uu Yw (m1 * 24 + q) (cntN (fun to => Tm (q * 24 + to) + Rw ((m1 + 1) * 24 + to)) (fun to => Yw ((m1 + 1) * 24 + to)) i) (cntN (fun to => Tm (q * 24 + to) + Rw ((m1 + 1) * 24 + to)) (fun to => Yw ((m1 + 1) * 24 + to)) (i + 1))]) ?_
                              refine kx_aload_n C dX1_weigh_218 rfl 2 rfl ?_
                              refine kx_get (v := .ref (J 3)) (ci := 1) C kin1 0 rfl rfl 7 (by decide) fl1_16 rfl rfl dX1_weigh_219 ?_
                              refine kx_iload C dX1_weigh_222 7 rfl ?_
                              refine kx_iload C dX1_weigh_224 1 rfl ?_
                              refine kx_aload_n C dX1_weigh_226 rfl 2 rfl ?_
                              refine kx_get (v := .ref (J 3)) (ci := 1) C kin1 0 rfl rfl 7 (by decide) fl1_16 rfl rfl dX1_weigh_227 ?_
                              refine kx_iload C dX1_weigh_230 7 rfl ?_
                              refine kx_iald C 3 rfl (j := m1 * 24 + q) (by omega) (by decide) dX1_weigh_232 ?_
                              refine kx_topn (b := minN (fun to => Tm (q * 24 + to) + Rw ((m1 + 1) * 24 + to)) kBIG i) (va_up_self _ _ _) ?_
                              refine kx_icmp_ge (tgt := 241) C (by have := hTl (q * 24 + i) (by omega); have := h4_lp14 ((m1 + 1) * 24 + i); omega) (minN_lt31 (fun to => Tm (q * 24 + to) + Rw ((m1 + 1) * 24 + to)) i) dX1_weigh_233 (by decide) (fun c32 => ?_) (fun c32 => ?_)
                              · skip
                                refine kx_aload_n C dX1_weigh_241 rfl 2 rfl ?_
                                refine kx_get (v := .ref (J 3)) (ci := 1) C kin1 0 rfl rfl 7 (by decide) fl1_16 rfl rfl dX1_weigh_242 ?_
                                refine kx_iload C dX1_weigh_245 7 rfl ?_
                                refine kx_iald C 3 rfl (j := m1 * 24 + q) (by omega) (by decide) dX1_weigh_247 ?_
                                refine kx_topn (b := minN (fun to => Tm (q * 24 + to) + Rw ((m1 + 1) * 24 + to)) kBIG i) (va_up_self _ _ _) ?_
                                refine kx_topn (b := minN (fun to => Tm (q * 24 + to) + Rw ((m1 + 1) * 24 + to)) kBIG (i + 1)) (min_ge (F := (fun to => Tm (q * 24 + to) + Rw ((m1 + 1) * 24 + to))) (by omega)) ?_
                                refine kx_iast (ws2 := (kmW E J cd n b y o Wm Pm (va_up (va_up Rw (m1 * 24 + q) (minN (fun to => Tm (q * 24 + to) + Rw ((m1 + 1) * 24 + to)) kBIG i)) (m1 * 24 + q) (minN (fun to => Tm (q * 24 + to) + Rw ((m1 + 1) * 24 + to)) kBIG (i + 1))) (va_up Yw (m1 * 24 + q) (cntN (fun to => Tm (q * 24 + to) + Rw ((m1 + 1) * 24 + to)) (fun to => Yw ((m1 + 1) * 24 + to)) (i + 1))) Tm Cm Km)) C 3 rfl (j := m1 * 24 + q) (v := minN (fun to => Tm (q * 24 + to) + Rw ((m1 + 1) * 24 + to)) kBIG (i + 1)) (by omega) (by decide) rfl dX1_weigh_248 ?_
                                refine kx_eqw (ws2 := (kmW E J cd n b y o Wm Pm (va_up Rw (m1 * 24 + q) (minN (fun to => Tm (q * 24 + to) + Rw ((m1 + 1) * 24 + to)) kBIG (i + 1))) (va_up Yw (m1 * 24 + q) (cntN (fun to => Tm (q * 24 + to) + Rw ((m1 + 1) * 24 + to)) (fun to => Yw ((m1 + 1) * 24 + to)) (i + 1))) Tm Cm Km)) (by rw [← bx_uu Rw (m1 * 24 + q) (minN (fun to => Tm (q * 24 + to) + Rw ((m1 + 1) * 24 + to)) kBIG i) (minN (fun to => Tm (q * 24 + to) + Rw ((m1 + 1) * 24 + to)) kBIG (i + 1))]) ?_
                                refine kx_iinc (v := nI (i + 1)) (lv2 := [(6, .int (nI (i + 1))), (8, .long (lN (0))), (7, .int (nI ((Tm (q * 24 + i)) + (Rw ((m1 + 1) * 24 + i))))), (0, .ref (J 0)), (1, .int (x)), (2, .int (y9)), (3, .int (nI (m1))), (4, .int (nI (q))), (5, .int (nI (m1 * 24 + q)))]) C dX1_weigh_249 8 rfl (kI1 _) (by decide) rfl ?_
                                refine kx_goto (tgt := 78) C dX1_weigh_252 (by decide) ?_
                                refine kx_lv (lv2 := [(0, .ref (J 0)), (1, .int (x)), (2, .int (y9)), (3, .int (nI (m1))), (4, .int (nI (q))), (5, .int (nI (m1 * 24 + q))), (6, .int (nI (i + 1)))]) [3, 4, 5, 6, 7, 8, 0] rfl ?_
                                refine kx_eqw (ws2 := (kmW E J cd n b y o Wm Pm (va_up Rw (m1 * 24 + q) (minN (fun to => Tm (q * 24 + to) + Rw ((m1 + 1) * 24 + to)) kBIG (i + 1))) (va_up Yw (m1 * 24 + q) (cntN (fun to => Tm (q * 24 + to) + Rw ((m1 + 1) * 24 + to)) (fun to => Yw ((m1 + 1) * 24 + to)) (i + 1))) Tm Cm Km)) rfl ?_
                                exact ih_lp78 (i + 1) (by omega) (by omega)
                              · skip
                                exact absurd c32 (by omega)
                            · skip
                              exact absurd c31 (by have h1 := cntN_le (fun to => Tm (q * 24 + to) + Rw ((m1 + 1) * 24 + to)) (fun to => Yw ((m1 + 1) * 24 + to)) i; have h3 : kCAP = 1000000000000000000 := rfl; omega)
                          · skip
                            exact absurd c30 (by omega)
                refine kx_aload_n C dX1_weigh_30 rfl 1 rfl ?_
                refine kx_get (v := .ref (J 3)) (ci := 1) C kin1 0 rfl rfl 7 (by decide) fl1_16 rfl rfl dX1_weigh_31 ?_
                refine kx_iload C dX1_weigh_34 0 rfl ?_
                refine kx_iload_n C dX1_weigh_36 rfl 4 rfl ?_
                refine kx_aload_n C dX1_weigh_37 rfl 1 rfl ?_
                refine kx_get (v := .int (nI (n))) (ci := 1) C kin1 0 rfl rfl 1 (by decide) fl1_39 rfl rfl dX1_weigh_38 ?_
                refine kx_iconst (v := nI 1) C dX1_weigh_41 (by decide +kernel) ?_
                refine kx_isub C (by omega) dX1_weigh_42 ?_
                refine kx_icmp_ne (tgt := 50) C (by omega) (by omega) dX1_weigh_43 (by decide) (fun c33 => ?_) (fun c33 => ?_)
                · skip
                  refine kx_ldc (v := nI 1000000000) C kc1_92 dX1_weigh_50 ?_
                  refine kx_iast (ws2 := (kmW E J cd n b y o Wm Pm (va_up Rw (m1 * 24 + q) (1000000000)) Yw Tm Cm Km)) C 3 rfl (j := m1 * 24 + q) (v := 1000000000) (by omega) (by decide) rfl dX1_weigh_52 ?_
                  refine kx_aload_n C dX1_weigh_53 rfl 1 rfl ?_
                  refine kx_get (v := .ref (J 4)) (ci := 1) C kin1 0 rfl rfl 8 (by decide) fl1_19 rfl rfl dX1_weigh_54 ?_
                  refine kx_iload C dX1_weigh_57 0 rfl ?_
                  refine kx_iload_n C dX1_weigh_59 rfl 4 rfl ?_
                  refine kx_aload_n C dX1_weigh_60 rfl 1 rfl ?_
                  refine kx_get (v := .int (nI (n))) (ci := 1) C kin1 0 rfl rfl 1 (by decide) fl1_39 rfl rfl dX1_weigh_61 ?_
                  refine kx_iconst (v := nI 1) C dX1_weigh_64 (by decide +kernel) ?_
                  refine kx_isub C (by omega) dX1_weigh_65 ?_
                  refine kx_icmp_ne (tgt := 73) C (by omega) (by omega) dX1_weigh_66 (by decide) (fun c34 => ?_) (fun c34 => ?_)
                  · skip
                    refine kx_lconst (v := lN 0) C dX1_weigh_73 (by decide +kernel) ?_
                    refine kx_last (ws2 := (kmW E J cd n b y o Wm Pm (va_up Rw (m1 * 24 + q) (1000000000)) (va_up Yw (m1 * 24 + q) (0)) Tm Cm Km)) C 4 rfl (j := m1 * 24 + q) (v := 0) (by omega) (by decide) rfl dX1_weigh_74 ?_
                    refine kx_iconst (v := nI 0) C dX1_weigh_75 (by decide +kernel) ?_
                    refine kx_istore (lv2 := [(6, .int (nI (0))), (5, .int (nI (m1 * 24 + q))), (0, .ref (J 0)), (1, .int (x)), (2, .int (y9)), (3, .int (nI (m1))), (4, .int (nI (q)))]) C dX1_weigh_76 (by decide) rfl ?_
                    refine kx_lv (lv2 := [(0, .ref (J 0)), (1, .int (x)), (2, .int (y9)), (3, .int (nI (m1))), (4, .int (nI (q))), (5, .int (nI (m1 * 24 + q))), (6, .int (nI (0)))]) [2, 3, 4, 5, 6, 1, 0] rfl ?_
                    refine kx_eqw (ws2 := (kmW E J cd n b y o Wm Pm (va_up Rw (m1 * 24 + q) (minN (fun to => Tm (q * 24 + to) + Rw ((m1 + 1) * 24 + to)) kBIG 0)) (va_up Yw (m1 * 24 + q) (cntN (fun to => Tm (q * 24 + to) + Rw ((m1 + 1) * 24 + to)) (fun to => Yw ((m1 + 1) * 24 + to)) 0)) Tm Cm Km)) rfl ?_
                    exact lp78 25 0 (by omega) (by omega)
                  · skip
                    exact absurd c34 (by omega)
                · skip
                  exact absurd c33 (by omega)
        refine kx_iconst (v := nI 0) C dX1_weigh_11 (by decide +kernel) ?_
        refine kx_istore (lv2 := [(4, .int (nI (0))), (0, .ref (J 0)), (1, .int (x)), (2, .int (y9)), (3, .int (nI (m1)))]) C dX1_weigh_12 (by decide) rfl ?_
        refine kx_lv (lv2 := [(0, .ref (J 0)), (1, .int (x)), (2, .int (y9)), (3, .int (nI (m1))), (4, .int (nI (0)))]) [1, 2, 3, 4, 0] rfl ?_
        refine kx_eqw (ws2 := (kmW E J cd n b y o Wm Pm Rv Yv Tm Cm Km)) rfl ?_
        exact lp14 25 0 Rv Yv (by omega) h1_lp7 (fun k hk => absurd hk (by omega)) (fun k hk => absurd hk (by omega)) h2_lp7 h3_lp7 (by omega) (by omega)
  refine kx_aload_n C dX1_weigh_0 rfl 0 rfl ?_
  refine kx_get (v := .int (nI (n))) (ci := 1) C kin1 0 rfl rfl 1 (by decide) fl1_39 rfl rfl dX1_weigh_1 ?_
  refine kx_iconst (v := nI 1) C dX1_weigh_4 (by decide +kernel) ?_
  refine kx_isubR C dX1_weigh_5 ?_
  refine kx_istore_n (lv2 := [(3, .int ((nI (n)) - (nI (1)))), (0, .ref (J 0)), (1, .int (x)), (2, .int (y9))]) C dX1_weigh_6 rfl (by decide) rfl ?_
  refine kx_lv (lv2 := [(0, .ref (J 0)), (1, .int (x)), (2, .int (y9)), (3, .int ((nI (n)) - (nI (1))))]) [1, 2, 3, 0] rfl ?_
  refine kx_eqw (ws2 := (kmW E J cd n b y o Wm Pm Rm Ym Tm Cm Km)) rfl ?_
  exact lp7 41 n Rm Ym (Nat.le_refl _) (fun s h1 h2 => absurd h2 (by omega)) HRm HYm (by omega)
