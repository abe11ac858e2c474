set_option maxHeartbeats 4000000 in
set_option maxRecDepth 100000 in
theorem lc_turn (E : KE) (G : KG) (C : kc E G cL_law 7 RL) (hHP : kHP (kGs G)) (HX : E.1.stackTraces = false) (K J : Nat → Nat) (ob b9 L t : Nat) (xs : Nat → Int32) (hX : kSc G b9 L xs) (hL : L ≤ 2048) (ht4 : 4 * t + 4 ≤ L) (hB : kLB E G K J ob b9 t) (b y o n ls bc tk hk : Nat) (P Wt Tu Sc Ta Wa He Fk Pk : Nat → Nat) (cd : Nat) (Rm Ym Tm Cm Km : Nat → Nat) (f0 : Nat → Int64) (HO : kOk b y o n ls bc tk hk P Wt Tu Sc Ta Wa He Fk Pk) (HM : kMo n b y o Wt P Rm Ym Km) : kx E room_1 G 7 (19 + t) (9030 + 6 * t) ((kOu E ob f0 :: (kwW E K b y o n ls bc tk hk P Wt Tu Sc Ta Wa He Fk Pk)) ++ (kmW E J cd n b y o Wt P Rm Ym Tm Cm Km)) [(0, .ref (b9)), (1, .ref (K 0)), (2, .ref (J 0)), (3, .ref (ob)), (4, .int (nI (4 * t)))] 609 [] := by
  obtain ⟨H1, Hb, Hy, Ho, HP, HW, HRm, HYm, HKm⟩ := id HM
  obtain ⟨x0, e0⟩ : ∃ x : Int32, xs (4 * t + 1) = x := ⟨_, rfl⟩
  obtain ⟨x1, e1⟩ : ∃ x : Int32, xs (4 * t + 2) = x := ⟨_, rfl⟩
  refine kx_aload_n C dL_law_609 rfl 1 rfl ?_
  refine kx_aload_n C dL_law_610 rfl 0 rfl ?_
  refine kx_iload C dL_law_611 4 rfl ?_
  refine kx_iconst (v := nI 1) C dL_law_613 (by decide +kernel) ?_
  refine kx_iadd C dL_law_614 ?_
  refine kx_sld C hX hL (by omega) e0 dL_law_615 ?_
  refine kx_aload_n C dL_law_616 rfl 0 rfl ?_
  refine kx_iload C dL_law_617 4 rfl ?_
  refine kx_iconst (v := nI 2) C dL_law_619 (by decide +kernel) ?_
  refine kx_iadd C dL_law_620 ?_
  refine kx_sld C hX hL (by omega) e1 dL_law_621 ?_
  refine kx_aload_n C dL_law_622 rfl 3 rfl ?_
  refine kx_callSH (rest := []) (wr := (kmW E J cd n b y o Wt P Rm Ym Tm Cm Km)) C hHP (l_turn E K b y o n ls bc tk hk P Wt Tu Sc Ta Wa He Fk Pk ob f0 x0 x1 (c_turn E K b y o n ls bc tk hk P Wt Tu Sc Ta Wa He Fk Pk x0 x1 HX HO) (fun _ _ h => h.1)) (kgH mL_109 sm_L_turn ini_KeyWalksLaw cw_turn) 4 rfl (by decide +kernel) ⟨Nat.le_of_ble_eq_true rfl, Nat.le_of_ble_eq_true rfl⟩ ⟨by show 19 + t + 1 ≤ 1052; omega, by show 9030 + 6 * t + 6 * 1 ≤ 17276; omega⟩ [0, 1, 2, 3, 4, 5, 6, 7, 8, 9, 10] [11, 12, 13, 14, 15, 16, 17, 18] rfl rfl (by decide) (by decide) (by decide) rfl (Nat.le_of_ble_eq_true rfl) dL_law_623 (fun v w q => ?_)
  refine kx_widen (k := 20 + t) (n := 9036 + 6 * t) (by show 19 + t + 1 ≤ 20 + t; omega) (by show 9030 + 6 * t + 6 * 1 ≤ 9036 + 6 * t; omega) ?_
  rcases q with ⟨rfl, r9, w9, f, hp, hf, rfl⟩ | ⟨rfl, w9, hx, rfl⟩
  · skip
    obtain ⟨sl, k, rfl, esl, rfl, ek, rfl, rfl⟩ := hp
    refine kx_istore (lv2 := [(5, .int (nI (0))), (0, .ref (b9)), (1, .ref (K 0)), (2, .ref (J 0)), (3, .ref (ob)), (4, .int (nI (4 * t)))]) C dL_law_626 (by decide) rfl ?_
    refine kx_aload_n C dL_law_628 rfl 3 rfl ?_
    refine kx_aload_n C dL_law_629 rfl 1 rfl ?_
    refine kx_iload C dL_law_630 5 rfl ?_
    refine kx_iconst (v := nI 1) C dL_law_632 (by decide +kernel) ?_
    refine kx_iadd C dL_law_633 ?_
    refine kx_sld C hX hL (by omega) e0 dL_law_634 ?_
    refine kx_aload_n C dL_law_635 rfl 1 rfl ?_
    refine kx_iload C dL_law_636 5 rfl ?_
    refine kx_iconst (v := nI 2) C dL_law_638 (by decide +kernel) ?_
    refine kx_iadd C dL_law_639 ?_
    refine kx_sld C hX hL (by omega) e1 dL_law_640 ?_
    refine kx_callVi (rest := []) (wr := kOu E ob f :: (kwW E K b y o n ls bc tk hk P Wt Tu Sc Ta Wa He Fk Pk)) C (m_turn E J cd n b y o Wt P Rm Ym Tm Cm Km (nI sl) (nI k) H1) gL_111 2 rfl (by decide +kernel) ⟨Nat.le_of_ble_eq_true rfl, Nat.le_of_ble_eq_true rfl⟩ ⟨by show 20 + t + 0 ≤ 1052; omega, by show 9036 + 6 * t + 6 * 0 ≤ 17276; omega⟩ [0, 1, 2, 3, 4, 5, 6, 7] [8, 9, 10, 11, 12, 13, 14, 15, 16, 17, 18] rfl rfl (by decide) (by decide) (by decide) 0 rfl rfl rfl (Nat.le_of_ble_eq_true rfl) dL_law_641 (fun v w q => ?_)
    refine kx_widen (k := 20 + t) (n := 9036 + 6 * t) (by show 20 + t + 0 ≤ 20 + t; omega) (by show 9036 + 6 * t + 6 * 0 ≤ 9036 + 6 * t; omega) ?_
    rcases q with ⟨s2, k2, g1, es2, g2, ek2, rfl, rfl⟩ | ⟨hb2, -, -⟩
    · skip
      obtain rfl := nJ g1 (by omega) (by omega)
      obtain rfl := nJ g2 (by omega) (by omega)
      refine kx_istore (lv2 := [(6, .int (nI (turnN b y o sl k))), (5, .int (nI (0))), (0, .ref (b9)), (1, .ref (K 0)), (2, .ref (J 0)), (3, .ref (ob)), (4, .int (nI (4 * t)))]) C dL_law_644 (by decide) rfl ?_
      refine kx_aload_n C dL_law_646 rfl 4 rfl ?_
      refine kx_callVi (rest := []) (wr := kOu E ob f :: (kwW E K b y o n ls bc tk hk P Wt Tu Sc Ta Wa He Fk Pk)) C (m_thrown E J 0 n b y o Wt P Rm Ym Tm Cm Km) gL_86 0 rfl (by decide +kernel) ⟨Nat.le_of_ble_eq_true rfl, Nat.le_of_ble_eq_true rfl⟩ ⟨by show 20 + t + 0 ≤ 1052; omega, by show 9036 + 6 * t + 6 * 0 ≤ 17276; omega⟩ [11, 12, 13, 14, 15, 16, 17, 18] [0, 1, 2, 3, 4, 5, 6, 7, 8, 9, 10] rfl rfl (by decide) (by decide) (by decide) 0 rfl rfl rfl (Nat.le_of_ble_eq_true rfl) dL_law_647 (fun v w q => ?_)
      obtain ⟨rfl, rfl⟩ := q
      refine kx_widen (k := 20 + t) (n := 9036 + 6 * t) (by show 20 + t + 0 ≤ 20 + t; omega) (by show 9036 + 6 * t + 6 * 0 ≤ 9036 + 6 * t; omega) ?_
      refine kx_iload C dL_law_650 1 rfl ?_
      refine kx_icmp_eq (tgt := 657) C (by omega) (by omega) dL_law_652 (by decide) (fun c1 => ?_) (fun c1 => ?_)
      · skip
        refine kx_iload C dL_law_657 1 rfl ?_
        refine kx_if_ne (tgt := 674) C (by omega) dL_law_659 (by decide) (fun c2 => ?_) (fun c2 => ?_)
        · skip
          exact absurd c2 (by decide)
        · skip
          refine kx_aload_n C dL_law_662 rfl 5 rfl ?_
          refine kx_iconst (v := nI 0) C dL_law_663 (by decide +kernel) ?_
          refine kx_laldO (x := (nI (turnN b y o sl k)).toInt64) C 0 rfl hf dL_law_664 ?_
          refine kx_iload C dL_law_665 0 rfl ?_
          refine kx_i2l (v := (nI (turnN b y o sl k)).toInt64) C dL_law_667 rfl ?_
          refine kx_lcmp_eqR (tgt := 674) C dL_law_668 dL_law_669 (by decide) (fun c3 => ?_) (fun c3 => ?_)
          · skip
            refine kx_goto (tgt := 1319) C dL_law_674 (by decide) ?_
            refine kx_lv (lv2 := [(0, .ref (b9)), (1, .ref (K 0)), (2, .ref (J 0)), (3, .ref (ob)), (4, .int (nI (4 * t)))]) [2, 3, 4, 5, 6] rfl ?_
            exact hB _ _ _ _ _ _ _ _ _ _ _ _ _ _ _ _ _ _ _ _ _ _ _ _ HO HM
          · skip
            exact absurd (congrArg Int32.toInt64 rfl) c3
      · skip
        exact absurd c1 (by decide)
    · skip
      exact absurd ⟨⟨sl, esl, rfl⟩, ⟨k, ek, rfl⟩⟩ hb2
  · skip
    obtain ⟨-, hb, rfl⟩ := hx
    refine kx_istore (lv2 := [(5, .int (nI (1))), (0, .ref (b9)), (1, .ref (K 0)), (2, .ref (J 0)), (3, .ref (ob)), (4, .int (nI (4 * t)))]) C dL_law_626 (by decide) rfl ?_
    refine kx_aload_n C dL_law_628 rfl 3 rfl ?_
    refine kx_aload_n C dL_law_629 rfl 1 rfl ?_
    refine kx_iload C dL_law_630 5 rfl ?_
    refine kx_iconst (v := nI 1) C dL_law_632 (by decide +kernel) ?_
    refine kx_iadd C dL_law_633 ?_
    refine kx_sld C hX hL (by omega) e0 dL_law_634 ?_
    refine kx_aload_n C dL_law_635 rfl 1 rfl ?_
    refine kx_iload C dL_law_636 5 rfl ?_
    refine kx_iconst (v := nI 2) C dL_law_638 (by decide +kernel) ?_
    refine kx_iadd C dL_law_639 ?_
    refine kx_sld C hX hL (by omega) e1 dL_law_640 ?_
    refine kx_callVi (rest := []) (wr := kOu E ob f0 :: (kwW E K b y o n ls bc tk hk P Wt Tu Sc Ta Wa He Fk Pk)) C (m_turn E J cd n b y o Wt P Rm Ym Tm Cm Km x0 x1 H1) gL_111 2 rfl (by decide +kernel) ⟨Nat.le_of_ble_eq_true rfl, Nat.le_of_ble_eq_true rfl⟩ ⟨by show 20 + t + 0 ≤ 1052; omega, by show 9036 + 6 * t + 6 * 0 ≤ 17276; omega⟩ [0, 1, 2, 3, 4, 5, 6, 7] [8, 9, 10, 11, 12, 13, 14, 15, 16, 17, 18] rfl rfl (by decide) (by decide) (by decide) 0 rfl rfl rfl (Nat.le_of_ble_eq_true rfl) dL_law_641 (fun v w q => ?_)
    refine kx_widen (k := 20 + t) (n := 9036 + 6 * t) (by show 20 + t + 0 ≤ 20 + t; omega) (by show 9036 + 6 * t + 6 * 0 ≤ 9036 + 6 * t; omega) ?_
    rcases q with ⟨s2, k2, g1, es2, g2, ek2, -, -⟩ | ⟨-, rfl, rfl⟩
    · skip
      exact absurd ⟨⟨s2, es2, g1⟩, ⟨k2, ek2, g2⟩⟩ hb
    · skip
      refine kx_istore (lv2 := [(6, .int (nI 0)), (5, .int (nI (1))), (0, .ref (b9)), (1, .ref (K 0)), (2, .ref (J 0)), (3, .ref (ob)), (4, .int (nI (4 * t)))]) C dL_law_644 (by decide) rfl ?_
      refine kx_aload_n C dL_law_646 rfl 4 rfl ?_
      refine kx_callVi (rest := []) (wr := kOu E ob f0 :: (kwW E K b y o n ls bc tk hk P Wt Tu Sc Ta Wa He Fk Pk)) C (m_thrown E J 1 n b y o Wt P Rm Ym Tm Cm Km) gL_86 0 rfl (by decide +kernel) ⟨Nat.le_of_ble_eq_true rfl, Nat.le_of_ble_eq_true rfl⟩ ⟨by show 20 + t + 0 ≤ 1052; omega, by show 9036 + 6 * t + 6 * 0 ≤ 17276; omega⟩ [11, 12, 13, 14, 15, 16, 17, 18] [0, 1, 2, 3, 4, 5, 6, 7, 8, 9, 10] rfl rfl (by decide) (by decide) (by decide) 0 rfl rfl rfl (Nat.le_of_ble_eq_true rfl) dL_law_647 (fun v w q => ?_)
      obtain ⟨rfl, rfl⟩ := q
      refine kx_widen (k := 20 + t) (n := 9036 + 6 * t) (by show 20 + t + 0 ≤ 20 + t; omega) (by show 9036 + 6 * t + 6 * 0 ≤ 9036 + 6 * t; omega) ?_
      refine kx_iload C dL_law_650 1 rfl ?_
      refine kx_icmp_eq (tgt := 657) C (by omega) (by omega) dL_law_652 (by decide) (fun c4 => ?_) (fun c4 => ?_)
      · skip
        refine kx_iload C dL_law_657 1 rfl ?_
        refine kx_if_ne (tgt := 674) C (by omega) dL_law_659 (by decide) (fun c5 => ?_) (fun c5 => ?_)
        · skip
          refine kx_goto (tgt := 1319) C dL_law_674 (by decide) ?_
          refine kx_lv (lv2 := [(0, .ref (b9)), (1, .ref (K 0)), (2, .ref (J 0)), (3, .ref (ob)), (4, .int (nI (4 * t)))]) [2, 3, 4, 5, 6] rfl ?_
          exact hB _ _ _ _ _ _ _ _ _ _ _ _ _ _ _ _ _ _ _ _ _ _ _ _ HO HM
        · skip
          exact absurd c5 (by decide)
      · skip
        exact absurd c4 (by decide)

set_option maxHeartbeats 4000000 in
set_option maxRecDepth 100000 in
theorem lc_key (E : KE) (G : KG) (C : kc E G cL_law 7 RL) (hHP : kHP (kGs G)) (HX : E.1.stackTraces = false) (K J : Nat → Nat) (ob b9 L t : Nat) (xs : Nat → Int32) (hX : kSc G b9 L xs) (hL : L ≤ 2048) (ht4 : 4 * t + 4 ≤ L) (hB : kLB E G K J ob b9 t) (b y o n ls bc tk hk : Nat) (P Wt Tu Sc Ta Wa He Fk Pk : Nat → Nat) (cd : Nat) (Rm Ym Tm Cm Km : Nat → Nat) (f0 : Nat → Int64) (HO : kOk b y o n ls bc tk hk P Wt Tu Sc Ta Wa He Fk Pk) (HM : kMo n b y o Wt P Rm Ym Km) : kx E room_1 G 7 (19 + t) (9030 + 6 * t) ((kOu E ob f0 :: (kwW E K b y o n ls bc tk hk P Wt Tu Sc Ta Wa He Fk Pk)) ++ (kmW E J cd n b y o Wt P Rm Ym Tm Cm Km)) [(0, .ref (b9)), (1, .ref (K 0)), (2, .ref (J 0)), (3, .ref (ob)), (4, .int (nI (4 * t)))] 690 [] := by
  obtain ⟨H1, Hb, Hy, Ho, HP, HW, HRm, HYm, HKm⟩ := id HM
  obtain ⟨x0, e0⟩ : ∃ x : Int32, xs (4 * t + 1) = x := ⟨_, rfl⟩
  refine kx_aload_n C dL_law_690 rfl 1 rfl ?_
  refine kx_aload_n C dL_law_691 rfl 0 rfl ?_
  refine kx_iload C dL_law_692 4 rfl ?_
  refine kx_iconst (v := nI 1) C dL_law_694 (by decide +kernel) ?_
  refine kx_iadd C dL_law_695 ?_
  refine kx_sld C hX hL (by omega) e0 dL_law_696 ?_
  refine kx_aload_n C dL_law_697 rfl 3 rfl ?_
  refine kx_callSH (rest := []) (wr := (kmW E J cd n b y o Wt P Rm Ym Tm Cm Km)) C hHP (l_key E K b y o n ls bc tk hk P Wt Tu Sc Ta Wa He Fk Pk ob f0 x0 (c_key E K b y o n ls bc tk hk P Wt Tu Sc Ta Wa He Fk Pk x0 HX HO) (fun _ _ h => h.1)) (kgH mL_116 sm_L_key ini_KeyWalksLaw cw_key) 3 rfl (by decide +kernel) ⟨Nat.le_of_ble_eq_true rfl, Nat.le_of_ble_eq_true rfl⟩ ⟨by show 19 + t + 1 ≤ 1052; omega, by show 9030 + 6 * t + 6 * 1 ≤ 17276; omega⟩ [0, 1, 2, 3, 4, 5, 6, 7, 8, 9, 10] [11, 12, 13, 14, 15, 16, 17, 18] rfl rfl (by decide) (by decide) (by decide) rfl (Nat.le_of_ble_eq_true rfl) dL_law_698 (fun v w q => ?_)
  refine kx_widen (k := 20 + t) (n := 9036 + 6 * t) (by show 19 + t + 1 ≤ 20 + t; omega) (by show 9030 + 6 * t + 6 * 1 ≤ 9036 + 6 * t; omega) ?_
  rcases q with ⟨rfl, r9, w9, f, hp, hf, rfl⟩ | ⟨rfl, w9, hx, rfl⟩
  · skip
    obtain ⟨sl, rfl, esl, ls2, bc2, Tv, Sv, Av, Vv, Fv, rfl, HO2, rfl⟩ := hp
    refine kx_istore (lv2 := [(5, .int (nI (0))), (0, .ref (b9)), (1, .ref (K 0)), (2, .ref (J 0)), (3, .ref (ob)), (4, .int (nI (4 * t)))]) C dL_law_701 (by decide) rfl ?_
    refine kx_aload_n C dL_law_703 rfl 3 rfl ?_
    refine kx_aload_n C dL_law_704 rfl 1 rfl ?_
    refine kx_iload C dL_law_705 5 rfl ?_
    refine kx_iconst (v := nI 1) C dL_law_707 (by decide +kernel) ?_
    refine kx_iadd C dL_law_708 ?_
    refine kx_sld C hX hL (by omega) e0 dL_law_709 ?_
    refine kx_callVi (rest := []) (wr := kOu E ob f :: (kwW E K b y o n ls2 bc2 1 hk P Wt Tv Sv Av Vv He Fv Pk)) C (m_key E J cd n b y o Wt P Rm Ym Tm Cm Km (nI sl) HM) gL_119 1 rfl (by decide +kernel) ⟨Nat.le_of_ble_eq_true rfl, Nat.le_of_ble_eq_true rfl⟩ ⟨by show 20 + t + 0 ≤ 1052; omega, by show 9036 + 6 * t + 6 * 0 ≤ 17276; omega⟩ [0, 1, 2, 3, 4, 5, 6, 7] [8, 9, 10, 11, 12, 13, 14, 15, 16, 17, 18] rfl rfl (by decide) (by decide) (by decide) 0 rfl rfl rfl (Nat.le_of_ble_eq_true rfl) dL_law_710 (fun v w q => ?_)
    refine kx_widen (k := 20 + t) (n := 9036 + 6 * t) (by show 20 + t + 0 ≤ 20 + t; omega) (by show 9036 + 6 * t + 6 * 0 ≤ 9036 + 6 * t; omega) ?_
    rcases q with ⟨s2, g1, es2, R2, Y2, T2, C2, K2, rfl, HM2, rfl⟩ | ⟨hb2, -, -⟩
    · skip
      obtain rfl := nJ g1 (by omega) (by omega)
      refine kx_istore (lv2 := [(6, .int (nI (fsN n b y o P Wt sl))), (5, .int (nI (0))), (0, .ref (b9)), (1, .ref (K 0)), (2, .ref (J 0)), (3, .ref (ob)), (4, .int (nI (4 * t)))]) C dL_law_713 (by decide) rfl ?_
      refine kx_aload_n C dL_law_715 rfl 4 rfl ?_
      refine kx_callVi (rest := []) (wr := kOu E ob f :: (kwW E K b y o n ls2 bc2 1 hk P Wt Tv Sv Av Vv He Fv Pk)) C (m_thrown E J 0 n b y o Wt P R2 Y2 T2 C2 K2) gL_86 0 rfl (by decide +kernel) ⟨Nat.le_of_ble_eq_true rfl, Nat.le_of_ble_eq_true rfl⟩ ⟨by show 20 + t + 0 ≤ 1052; omega, by show 9036 + 6 * t + 6 * 0 ≤ 17276; omega⟩ [11, 12, 13, 14, 15, 16, 17, 18] [0, 1, 2, 3, 4, 5, 6, 7, 8, 9, 10] rfl rfl (by decide) (by decide) (by decide) 0 rfl rfl rfl (Nat.le_of_ble_eq_true rfl) dL_law_716 (fun v w q => ?_)
      obtain ⟨rfl, rfl⟩ := q
      refine kx_widen (k := 20 + t) (n := 9036 + 6 * t) (by show 20 + t + 0 ≤ 20 + t; omega) (by show 9036 + 6 * t + 6 * 0 ≤ 9036 + 6 * t; omega) ?_
      refine kx_iload C dL_law_719 1 rfl ?_
      refine kx_icmp_eq (tgt := 726) C (by omega) (by omega) dL_law_721 (by decide) (fun c1 => ?_) (fun c1 => ?_)
      · skip
        refine kx_iload C dL_law_726 1 rfl ?_
        refine kx_if_ne (tgt := 743) C (by omega) dL_law_728 (by decide) (fun c2 => ?_) (fun c2 => ?_)
        · skip
          exact absurd c2 (by decide)
        · skip
          refine kx_aload_n C dL_law_731 rfl 5 rfl ?_
          refine kx_iconst (v := nI 0) C dL_law_732 (by decide +kernel) ?_
          refine kx_laldO (x := (nI (Fv sl)).toInt64) C 0 rfl hf dL_law_733 ?_
          refine kx_iload C dL_law_734 0 rfl ?_
          refine kx_i2l (v := (nI (fsN n b y o P Wt sl)).toInt64) C dL_law_736 rfl ?_
          refine kx_lcmp_eqR (tgt := 743) C dL_law_737 dL_law_738 (by decide) (fun c3 => ?_) (fun c3 => ?_)
          · skip
            refine kx_goto (tgt := 1319) C dL_law_743 (by decide) ?_
            refine kx_lv (lv2 := [(0, .ref (b9)), (1, .ref (K 0)), (2, .ref (J 0)), (3, .ref (ob)), (4, .int (nI (4 * t)))]) [2, 3, 4, 5, 6] rfl ?_
            exact hB _ _ _ _ _ _ _ _ _ _ _ _ _ _ _ _ _ _ _ _ _ _ _ _ HO2 HM2
          · skip
            exact absurd (congrArg Int32.toInt64 (by rw [ok_fk HO2 sl esl])) c3
      · skip
        exact absurd c1 (by decide)
    · skip
      exact absurd ⟨sl, esl, rfl⟩ hb2
  · skip
    obtain ⟨-, hb, rfl⟩ := hx
    refine kx_istore (lv2 := [(5, .int (nI (1))), (0, .ref (b9)), (1, .ref (K 0)), (2, .ref (J 0)), (3, .ref (ob)), (4, .int (nI (4 * t)))]) C dL_law_701 (by decide) rfl ?_
    refine kx_aload_n C dL_law_703 rfl 3 rfl ?_
    refine kx_aload_n C dL_law_704 rfl 1 rfl ?_
    refine kx_iload C dL_law_705 5 rfl ?_
    refine kx_iconst (v := nI 1) C dL_law_707 (by decide +kernel) ?_
    refine kx_iadd C dL_law_708 ?_
    refine kx_sld C hX hL (by omega) e0 dL_law_709 ?_
    refine kx_callVi (rest := []) (wr := kOu E ob f0 :: (kwW E K b y o n ls bc tk hk P Wt Tu Sc Ta Wa He Fk Pk)) C (m_key E J cd n b y o Wt P Rm Ym Tm Cm Km x0 HM) gL_119 1 rfl (by decide +kernel) ⟨Nat.le_of_ble_eq_true rfl, Nat.le_of_ble_eq_true rfl⟩ ⟨by show 20 + t + 0 ≤ 1052; omega, by show 9036 + 6 * t + 6 * 0 ≤ 17276; omega⟩ [0, 1, 2, 3, 4, 5, 6, 7] [8, 9, 10, 11, 12, 13, 14, 15, 16, 17, 18] rfl rfl (by decide) (by decide) (by decide) 0 rfl rfl rfl (Nat.le_of_ble_eq_true rfl) dL_law_710 (fun v w q => ?_)
    refine kx_widen (k := 20 + t) (n := 9036 + 6 * t) (by show 20 + t + 0 ≤ 20 + t; omega) (by show 9036 + 6 * t + 6 * 0 ≤ 9036 + 6 * t; omega) ?_
    rcases q with ⟨s2, g1, es2, R2, Y2, T2, C2, K2, -, HM2, -⟩ | ⟨-, rfl, rfl⟩
    · skip
      exact absurd ⟨s2, es2, g1⟩ hb
    · skip
      refine kx_istore (lv2 := [(6, .int (nI 0)), (5, .int (nI (1))), (0, .ref (b9)), (1, .ref (K 0)), (2, .ref (J 0)), (3, .ref (ob)), (4, .int (nI (4 * t)))]) C dL_law_713 (by decide) rfl ?_
      refine kx_aload_n C dL_law_715 rfl 4 rfl ?_
      refine kx_callVi (rest := []) (wr := kOu E ob f0 :: (kwW E K b y o n ls bc tk hk P Wt Tu Sc Ta Wa He Fk Pk)) C (m_thrown E J 1 n b y o Wt P Rm Ym Tm Cm Km) gL_86 0 rfl (by decide +kernel) ⟨Nat.le_of_ble_eq_true rfl, Nat.le_of_ble_eq_true rfl⟩ ⟨by show 20 + t + 0 ≤ 1052; omega, by show 9036 + 6 * t + 6 * 0 ≤ 17276; omega⟩ [11, 12, 13, 14, 15, 16, 17, 18] [0, 1, 2, 3, 4, 5, 6, 7, 8, 9, 10] rfl rfl (by decide) (by decide) (by decide) 0 rfl rfl rfl (Nat.le_of_ble_eq_true rfl) dL_law_716 (fun v w q => ?_)
      obtain ⟨rfl, rfl⟩ := q
      refine kx_widen (k := 20 + t) (n := 9036 + 6 * t) (by show 20 + t + 0 ≤ 20 + t; omega) (by show 9036 + 6 * t + 6 * 0 ≤ 9036 + 6 * t; omega) ?_
      refine kx_iload C dL_law_719 1 rfl ?_
      refine kx_icmp_eq (tgt := 726) C (by omega) (by omega) dL_law_721 (by decide) (fun c4 => ?_) (fun c4 => ?_)
      · skip
        refine kx_iload C dL_law_726 1 rfl ?_
        refine kx_if_ne (tgt := 743) C (by omega) dL_law_728 (by decide) (fun c5 => ?_) (fun c5 => ?_)
        · skip
          refine kx_goto (tgt := 1319) C dL_law_743 (by decide) ?_
          refine kx_lv (lv2 := [(0, .ref (b9)), (1, .ref (K 0)), (2, .ref (J 0)), (3, .ref (ob)), (4, .int (nI (4 * t)))]) [2, 3, 4, 5, 6] rfl ?_
          exact hB _ _ _ _ _ _ _ _ _ _ _ _ _ _ _ _ _ _ _ _ _ _ _ _ HO HM
        · skip
          exact absurd c5 (by decide)
      · skip
        exact absurd c4 (by decide)

set_option maxHeartbeats 4000000 in
set_option maxRecDepth 100000 in
theorem lc_pick (E : KE) (G : KG) (C : kc E G cL_law 7 RL) (hHP : kHP (kGs G)) (HX : E.1.stackTraces = false) (K J : Nat → Nat) (ob b9 L t : Nat) (xs : Nat → Int32) (hX : kSc G b9 L xs) (hL : L ≤ 2048) (ht4 : 4 * t + 4 ≤ L) (hB : kLB E G K J ob b9 t) (b y o n ls bc tk hk : Nat) (P Wt Tu Sc Ta Wa He Fk Pk : Nat → Nat) (cd : Nat) (Rm Ym Tm Cm Km : Nat → Nat) (f0 : Nat → Int64) (HO : kOk b y o n ls bc tk hk P Wt Tu Sc Ta Wa He Fk Pk) (HM : kMo n b y o Wt P Rm Ym Km) : kx E room_1 G 7 (19 + t) (9030 + 6 * t) ((kOu E ob f0 :: (kwW E K b y o n ls bc tk hk P Wt Tu Sc Ta Wa He Fk Pk)) ++ (kmW E J cd n b y o Wt P Rm Ym Tm Cm Km)) [(0, .ref (b9)), (1, .ref (K 0)), (2, .ref (J 0)), (3, .ref (ob)), (4, .int (nI (4 * t)))] 760 [] := by
  obtain ⟨H1, Hb, Hy, Ho, HP, HW, HRm, HYm, HKm⟩ := id HM
  obtain ⟨x0, e0⟩ : ∃ x : Int32, xs (4 * t + 1) = x := ⟨_, rfl⟩
  obtain ⟨x1, e1⟩ : ∃ x : Int32, xs (4 * t + 2) = x := ⟨_, rfl⟩
  obtain ⟨x2, e2⟩ : ∃ x : Int32, xs (4 * t + 3) = x := ⟨_, rfl⟩
  obtain ⟨z9, ez⟩ : ∃ z : Int64, (((x0).toInt64) <<< ((nI (32)).toInt64 &&& 63)) ||| (((x1).toInt64) &&& (lN (4294967295))) = z := ⟨_, rfl⟩
  refine kx_aload_n C dL_law_760 rfl 1 rfl ?_
  refine kx_aload_n C dL_law_761 rfl 0 rfl ?_
  refine kx_iload C dL_law_762 4 rfl ?_
  refine kx_iconst (v := nI 1) C dL_law_764 (by decide +kernel) ?_
  refine kx_iadd C dL_law_765 ?_
  refine kx_sld C hX hL (by omega) e0 dL_law_766 ?_
  refine kx_i2l (v := (x0).toInt64) C dL_law_767 rfl ?_
  refine kx_bipush (v := nI 32) C dL_law_768 (by decide +kernel) ?_
  refine kx_lshl (v := ((x0).toInt64) <<< ((nI (32)).toInt64 &&& 63)) C dL_law_770 rfl ?_
  refine kx_aload_n C dL_law_771 rfl 0 rfl ?_
  refine kx_iload C dL_law_772 4 rfl ?_
  refine kx_iconst (v := nI 2) C dL_law_774 (by decide +kernel) ?_
  refine kx_iadd C dL_law_775 ?_
  refine kx_sld C hX hL (by omega) e1 dL_law_776 ?_
  refine kx_i2l (v := (x1).toInt64) C dL_law_777 rfl ?_
  refine kx_ldc2 (v := lN 4294967295) C kcL_125 dL_law_778 ?_
  refine kx_landR C dL_law_781 ?_
  refine kx_lorR C dL_law_782 ?_
  refine kx_toplR ez ?_
  refine kx_aload_n C dL_law_783 rfl 0 rfl ?_
  refine kx_iload C dL_law_784 4 rfl ?_
  refine kx_iconst (v := nI 3) C dL_law_786 (by decide +kernel) ?_
  refine kx_iadd C dL_law_787 ?_
  refine kx_sld C hX hL (by omega) e2 dL_law_788 ?_
  refine kx_aload_n C dL_law_789 rfl 3 rfl ?_
  refine kx_callSH (rest := []) (wr := (kmW E J cd n b y o Wt P Rm Ym Tm Cm Km)) C hHP (l_pick E K b y o n ls bc tk hk P Wt Tu Sc Ta Wa He Fk Pk ob f0 z9 x2 (c_pick E K b y o n ls bc tk hk P Wt Tu Sc Ta Wa He Fk Pk z9 x2 HX HO) (fun _ _ h => h.1)) (kgH mL_127 sm_L_pick ini_KeyWalksLaw cw_pick) 4 rfl (by decide +kernel) ⟨Nat.le_of_ble_eq_true rfl, Nat.le_of_ble_eq_true rfl⟩ ⟨by show 19 + t + 1 ≤ 1052; omega, by show 9030 + 6 * t + 6 * 1 ≤ 17276; omega⟩ [0, 1, 2, 3, 4, 5, 6, 7, 8, 9, 10] [11, 12, 13, 14, 15, 16, 17, 18] rfl rfl (by decide) (by decide) (by decide) rfl (Nat.le_of_ble_eq_true rfl) dL_law_790 (fun v w q => ?_)
  refine kx_widen (k := 20 + t) (n := 9036 + 6 * t) (by show 19 + t + 1 ≤ 20 + t; omega) (by show 9030 + 6 * t + 6 * 1 ≤ 9036 + 6 * t; omega) ?_
  rcases q with ⟨rfl, r9, w9, f, hp, hf, rfl⟩ | ⟨rfl, w9, hx, rfl⟩
  · skip
    obtain ⟨i0, sl, rfl, ei0, rfl, esl, ls2, bc2, Tv, Sv, Av, Vv, Fv, Rv, rfl, HO2, rfl⟩ := hp
    refine kx_istore (lv2 := [(5, .int (nI (0))), (0, .ref (b9)), (1, .ref (K 0)), (2, .ref (J 0)), (3, .ref (ob)), (4, .int (nI (4 * t)))]) C dL_law_793 (by decide) rfl ?_
    refine kx_aload_n C dL_law_795 rfl 3 rfl ?_
    refine kx_aload_n C dL_law_796 rfl 1 rfl ?_
    refine kx_iload C dL_law_797 5 rfl ?_
    refine kx_iconst (v := nI 1) C dL_law_799 (by decide +kernel) ?_
    refine kx_iadd C dL_law_800 ?_
    refine kx_sld C hX hL (by omega) e0 dL_law_801 ?_
    refine kx_i2l (v := (x0).toInt64) C dL_law_802 rfl ?_
    refine kx_bipush (v := nI 32) C dL_law_803 (by decide +kernel) ?_
    refine kx_lshl (v := ((x0).toInt64) <<< ((nI (32)).toInt64 &&& 63)) C dL_law_805 rfl ?_
    refine kx_aload_n C dL_law_806 rfl 1 rfl ?_
    refine kx_iload C dL_law_807 5 rfl ?_
    refine kx_iconst (v := nI 2) C dL_law_809 (by decide +kernel) ?_
    refine kx_iadd C dL_law_810 ?_
    refine kx_sld C hX hL (by omega) e1 dL_law_811 ?_
    refine kx_i2l (v := (x1).toInt64) C dL_law_812 rfl ?_
    refine kx_ldc2 (v := lN 4294967295) C kcL_125 dL_law_813 ?_
    refine kx_landR C dL_law_816 ?_
    refine kx_lorR C dL_law_817 ?_
    refine kx_toplR ez ?_
    refine kx_aload_n C dL_law_818 rfl 1 rfl ?_
    refine kx_iload C dL_law_819 5 rfl ?_
    refine kx_iconst (v := nI 3) C dL_law_821 (by decide +kernel) ?_
    refine kx_iadd C dL_law_822 ?_
    refine kx_sld C hX hL (by omega) e2 dL_law_823 ?_
    refine kx_callVi (rest := []) (wr := kOu E ob f :: (kwW E K b y o n ls2 bc2 1 hk P Wt Tv Sv Av Vv He Fv Rv)) C (m_pick E J cd n b y o Wt P Rm Ym Tm Cm Km (lN i0) (nI sl) HM) gL_130 2 rfl (by decide +kernel) ⟨Nat.le_of_ble_eq_true rfl, Nat.le_of_ble_eq_true rfl⟩ ⟨by show 20 + t + 0 ≤ 1052; omega, by show 9036 + 6 * t + 6 * 0 ≤ 17276; omega⟩ [0, 1, 2, 3, 4, 5, 6, 7] [8, 9, 10, 11, 12, 13, 14, 15, 16, 17, 18] rfl rfl (by decide) (by decide) (by decide) 0 rfl rfl rfl (Nat.le_of_ble_eq_true rfl) dL_law_824 (fun v w q => ?_)
    refine kx_widen (k := 20 + t) (n := 9036 + 6 * t) (by show 20 + t + 0 ≤ 20 + t; omega) (by show 9036 + 6 * t + 6 * 0 ≤ 9036 + 6 * t; omega) ?_
    rcases q with ⟨i2, s2, g1, ei2, g2, es2, R2, Y2, T2, C2, K2, rfl, HM2, rfl⟩ | ⟨hb2, -, -⟩
    · skip
      obtain rfl := lJ g1 (by omega) (by omega)
      obtain rfl := nJ g2 (by omega) (by omega)
      refine kx_istore (lv2 := [(6, .int (kO (kFs n b y o P Wt (lsN n b y o P Wt) i0 (sl + 1)).1)), (5, .int (nI (0))), (0, .ref (b9)), (1, .ref (K 0)), (2, .ref (J 0)), (3, .ref (ob)), (4, .int (nI (4 * t)))]) C dL_law_827 (by decide) rfl ?_
      refine kx_aload_n C dL_law_829 rfl 4 rfl ?_
      refine kx_callVi (rest := []) (wr := kOu E ob f :: (kwW E K b y o n ls2 bc2 1 hk P Wt Tv Sv Av Vv He Fv Rv)) C (m_thrown E J 0 n b y o Wt P R2 Y2 T2 C2 K2) gL_86 0 rfl (by decide +kernel) ⟨Nat.le_of_ble_eq_true rfl, Nat.le_of_ble_eq_true rfl⟩ ⟨by show 20 + t + 0 ≤ 1052; omega, by show 9036 + 6 * t + 6 * 0 ≤ 17276; omega⟩ [11, 12, 13, 14, 15, 16, 17, 18] [0, 1, 2, 3, 4, 5, 6, 7, 8, 9, 10] rfl rfl (by decide) (by decide) (by decide) 0 rfl rfl rfl (Nat.le_of_ble_eq_true rfl) dL_law_830 (fun v w q => ?_)
      obtain ⟨rfl, rfl⟩ := q
      refine kx_widen (k := 20 + t) (n := 9036 + 6 * t) (by show 20 + t + 0 ≤ 20 + t; omega) (by show 9036 + 6 * t + 6 * 0 ≤ 9036 + 6 * t; omega) ?_
      refine kx_iload C dL_law_833 1 rfl ?_
      refine kx_icmp_eq (tgt := 840) C (by omega) (by omega) dL_law_835 (by decide) (fun c1 => ?_) (fun c1 => ?_)
      · skip
        refine kx_iload C dL_law_840 1 rfl ?_
        refine kx_if_ne (tgt := 857) C (by omega) dL_law_842 (by decide) (fun c2 => ?_) (fun c2 => ?_)
        · skip
          exact absurd c2 (by decide)
        · skip
          refine kx_aload_n C dL_law_845 rfl 5 rfl ?_
          refine kx_iconst (v := nI 0) C dL_law_846 (by decide +kernel) ?_
          refine kx_laldO (x := (kO (kFs n b y o P Wt ls2 i0 (sl + 1)).1).toInt64) C 0 rfl hf dL_law_847 ?_
          refine kx_iload C dL_law_848 0 rfl ?_
          refine kx_i2l (v := (kO (kFs n b y o P Wt (lsN n b y o P Wt) i0 (sl + 1)).1).toInt64) C dL_law_850 rfl ?_
          refine kx_lcmp_eqR (tgt := 857) C dL_law_851 dL_law_852 (by decide) (fun c3 => ?_) (fun c3 => ?_)
          · skip
            refine kx_goto (tgt := 1319) C dL_law_857 (by decide) ?_
            refine kx_lv (lv2 := [(0, .ref (b9)), (1, .ref (K 0)), (2, .ref (J 0)), (3, .ref (ob)), (4, .int (nI (4 * t)))]) [2, 3, 4, 5, 6] rfl ?_
            exact hB _ _ _ _ _ _ _ _ _ _ _ _ _ _ _ _ _ _ _ _ _ _ _ _ HO2 HM2
          · skip
            exact absurd (congrArg Int32.toInt64 (by rw [ok_ls HO2])) c3
      · skip
        exact absurd c1 (by decide)
    · skip
      exact absurd ⟨⟨i0, ei0, rfl⟩, ⟨sl, esl, rfl⟩⟩ hb2
  · skip
    obtain ⟨-, hb, rfl⟩ := hx
    refine kx_istore (lv2 := [(5, .int (nI (1))), (0, .ref (b9)), (1, .ref (K 0)), (2, .ref (J 0)), (3, .ref (ob)), (4, .int (nI (4 * t)))]) C dL_law_793 (by decide) rfl ?_
    refine kx_aload_n C dL_law_795 rfl 3 rfl ?_
    refine kx_aload_n C dL_law_796 rfl 1 rfl ?_
    refine kx_iload C dL_law_797 5 rfl ?_
    refine kx_iconst (v := nI 1) C dL_law_799 (by decide +kernel) ?_
    refine kx_iadd C dL_law_800 ?_
    refine kx_sld C hX hL (by omega) e0 dL_law_801 ?_
    refine kx_i2l (v := (x0).toInt64) C dL_law_802 rfl ?_
    refine kx_bipush (v := nI 32) C dL_law_803 (by decide +kernel) ?_
    refine kx_lshl (v := ((x0).toInt64) <<< ((nI (32)).toInt64 &&& 63)) C dL_law_805 rfl ?_
    refine kx_aload_n C dL_law_806 rfl 1 rfl ?_
    refine kx_iload C dL_law_807 5 rfl ?_
    refine kx_iconst (v := nI 2) C dL_law_809 (by decide +kernel) ?_
    refine kx_iadd C dL_law_810 ?_
    refine kx_sld C hX hL (by omega) e1 dL_law_811 ?_
    refine kx_i2l (v := (x1).toInt64) C dL_law_812 rfl ?_
    refine kx_ldc2 (v := lN 4294967295) C kcL_125 dL_law_813 ?_
    refine kx_landR C dL_law_816 ?_
    refine kx_lorR C dL_law_817 ?_
    refine kx_toplR ez ?_
    refine kx_aload_n C dL_law_818 rfl 1 rfl ?_
    refine kx_iload C dL_law_819 5 rfl ?_
    refine kx_iconst (v := nI 3) C dL_law_821 (by decide +kernel) ?_
    refine kx_iadd C dL_law_822 ?_
    refine kx_sld C hX hL (by omega) e2 dL_law_823 ?_
    refine kx_callVi (rest := []) (wr := kOu E ob f0 :: (kwW E K b y o n ls bc tk hk P Wt Tu Sc Ta Wa He Fk Pk)) C (m_pick E J cd n b y o Wt P Rm Ym Tm Cm Km z9 x2 HM) gL_130 2 rfl (by decide +kernel) ⟨Nat.le_of_ble_eq_true rfl, Nat.le_of_ble_eq_true rfl⟩ ⟨by show 20 + t + 0 ≤ 1052; omega, by show 9036 + 6 * t + 6 * 0 ≤ 17276; omega⟩ [0, 1, 2, 3, 4, 5, 6, 7] [8, 9, 10, 11, 12, 13, 14, 15, 16, 17, 18] rfl rfl (by decide) (by decide) (by decide) 0 rfl rfl rfl (Nat.le_of_ble_eq_true rfl) dL_law_824 (fun v w q => ?_)
    refine kx_widen (k := 20 + t) (n := 9036 + 6 * t) (by show 20 + t + 0 ≤ 20 + t; omega) (by show 9036 + 6 * t + 6 * 0 ≤ 9036 + 6 * t; omega) ?_
    rcases q with ⟨i2, s2, g1, ei2, g2, es2, R2, Y2, T2, C2, K2, -, HM2, -⟩ | ⟨-, rfl, rfl⟩
    · skip
      exact absurd ⟨⟨i2, ei2, g1⟩, ⟨s2, es2, g2⟩⟩ hb
    · skip
      refine kx_istore (lv2 := [(6, .int (nI 0)), (5, .int (nI (1))), (0, .ref (b9)), (1, .ref (K 0)), (2, .ref (J 0)), (3, .ref (ob)), (4, .int (nI (4 * t)))]) C dL_law_827 (by decide) rfl ?_
      refine kx_aload_n C dL_law_829 rfl 4 rfl ?_
      refine kx_callVi (rest := []) (wr := kOu E ob f0 :: (kwW E K b y o n ls bc tk hk P Wt Tu Sc Ta Wa He Fk Pk)) C (m_thrown E J 1 n b y o Wt P Rm Ym Tm Cm Km) gL_86 0 rfl (by decide +kernel) ⟨Nat.le_of_ble_eq_true rfl, Nat.le_of_ble_eq_true rfl⟩ ⟨by show 20 + t + 0 ≤ 1052; omega, by show 9036 + 6 * t + 6 * 0 ≤ 17276; omega⟩ [11, 12, 13, 14, 15, 16, 17, 18] [0, 1, 2, 3, 4, 5, 6, 7, 8, 9, 10] rfl rfl (by decide) (by decide) (by decide) 0 rfl rfl rfl (Nat.le_of_ble_eq_true rfl) dL_law_830 (fun v w q => ?_)
      obtain ⟨rfl, rfl⟩ := q
      refine kx_widen (k := 20 + t) (n := 9036 + 6 * t) (by show 20 + t + 0 ≤ 20 + t; omega) (by show 9036 + 6 * t + 6 * 0 ≤ 9036 + 6 * t; omega) ?_
      refine kx_iload C dL_law_833 1 rfl ?_
      refine kx_icmp_eq (tgt := 840) C (by omega) (by omega) dL_law_835 (by decide) (fun c4 => ?_) (fun c4 => ?_)
      · skip
        refine kx_iload C dL_law_840 1 rfl ?_
        refine kx_if_ne (tgt := 857) C (by omega) dL_law_842 (by decide) (fun c5 => ?_) (fun c5 => ?_)
        · skip
          refine kx_goto (tgt := 1319) C dL_law_857 (by decide) ?_
          refine kx_lv (lv2 := [(0, .ref (b9)), (1, .ref (K 0)), (2, .ref (J 0)), (3, .ref (ob)), (4, .int (nI (4 * t)))]) [2, 3, 4, 5, 6] rfl ?_
          exact hB _ _ _ _ _ _ _ _ _ _ _ _ _ _ _ _ _ _ _ _ _ _ _ _ HO HM
        · skip
          exact absurd c5 (by decide)
      · skip
        exact absurd c4 (by decide)

set_option maxHeartbeats 4000000 in
set_option maxRecDepth 100000 in
theorem lc_through (E : KE) (G : KG) (C : kc E G cL_law 7 RL) (hHP : kHP (kGs G)) (HX : E.1.stackTraces = false) (K J : Nat → Nat) (ob b9 L t : Nat) (xs : Nat → Int32) (hX : kSc G b9 L xs) (hL : L ≤ 2048) (ht4 : 4 * t + 4 ≤ L) (hB : kLB E G K J ob b9 t) (b y o n ls bc tk hk : Nat) (P Wt Tu Sc Ta Wa He Fk Pk : Nat → Nat) (cd : Nat) (Rm Ym Tm Cm Km : Nat → Nat) (f0 : Nat → Int64) (HO : kOk b y o n ls bc tk hk P Wt Tu Sc Ta Wa He Fk Pk) (HM : kMo n b y o Wt P Rm Ym Km) : kx E room_1 G 7 (19 + t) (9030 + 6 * t) ((kOu E ob f0 :: (kwW E K b y o n ls bc tk hk P Wt Tu Sc Ta Wa He Fk Pk)) ++ (kmW E J cd n b y o Wt P Rm Ym Tm Cm Km)) [(0, .ref (b9)), (1, .ref (K 0)), (2, .ref (J 0)), (3, .ref (ob)), (4, .int (nI (4 * t)))] 860 [] := by
  obtain ⟨H1, Hb, Hy, Ho, HP, HW, HRm, HYm, HKm⟩ := id HM
  obtain ⟨x0, e0⟩ : ∃ x : Int32, xs (4 * t + 1) = x := ⟨_, rfl⟩
  obtain ⟨x1, e1⟩ : ∃ x : Int32, xs (4 * t + 2) = x := ⟨_, rfl⟩
  refine kx_aload_n C dL_law_860 rfl 1 rfl ?_
  refine kx_aload_n C dL_law_861 rfl 0 rfl ?_
  refine kx_iload C dL_law_862 4 rfl ?_
  refine kx_iconst (v := nI 1) C dL_law_864 (by decide +kernel) ?_
  refine kx_iadd C dL_law_865 ?_
  refine kx_sld C hX hL (by omega) e0 dL_law_866 ?_
  refine kx_aload_n C dL_law_867 rfl 0 rfl ?_
  refine kx_iload C dL_law_868 4 rfl ?_
  refine kx_iconst (v := nI 2) C dL_law_870 (by decide +kernel) ?_
  refine kx_iadd C dL_law_871 ?_
  refine kx_sld C hX hL (by omega) e1 dL_law_872 ?_
  refine kx_aload_n C dL_law_873 rfl 3 rfl ?_
  refine kx_callSH (rest := []) (wr := (kmW E J cd n b y o Wt P Rm Ym Tm Cm Km)) C hHP (l_through E K b y o n ls bc tk hk P Wt Tu Sc Ta Wa He Fk Pk ob f0 x0 x1 (c_through E K b y o n ls bc tk hk P Wt Tu Sc Ta Wa He Fk Pk x0 x1 HX HO) (fun _ _ h => h.1)) (kgH mL_131 sm_L_through ini_KeyWalksLaw cw_through) 4 rfl (by decide +kernel) ⟨Nat.le_of_ble_eq_true rfl, Nat.le_of_ble_eq_true rfl⟩ ⟨by show 19 + t + 1 ≤ 1052; omega, by show 9030 + 6 * t + 6 * 1 ≤ 17276; omega⟩ [0, 1, 2, 3, 4, 5, 6, 7, 8, 9, 10] [11, 12, 13, 14, 15, 16, 17, 18] rfl rfl (by decide) (by decide) (by decide) rfl (Nat.le_of_ble_eq_true rfl) dL_law_874 (fun v w q => ?_)
  refine kx_widen (k := 20 + t) (n := 9036 + 6 * t) (by show 19 + t + 1 ≤ 20 + t; omega) (by show 9030 + 6 * t + 6 * 1 ≤ 9036 + 6 * t; omega) ?_
  rcases q with ⟨rfl, r9, w9, f, hp, hf, rfl⟩ | ⟨rfl, w9, hx, rfl⟩
  · skip
    obtain ⟨sl, k, rfl, esl, rfl, ek, ls2, bc2, Tv, Sv, Av, Vv, Fv, Hv, rfl, HO2, rfl⟩ := hp
    refine kx_istore (lv2 := [(5, .int (nI (0))), (0, .ref (b9)), (1, .ref (K 0)), (2, .ref (J 0)), (3, .ref (ob)), (4, .int (nI (4 * t)))]) C dL_law_877 (by decide) rfl ?_
    refine kx_aload_n C dL_law_879 rfl 3 rfl ?_
    refine kx_aload_n C dL_law_880 rfl 1 rfl ?_
    refine kx_iload C dL_law_881 5 rfl ?_
    refine kx_iconst (v := nI 1) C dL_law_883 (by decide +kernel) ?_
    refine kx_iadd C dL_law_884 ?_
    refine kx_sld C hX hL (by omega) e0 dL_law_885 ?_
    refine kx_aload_n C dL_law_886 rfl 1 rfl ?_
    refine kx_iload C dL_law_887 5 rfl ?_
    refine kx_iconst (v := nI 2) C dL_law_889 (by decide +kernel) ?_
    refine kx_iadd C dL_law_890 ?_
    refine kx_sld C hX hL (by omega) e1 dL_law_891 ?_
    refine kx_callVi (rest := []) (wr := kOu E ob f :: (kwW E K b y o n ls2 bc2 1 1 P Wt Tv Sv Av Vv Hv Fv Pk)) C (m_through E J cd n b y o Wt P Rm Ym Tm Cm Km (nI sl) (nI k) HM) gL_133 2 rfl (by decide +kernel) ⟨Nat.le_of_ble_eq_true rfl, Nat.le_of_ble_eq_true rfl⟩ ⟨by show 20 + t + 0 ≤ 1052; omega, by show 9036 + 6 * t + 6 * 0 ≤ 17276; omega⟩ [0, 1, 2, 3, 4, 5, 6, 7] [8, 9, 10, 11, 12, 13, 14, 15, 16, 17, 18] rfl rfl (by decide) (by decide) (by decide) 0 rfl rfl rfl (Nat.le_of_ble_eq_true rfl) dL_law_892 (fun v w q => ?_)
    refine kx_widen (k := 20 + t) (n := 9036 + 6 * t) (by show 20 + t + 0 ≤ 20 + t; omega) (by show 9036 + 6 * t + 6 * 0 ≤ 9036 + 6 * t; omega) ?_
    rcases q with ⟨s2, k2, g1, es2, g2, ek2, R2, Y2, T2, C2, K2, rfl, HM2, rfl⟩ | ⟨hb2, -, -⟩
    · skip
      obtain rfl := nJ g1 (by omega) (by omega)
      obtain rfl := nJ g2 (by omega) (by omega)
      refine kx_istore (lv2 := [(6, .int (nI (thrN n b y o P Wt sl k))), (5, .int (nI (0))), (0, .ref (b9)), (1, .ref (K 0)), (2, .ref (J 0)), (3, .ref (ob)), (4, .int (nI (4 * t)))]) C dL_law_895 (by decide) rfl ?_
      refine kx_aload_n C dL_law_897 rfl 4 rfl ?_
      refine kx_callVi (rest := []) (wr := kOu E ob f :: (kwW E K b y o n ls2 bc2 1 1 P Wt Tv Sv Av Vv Hv Fv Pk)) C (m_thrown E J 0 n b y o Wt P R2 Y2 T2 C2 K2) gL_86 0 rfl (by decide +kernel) ⟨Nat.le_of_ble_eq_true rfl, Nat.le_of_ble_eq_true rfl⟩ ⟨by show 20 + t + 0 ≤ 1052; omega, by show 9036 + 6 * t + 6 * 0 ≤ 17276; omega⟩ [11, 12, 13, 14, 15, 16, 17, 18] [0, 1, 2, 3, 4, 5, 6, 7, 8, 9, 10] rfl rfl (by decide) (by decide) (by decide) 0 rfl rfl rfl (Nat.le_of_ble_eq_true rfl) dL_law_898 (fun v w q => ?_)
      obtain ⟨rfl, rfl⟩ := q
      refine kx_widen (k := 20 + t) (n := 9036 + 6 * t) (by show 20 + t + 0 ≤ 20 + t; omega) (by show 9036 + 6 * t + 6 * 0 ≤ 9036 + 6 * t; omega) ?_
      refine kx_iload C dL_law_901 1 rfl ?_
      refine kx_icmp_eq (tgt := 908) C (by omega) (by omega) dL_law_903 (by decide) (fun c1 => ?_) (fun c1 => ?_)
      · skip
        refine kx_iload C dL_law_908 1 rfl ?_
        refine kx_if_ne (tgt := 925) C (by omega) dL_law_910 (by decide) (fun c2 => ?_) (fun c2 => ?_)
        · skip
          exact absurd c2 (by decide)
        · skip
          refine kx_aload_n C dL_law_913 rfl 5 rfl ?_
          refine kx_iconst (v := nI 0) C dL_law_914 (by decide +kernel) ?_
          refine kx_laldO (x := (nI (thrN n b y o P Wt sl k)).toInt64) C 0 rfl hf dL_law_915 ?_
          refine kx_iload C dL_law_916 0 rfl ?_
          refine kx_i2l (v := (nI (thrN n b y o P Wt sl k)).toInt64) C dL_law_918 rfl ?_
          refine kx_lcmp_eqR (tgt := 925) C dL_law_919 dL_law_920 (by decide) (fun c3 => ?_) (fun c3 => ?_)
          · skip
            refine kx_goto (tgt := 1319) C dL_law_925 (by decide) ?_
            refine kx_lv (lv2 := [(0, .ref (b9)), (1, .ref (K 0)), (2, .ref (J 0)), (3, .ref (ob)), (4, .int (nI (4 * t)))]) [2, 3, 4, 5, 6] rfl ?_
            exact hB _ _ _ _ _ _ _ _ _ _ _ _ _ _ _ _ _ _ _ _ _ _ _ _ HO2 HM2
          · skip
            exact absurd (congrArg Int32.toInt64 rfl) c3
      · skip
        exact absurd c1 (by decide)
    · skip
      exact absurd ⟨⟨sl, esl, rfl⟩, ⟨k, ek, rfl⟩⟩ hb2
  · skip
    obtain ⟨-, hb, rfl⟩ := hx
    refine kx_istore (lv2 := [(5, .int (nI (1))), (0, .ref (b9)), (1, .ref (K 0)), (2, .ref (J 0)), (3, .ref (ob)), (4, .int (nI (4 * t)))]) C dL_law_877 (by decide) rfl ?_
    refine kx_aload_n C dL_law_879 rfl 3 rfl ?_
    refine kx_aload_n C dL_law_880 rfl 1 rfl ?_
    refine kx_iload C dL_law_881 5 rfl ?_
    refine kx_iconst (v := nI 1) C dL_law_883 (by decide +kernel) ?_
    refine kx_iadd C dL_law_884 ?_
    refine kx_sld C hX hL (by omega) e0 dL_law_885 ?_
    refine kx_aload_n C dL_law_886 rfl 1 rfl ?_
    refine kx_iload C dL_law_887 5 rfl ?_
    refine kx_iconst (v := nI 2) C dL_law_889 (by decide +kernel) ?_
    refine kx_iadd C dL_law_890 ?_
    refine kx_sld C hX hL (by omega) e1 dL_law_891 ?_
    refine kx_callVi (rest := []) (wr := kOu E ob f0 :: (kwW E K b y o n ls bc tk hk P Wt Tu Sc Ta Wa He Fk Pk)) C (m_through E J cd n b y o Wt P Rm Ym Tm Cm Km x0 x1 HM) gL_133 2 rfl (by decide +kernel) ⟨Nat.le_of_ble_eq_true rfl, Nat.le_of_ble_eq_true rfl⟩ ⟨by show 20 + t + 0 ≤ 1052; omega, by show 9036 + 6 * t + 6 * 0 ≤ 17276; omega⟩ [0, 1, 2, 3, 4, 5, 6, 7] [8, 9, 10, 11, 12, 13, 14, 15, 16, 17, 18] rfl rfl (by decide) (by decide) (by decide) 0 rfl rfl rfl (Nat.le_of_ble_eq_true rfl) dL_law_892 (fun v w q => ?_)
    refine kx_widen (k := 20 + t) (n := 9036 + 6 * t) (by show 20 + t + 0 ≤ 20 + t; omega) (by show 9036 + 6 * t + 6 * 0 ≤ 9036 + 6 * t; omega) ?_
    rcases q with ⟨s2, k2, g1, es2, g2, ek2, R2, Y2, T2, C2, K2, -, HM2, -⟩ | ⟨-, rfl, rfl⟩
    · skip
      exact absurd ⟨⟨s2, es2, g1⟩, ⟨k2, ek2, g2⟩⟩ hb
    · skip
      refine kx_istore (lv2 := [(6, .int (nI 0)), (5, .int (nI (1))), (0, .ref (b9)), (1, .ref (K 0)), (2, .ref (J 0)), (3, .ref (ob)), (4, .int (nI (4 * t)))]) C dL_law_895 (by decide) rfl ?_
      refine kx_aload_n C dL_law_897 rfl 4 rfl ?_
      refine kx_callVi (rest := []) (wr := kOu E ob f0 :: (kwW E K b y o n ls bc tk hk P Wt Tu Sc Ta Wa He Fk Pk)) C (m_thrown E J 1 n b y o Wt P Rm Ym Tm Cm Km) gL_86 0 rfl (by decide +kernel) ⟨Nat.le_of_ble_eq_true rfl, Nat.le_of_ble_eq_true rfl⟩ ⟨by show 20 + t + 0 ≤ 1052; omega, by show 9036 + 6 * t + 6 * 0 ≤ 17276; omega⟩ [11, 12, 13, 14, 15, 16, 17, 18] [0, 1, 2, 3, 4, 5, 6, 7, 8, 9, 10] rfl rfl (by decide) (by decide) (by decide) 0 rfl rfl rfl (Nat.le_of_ble_eq_true rfl) dL_law_898 (fun v w q => ?_)
      obtain ⟨rfl, rfl⟩ := q
      refine kx_widen (k := 20 + t) (n := 9036 + 6 * t) (by show 20 + t + 0 ≤ 20 + t; omega) (by show 9036 + 6 * t + 6 * 0 ≤ 9036 + 6 * t; omega) ?_
      refine kx_iload C dL_law_901 1 rfl ?_
      refine kx_icmp_eq (tgt := 908) C (by omega) (by omega) dL_law_903 (by decide) (fun c4 => ?_) (fun c4 => ?_)
      · skip
        refine kx_iload C dL_law_908 1 rfl ?_
        refine kx_if_ne (tgt := 925) C (by omega) dL_law_910 (by decide) (fun c5 => ?_) (fun c5 => ?_)
        · skip
          refine kx_goto (tgt := 1319) C dL_law_925 (by decide) ?_
          refine kx_lv (lv2 := [(0, .ref (b9)), (1, .ref (K 0)), (2, .ref (J 0)), (3, .ref (ob)), (4, .int (nI (4 * t)))]) [2, 3, 4, 5, 6] rfl ?_
          exact hB _ _ _ _ _ _ _ _ _ _ _ _ _ _ _ _ _ _ _ _ _ _ _ _ HO HM
        · skip
          exact absurd c5 (by decide)
      · skip
        exact absurd c4 (by decide)

set_option maxHeartbeats 4000000 in
set_option maxRecDepth 100000 in
theorem lc_near (E : KE) (G : KG) (C : kc E G cL_law 7 RL) (hHP : kHP (kGs G)) (HX : E.1.stackTraces = false) (K J : Nat → Nat) (ob b9 L t : Nat) (xs : Nat → Int32) (hX : kSc G b9 L xs) (hL : L ≤ 2048) (ht4 : 4 * t + 4 ≤ L) (hB : kLB E G K J ob b9 t) (b y o n ls bc tk hk : Nat) (P Wt Tu Sc Ta Wa He Fk Pk : Nat → Nat) (cd : Nat) (Rm Ym Tm Cm Km : Nat → Nat) (f0 : Nat → Int64) (HO : kOk b y o n ls bc tk hk P Wt Tu Sc Ta Wa He Fk Pk) (HM : kMo n b y o Wt P Rm Ym Km) : kx E room_1 G 7 (19 + t) (9030 + 6 * t) ((kOu E ob f0 :: (kwW E K b y o n ls bc tk hk P Wt Tu Sc Ta Wa He Fk Pk)) ++ (kmW E J cd n b y o Wt P Rm Ym Tm Cm Km)) [(0, .ref (b9)), (1, .ref (K 0)), (2, .ref (J 0)), (3, .ref (ob)), (4, .int (nI (4 * t)))] 928 [] := by
  obtain ⟨H1, Hb, Hy, Ho, HP, HW, HRm, HYm, HKm⟩ := id HM
  obtain ⟨x0, e0⟩ : ∃ x : Int32, xs (4 * t + 1) = x := ⟨_, rfl⟩
  obtain ⟨x1, e1⟩ : ∃ x : Int32, xs (4 * t + 2) = x := ⟨_, rfl⟩
  refine kx_aload_n C dL_law_928 rfl 1 rfl ?_
  refine kx_aload_n C dL_law_929 rfl 0 rfl ?_
  refine kx_iload C dL_law_930 4 rfl ?_
  refine kx_iconst (v := nI 1) C dL_law_932 (by decide +kernel) ?_
  refine kx_iadd C dL_law_933 ?_
  refine kx_sld C hX hL (by omega) e0 dL_law_934 ?_
  refine kx_aload_n C dL_law_935 rfl 0 rfl ?_
  refine kx_iload C dL_law_936 4 rfl ?_
  refine kx_iconst (v := nI 2) C dL_law_938 (by decide +kernel) ?_
  refine kx_iadd C dL_law_939 ?_
  refine kx_sld C hX hL (by omega) e1 dL_law_940 ?_
  refine kx_aload_n C dL_law_941 rfl 3 rfl ?_
  refine kx_callSH (rest := []) (wr := (kmW E J cd n b y o Wt P Rm Ym Tm Cm Km)) C hHP (l_near E K b y o n ls bc tk hk P Wt Tu Sc Ta Wa He Fk Pk ob f0 x0 x1 (c_near E K b y o n ls bc tk hk P Wt Tu Sc Ta Wa He Fk Pk x0 x1 HX HO) (fun _ _ h => h.1)) (kgH mL_134 sm_L_near ini_KeyWalksLaw cw_near) 4 rfl (by decide +kernel) ⟨Nat.le_of_ble_eq_true rfl, Nat.le_of_ble_eq_true rfl⟩ ⟨by show 19 + t + 1 ≤ 1052; omega, by show 9030 + 6 * t + 6 * 1 ≤ 17276; omega⟩ [0, 1, 2, 3, 4, 5, 6, 7, 8, 9, 10] [11, 12, 13, 14, 15, 16, 17, 18] rfl rfl (by decide) (by decide) (by decide) rfl (Nat.le_of_ble_eq_true rfl) dL_law_942 (fun v w q => ?_)
  refine kx_widen (k := 20 + t) (n := 9036 + 6 * t) (by show 19 + t + 1 ≤ 20 + t; omega) (by show 9030 + 6 * t + 6 * 1 ≤ 9036 + 6 * t; omega) ?_
  rcases q with ⟨rfl, r9, w9, f, hp, hf, rfl⟩ | ⟨rfl, w9, hx, rfl⟩
  · skip
    obtain ⟨sl, k, rfl, esl, rfl, ek, ls2, bc2, Tv, Sv, Av, Vv, Fv, Hv, rfl, HO2, rfl⟩ := hp
    refine kx_istore (lv2 := [(5, .int (nI (0))), (0, .ref (b9)), (1, .ref (K 0)), (2, .ref (J 0)), (3, .ref (ob)), (4, .int (nI (4 * t)))]) C dL_law_945 (by decide) rfl ?_
    refine kx_aload_n C dL_law_947 rfl 3 rfl ?_
    refine kx_aload_n C dL_law_948 rfl 1 rfl ?_
    refine kx_iload C dL_law_949 5 rfl ?_
    refine kx_iconst (v := nI 1) C dL_law_951 (by decide +kernel) ?_
    refine kx_iadd C dL_law_952 ?_
    refine kx_sld C hX hL (by omega) e0 dL_law_953 ?_
    refine kx_aload_n C dL_law_954 rfl 1 rfl ?_
    refine kx_iload C dL_law_955 5 rfl ?_
    refine kx_iconst (v := nI 2) C dL_law_957 (by decide +kernel) ?_
    refine kx_iadd C dL_law_958 ?_
    refine kx_sld C hX hL (by omega) e1 dL_law_959 ?_
    refine kx_callVi (rest := []) (wr := kOu E ob f :: (kwW E K b y o n ls2 bc2 1 1 P Wt Tv Sv Av Vv Hv Fv Pk)) C (m_near E J cd n b y o Wt P Rm Ym Tm Cm Km (nI sl) (nI k) HM) gL_136 2 rfl (by decide +kernel) ⟨Nat.le_of_ble_eq_true rfl, Nat.le_of_ble_eq_true rfl⟩ ⟨by show 20 + t + 0 ≤ 1052; omega, by show 9036 + 6 * t + 6 * 0 ≤ 17276; omega⟩ [0, 1, 2, 3, 4, 5, 6, 7] [8, 9, 10, 11, 12, 13, 14, 15, 16, 17, 18] rfl rfl (by decide) (by decide) (by decide) 0 rfl rfl rfl (Nat.le_of_ble_eq_true rfl) dL_law_960 (fun v w q => ?_)
    refine kx_widen (k := 20 + t) (n := 9036 + 6 * t) (by show 20 + t + 0 ≤ 20 + t; omega) (by show 9036 + 6 * t + 6 * 0 ≤ 9036 + 6 * t; omega) ?_
    rcases q with ⟨s2, k2, g1, es2, g2, ek2, R2, Y2, T2, C2, K2, rfl, HM2, rfl⟩ | ⟨hb2, -, -⟩
    · skip
      obtain rfl := nJ g1 (by omega) (by omega)
      obtain rfl := nJ g2 (by omega) (by omega)
      refine kx_istore (lv2 := [(6, .int (nrN (fun k => thrN n b y o P Wt sl k) (lsN n b y o P Wt + k) 24)), (5, .int (nI (0))), (0, .ref (b9)), (1, .ref (K 0)), (2, .ref (J 0)), (3, .ref (ob)), (4, .int (nI (4 * t)))]) C dL_law_963 (by decide) rfl ?_
      refine kx_aload_n C dL_law_965 rfl 4 rfl ?_
      refine kx_callVi (rest := []) (wr := kOu E ob f :: (kwW E K b y o n ls2 bc2 1 1 P Wt Tv Sv Av Vv Hv Fv Pk)) C (m_thrown E J 0 n b y o Wt P R2 Y2 T2 C2 K2) gL_86 0 rfl (by decide +kernel) ⟨Nat.le_of_ble_eq_true rfl, Nat.le_of_ble_eq_true rfl⟩ ⟨by show 20 + t + 0 ≤ 1052; omega, by show 9036 + 6 * t + 6 * 0 ≤ 17276; omega⟩ [11, 12, 13, 14, 15, 16, 17, 18] [0, 1, 2, 3, 4, 5, 6, 7, 8, 9, 10] rfl rfl (by decide) (by decide) (by decide) 0 rfl rfl rfl (Nat.le_of_ble_eq_true rfl) dL_law_966 (fun v w q => ?_)
      obtain ⟨rfl, rfl⟩ := q
      refine kx_widen (k := 20 + t) (n := 9036 + 6 * t) (by show 20 + t + 0 ≤ 20 + t; omega) (by show 9036 + 6 * t + 6 * 0 ≤ 9036 + 6 * t; omega) ?_
      refine kx_iload C dL_law_969 1 rfl ?_
      refine kx_icmp_eq (tgt := 976) C (by omega) (by omega) dL_law_971 (by decide) (fun c1 => ?_) (fun c1 => ?_)
      · skip
        refine kx_iload C dL_law_976 1 rfl ?_
        refine kx_if_ne (tgt := 993) C (by omega) dL_law_978 (by decide) (fun c2 => ?_) (fun c2 => ?_)
        · skip
          exact absurd c2 (by decide)
        · skip
          refine kx_aload_n C dL_law_981 rfl 5 rfl ?_
          refine kx_iconst (v := nI 0) C dL_law_982 (by decide +kernel) ?_
          refine kx_laldO (x := (nrN (fun k => thrN n b y o P Wt sl k) (ls2 + k) 24).toInt64) C 0 rfl hf dL_law_983 ?_
          refine kx_iload C dL_law_984 0 rfl ?_
          refine kx_i2l (v := (nrN (fun k => thrN n b y o P Wt sl k) (lsN n b y o P Wt + k) 24).toInt64) C dL_law_986 rfl ?_
          refine kx_lcmp_eqR (tgt := 993) C dL_law_987 dL_law_988 (by decide) (fun c3 => ?_) (fun c3 => ?_)
          · skip
            refine kx_goto (tgt := 1319) C dL_law_993 (by decide) ?_
            refine kx_lv (lv2 := [(0, .ref (b9)), (1, .ref (K 0)), (2, .ref (J 0)), (3, .ref (ob)), (4, .int (nI (4 * t)))]) [2, 3, 4, 5, 6] rfl ?_
            exact hB _ _ _ _ _ _ _ _ _ _ _ _ _ _ _ _ _ _ _ _ _ _ _ _ HO2 HM2
          · skip
            exact absurd (congrArg Int32.toInt64 (by rw [ok_ls HO2])) c3
      · skip
        exact absurd c1 (by decide)
    · skip
      exact absurd ⟨⟨sl, esl, rfl⟩, ⟨k, ek, rfl⟩⟩ hb2
  · skip
    obtain ⟨-, hb, rfl⟩ := hx
    refine kx_istore (lv2 := [(5, .int (nI (1))), (0, .ref (b9)), (1, .ref (K 0)), (2, .ref (J 0)), (3, .ref (ob)), (4, .int (nI (4 * t)))]) C dL_law_945 (by decide) rfl ?_
    refine kx_aload_n C dL_law_947 rfl 3 rfl ?_
    refine kx_aload_n C dL_law_948 rfl 1 rfl ?_
    refine kx_iload C dL_law_949 5 rfl ?_
    refine kx_iconst (v := nI 1) C dL_law_951 (by decide +kernel) ?_
    refine kx_iadd C dL_law_952 ?_
    refine kx_sld C hX hL (by omega) e0 dL_law_953 ?_
    refine kx_aload_n C dL_law_954 rfl 1 rfl ?_
    refine kx_iload C dL_law_955 5 rfl ?_
    refine kx_iconst (v := nI 2) C dL_law_957 (by decide +kernel) ?_
    refine kx_iadd C dL_law_958 ?_
    refine kx_sld C hX hL (by omega) e1 dL_law_959 ?_
    refine kx_callVi (rest := []) (wr := kOu E ob f0 :: (kwW E K b y o n ls bc tk hk P Wt Tu Sc Ta Wa He Fk Pk)) C (m_near E J cd n b y o Wt P Rm Ym Tm Cm Km x0 x1 HM) gL_136 2 rfl (by decide +kernel) ⟨Nat.le_of_ble_eq_true rfl, Nat.le_of_ble_eq_true rfl⟩ ⟨by show 20 + t + 0 ≤ 1052; omega, by show 9036 + 6 * t + 6 * 0 ≤ 17276; omega⟩ [0, 1, 2, 3, 4, 5, 6, 7] [8, 9, 10, 11, 12, 13, 14, 15, 16, 17, 18] rfl rfl (by decide) (by decide) (by decide) 0 rfl rfl rfl (Nat.le_of_ble_eq_true rfl) dL_law_960 (fun v w q => ?_)
    refine kx_widen (k := 20 + t) (n := 9036 + 6 * t) (by show 20 + t + 0 ≤ 20 + t; omega) (by show 9036 + 6 * t + 6 * 0 ≤ 9036 + 6 * t; omega) ?_
    rcases q with ⟨s2, k2, g1, es2, g2, ek2, R2, Y2, T2, C2, K2, -, HM2, -⟩ | ⟨-, rfl, rfl⟩
    · skip
      exact absurd ⟨⟨s2, es2, g1⟩, ⟨k2, ek2, g2⟩⟩ hb
    · skip
      refine kx_istore (lv2 := [(6, .int (nI 0)), (5, .int (nI (1))), (0, .ref (b9)), (1, .ref (K 0)), (2, .ref (J 0)), (3, .ref (ob)), (4, .int (nI (4 * t)))]) C dL_law_963 (by decide) rfl ?_
      refine kx_aload_n C dL_law_965 rfl 4 rfl ?_
      refine kx_callVi (rest := []) (wr := kOu E ob f0 :: (kwW E K b y o n ls bc tk hk P Wt Tu Sc Ta Wa He Fk Pk)) C (m_thrown E J 1 n b y o Wt P Rm Ym Tm Cm Km) gL_86 0 rfl (by decide +kernel) ⟨Nat.le_of_ble_eq_true rfl, Nat.le_of_ble_eq_true rfl⟩ ⟨by show 20 + t + 0 ≤ 1052; omega, by show 9036 + 6 * t + 6 * 0 ≤ 17276; omega⟩ [11, 12, 13, 14, 15, 16, 17, 18] [0, 1, 2, 3, 4, 5, 6, 7, 8, 9, 10] rfl rfl (by decide) (by decide) (by decide) 0 rfl rfl rfl (Nat.le_of_ble_eq_true rfl) dL_law_966 (fun v w q => ?_)
      obtain ⟨rfl, rfl⟩ := q
      refine kx_widen (k := 20 + t) (n := 9036 + 6 * t) (by show 20 + t + 0 ≤ 20 + t; omega) (by show 9036 + 6 * t + 6 * 0 ≤ 9036 + 6 * t; omega) ?_
      refine kx_iload C dL_law_969 1 rfl ?_
      refine kx_icmp_eq (tgt := 976) C (by omega) (by omega) dL_law_971 (by decide) (fun c4 => ?_) (fun c4 => ?_)
      · skip
        refine kx_iload C dL_law_976 1 rfl ?_
        refine kx_if_ne (tgt := 993) C (by omega) dL_law_978 (by decide) (fun c5 => ?_) (fun c5 => ?_)
        · skip
          refine kx_goto (tgt := 1319) C dL_law_993 (by decide) ?_
          refine kx_lv (lv2 := [(0, .ref (b9)), (1, .ref (K 0)), (2, .ref (J 0)), (3, .ref (ob)), (4, .int (nI (4 * t)))]) [2, 3, 4, 5, 6] rfl ?_
          exact hB _ _ _ _ _ _ _ _ _ _ _ _ _ _ _ _ _ _ _ _ _ _ _ _ HO HM
        · skip
          exact absurd c5 (by decide)
      · skip
        exact absurd c4 (by decide)

set_option maxHeartbeats 4000000 in
set_option maxRecDepth 100000 in
theorem lc_sure (E : KE) (G : KG) (C : kc E G cL_law 7 RL) (hHP : kHP (kGs G)) (HX : E.1.stackTraces = false) (K J : Nat → Nat) (ob b9 L t : Nat) (xs : Nat → Int32) (hX : kSc G b9 L xs) (hL : L ≤ 2048) (ht4 : 4 * t + 4 ≤ L) (hB : kLB E G K J ob b9 t) (b y o n ls bc tk hk : Nat) (P Wt Tu Sc Ta Wa He Fk Pk : Nat → Nat) (cd : Nat) (Rm Ym Tm Cm Km : Nat → Nat) (f0 : Nat → Int64) (HO : kOk b y o n ls bc tk hk P Wt Tu Sc Ta Wa He Fk Pk) (HM : kMo n b y o Wt P Rm Ym Km) : kx E room_1 G 7 (19 + t) (9030 + 6 * t) ((kOu E ob f0 :: (kwW E K b y o n ls bc tk hk P Wt Tu Sc Ta Wa He Fk Pk)) ++ (kmW E J cd n b y o Wt P Rm Ym Tm Cm Km)) [(0, .ref (b9)), (1, .ref (K 0)), (2, .ref (J 0)), (3, .ref (ob)), (4, .int (nI (4 * t)))] 996 [] := by
  obtain ⟨H1, Hb, Hy, Ho, HP, HW, HRm, HYm, HKm⟩ := id HM
  obtain ⟨x0, e0⟩ : ∃ x : Int32, xs (4 * t + 1) = x := ⟨_, rfl⟩
  refine kx_aload_n C dL_law_996 rfl 1 rfl ?_
  refine kx_aload_n C dL_law_997 rfl 0 rfl ?_
  refine kx_iload C dL_law_998 4 rfl ?_
  refine kx_iconst (v := nI 1) C dL_law_1000 (by decide +kernel) ?_
  refine kx_iadd C dL_law_1001 ?_
  refine kx_sld C hX hL (by omega) e0 dL_law_1002 ?_
  refine kx_aload_n C dL_law_1003 rfl 3 rfl ?_
  refine kx_callSH (rest := []) (wr := (kmW E J cd n b y o Wt P Rm Ym Tm Cm Km)) C hHP (l_sure E K b y o n ls bc tk hk P Wt Tu Sc Ta Wa He Fk Pk ob f0 x0 (c_sure E K b y o n ls bc tk hk P Wt Tu Sc Ta Wa He Fk Pk x0 HX HO) (fun _ _ h => h.elim (fun z => Or.inl z.1) (fun z => Or.inr z.1))) (kgH mL_137 sm_L_sure ini_KeyWalksLaw cw_sure) 3 rfl (by decide +kernel) ⟨Nat.le_of_ble_eq_true rfl, Nat.le_of_ble_eq_true rfl⟩ ⟨by show 19 + t + 1 ≤ 1052; omega, by show 9030 + 6 * t + 6 * 1 ≤ 17276; omega⟩ [0, 1, 2, 3, 4, 5, 6, 7, 8, 9, 10] [11, 12, 13, 14, 15, 16, 17, 18] rfl rfl (by decide) (by decide) (by decide) rfl (Nat.le_of_ble_eq_true rfl) dL_law_1004 (fun v w q => ?_)
  refine kx_widen (k := 20 + t) (n := 9036 + 6 * t) (by show 19 + t + 1 ≤ 20 + t; omega) (by show 9030 + 6 * t + 6 * 1 ≤ 9036 + 6 * t; omega) ?_
  rcases q with ⟨rfl, r9, w9, f, hp, hf, rfl⟩ | ⟨rfl, w9, hx, rfl⟩ | ⟨rfl, w9, hx, rfl⟩
  · skip
    obtain ⟨sl, rfl, esl, ls2, bc2, Tv, Sv, Av, Vv, Fv, Hv, hnz, rfl, HO2, rfl⟩ := hp
    refine kx_istore (lv2 := [(5, .int (nI (0))), (0, .ref (b9)), (1, .ref (K 0)), (2, .ref (J 0)), (3, .ref (ob)), (4, .int (nI (4 * t)))]) C dL_law_1007 (by decide) rfl ?_
    refine kx_aload_n C dL_law_1009 rfl 3 rfl ?_
    refine kx_aload_n C dL_law_1010 rfl 1 rfl ?_
    refine kx_iload C dL_law_1011 5 rfl ?_
    refine kx_iconst (v := nI 1) C dL_law_1013 (by decide +kernel) ?_
    refine kx_iadd C dL_law_1014 ?_
    refine kx_sld C hX hL (by omega) e0 dL_law_1015 ?_
    refine kx_callVi (rest := []) (wr := kOu E ob f :: (kwW E K b y o n ls2 bc2 1 1 P Wt Tv Sv Av Vv Hv Fv Pk)) C (m_sure E J cd n b y o Wt P Rm Ym Tm Cm Km (nI sl) HM) gL_139 1 rfl (by decide +kernel) ⟨Nat.le_of_ble_eq_true rfl, Nat.le_of_ble_eq_true rfl⟩ ⟨by show 20 + t + 0 ≤ 1052; omega, by show 9036 + 6 * t + 6 * 0 ≤ 17276; omega⟩ [0, 1, 2, 3, 4, 5, 6, 7] [8, 9, 10, 11, 12, 13, 14, 15, 16, 17, 18] rfl rfl (by decide) (by decide) (by decide) 0 rfl rfl rfl (Nat.le_of_ble_eq_true rfl) dL_law_1016 (fun v w q => ?_)
    refine kx_widen (k := 20 + t) (n := 9036 + 6 * t) (by show 20 + t + 0 ≤ 20 + t; omega) (by show 9036 + 6 * t + 6 * 0 ≤ 9036 + 6 * t; omega) ?_
    rcases q with ⟨s2, g1, es2, R2, Y2, T2, C2, K2, hnz2, rfl, HM2, rfl⟩ | ⟨s2, g1, es2, R2, Y2, T2, C2, K2, hz2, -, HM2, -⟩ | ⟨hb2, -, -⟩
    · skip
      obtain rfl := nJ g1 (by omega) (by omega)
      refine kx_istore (lv2 := [(6, .int (nI (100 * (nxN n b y o P Wt (fsN n b y o P Wt sl) sl - lsN n b y o P Wt) / nxN n b y o P Wt (fsN n b y o P Wt sl) sl))), (5, .int (nI (0))), (0, .ref (b9)), (1, .ref (K 0)), (2, .ref (J 0)), (3, .ref (ob)), (4, .int (nI (4 * t)))]) C dL_law_1019 (by decide) rfl ?_
      refine kx_aload_n C dL_law_1021 rfl 4 rfl ?_
      refine kx_callVi (rest := []) (wr := kOu E ob f :: (kwW E K b y o n ls2 bc2 1 1 P Wt Tv Sv Av Vv Hv Fv Pk)) C (m_thrown E J 0 n b y o Wt P R2 Y2 T2 C2 K2) gL_86 0 rfl (by decide +kernel) ⟨Nat.le_of_ble_eq_true rfl, Nat.le_of_ble_eq_true rfl⟩ ⟨by show 20 + t + 0 ≤ 1052; omega, by show 9036 + 6 * t + 6 * 0 ≤ 17276; omega⟩ [11, 12, 13, 14, 15, 16, 17, 18] [0, 1, 2, 3, 4, 5, 6, 7, 8, 9, 10] rfl rfl (by decide) (by decide) (by decide) 0 rfl rfl rfl (Nat.le_of_ble_eq_true rfl) dL_law_1022 (fun v w q => ?_)
      obtain ⟨rfl, rfl⟩ := q
      refine kx_widen (k := 20 + t) (n := 9036 + 6 * t) (by show 20 + t + 0 ≤ 20 + t; omega) (by show 9036 + 6 * t + 6 * 0 ≤ 9036 + 6 * t; omega) ?_
      refine kx_iload C dL_law_1025 1 rfl ?_
      refine kx_icmp_eq (tgt := 1032) C (by omega) (by omega) dL_law_1027 (by decide) (fun c1 => ?_) (fun c1 => ?_)
      · skip
        refine kx_iload C dL_law_1032 1 rfl ?_
        refine kx_if_ne (tgt := 1049) C (by omega) dL_law_1034 (by decide) (fun c2 => ?_) (fun c2 => ?_)
        · skip
          exact absurd c2 (by decide)
        · skip
          refine kx_aload_n C dL_law_1037 rfl 5 rfl ?_
          refine kx_iconst (v := nI 0) C dL_law_1038 (by decide +kernel) ?_
          refine kx_laldO (x := (nI (100 * (nxN n b y o P Wt (Fv sl) sl - ls2) / nxN n b y o P Wt (Fv sl) sl)).toInt64) C 0 rfl hf dL_law_1039 ?_
          refine kx_iload C dL_law_1040 0 rfl ?_
          refine kx_i2l (v := (nI (100 * (nxN n b y o P Wt (fsN n b y o P Wt sl) sl - lsN n b y o P Wt) / nxN n b y o P Wt (fsN n b y o P Wt sl) sl)).toInt64) C dL_law_1042 rfl ?_
          refine kx_lcmp_eqR (tgt := 1049) C dL_law_1043 dL_law_1044 (by decide) (fun c3 => ?_) (fun c3 => ?_)
          · skip
            refine kx_goto (tgt := 1319) C dL_law_1049 (by decide) ?_
            refine kx_lv (lv2 := [(0, .ref (b9)), (1, .ref (K 0)), (2, .ref (J 0)), (3, .ref (ob)), (4, .int (nI (4 * t)))]) [2, 3, 4, 5, 6] rfl ?_
            exact hB _ _ _ _ _ _ _ _ _ _ _ _ _ _ _ _ _ _ _ _ _ _ _ _ HO2 HM2
          · skip
            exact absurd (congrArg Int32.toInt64 (by rw [ok_ls HO2, ok_fk HO2 sl esl])) c3
      · skip
        exact absurd c1 (by decide)
    · skip
      obtain rfl := nJ g1 (by omega) (by omega)
      rw [← ok_fk HO2 sl esl] at hz2
      exact absurd hz2 hnz
    · skip
      exact absurd ⟨sl, esl, rfl⟩ hb2
  · skip
    replace hx : kIAE = kIAE ∧ ¬ (∃ j, j < n ∧ x0 = nI j) ∧ w9 = (kwW E K b y o n ls bc tk hk P Wt Tu Sc Ta Wa He Fk Pk) := hx.elim id (fun z => absurd z.1 (by decide))
    obtain ⟨-, hb, rfl⟩ := hx
    refine kx_istore (lv2 := [(5, .int (nI (1))), (0, .ref (b9)), (1, .ref (K 0)), (2, .ref (J 0)), (3, .ref (ob)), (4, .int (nI (4 * t)))]) C dL_law_1007 (by decide) rfl ?_
    refine kx_aload_n C dL_law_1009 rfl 3 rfl ?_
    refine kx_aload_n C dL_law_1010 rfl 1 rfl ?_
    refine kx_iload C dL_law_1011 5 rfl ?_
    refine kx_iconst (v := nI 1) C dL_law_1013 (by decide +kernel) ?_
    refine kx_iadd C dL_law_1014 ?_
    refine kx_sld C hX hL (by omega) e0 dL_law_1015 ?_
    refine kx_callVi (rest := []) (wr := kOu E ob f0 :: (kwW E K b y o n ls bc tk hk P Wt Tu Sc Ta Wa He Fk Pk)) C (m_sure E J cd n b y o Wt P Rm Ym Tm Cm Km x0 HM) gL_139 1 rfl (by decide +kernel) ⟨Nat.le_of_ble_eq_true rfl, Nat.le_of_ble_eq_true rfl⟩ ⟨by show 20 + t + 0 ≤ 1052; omega, by show 9036 + 6 * t + 6 * 0 ≤ 17276; omega⟩ [0, 1, 2, 3, 4, 5, 6, 7] [8, 9, 10, 11, 12, 13, 14, 15, 16, 17, 18] rfl rfl (by decide) (by decide) (by decide) 0 rfl rfl rfl (Nat.le_of_ble_eq_true rfl) dL_law_1016 (fun v w q => ?_)
    refine kx_widen (k := 20 + t) (n := 9036 + 6 * t) (by show 20 + t + 0 ≤ 20 + t; omega) (by show 9036 + 6 * t + 6 * 0 ≤ 9036 + 6 * t; omega) ?_
    rcases q with ⟨s2, g1, es2, -⟩ | ⟨s2, g1, es2, -⟩ | ⟨-, rfl, rfl⟩
    · skip
      exact absurd ⟨s2, es2, g1⟩ hb
    · skip
      exact absurd ⟨s2, es2, g1⟩ hb
    · skip
      refine kx_istore (lv2 := [(6, .int (nI 0)), (5, .int (nI (1))), (0, .ref (b9)), (1, .ref (K 0)), (2, .ref (J 0)), (3, .ref (ob)), (4, .int (nI (4 * t)))]) C dL_law_1019 (by decide) rfl ?_
      refine kx_aload_n C dL_law_1021 rfl 4 rfl ?_
      refine kx_callVi (rest := []) (wr := kOu E ob f0 :: (kwW E K b y o n ls bc tk hk P Wt Tu Sc Ta Wa He Fk Pk)) C (m_thrown E J 1 n b y o Wt P Rm Ym Tm Cm Km) gL_86 0 rfl (by decide +kernel) ⟨Nat.le_of_ble_eq_true rfl, Nat.le_of_ble_eq_true rfl⟩ ⟨by show 20 + t + 0 ≤ 1052; omega, by show 9036 + 6 * t + 6 * 0 ≤ 17276; omega⟩ [11, 12, 13, 14, 15, 16, 17, 18] [0, 1, 2, 3, 4, 5, 6, 7, 8, 9, 10] rfl rfl (by decide) (by decide) (by decide) 0 rfl rfl rfl (Nat.le_of_ble_eq_true rfl) dL_law_1022 (fun v w q => ?_)
      obtain ⟨rfl, rfl⟩ := q
      refine kx_widen (k := 20 + t) (n := 9036 + 6 * t) (by show 20 + t + 0 ≤ 20 + t; omega) (by show 9036 + 6 * t + 6 * 0 ≤ 9036 + 6 * t; omega) ?_
      refine kx_iload C dL_law_1025 1 rfl ?_
      refine kx_icmp_eq (tgt := 1032) C (by omega) (by omega) dL_law_1027 (by decide) (fun c4 => ?_) (fun c4 => ?_)
      · skip
        refine kx_iload C dL_law_1032 1 rfl ?_
        refine kx_if_ne (tgt := 1049) C (by omega) dL_law_1034 (by decide) (fun c5 => ?_) (fun c5 => ?_)
        · skip
          refine kx_goto (tgt := 1319) C dL_law_1049 (by decide) ?_
          refine kx_lv (lv2 := [(0, .ref (b9)), (1, .ref (K 0)), (2, .ref (J 0)), (3, .ref (ob)), (4, .int (nI (4 * t)))]) [2, 3, 4, 5, 6] rfl ?_
          exact hB _ _ _ _ _ _ _ _ _ _ _ _ _ _ _ _ _ _ _ _ _ _ _ _ HO HM
        · skip
          exact absurd c5 (by decide)
      · skip
        exact absurd c4 (by decide)
  · skip
    replace hx : kARE = kARE ∧ ∃ sl, x0 = nI sl ∧ sl < n ∧ ∃ (ls2 bc2 : Nat) (Tv Sv Av Vv Fv Hv : Nat → Nat), nxN n b y o P Wt (Fv sl) sl = 0 ∧ kOk b y o n ls2 bc2 1 1 P Wt Tv Sv Av Vv Hv Fv Pk ∧ w9 = (kwW E K b y o n ls2 bc2 1 1 P Wt Tv Sv Av Vv Hv Fv Pk) := hx.elim (fun z => absurd z.1 (by decide)) id
    obtain ⟨-, sl, rfl, esl, ls2, bc2, Tv, Sv, Av, Vv, Fv, Hv, hz, HO2, rfl⟩ := hx
    refine kx_istore (lv2 := [(5, .int (nI (2))), (0, .ref (b9)), (1, .ref (K 0)), (2, .ref (J 0)), (3, .ref (ob)), (4, .int (nI (4 * t)))]) C dL_law_1007 (by decide) rfl ?_
    refine kx_aload_n C dL_law_1009 rfl 3 rfl ?_
    refine kx_aload_n C dL_law_1010 rfl 1 rfl ?_
    refine kx_iload C dL_law_1011 5 rfl ?_
    refine kx_iconst (v := nI 1) C dL_law_1013 (by decide +kernel) ?_
    refine kx_iadd C dL_law_1014 ?_
    refine kx_sld C hX hL (by omega) e0 dL_law_1015 ?_
    refine kx_callVi (rest := []) (wr := kOu E ob f0 :: (kwW E K b y o n ls2 bc2 1 1 P Wt Tv Sv Av Vv Hv Fv Pk)) C (m_sure E J cd n b y o Wt P Rm Ym Tm Cm Km (nI sl) HM) gL_139 1 rfl (by decide +kernel) ⟨Nat.le_of_ble_eq_true rfl, Nat.le_of_ble_eq_true rfl⟩ ⟨by show 20 + t + 0 ≤ 1052; omega, by show 9036 + 6 * t + 6 * 0 ≤ 17276; omega⟩ [0, 1, 2, 3, 4, 5, 6, 7] [8, 9, 10, 11, 12, 13, 14, 15, 16, 17, 18] rfl rfl (by decide) (by decide) (by decide) 0 rfl rfl rfl (Nat.le_of_ble_eq_true rfl) dL_law_1016 (fun v w q => ?_)
    refine kx_widen (k := 20 + t) (n := 9036 + 6 * t) (by show 20 + t + 0 ≤ 20 + t; omega) (by show 9036 + 6 * t + 6 * 0 ≤ 9036 + 6 * t; omega) ?_
    rcases q with ⟨s2, g1, es2, R2, Y2, T2, C2, K2, hnz2, -, HM2, -⟩ | ⟨s2, g1, es2, R2, Y2, T2, C2, K2, hz2, rfl, HM2, rfl⟩ | ⟨hb2, -, -⟩
    · skip
      obtain rfl := nJ g1 (by omega) (by omega)
      rw [← ok_fk HO2 sl esl] at hnz2
      exact absurd hz hnz2
    · skip
      obtain rfl := nJ g1 (by omega) (by omega)
      refine kx_istore (lv2 := [(6, .int (nI 0)), (5, .int (nI (2))), (0, .ref (b9)), (1, .ref (K 0)), (2, .ref (J 0)), (3, .ref (ob)), (4, .int (nI (4 * t)))]) C dL_law_1019 (by decide) rfl ?_
      refine kx_aload_n C dL_law_1021 rfl 4 rfl ?_
      refine kx_callVi (rest := []) (wr := kOu E ob f0 :: (kwW E K b y o n ls2 bc2 1 1 P Wt Tv Sv Av Vv Hv Fv Pk)) C (m_thrown E J 2 n b y o Wt P R2 Y2 T2 C2 K2) gL_86 0 rfl (by decide +kernel) ⟨Nat.le_of_ble_eq_true rfl, Nat.le_of_ble_eq_true rfl⟩ ⟨by show 20 + t + 0 ≤ 1052; omega, by show 9036 + 6 * t + 6 * 0 ≤ 17276; omega⟩ [11, 12, 13, 14, 15, 16, 17, 18] [0, 1, 2, 3, 4, 5, 6, 7, 8, 9, 10] rfl rfl (by decide) (by decide) (by decide) 0 rfl rfl rfl (Nat.le_of_ble_eq_true rfl) dL_law_1022 (fun v w q => ?_)
      obtain ⟨rfl, rfl⟩ := q
      refine kx_widen (k := 20 + t) (n := 9036 + 6 * t) (by show 20 + t + 0 ≤ 20 + t; omega) (by show 9036 + 6 * t + 6 * 0 ≤ 9036 + 6 * t; omega) ?_
      refine kx_iload C dL_law_1025 1 rfl ?_
      refine kx_icmp_eq (tgt := 1032) C (by omega) (by omega) dL_law_1027 (by decide) (fun c6 => ?_) (fun c6 => ?_)
      · skip
        refine kx_iload C dL_law_1032 1 rfl ?_
        refine kx_if_ne (tgt := 1049) C (by omega) dL_law_1034 (by decide) (fun c7 => ?_) (fun c7 => ?_)
        · skip
          refine kx_goto (tgt := 1319) C dL_law_1049 (by decide) ?_
          refine kx_lv (lv2 := [(0, .ref (b9)), (1, .ref (K 0)), (2, .ref (J 0)), (3, .ref (ob)), (4, .int (nI (4 * t)))]) [2, 3, 4, 5, 6] rfl ?_
          exact hB _ _ _ _ _ _ _ _ _ _ _ _ _ _ _ _ _ _ _ _ _ _ _ _ HO2 HM2
        · skip
          exact absurd c7 (by decide)
      · skip
        exact absurd c6 (by decide)
    · skip
      exact absurd ⟨sl, esl, rfl⟩ hb2

set_option maxHeartbeats 4000000 in
set_option maxRecDepth 100000 in
theorem lc_change (E : KE) (G : KG) (C : kc E G cL_law 7 RL) (hHP : kHP (kGs G)) (HX : E.1.stackTraces = false) (K J : Nat → Nat) (ob b9 L t : Nat) (xs : Nat → Int32) (hX : kSc G b9 L xs) (hL : L ≤ 2048) (ht4 : 4 * t + 4 ≤ L) (hB : kLB E G K J ob b9 t) (b y o n ls bc tk hk : Nat) (P Wt Tu Sc Ta Wa He Fk Pk : Nat → Nat) (cd : Nat) (Rm Ym Tm Cm Km : Nat → Nat) (f0 : Nat → Int64) (HO : kOk b y o n ls bc tk hk P Wt Tu Sc Ta Wa He Fk Pk) (HM : kMo n b y o Wt P Rm Ym Km) : kx E room_1 G 7 (19 + t) (9030 + 6 * t) ((kOu E ob f0 :: (kwW E K b y o n ls bc tk hk P Wt Tu Sc Ta Wa He Fk Pk)) ++ (kmW E J cd n b y o Wt P Rm Ym Tm Cm Km)) [(0, .ref (b9)), (1, .ref (K 0)), (2, .ref (J 0)), (3, .ref (ob)), (4, .int (nI (4 * t)))] 1052 [] := by
  obtain ⟨H1, Hb, Hy, Ho, HP, HW, HRm, HYm, HKm⟩ := id HM
  obtain ⟨x0, e0⟩ : ∃ x : Int32, xs (4 * t + 1) = x := ⟨_, rfl⟩
  refine kx_aload_n C dL_law_1052 rfl 1 rfl ?_
  refine kx_aload_n C dL_law_1053 rfl 0 rfl ?_
  refine kx_iload C dL_law_1054 4 rfl ?_
  refine kx_iconst (v := nI 1) C dL_law_1056 (by decide +kernel) ?_
  refine kx_iadd C dL_law_1057 ?_
  refine kx_sld C hX hL (by omega) e0 dL_law_1058 ?_
  refine kx_aload_n C dL_law_1059 rfl 3 rfl ?_
  refine kx_callSH (rest := []) (wr := (kmW E J cd n b y o Wt P Rm Ym Tm Cm Km)) C hHP (l_change E K b y o n ls bc tk hk P Wt Tu Sc Ta Wa He Fk Pk ob f0 x0 (c_change E K b y o n ls bc tk hk P Wt Tu Sc Ta Wa He Fk Pk x0 HX HO) (fun _ _ h => h.1)) (kgH mL_140 sm_L_change ini_KeyWalksLaw cw_change) 3 rfl (by decide +kernel) ⟨Nat.le_of_ble_eq_true rfl, Nat.le_of_ble_eq_true rfl⟩ ⟨by show 19 + t + 1 ≤ 1052; omega, by show 9030 + 6 * t + 6 * 1 ≤ 17276; omega⟩ [0, 1, 2, 3, 4, 5, 6, 7, 8, 9, 10] [11, 12, 13, 14, 15, 16, 17, 18] rfl rfl (by decide) (by decide) (by decide) rfl (Nat.le_of_ble_eq_true rfl) dL_law_1060 (fun v w q => ?_)
  refine kx_widen (k := 20 + t) (n := 9036 + 6 * t) (by show 19 + t + 1 ≤ 20 + t; omega) (by show 9030 + 6 * t + 6 * 1 ≤ 9036 + 6 * t; omega) ?_
  rcases q with ⟨rfl, r9, w9, f, hp, hf, rfl⟩ | ⟨rfl, w9, hx, rfl⟩
  · skip
    obtain ⟨q, rfl, eq9, ls2, bc2, Tv, Sv, Av, Vv, Fv, hC, HO2, rfl⟩ := hp
    refine kx_istore (lv2 := [(5, .int (nI (0))), (0, .ref (b9)), (1, .ref (K 0)), (2, .ref (J 0)), (3, .ref (ob)), (4, .int (nI (4 * t)))]) C dL_law_1063 (by decide) rfl ?_
    refine kx_aload_n C dL_law_1065 rfl 3 rfl ?_
    refine kx_aload_n C dL_law_1066 rfl 1 rfl ?_
    refine kx_iload C dL_law_1067 5 rfl ?_
    refine kx_iconst (v := nI 1) C dL_law_1069 (by decide +kernel) ?_
    refine kx_iadd C dL_law_1070 ?_
    refine kx_sld C hX hL (by omega) e0 dL_law_1071 ?_
    refine kx_callVi (rest := []) (wr := kOu E ob f :: (kwW E K b y o n ls2 bc2 1 hk P Wt Tv Sv Av Vv He Fv Pk)) C (m_change E J cd n b y o Wt P Rm Ym Tm Cm Km (nI q) HM) gL_142 1 rfl (by decide +kernel) ⟨Nat.le_of_ble_eq_true rfl, Nat.le_of_ble_eq_true rfl⟩ ⟨by show 20 + t + 0 ≤ 1052; omega, by show 9036 + 6 * t + 6 * 0 ≤ 17276; omega⟩ [0, 1, 2, 3, 4, 5, 6, 7] [8, 9, 10, 11, 12, 13, 14, 15, 16, 17, 18] rfl rfl (by decide) (by decide) (by decide) 0 rfl rfl rfl (Nat.le_of_ble_eq_true rfl) dL_law_1072 (fun v w q => ?_)
    refine kx_widen (k := 20 + t) (n := 9036 + 6 * t) (by show 20 + t + 0 ≤ 20 + t; omega) (by show 9036 + 6 * t + 6 * 0 ≤ 9036 + 6 * t; omega) ?_
    rcases q with ⟨q2, g1, eq2, R2, Y2, T2, C2, K2, hK2, hC2, HM2, rfl⟩ | ⟨hb2, -, -⟩
    · skip
      obtain rfl := (nI_eq eq9 eq2).mp g1
      have hr9 : r9 = v := ch_agree (fun j hj => (ok_fk HO2 j hj).trans (hK2 j hj).symm) hC hC2
      refine kx_istore (lv2 := [(6, .int (v)), (5, .int (nI (0))), (0, .ref (b9)), (1, .ref (K 0)), (2, .ref (J 0)), (3, .ref (ob)), (4, .int (nI (4 * t)))]) C dL_law_1075 (by decide) rfl ?_
      refine kx_aload_n C dL_law_1077 rfl 4 rfl ?_
      refine kx_callVi (rest := []) (wr := kOu E ob f :: (kwW E K b y o n ls2 bc2 1 hk P Wt Tv Sv Av Vv He Fv Pk)) C (m_thrown E J 0 n b y o Wt P R2 Y2 T2 C2 K2) gL_86 0 rfl (by decide +kernel) ⟨Nat.le_of_ble_eq_true rfl, Nat.le_of_ble_eq_true rfl⟩ ⟨by show 20 + t + 0 ≤ 1052; omega, by show 9036 + 6 * t + 6 * 0 ≤ 17276; omega⟩ [11, 12, 13, 14, 15, 16, 17, 18] [0, 1, 2, 3, 4, 5, 6, 7, 8, 9, 10] rfl rfl (by decide) (by decide) (by decide) 0 rfl rfl rfl (Nat.le_of_ble_eq_true rfl) dL_law_1078 (fun v w q => ?_)
      obtain ⟨rfl, rfl⟩ := q
      refine kx_widen (k := 20 + t) (n := 9036 + 6 * t) (by show 20 + t + 0 ≤ 20 + t; omega) (by show 9036 + 6 * t + 6 * 0 ≤ 9036 + 6 * t; omega) ?_
      refine kx_iload C dL_law_1081 1 rfl ?_
      refine kx_icmp_eq (tgt := 1088) C (by omega) (by omega) dL_law_1083 (by decide) (fun c1 => ?_) (fun c1 => ?_)
      · skip
        refine kx_iload C dL_law_1088 1 rfl ?_
        refine kx_if_ne (tgt := 1105) C (by omega) dL_law_1090 (by decide) (fun c2 => ?_) (fun c2 => ?_)
        · skip
          exact absurd c2 (by decide)
        · skip
          refine kx_aload_n C dL_law_1093 rfl 5 rfl ?_
          refine kx_iconst (v := nI 0) C dL_law_1094 (by decide +kernel) ?_
          refine kx_laldO (x := (r9).toInt64) C 0 rfl hf dL_law_1095 ?_
          refine kx_iload C dL_law_1096 0 rfl ?_
          refine kx_i2l (v := (v).toInt64) C dL_law_1098 rfl ?_
          refine kx_lcmp_eqR (tgt := 1105) C dL_law_1099 dL_law_1100 (by decide) (fun c3 => ?_) (fun c3 => ?_)
          · skip
            refine kx_goto (tgt := 1319) C dL_law_1105 (by decide) ?_
            refine kx_lv (lv2 := [(0, .ref (b9)), (1, .ref (K 0)), (2, .ref (J 0)), (3, .ref (ob)), (4, .int (nI (4 * t)))]) [2, 3, 4, 5, 6] rfl ?_
            exact hB _ _ _ _ _ _ _ _ _ _ _ _ _ _ _ _ _ _ _ _ _ _ _ _ HO2 HM2
          · skip
            exact absurd (congrArg Int32.toInt64 hr9) c3
      · skip
        exact absurd c1 (by decide)
    · skip
      exact absurd hb2 (nI_pos eq9)
  · skip
    obtain ⟨-, hb, rfl⟩ := hx
    refine kx_istore (lv2 := [(5, .int (nI (1))), (0, .ref (b9)), (1, .ref (K 0)), (2, .ref (J 0)), (3, .ref (ob)), (4, .int (nI (4 * t)))]) C dL_law_1063 (by decide) rfl ?_
    refine kx_aload_n C dL_law_1065 rfl 3 rfl ?_
    refine kx_aload_n C dL_law_1066 rfl 1 rfl ?_
    refine kx_iload C dL_law_1067 5 rfl ?_
    refine kx_iconst (v := nI 1) C dL_law_1069 (by decide +kernel) ?_
    refine kx_iadd C dL_law_1070 ?_
    refine kx_sld C hX hL (by omega) e0 dL_law_1071 ?_
    refine kx_callVi (rest := []) (wr := kOu E ob f0 :: (kwW E K b y o n ls bc tk hk P Wt Tu Sc Ta Wa He Fk Pk)) C (m_change E J cd n b y o Wt P Rm Ym Tm Cm Km x0 HM) gL_142 1 rfl (by decide +kernel) ⟨Nat.le_of_ble_eq_true rfl, Nat.le_of_ble_eq_true rfl⟩ ⟨by show 20 + t + 0 ≤ 1052; omega, by show 9036 + 6 * t + 6 * 0 ≤ 17276; omega⟩ [0, 1, 2, 3, 4, 5, 6, 7] [8, 9, 10, 11, 12, 13, 14, 15, 16, 17, 18] rfl rfl (by decide) (by decide) (by decide) 0 rfl rfl rfl (Nat.le_of_ble_eq_true rfl) dL_law_1072 (fun v w q => ?_)
    refine kx_widen (k := 20 + t) (n := 9036 + 6 * t) (by show 20 + t + 0 ≤ 20 + t; omega) (by show 9036 + 6 * t + 6 * 0 ≤ 9036 + 6 * t; omega) ?_
    rcases q with ⟨q2, g1, eq2, -⟩ | ⟨-, rfl, rfl⟩
    · skip
      rw [g1] at hb
      exact absurd hb (nI_pos eq2)
    · skip
      refine kx_istore (lv2 := [(6, .int (nI 0)), (5, .int (nI (1))), (0, .ref (b9)), (1, .ref (K 0)), (2, .ref (J 0)), (3, .ref (ob)), (4, .int (nI (4 * t)))]) C dL_law_1075 (by decide) rfl ?_
      refine kx_aload_n C dL_law_1077 rfl 4 rfl ?_
      refine kx_callVi (rest := []) (wr := kOu E ob f0 :: (kwW E K b y o n ls bc tk hk P Wt Tu Sc Ta Wa He Fk Pk)) C (m_thrown E J 1 n b y o Wt P Rm Ym Tm Cm Km) gL_86 0 rfl (by decide +kernel) ⟨Nat.le_of_ble_eq_true rfl, Nat.le_of_ble_eq_true rfl⟩ ⟨by show 20 + t + 0 ≤ 1052; omega, by show 9036 + 6 * t + 6 * 0 ≤ 17276; omega⟩ [11, 12, 13, 14, 15, 16, 17, 18] [0, 1, 2, 3, 4, 5, 6, 7, 8, 9, 10] rfl rfl (by decide) (by decide) (by decide) 0 rfl rfl rfl (Nat.le_of_ble_eq_true rfl) dL_law_1078 (fun v w q => ?_)
      obtain ⟨rfl, rfl⟩ := q
      refine kx_widen (k := 20 + t) (n := 9036 + 6 * t) (by show 20 + t + 0 ≤ 20 + t; omega) (by show 9036 + 6 * t + 6 * 0 ≤ 9036 + 6 * t; omega) ?_
      refine kx_iload C dL_law_1081 1 rfl ?_
      refine kx_icmp_eq (tgt := 1088) C (by omega) (by omega) dL_law_1083 (by decide) (fun c4 => ?_) (fun c4 => ?_)
      · skip
        refine kx_iload C dL_law_1088 1 rfl ?_
        refine kx_if_ne (tgt := 1105) C (by omega) dL_law_1090 (by decide) (fun c5 => ?_) (fun c5 => ?_)
        · skip
          refine kx_goto (tgt := 1319) C dL_law_1105 (by decide) ?_
          refine kx_lv (lv2 := [(0, .ref (b9)), (1, .ref (K 0)), (2, .ref (J 0)), (3, .ref (ob)), (4, .int (nI (4 * t)))]) [2, 3, 4, 5, 6] rfl ?_
          exact hB _ _ _ _ _ _ _ _ _ _ _ _ _ _ _ _ _ _ _ _ _ _ _ _ HO HM
        · skip
          exact absurd c5 (by decide)
      · skip
        exact absurd c4 (by decide)

set_option maxHeartbeats 4000000 in
set_option maxRecDepth 100000 in
theorem lc_whole (E : KE) (G : KG) (C : kc E G cL_law 7 RL) (hHP : kHP (kGs G)) (HX : E.1.stackTraces = false) (K J : Nat → Nat) (ob b9 L t : Nat) (xs : Nat → Int32) (hX : kSc G b9 L xs) (hL : L ≤ 2048) (ht4 : 4 * t + 4 ≤ L) (hB : kLB E G K J ob b9 t) (b y o n ls bc tk hk : Nat) (P Wt Tu Sc Ta Wa He Fk Pk : Nat → Nat) (cd : Nat) (Rm Ym Tm Cm Km : Nat → Nat) (f0 : Nat → Int64) (HO : kOk b y o n ls bc tk hk P Wt Tu Sc Ta Wa He Fk Pk) (HM : kMo n b y o Wt P Rm Ym Km) : kx E room_1 G 7 (19 + t) (9030 + 6 * t) ((kOu E ob f0 :: (kwW E K b y o n ls bc tk hk P Wt Tu Sc Ta Wa He Fk Pk)) ++ (kmW E J cd n b y o Wt P Rm Ym Tm Cm Km)) [(0, .ref (b9)), (1, .ref (K 0)), (2, .ref (J 0)), (3, .ref (ob)), (4, .int (nI (4 * t)))] 1195 [] := by
  obtain ⟨H1, Hb, Hy, Ho, HP, HW, HRm, HYm, HKm⟩ := id HM
  obtain ⟨x0, e0⟩ : ∃ x : Int32, xs (4 * t + 1) = x := ⟨_, rfl⟩
  obtain ⟨x1, e1⟩ : ∃ x : Int32, xs (4 * t + 2) = x := ⟨_, rfl⟩
  refine kx_aload_n C dL_law_1195 rfl 1 rfl ?_
  refine kx_aload_n C dL_law_1196 rfl 0 rfl ?_
  refine kx_iload C dL_law_1197 4 rfl ?_
  refine kx_iconst (v := nI 1) C dL_law_1199 (by decide +kernel) ?_
  refine kx_iadd C dL_law_1200 ?_
  refine kx_sld C hX hL (by omega) e0 dL_law_1201 ?_
  refine kx_aload_n C dL_law_1202 rfl 0 rfl ?_
  refine kx_iload C dL_law_1203 4 rfl ?_
  refine kx_iconst (v := nI 2) C dL_law_1205 (by decide +kernel) ?_
  refine kx_iadd C dL_law_1206 ?_
  refine kx_sld C hX hL (by omega) e1 dL_law_1207 ?_
  refine kx_aload_n C dL_law_1208 rfl 3 rfl ?_
  refine kx_callSH (rest := []) (wr := (kmW E J cd n b y o Wt P Rm Ym Tm Cm Km)) C hHP (l_whole E K b y o n ls bc tk hk P Wt Tu Sc Ta Wa He Fk Pk ob f0 x0 x1 (c_whole E K b y o n ls bc tk hk P Wt Tu Sc Ta Wa He Fk Pk x0 x1 HX HO) (fun _ _ h => h.1)) (kgH mL_146 sm_L_whole ini_KeyWalksLaw cw_whole) 4 rfl (by decide +kernel) ⟨Nat.le_of_ble_eq_true rfl, Nat.le_of_ble_eq_true rfl⟩ ⟨by show 19 + t + 1 ≤ 1052; omega, by show 9030 + 6 * t + 6 * 1 ≤ 17276; omega⟩ [0, 1, 2, 3, 4, 5, 6, 7, 8, 9, 10] [11, 12, 13, 14, 15, 16, 17, 18] rfl rfl (by decide) (by decide) (by decide) rfl (Nat.le_of_ble_eq_true rfl) dL_law_1209 (fun v w q => ?_)
  refine kx_widen (k := 20 + t) (n := 9036 + 6 * t) (by show 19 + t + 1 ≤ 20 + t; omega) (by show 9030 + 6 * t + 6 * 1 ≤ 9036 + 6 * t; omega) ?_
  rcases q with ⟨rfl, r9, w9, f, hp, hf, rfl⟩ | ⟨rfl, w9, hx, rfl⟩
  · skip
    obtain ⟨fi, la, rfl, rfl, hfl, ela, rfl, rfl⟩ := hp
    refine kx_istore (lv2 := [(5, .int (nI (0))), (0, .ref (b9)), (1, .ref (K 0)), (2, .ref (J 0)), (3, .ref (ob)), (4, .int (nI (4 * t)))]) C dL_law_1212 (by decide) rfl ?_
    refine kx_aload_n C dL_law_1214 rfl 3 rfl ?_
    refine kx_aload_n C dL_law_1215 rfl 1 rfl ?_
    refine kx_iload C dL_law_1216 5 rfl ?_
    refine kx_iconst (v := nI 1) C dL_law_1218 (by decide +kernel) ?_
    refine kx_iadd C dL_law_1219 ?_
    refine kx_sld C hX hL (by omega) e0 dL_law_1220 ?_
    refine kx_aload_n C dL_law_1221 rfl 1 rfl ?_
    refine kx_iload C dL_law_1222 5 rfl ?_
    refine kx_iconst (v := nI 2) C dL_law_1224 (by decide +kernel) ?_
    refine kx_iadd C dL_law_1225 ?_
    refine kx_sld C hX hL (by omega) e1 dL_law_1226 ?_
    refine kx_callVi (rest := []) (wr := kOu E ob f :: (kwW E K b y o n ls bc tk hk P Wt Tu Sc Ta Wa He Fk Pk)) C (m_whole E J cd n b y o Wt P Rm Ym Tm Cm Km (nI fi) (nI la) HM) gL_148 2 rfl (by decide +kernel) ⟨Nat.le_of_ble_eq_true rfl, Nat.le_of_ble_eq_true rfl⟩ ⟨by show 20 + t + 0 ≤ 1052; omega, by show 9036 + 6 * t + 6 * 0 ≤ 17276; omega⟩ [0, 1, 2, 3, 4, 5, 6, 7] [8, 9, 10, 11, 12, 13, 14, 15, 16, 17, 18] rfl rfl (by decide) (by decide) (by decide) 0 rfl rfl rfl (Nat.le_of_ble_eq_true rfl) dL_law_1227 (fun v w q => ?_)
    refine kx_widen (k := 20 + t) (n := 9036 + 6 * t) (by show 20 + t + 0 ≤ 20 + t; omega) (by show 9036 + 6 * t + 6 * 0 ≤ 9036 + 6 * t; omega) ?_
    rcases q with ⟨f2, l2, g1, g2, hfl2, el2, rfl, rfl⟩ | ⟨hb2, -, -⟩
    · skip
      obtain rfl := nJ g1 (by omega) (by omega)
      obtain rfl := nJ g2 (by omega) (by omega)
      refine kx_istore (lv2 := [(6, .int (nI (whN (fun k => sumN (fun t => fitN P Wt (fi + t) k) (la + 1 - fi)) 23).1)), (5, .int (nI (0))), (0, .ref (b9)), (1, .ref (K 0)), (2, .ref (J 0)), (3, .ref (ob)), (4, .int (nI (4 * t)))]) C dL_law_1230 (by decide) rfl ?_
      refine kx_aload_n C dL_law_1232 rfl 4 rfl ?_
      refine kx_callVi (rest := []) (wr := kOu E ob f :: (kwW E K b y o n ls bc tk hk P Wt Tu Sc Ta Wa He Fk Pk)) C (m_thrown E J 0 n b y o Wt P Rm Ym Tm Cm Km) gL_86 0 rfl (by decide +kernel) ⟨Nat.le_of_ble_eq_true rfl, Nat.le_of_ble_eq_true rfl⟩ ⟨by show 20 + t + 0 ≤ 1052; omega, by show 9036 + 6 * t + 6 * 0 ≤ 17276; omega⟩ [11, 12, 13, 14, 15, 16, 17, 18] [0, 1, 2, 3, 4, 5, 6, 7, 8, 9, 10] rfl rfl (by decide) (by decide) (by decide) 0 rfl rfl rfl (Nat.le_of_ble_eq_true rfl) dL_law_1233 (fun v w q => ?_)
      obtain ⟨rfl, rfl⟩ := q
      refine kx_widen (k := 20 + t) (n := 9036 + 6 * t) (by show 20 + t + 0 ≤ 20 + t; omega) (by show 9036 + 6 * t + 6 * 0 ≤ 9036 + 6 * t; omega) ?_
      refine kx_iload C dL_law_1236 1 rfl ?_
      refine kx_icmp_eq (tgt := 1243) C (by omega) (by omega) dL_law_1238 (by decide) (fun c1 => ?_) (fun c1 => ?_)
      · skip
        refine kx_iload C dL_law_1243 1 rfl ?_
        refine kx_if_ne (tgt := 1260) C (by omega) dL_law_1245 (by decide) (fun c2 => ?_) (fun c2 => ?_)
        · skip
          exact absurd c2 (by decide)
        · skip
          refine kx_aload_n C dL_law_1248 rfl 5 rfl ?_
          refine kx_iconst (v := nI 0) C dL_law_1249 (by decide +kernel) ?_
          refine kx_laldO (x := (nI (whN (fun k => sumN (fun t => fitN P Wt (fi + t) k) (la + 1 - fi)) 23).1).toInt64) C 0 rfl hf dL_law_1250 ?_
          refine kx_iload C dL_law_1251 0 rfl ?_
          refine kx_i2l (v := (nI (whN (fun k => sumN (fun t => fitN P Wt (fi + t) k) (la + 1 - fi)) 23).1).toInt64) C dL_law_1253 rfl ?_
          refine kx_lcmp_eqR (tgt := 1260) C dL_law_1254 dL_law_1255 (by decide) (fun c3 => ?_) (fun c3 => ?_)
          · skip
            refine kx_goto (tgt := 1319) C dL_law_1260 (by decide) ?_
            refine kx_lv (lv2 := [(0, .ref (b9)), (1, .ref (K 0)), (2, .ref (J 0)), (3, .ref (ob)), (4, .int (nI (4 * t)))]) [2, 3, 4, 5, 6] rfl ?_
            exact hB _ _ _ _ _ _ _ _ _ _ _ _ _ _ _ _ _ _ _ _ _ _ _ _ HO HM
          · skip
            exact absurd (congrArg Int32.toInt64 rfl) c3
      · skip
        exact absurd c1 (by decide)
    · skip
      exact absurd ⟨fi, la, rfl, rfl, hfl, ela⟩ hb2
  · skip
    obtain ⟨-, hb, rfl⟩ := hx
    refine kx_istore (lv2 := [(5, .int (nI (1))), (0, .ref (b9)), (1, .ref (K 0)), (2, .ref (J 0)), (3, .ref (ob)), (4, .int (nI (4 * t)))]) C dL_law_1212 (by decide) rfl ?_
    refine kx_aload_n C dL_law_1214 rfl 3 rfl ?_
    refine kx_aload_n C dL_law_1215 rfl 1 rfl ?_
    refine kx_iload C dL_law_1216 5 rfl ?_
    refine kx_iconst (v := nI 1) C dL_law_1218 (by decide +kernel) ?_
    refine kx_iadd C dL_law_1219 ?_
    refine kx_sld C hX hL (by omega) e0 dL_law_1220 ?_
    refine kx_aload_n C dL_law_1221 rfl 1 rfl ?_
    refine kx_iload C dL_law_1222 5 rfl ?_
    refine kx_iconst (v := nI 2) C dL_law_1224 (by decide +kernel) ?_
    refine kx_iadd C dL_law_1225 ?_
    refine kx_sld C hX hL (by omega) e1 dL_law_1226 ?_
    refine kx_callVi (rest := []) (wr := kOu E ob f0 :: (kwW E K b y o n ls bc tk hk P Wt Tu Sc Ta Wa He Fk Pk)) C (m_whole E J cd n b y o Wt P Rm Ym Tm Cm Km x0 x1 HM) gL_148 2 rfl (by decide +kernel) ⟨Nat.le_of_ble_eq_true rfl, Nat.le_of_ble_eq_true rfl⟩ ⟨by show 20 + t + 0 ≤ 1052; omega, by show 9036 + 6 * t + 6 * 0 ≤ 17276; omega⟩ [0, 1, 2, 3, 4, 5, 6, 7] [8, 9, 10, 11, 12, 13, 14, 15, 16, 17, 18] rfl rfl (by decide) (by decide) (by decide) 0 rfl rfl rfl (Nat.le_of_ble_eq_true rfl) dL_law_1227 (fun v w q => ?_)
    refine kx_widen (k := 20 + t) (n := 9036 + 6 * t) (by show 20 + t + 0 ≤ 20 + t; omega) (by show 9036 + 6 * t + 6 * 0 ≤ 9036 + 6 * t; omega) ?_
    rcases q with ⟨f2, l2, g1, g2, hfl2, el2, -, -⟩ | ⟨-, rfl, rfl⟩
    · skip
      exact absurd ⟨f2, l2, g1, g2, hfl2, el2⟩ hb
    · skip
      refine kx_istore (lv2 := [(6, .int (nI 0)), (5, .int (nI (1))), (0, .ref (b9)), (1, .ref (K 0)), (2, .ref (J 0)), (3, .ref (ob)), (4, .int (nI (4 * t)))]) C dL_law_1230 (by decide) rfl ?_
      refine kx_aload_n C dL_law_1232 rfl 4 rfl ?_
      refine kx_callVi (rest := []) (wr := kOu E ob f0 :: (kwW E K b y o n ls bc tk hk P Wt Tu Sc Ta Wa He Fk Pk)) C (m_thrown E J 1 n b y o Wt P Rm Ym Tm Cm Km) gL_86 0 rfl (by decide +kernel) ⟨Nat.le_of_ble_eq_true rfl, Nat.le_of_ble_eq_true rfl⟩ ⟨by show 20 + t + 0 ≤ 1052; omega, by show 9036 + 6 * t + 6 * 0 ≤ 17276; omega⟩ [11, 12, 13, 14, 15, 16, 17, 18] [0, 1, 2, 3, 4, 5, 6, 7, 8, 9, 10] rfl rfl (by decide) (by decide) (by decide) 0 rfl rfl rfl (Nat.le_of_ble_eq_true rfl) dL_law_1233 (fun v w q => ?_)
      obtain ⟨rfl, rfl⟩ := q
      refine kx_widen (k := 20 + t) (n := 9036 + 6 * t) (by show 20 + t + 0 ≤ 20 + t; omega) (by show 9036 + 6 * t + 6 * 0 ≤ 9036 + 6 * t; omega) ?_
      refine kx_iload C dL_law_1236 1 rfl ?_
      refine kx_icmp_eq (tgt := 1243) C (by omega) (by omega) dL_law_1238 (by decide) (fun c4 => ?_) (fun c4 => ?_)
      · skip
        refine kx_iload C dL_law_1243 1 rfl ?_
        refine kx_if_ne (tgt := 1260) C (by omega) dL_law_1245 (by decide) (fun c5 => ?_) (fun c5 => ?_)
        · skip
          refine kx_goto (tgt := 1319) C dL_law_1260 (by decide) ?_
          refine kx_lv (lv2 := [(0, .ref (b9)), (1, .ref (K 0)), (2, .ref (J 0)), (3, .ref (ob)), (4, .int (nI (4 * t)))]) [2, 3, 4, 5, 6] rfl ?_
          exact hB _ _ _ _ _ _ _ _ _ _ _ _ _ _ _ _ _ _ _ _ _ _ _ _ HO HM
        · skip
          exact absurd c5 (by decide)
      · skip
        exact absurd c4 (by decide)
