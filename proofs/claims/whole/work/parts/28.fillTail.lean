def tailV (n : Nat) (Tu Sc Ta : Nat → Nat) (sl k : Nat) : Nat := if sl = n - 1 then Sc (sl * 24 + k) else Sc (sl * 24 + k) + minN (fun to => Tu (k * 24 + to) + Ta ((sl + 1) * 24 + to)) kBIG 24
def wayV (n : Nat) (Tu Ta Wa : Nat → Nat) (sl k : Nat) : Nat := if sl = n - 1 then 1 else cntN (fun to => Tu (k * 24 + to) + Ta ((sl + 1) * 24 + to)) (fun to => Wa ((sl + 1) * 24 + to)) 24
theorem kFT1 {E : KE} {K : Nat → Nat} {b y o n ls bc tk hk : Nat} {P Wt Tu Sc Ta Wa He Fk Pk : Nat → Nat} {sl k : Nat} (c1 : sl = n - 1) : (kwW E K b y o n ls bc tk hk P Wt Tu Sc (va_up Ta (sl * 24 + k) (Sc (sl * 24 + k))) (va_up Wa (sl * 24 + k) 1) He Fk Pk) = (kwW E K b y o n ls bc tk hk P Wt Tu Sc (va_up Ta (sl * 24 + k) (tailV n Tu Sc Ta sl k)) (va_up Wa (sl * 24 + k) (wayV n Tu Ta Wa sl k)) He Fk Pk) := by
  rw [tailV, wayV, if_pos c1, if_pos c1]
theorem kFT2 {E : KE} {K : Nat → Nat} {b y o n ls bc tk hk : Nat} {P Wt Tu Sc Ta Wa He Fk Pk : Nat → Nat} {sl k : Nat} (c1 : ¬ sl = n - 1) : (kwW E K b y o n ls bc tk hk P Wt Tu Sc (va_up Ta (sl * 24 + k) (Sc (sl * 24 + k) + minN (fun to => Tu (k * 24 + to) + Ta ((sl + 1) * 24 + to)) kBIG 24)) (va_up Wa (sl * 24 + k) (cntN (fun to => Tu (k * 24 + to) + Ta ((sl + 1) * 24 + to)) (fun to => Wa ((sl + 1) * 24 + to)) 24)) He Fk Pk) = (kwW E K b y o n ls bc tk hk P Wt Tu Sc (va_up Ta (sl * 24 + k) (tailV n Tu Sc Ta sl k)) (va_up Wa (sl * 24 + k) (wayV n Tu Ta Wa sl k)) He Fk Pk) := by
  rw [tailV, wayV, if_neg c1, if_neg c1]

set_option maxHeartbeats 4000000 in
set_option maxRecDepth 100000 in
theorem c_fillTail (E : KE) (K : Nat → Nat) (b y o n ls bc tk hk : Nat) (P Wt Tu Sc Ta Wa He Fk Pk : Nat → Nat) (sl k : Nat) (H0 : sl < n) (H1 : n ≤ 40) (H2 : k < 24) (HTu : ∀ j, j < 576 → Tu j ≤ 8000) (HTa : ∀ j, j < 24 → Ta ((sl + 1) * 24 + j) ≤ 10000000) (HWa : ∀ j, j < 24 → Wa ((sl + 1) * 24 + j) ≤ kCAP) : kMv E yX0_fillTail cX0_fillTail 10 (rk 2 0) [.ref (K 0), .int (nI (sl)), .int (nI (k))] (kwW E K b y o n ls bc tk hk P Wt Tu Sc Ta Wa He Fk Pk) (fun w => w = (kwW E K b y o n ls bc tk hk P Wt Tu Sc (va_up Ta (sl * 24 + k) (tailV n Tu Sc Ta sl k)) (va_up Wa (sl * 24 + k) (wayV n Tu Ta Wa sl k)) He Fk Pk)) := by
  refine kMv_of (cc := cX0_fillTail) (maxL := 10) (by decide) (Nat.le_of_ble_eq_true rfl) ?_
  intro G C hE
  have lpA : ¬ sl = n - 1 → kx E (rk 2 0) G 10 0 0 (kwW E K b y o n ls bc tk hk P Wt Tu Sc Ta Wa He Fk Pk) [(0, .ref (K 0)), (1, .int (nI (sl))), (2, .int (nI (k))), (3, .int (nI ((sl) * (24) + (k)))), (4, .int (nI (minN (fun to => Tu (k * 24 + to) + Ta ((sl + 1) * 24 + to)) kBIG 0))), (5, .long (lN (cntN (fun to => Tu (k * 24 + to) + Ta ((sl + 1) * 24 + to)) (fun to => Wa ((sl + 1) * 24 + to)) 0))), (7, .int (nI (0)))] 47 [] := by
    intro cA
    have lp47 : ∀ (N_lp47 : Nat) (i : Nat), (i ≤ 24) → (24 < i + N_lp47) → kx E (rk 2 0) G 10 0 0 (kwW E K b y o n ls bc tk hk P Wt Tu Sc Ta Wa He Fk Pk) [(0, .ref (K 0)), (1, .int (nI (sl))), (2, .int (nI (k))), (3, .int (nI ((sl) * (24) + (k)))), (4, .int (nI (minN (fun to => Tu (k * 24 + to) + Ta ((sl + 1) * 24 + to)) kBIG i))), (5, .long (lN (cntN (fun to => Tu (k * 24 + to) + Ta ((sl + 1) * 24 + to)) (fun to => Wa ((sl + 1) * 24 + to)) i))), (7, .int (nI (i)))] 47 [] := by
      intro N_lp47
      induction N_lp47 with
      | zero =>
        intro i h0_lp47 hm_lp47
        exact absurd hm_lp47 (by omega)
      | succ N_lp47 ih_lp47 =>
        intro i h0_lp47 hm_lp47
        refine kx_iload C dX0_fillTail_47 6 rfl ?_
        refine kx_bipush (v := nI 24) C dX0_fillTail_49 (by decide +kernel) ?_
        refine kx_icmp_ge (tgt := 137) C (by omega) (by omega) dX0_fillTail_51 (by decide) (fun c1 => ?_) (fun c1 => ?_)
        · skip
          obtain rfl : 24 = i := by omega
          refine kx_aload_n C dX0_fillTail_137 rfl 0 rfl ?_
          refine kx_get (v := .ref (K 5)) (ci := 0) C kin0 0 rfl rfl 8 (by decide) fl0_22 rfl rfl dX0_fillTail_138 ?_
          refine kx_iload_n C dX0_fillTail_141 rfl 3 rfl ?_
          refine kx_aload_n C dX0_fillTail_142 rfl 0 rfl ?_
          refine kx_get (v := .ref (K 4)) (ci := 0) C kin0 0 rfl rfl 7 (by decide) fl0_19 rfl rfl dX0_fillTail_143 ?_
          refine kx_iload_n C dX0_fillTail_146 rfl 3 rfl ?_
          refine kx_iald C 4 rfl (j := (sl) * (24) + (k)) (by omega) (by decide) dX0_fillTail_147 ?_
          refine kx_iload C dX0_fillTail_148 4 rfl ?_
          refine kx_iadd C dX0_fillTail_150 ?_
          refine kx_iast (ws2 := (kwW E K b y o n ls bc tk hk P Wt Tu Sc (va_up Ta ((sl) * (24) + (k)) ((Sc ((sl) * (24) + (k))) + (minN (fun to => Tu (k * 24 + to) + Ta ((sl + 1) * 24 + to)) kBIG 24))) Wa He Fk Pk)) C 5 rfl (j := (sl) * (24) + (k)) (v := (Sc ((sl) * (24) + (k))) + (minN (fun to => Tu (k * 24 + to) + Ta ((sl + 1) * 24 + to)) kBIG 24)) (by omega) (by decide) rfl dX0_fillTail_151 ?_
          refine kx_aload_n C dX0_fillTail_152 rfl 0 rfl ?_
          refine kx_get (v := .ref (K 6)) (ci := 0) C kin0 0 rfl rfl 9 (by decide) fl0_25 rfl rfl dX0_fillTail_153 ?_
          refine kx_iload_n C dX0_fillTail_156 rfl 3 rfl ?_
          refine kx_lload C dX0_fillTail_157 5 rfl ?_
          refine kx_last (ws2 := (kwW E K b y o n ls bc tk hk P Wt Tu Sc (va_up Ta ((sl) * (24) + (k)) ((Sc ((sl) * (24) + (k))) + (minN (fun to => Tu (k * 24 + to) + Ta ((sl + 1) * 24 + to)) kBIG 24))) (va_up Wa ((sl) * (24) + (k)) (cntN (fun to => Tu (k * 24 + to) + Ta ((sl + 1) * 24 + to)) (fun to => Wa ((sl + 1) * 24 + to)) 24)) He Fk Pk)) C 6 rfl (j := (sl) * (24) + (k)) (v := cntN (fun to => Tu (k * 24 + to) + Ta ((sl + 1) * 24 + to)) (fun to => Wa ((sl + 1) * 24 + to)) 24) (by omega) (by decide) rfl dX0_fillTail_159 ?_
          exact hE (Nat.le_of_ble_eq_true rfl) (Nat.le_of_ble_eq_true rfl) dX0_fillTail_160 (kFT2 cA)
        · skip
          refine kx_iload_n C dX0_fillTail_54 rfl 3 rfl ?_
          refine kx_iload_n C dX0_fillTail_55 rfl 2 rfl ?_
          refine kx_isub C (by omega) dX0_fillTail_56 ?_
          refine kx_bipush (v := nI 24) C dX0_fillTail_57 (by decide +kernel) ?_
          refine kx_iadd C dX0_fillTail_59 ?_
          refine kx_iload C dX0_fillTail_60 6 rfl ?_
          refine kx_iadd C dX0_fillTail_62 ?_
          refine kx_topn (b := (sl + 1) * 24 + i) (by omega) ?_
          refine kx_istore (lv2 := [(8, .int (nI ((sl + 1) * 24 + i))), (0, .ref (K 0)), (1, .int (nI (sl))), (2, .int (nI (k))), (3, .int (nI ((sl) * (24) + (k)))), (4, .int (nI (minN (fun to => Tu (k * 24 + to) + Ta ((sl + 1) * 24 + to)) kBIG i))), (5, .long (lN (cntN (fun to => Tu (k * 24 + to) + Ta ((sl + 1) * 24 + to)) (fun to => Wa ((sl + 1) * 24 + to)) i))), (7, .int (nI (i)))]) C dX0_fillTail_63 (by decide) rfl ?_
          refine kx_aload_n C dX0_fillTail_65 rfl 1 rfl ?_
          refine kx_get (v := .ref (K 3)) (ci := 0) C kin0 0 rfl rfl 6 (by decide) fl0_16 rfl rfl dX0_fillTail_66 ?_
          refine kx_iload_n C dX0_fillTail_69 rfl 3 rfl ?_
          refine kx_bipush (v := nI 24) C dX0_fillTail_70 (by decide +kernel) ?_
          refine kx_imul C dX0_fillTail_72 ?_
          refine kx_iload C dX0_fillTail_73 7 rfl ?_
          refine kx_iadd C dX0_fillTail_75 ?_
          refine kx_iald C 3 rfl (j := ((k) * (24)) + (i)) (by omega) (by decide) dX0_fillTail_76 ?_
          refine kx_aload_n C dX0_fillTail_77 rfl 1 rfl ?_
          refine kx_get (v := .ref (K 5)) (ci := 0) C kin0 0 rfl rfl 8 (by decide) fl0_22 rfl rfl dX0_fillTail_78 ?_
          refine kx_iload C dX0_fillTail_81 0 rfl ?_
          refine kx_iald C 5 rfl (j := (sl + 1) * 24 + i) (by omega) (by decide) dX0_fillTail_83 ?_
          refine kx_iadd C dX0_fillTail_84 ?_
          refine kx_istore (lv2 := [(9, .int (nI ((Tu (((k) * (24)) + (i))) + (Ta ((sl + 1) * 24 + i))))), (8, .int (nI ((sl + 1) * 24 + i))), (0, .ref (K 0)), (1, .int (nI (sl))), (2, .int (nI (k))), (3, .int (nI ((sl) * (24) + (k)))), (4, .int (nI (minN (fun to => Tu (k * 24 + to) + Ta ((sl + 1) * 24 + to)) kBIG i))), (5, .long (lN (cntN (fun to => Tu (k * 24 + to) + Ta ((sl + 1) * 24 + to)) (fun to => Wa ((sl + 1) * 24 + to)) i))), (7, .int (nI (i)))]) C dX0_fillTail_85 (by decide) rfl ?_
          refine kx_iload C dX0_fillTail_87 0 rfl ?_
          refine kx_iload C dX0_fillTail_89 6 rfl ?_
          refine kx_icmp_ge (tgt := 110) C (by have := HTu (k * 24 + i) (by omega); have := HTa i (by omega); omega) (minN_lt31 (fun to => Tu (k * 24 + to) + Ta ((sl + 1) * 24 + to)) i) dX0_fillTail_91 (by decide) (fun c2 => ?_) (fun c2 => ?_)
          · skip
            refine kx_iload C dX0_fillTail_110 0 rfl ?_
            refine kx_iload C dX0_fillTail_112 6 rfl ?_
            refine kx_icmp_ne (tgt := 131) C (by have := HTu (k * 24 + i) (by omega); have := HTa i (by omega); omega) (minN_lt31 (fun to => Tu (k * 24 + to) + Ta ((sl + 1) * 24 + to)) i) dX0_fillTail_114 (by decide) (fun c3 => ?_) (fun c3 => ?_)
            · skip
              refine kx_iinc (v := nI (i + 1)) (lv2 := [(7, .int (nI (i + 1))), (9, .int (nI ((Tu (((k) * (24)) + (i))) + (Ta ((sl + 1) * 24 + i))))), (8, .int (nI ((sl + 1) * 24 + i))), (0, .ref (K 0)), (1, .int (nI (sl))), (2, .int (nI (k))), (3, .int (nI ((sl) * (24) + (k)))), (4, .int (nI (minN (fun to => Tu (k * 24 + to) + Ta ((sl + 1) * 24 + to)) kBIG i))), (5, .long (lN (cntN (fun to => Tu (k * 24 + to) + Ta ((sl + 1) * 24 + to)) (fun to => Wa ((sl + 1) * 24 + to)) i)))]) C dX0_fillTail_131 8 rfl (kI1 _) (by decide) rfl ?_
              refine kx_goto (tgt := 47) C dX0_fillTail_134 (by decide) ?_
              refine kx_lvn (a := minN (fun to => Tu (k * 24 + to) + Ta ((sl + 1) * 24 + to)) kBIG i) (b := minN (fun to => Tu (k * 24 + to) + Ta ((sl + 1) * 24 + to)) kBIG (i + 1)) (lv2 := [(7, .int (nI (i + 1))), (9, .int (nI ((Tu (((k) * (24)) + (i))) + (Ta ((sl + 1) * 24 + i))))), (8, .int (nI ((sl + 1) * 24 + i))), (0, .ref (K 0)), (1, .int (nI (sl))), (2, .int (nI (k))), (3, .int (nI ((sl) * (24) + (k)))), (4, .int (nI (minN (fun to => Tu (k * 24 + to) + Ta ((sl + 1) * 24 + to)) kBIG (i + 1)))), (5, .long (lN (cntN (fun to => Tu (k * 24 + to) + Ta ((sl + 1) * 24 + to)) (fun to => Wa ((sl + 1) * 24 + to)) i)))]) (min_ge (F := (fun to => Tu (k * 24 + to) + Ta ((sl + 1) * 24 + to))) c2) 7 rfl rfl ?_
              refine kx_lvL (a := cntN (fun to => Tu (k * 24 + to) + Ta ((sl + 1) * 24 + to)) (fun to => Wa ((sl + 1) * 24 + to)) i) (b := cntN (fun to => Tu (k * 24 + to) + Ta ((sl + 1) * 24 + to)) (fun to => Wa ((sl + 1) * 24 + to)) (i + 1)) (lv2 := [(7, .int (nI (i + 1))), (9, .int (nI ((Tu (((k) * (24)) + (i))) + (Ta ((sl + 1) * 24 + i))))), (8, .int (nI ((sl + 1) * 24 + i))), (0, .ref (K 0)), (1, .int (nI (sl))), (2, .int (nI (k))), (3, .int (nI ((sl) * (24) + (k)))), (4, .int (nI (minN (fun to => Tu (k * 24 + to) + Ta ((sl + 1) * 24 + to)) kBIG (i + 1)))), (5, .long (lN (cntN (fun to => Tu (k * 24 + to) + Ta ((sl + 1) * 24 + to)) (fun to => Wa ((sl + 1) * 24 + to)) (i + 1))))]) (cnt_gt (F := (fun to => Tu (k * 24 + to) + Ta ((sl + 1) * 24 + to))) (G := (fun to => Wa ((sl + 1) * 24 + to))) (Nat.lt_of_le_of_ne c2 (fun z => c3 z.symm))) 8 rfl rfl ?_
              refine kx_lv (lv2 := [(0, .ref (K 0)), (1, .int (nI (sl))), (2, .int (nI (k))), (3, .int (nI ((sl) * (24) + (k)))), (4, .int (nI (minN (fun to => Tu (k * 24 + to) + Ta ((sl + 1) * 24 + to)) kBIG (i + 1)))), (5, .long (lN (cntN (fun to => Tu (k * 24 + to) + Ta ((sl + 1) * 24 + to)) (fun to => Wa ((sl + 1) * 24 + to)) (i + 1)))), (7, .int (nI (i + 1)))]) [3, 4, 5, 6, 7, 8, 0] rfl ?_
              refine kx_eqw (ws2 := (kwW E K b y o n ls bc tk hk P Wt Tu Sc Ta Wa He Fk Pk)) rfl ?_
              exact ih_lp47 (i + 1) (by omega) (by omega)
            · skip
              refine kx_lload C dX0_fillTail_117 7 rfl ?_
              refine kx_aload_n C dX0_fillTail_119 rfl 2 rfl ?_
              refine kx_get (v := .ref (K 6)) (ci := 0) C kin0 0 rfl rfl 9 (by decide) fl0_25 rfl rfl dX0_fillTail_120 ?_
              refine kx_iload C dX0_fillTail_123 1 rfl ?_
              refine kx_lald C 6 rfl (j := (sl + 1) * 24 + i) (by omega) (by decide) dX0_fillTail_125 ?_
              refine kx_callSl (rest := []) (wr := (kwW E K b y o n ls bc tk hk P Wt Tu Sc Ta Wa He Fk Pk)) C (c_cappedSum E (cntN (fun to => Tu (k * 24 + to) + Ta ((sl + 1) * 24 + to)) (fun to => Wa ((sl + 1) * 24 + to)) i) (Wa ((sl + 1) * 24 + i)) (cntN_le _ _ _) (HWa i (by omega))) g0_199 2 rfl (by decide +kernel) ⟨Nat.le_of_ble_eq_true rfl, Nat.le_of_ble_eq_true rfl⟩ ⟨Nat.le_of_ble_eq_true rfl, Nat.le_of_ble_eq_true rfl⟩ [] [0, 1, 2, 3, 4, 5, 6, 7, 8, 9] rfl rfl (by decide) (by decide) (by decide) rfl (Nat.le_of_ble_eq_true rfl) dX0_fillTail_126 (fun v w q4 => ?_)
              obtain ⟨rfl, rfl⟩ := q4
              refine kx_eqw (ws2 := (kwW E K b y o n ls bc tk hk P Wt Tu Sc Ta Wa He Fk Pk)) (List.append_nil _) ?_
              refine kx_lstore (lv2 := [(5, .long (lN (min (cntN (fun to => Tu (k * 24 + to) + Ta ((sl + 1) * 24 + to)) (fun to => Wa ((sl + 1) * 24 + to)) i + Wa ((sl + 1) * 24 + i)) 1000000000000000000))), (9, .int (nI ((Tu (((k) * (24)) + (i))) + (Ta ((sl + 1) * 24 + i))))), (8, .int (nI ((sl + 1) * 24 + i))), (0, .ref (K 0)), (1, .int (nI (sl))), (2, .int (nI (k))), (3, .int (nI ((sl) * (24) + (k)))), (4, .int (nI (minN (fun to => Tu (k * 24 + to) + Ta ((sl + 1) * 24 + to)) kBIG i))), (7, .int (nI (i)))]) C dX0_fillTail_129 (by decide) rfl ?_
              refine kx_iinc (v := nI (i + 1)) (lv2 := [(7, .int (nI (i + 1))), (5, .long (lN (min (cntN (fun to => Tu (k * 24 + to) + Ta ((sl + 1) * 24 + to)) (fun to => Wa ((sl + 1) * 24 + to)) i + Wa ((sl + 1) * 24 + i)) 1000000000000000000))), (9, .int (nI ((Tu (((k) * (24)) + (i))) + (Ta ((sl + 1) * 24 + i))))), (8, .int (nI ((sl + 1) * 24 + i))), (0, .ref (K 0)), (1, .int (nI (sl))), (2, .int (nI (k))), (3, .int (nI ((sl) * (24) + (k)))), (4, .int (nI (minN (fun to => Tu (k * 24 + to) + Ta ((sl + 1) * 24 + to)) kBIG i)))]) C dX0_fillTail_131 8 rfl (kI1 _) (by decide) rfl ?_
              refine kx_goto (tgt := 47) C dX0_fillTail_134 (by decide) ?_
              refine kx_lvn (a := minN (fun to => Tu (k * 24 + to) + Ta ((sl + 1) * 24 + to)) kBIG i) (b := minN (fun to => Tu (k * 24 + to) + Ta ((sl + 1) * 24 + to)) kBIG (i + 1)) (lv2 := [(7, .int (nI (i + 1))), (5, .long (lN (min (cntN (fun to => Tu (k * 24 + to) + Ta ((sl + 1) * 24 + to)) (fun to => Wa ((sl + 1) * 24 + to)) i + Wa ((sl + 1) * 24 + i)) 1000000000000000000))), (9, .int (nI ((Tu (((k) * (24)) + (i))) + (Ta ((sl + 1) * 24 + i))))), (8, .int (nI ((sl + 1) * 24 + i))), (0, .ref (K 0)), (1, .int (nI (sl))), (2, .int (nI (k))), (3, .int (nI ((sl) * (24) + (k)))), (4, .int (nI (minN (fun to => Tu (k * 24 + to) + Ta ((sl + 1) * 24 + to)) kBIG (i + 1))))]) (min_ge (F := (fun to => Tu (k * 24 + to) + Ta ((sl + 1) * 24 + to))) c2) 8 rfl rfl ?_
              refine kx_lvL (a := min (cntN (fun to => Tu (k * 24 + to) + Ta ((sl + 1) * 24 + to)) (fun to => Wa ((sl + 1) * 24 + to)) i + Wa ((sl + 1) * 24 + i)) 1000000000000000000) (b := cntN (fun to => Tu (k * 24 + to) + Ta ((sl + 1) * 24 + to)) (fun to => Wa ((sl + 1) * 24 + to)) (i + 1)) (lv2 := [(7, .int (nI (i + 1))), (5, .long (lN (cntN (fun to => Tu (k * 24 + to) + Ta ((sl + 1) * 24 + to)) (fun to => Wa ((sl + 1) * 24 + to)) (i + 1)))), (9, .int (nI ((Tu (((k) * (24)) + (i))) + (Ta ((sl + 1) * 24 + i))))), (8, .int (nI ((sl + 1) * 24 + i))), (0, .ref (K 0)), (1, .int (nI (sl))), (2, .int (nI (k))), (3, .int (nI ((sl) * (24) + (k)))), (4, .int (nI (minN (fun to => Tu (k * 24 + to) + Ta ((sl + 1) * 24 + to)) kBIG (i + 1))))]) (cnt_eq (F := (fun to => Tu (k * 24 + to) + Ta ((sl + 1) * 24 + to))) (G := (fun to => Wa ((sl + 1) * 24 + to))) c3) 1 rfl rfl ?_
              refine kx_lv (lv2 := [(0, .ref (K 0)), (1, .int (nI (sl))), (2, .int (nI (k))), (3, .int (nI ((sl) * (24) + (k)))), (4, .int (nI (minN (fun to => Tu (k * 24 + to) + Ta ((sl + 1) * 24 + to)) kBIG (i + 1)))), (5, .long (lN (cntN (fun to => Tu (k * 24 + to) + Ta ((sl + 1) * 24 + to)) (fun to => Wa ((sl + 1) * 24 + to)) (i + 1)))), (7, .int (nI (i + 1)))]) [4, 5, 6, 7, 8, 1, 0] rfl ?_
              refine kx_eqw (ws2 := (kwW E K b y o n ls bc tk hk P Wt Tu Sc Ta Wa He Fk Pk)) rfl ?_
              exact ih_lp47 (i + 1) (by omega) (by omega)
          · skip
            refine kx_iload C dX0_fillTail_94 0 rfl ?_
            refine kx_istore (lv2 := [(4, .int (nI ((Tu (((k) * (24)) + (i))) + (Ta ((sl + 1) * 24 + i))))), (9, .int (nI ((Tu (((k) * (24)) + (i))) + (Ta ((sl + 1) * 24 + i))))), (8, .int (nI ((sl + 1) * 24 + i))), (0, .ref (K 0)), (1, .int (nI (sl))), (2, .int (nI (k))), (3, .int (nI ((sl) * (24) + (k)))), (5, .long (lN (cntN (fun to => Tu (k * 24 + to) + Ta ((sl + 1) * 24 + to)) (fun to => Wa ((sl + 1) * 24 + to)) i))), (7, .int (nI (i)))]) C dX0_fillTail_96 (by decide) rfl ?_
            refine kx_aload_n C dX0_fillTail_98 rfl 3 rfl ?_
            refine kx_get (v := .ref (K 6)) (ci := 0) C kin0 0 rfl rfl 9 (by decide) fl0_25 rfl rfl dX0_fillTail_99 ?_
            refine kx_iload C dX0_fillTail_102 2 rfl ?_
            refine kx_lald C 6 rfl (j := (sl + 1) * 24 + i) (by omega) (by decide) dX0_fillTail_104 ?_
            refine kx_lstore (lv2 := [(5, .long (lN (Wa ((sl + 1) * 24 + i)))), (4, .int (nI ((Tu (((k) * (24)) + (i))) + (Ta ((sl + 1) * 24 + i))))), (9, .int (nI ((Tu (((k) * (24)) + (i))) + (Ta ((sl + 1) * 24 + i))))), (8, .int (nI ((sl + 1) * 24 + i))), (0, .ref (K 0)), (1, .int (nI (sl))), (2, .int (nI (k))), (3, .int (nI ((sl) * (24) + (k)))), (7, .int (nI (i)))]) C dX0_fillTail_105 (by decide) rfl ?_
            refine kx_goto (tgt := 131) C dX0_fillTail_107 (by decide) ?_
            refine kx_iinc (v := nI (i + 1)) (lv2 := [(7, .int (nI (i + 1))), (5, .long (lN (Wa ((sl + 1) * 24 + i)))), (4, .int (nI ((Tu (((k) * (24)) + (i))) + (Ta ((sl + 1) * 24 + i))))), (9, .int (nI ((Tu (((k) * (24)) + (i))) + (Ta ((sl + 1) * 24 + i))))), (8, .int (nI ((sl + 1) * 24 + i))), (0, .ref (K 0)), (1, .int (nI (sl))), (2, .int (nI (k))), (3, .int (nI ((sl) * (24) + (k))))]) C dX0_fillTail_131 8 rfl (kI1 _) (by decide) rfl ?_
            refine kx_goto (tgt := 47) C dX0_fillTail_134 (by decide) ?_
            refine kx_lvn (a := (Tu (((k) * (24)) + (i))) + (Ta ((sl + 1) * 24 + i))) (b := minN (fun to => Tu (k * 24 + to) + Ta ((sl + 1) * 24 + to)) kBIG (i + 1)) (lv2 := [(7, .int (nI (i + 1))), (5, .long (lN (Wa ((sl + 1) * 24 + i)))), (4, .int (nI (minN (fun to => Tu (k * 24 + to) + Ta ((sl + 1) * 24 + to)) kBIG (i + 1)))), (9, .int (nI ((Tu (((k) * (24)) + (i))) + (Ta ((sl + 1) * 24 + i))))), (8, .int (nI ((sl + 1) * 24 + i))), (0, .ref (K 0)), (1, .int (nI (sl))), (2, .int (nI (k))), (3, .int (nI ((sl) * (24) + (k))))]) (min_lt (F := (fun to => Tu (k * 24 + to) + Ta ((sl + 1) * 24 + to))) c2) 2 rfl rfl ?_
            refine kx_lvL (a := Wa ((sl + 1) * 24 + i)) (b := cntN (fun to => Tu (k * 24 + to) + Ta ((sl + 1) * 24 + to)) (fun to => Wa ((sl + 1) * 24 + to)) (i + 1)) (lv2 := [(7, .int (nI (i + 1))), (5, .long (lN (cntN (fun to => Tu (k * 24 + to) + Ta ((sl + 1) * 24 + to)) (fun to => Wa ((sl + 1) * 24 + to)) (i + 1)))), (4, .int (nI (minN (fun to => Tu (k * 24 + to) + Ta ((sl + 1) * 24 + to)) kBIG (i + 1)))), (9, .int (nI ((Tu (((k) * (24)) + (i))) + (Ta ((sl + 1) * 24 + i))))), (8, .int (nI ((sl + 1) * 24 + i))), (0, .ref (K 0)), (1, .int (nI (sl))), (2, .int (nI (k))), (3, .int (nI ((sl) * (24) + (k))))]) (cnt_lt (F := (fun to => Tu (k * 24 + to) + Ta ((sl + 1) * 24 + to))) (G := (fun to => Wa ((sl + 1) * 24 + to))) c2 (HWa i (by omega))) 1 rfl rfl ?_
            refine kx_lv (lv2 := [(0, .ref (K 0)), (1, .int (nI (sl))), (2, .int (nI (k))), (3, .int (nI ((sl) * (24) + (k)))), (4, .int (nI (minN (fun to => Tu (k * 24 + to) + Ta ((sl + 1) * 24 + to)) kBIG (i + 1)))), (5, .long (lN (cntN (fun to => Tu (k * 24 + to) + Ta ((sl + 1) * 24 + to)) (fun to => Wa ((sl + 1) * 24 + to)) (i + 1)))), (7, .int (nI (i + 1)))]) [5, 6, 7, 8, 2, 1, 0] rfl ?_
            refine kx_eqw (ws2 := (kwW E K b y o n ls bc tk hk P Wt Tu Sc Ta Wa He Fk Pk)) rfl ?_
            exact ih_lp47 (i + 1) (by omega) (by omega)
    exact lp47 25 0 (by omega) (by omega)
  refine kx_iload_n C dX0_fillTail_0 rfl 1 rfl ?_
  refine kx_bipush (v := nI 24) C dX0_fillTail_1 (by decide +kernel) ?_
  refine kx_imul C dX0_fillTail_3 ?_
  refine kx_iload_n C dX0_fillTail_4 rfl 2 rfl ?_
  refine kx_iadd C dX0_fillTail_5 ?_
  refine kx_istore_n (lv2 := [(3, .int (nI (((sl) * (24)) + (k)))), (0, .ref (K 0)), (1, .int (nI (sl))), (2, .int (nI (k)))]) C dX0_fillTail_6 rfl (by decide) rfl ?_
  refine kx_iload_n C dX0_fillTail_7 rfl 2 rfl ?_
  refine kx_aload_n C dX0_fillTail_8 rfl 1 rfl ?_
  refine kx_get (v := .int (nI (n))) (ci := 0) C kin0 0 rfl rfl 5 (by decide) fl0_41 rfl rfl dX0_fillTail_9 ?_
  refine kx_iconst (v := nI 1) C dX0_fillTail_12 (by decide +kernel) ?_
  refine kx_isub C (by omega) dX0_fillTail_13 ?_
  refine kx_icmp_ne (tgt := 37) C (by omega) (by omega) dX0_fillTail_14 (by decide) (fun c1 => ?_) (fun c1 => ?_)
  · skip
    refine kx_ldc (v := nI 1000000000) C kc0_198 dX0_fillTail_37 ?_
    refine kx_istore (lv2 := [(4, .int (nI (1000000000))), (3, .int (nI (((sl) * (24)) + (k)))), (0, .ref (K 0)), (1, .int (nI (sl))), (2, .int (nI (k)))]) C dX0_fillTail_39 (by decide) rfl ?_
    refine kx_lconst (v := lN 0) C dX0_fillTail_41 (by decide +kernel) ?_
    refine kx_lstore (lv2 := [(5, .long (lN (0))), (4, .int (nI (1000000000))), (3, .int (nI (((sl) * (24)) + (k)))), (0, .ref (K 0)), (1, .int (nI (sl))), (2, .int (nI (k)))]) C dX0_fillTail_42 (by decide) rfl ?_
    refine kx_iconst (v := nI 0) C dX0_fillTail_44 (by decide +kernel) ?_
    refine kx_istore (lv2 := [(7, .int (nI (0))), (5, .long (lN (0))), (4, .int (nI (1000000000))), (3, .int (nI (((sl) * (24)) + (k)))), (0, .ref (K 0)), (1, .int (nI (sl))), (2, .int (nI (k)))]) C dX0_fillTail_45 (by decide) rfl ?_
    refine kx_lv (lv2 := [(0, .ref (K 0)), (1, .int (nI (sl))), (2, .int (nI (k))), (3, .int (nI ((sl) * (24) + (k)))), (4, .int (nI (minN (fun to => Tu (k * 24 + to) + Ta ((sl + 1) * 24 + to)) kBIG 0))), (5, .long (lN (cntN (fun to => Tu (k * 24 + to) + Ta ((sl + 1) * 24 + to)) (fun to => Wa ((sl + 1) * 24 + to)) 0))), (7, .int (nI (0)))]) [4, 5, 6, 3, 2, 1, 0] rfl ?_
    exact lpA c1
  · skip
    refine kx_aload_n C dX0_fillTail_17 rfl 1 rfl ?_
    refine kx_get (v := .ref (K 5)) (ci := 0) C kin0 0 rfl rfl 8 (by decide) fl0_22 rfl rfl dX0_fillTail_18 ?_
    refine kx_iload_n C dX0_fillTail_21 rfl 0 rfl ?_
    refine kx_aload_n C dX0_fillTail_22 rfl 1 rfl ?_
    refine kx_get (v := .ref (K 4)) (ci := 0) C kin0 0 rfl rfl 7 (by decide) fl0_19 rfl rfl dX0_fillTail_23 ?_
    refine kx_iload_n C dX0_fillTail_26 rfl 0 rfl ?_
    refine kx_iald C 4 rfl (j := ((sl) * (24)) + (k)) (by omega) (by decide) dX0_fillTail_27 ?_
    refine kx_iast (ws2 := (kwW E K b y o n ls bc tk hk P Wt Tu Sc (va_up Ta (((sl) * (24)) + (k)) (Sc (((sl) * (24)) + (k)))) Wa He Fk Pk)) C 5 rfl (j := ((sl) * (24)) + (k)) (v := Sc (((sl) * (24)) + (k))) (by omega) (by decide) rfl dX0_fillTail_28 ?_
    refine kx_aload_n C dX0_fillTail_29 rfl 1 rfl ?_
    refine kx_get (v := .ref (K 6)) (ci := 0) C kin0 0 rfl rfl 9 (by decide) fl0_25 rfl rfl dX0_fillTail_30 ?_
    refine kx_iload_n C dX0_fillTail_33 rfl 0 rfl ?_
    refine kx_lconst (v := lN 1) C dX0_fillTail_34 (by decide +kernel) ?_
    refine kx_last (ws2 := (kwW E K b y o n ls bc tk hk P Wt Tu Sc (va_up Ta (((sl) * (24)) + (k)) (Sc (((sl) * (24)) + (k)))) (va_up Wa (((sl) * (24)) + (k)) (1)) He Fk Pk)) C 6 rfl (j := ((sl) * (24)) + (k)) (v := 1) (by omega) (by decide) rfl dX0_fillTail_35 ?_
    exact hE (Nat.le_of_ble_eq_true rfl) (Nat.le_of_ble_eq_true rfl) dX0_fillTail_36 (kFT1 c1)
