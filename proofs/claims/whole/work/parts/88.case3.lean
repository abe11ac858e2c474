set_option maxHeartbeats 4000000 in
set_option maxRecDepth 100000 in
theorem lc_pivot (E : KE) (G : KG) (C : kc E G cL_law 7 RL) (hHP : kHP (kGs G)) (HX : E.1.stackTraces = false) (K J : Nat → Nat) (ob b9 L t : Nat) (xs : Nat → Int32) (hX : kSc G b9 L xs) (hL : L ≤ 2048) (ht4 : 4 * t + 4 ≤ L) (hB : kLB E G K J ob b9 t) (b y o n ls bc tk hk : Nat) (P Wt Tu Sc Ta Wa He Fk Pk : Nat → Nat) (cd : Nat) (Rm Ym Tm Cm Km : Nat → Nat) (f0 : Nat → Int64) (HO : kOk b y o n ls bc tk hk P Wt Tu Sc Ta Wa He Fk Pk) (HM : kMo n b y o Wt P Rm Ym Km) : kx E room_1 G 7 (19 + t) (9030 + 6 * t) ((kOu E ob f0 :: (kwW E K b y o n ls bc tk hk P Wt Tu Sc Ta Wa He Fk Pk)) ++ (kmW E J cd n b y o Wt P Rm Ym Tm Cm Km)) [(0, .ref (b9)), (1, .ref (K 0)), (2, .ref (J 0)), (3, .ref (ob)), (4, .int (nI (4 * t)))] 1108 [] := by
  obtain ⟨H1, Hb, Hy, Ho, HP, HW, HRm, HYm, HKm⟩ := id HM
  obtain ⟨x0, e0⟩ : ∃ x : Int32, xs (4 * t + 1) = x := ⟨_, rfl⟩
  obtain ⟨x1, e1⟩ : ∃ x : Int32, xs (4 * t + 2) = x := ⟨_, rfl⟩
  obtain ⟨x2, e2⟩ : ∃ x : Int32, xs (4 * t + 3) = x := ⟨_, rfl⟩
  refine kx_aload_n C dL_law_1108 rfl 1 rfl ?_
  refine kx_aload_n C dL_law_1109 rfl 0 rfl ?_
  refine kx_iload C dL_law_1110 4 rfl ?_
  refine kx_iconst (v := nI 1) C dL_law_1112 (by decide +kernel) ?_
  refine kx_iadd C dL_law_1113 ?_
  refine kx_sld C hX hL (by omega) e0 dL_law_1114 ?_
  refine kx_aload_n C dL_law_1115 rfl 0 rfl ?_
  refine kx_iload C dL_law_1116 4 rfl ?_
  refine kx_iconst (v := nI 2) C dL_law_1118 (by decide +kernel) ?_
  refine kx_iadd C dL_law_1119 ?_
  refine kx_sld C hX hL (by omega) e1 dL_law_1120 ?_
  refine kx_aload_n C dL_law_1121 rfl 0 rfl ?_
  refine kx_iload C dL_law_1122 4 rfl ?_
  refine kx_iconst (v := nI 3) C dL_law_1124 (by decide +kernel) ?_
  refine kx_iadd C dL_law_1125 ?_
  refine kx_sld C hX hL (by omega) e2 dL_law_1126 ?_
  refine kx_aload_n C dL_law_1127 rfl 3 rfl ?_
  refine kx_callSH (rest := []) (wr := (kmW E J cd n b y o Wt P Rm Ym Tm Cm Km)) C hHP (l_pivot E K b y o n ls bc tk hk P Wt Tu Sc Ta Wa He Fk Pk ob f0 x0 x1 x2 (c_pivot E K b y o n ls bc tk hk P Wt Tu Sc Ta Wa He Fk Pk x0 x1 x2 HX HO) (fun _ _ h => h.1)) (kgH mL_143 sm_L_pivot ini_KeyWalksLaw cw_pivot) 5 rfl (by decide +kernel) ⟨Nat.le_of_ble_eq_true rfl, Nat.le_of_ble_eq_true rfl⟩ ⟨by show 19 + t + 1 ≤ 1052; omega, by show 9030 + 6 * t + 6 * 1 ≤ 17276; omega⟩ [0, 1, 2, 3, 4, 5, 6, 7, 8, 9, 10] [11, 12, 13, 14, 15, 16, 17, 18] rfl rfl (by decide) (by decide) (by decide) rfl (Nat.le_of_ble_eq_true rfl) dL_law_1128 (fun v w q => ?_)
  refine kx_widen (k := 20 + t) (n := 9036 + 6 * t) (by show 19 + t + 1 ≤ 20 + t; omega) (by show 9030 + 6 * t + 6 * 1 ≤ 9036 + 6 * t; omega) ?_
  rcases q with ⟨rfl, r9, w9, f, hp, hf, rfl⟩ | ⟨rfl, w9, hx, rfl⟩
  · skip
    obtain ⟨sl, k1, k2, rfl, esl, rfl, ek1, rfl, ek2, hpv, rfl⟩ := hp
    refine kx_istore (lv2 := [(5, .int (nI (0))), (0, .ref (b9)), (1, .ref (K 0)), (2, .ref (J 0)), (3, .ref (ob)), (4, .int (nI (4 * t)))]) C dL_law_1131 (by decide) rfl ?_
    refine kx_aload_n C dL_law_1133 rfl 3 rfl ?_
    refine kx_aload_n C dL_law_1134 rfl 1 rfl ?_
    refine kx_iload C dL_law_1135 5 rfl ?_
    refine kx_iconst (v := nI 1) C dL_law_1137 (by decide +kernel) ?_
    refine kx_iadd C dL_law_1138 ?_
    refine kx_sld C hX hL (by omega) e0 dL_law_1139 ?_
    refine kx_aload_n C dL_law_1140 rfl 1 rfl ?_
    refine kx_iload C dL_law_1141 5 rfl ?_
    refine kx_iconst (v := nI 2) C dL_law_1143 (by decide +kernel) ?_
    refine kx_iadd C dL_law_1144 ?_
    refine kx_sld C hX hL (by omega) e1 dL_law_1145 ?_
    refine kx_aload_n C dL_law_1146 rfl 1 rfl ?_
    refine kx_iload C dL_law_1147 5 rfl ?_
    refine kx_iconst (v := nI 3) C dL_law_1149 (by decide +kernel) ?_
    refine kx_iadd C dL_law_1150 ?_
    refine kx_sld C hX hL (by omega) e2 dL_law_1151 ?_
    refine kx_callVz (rest := []) (wr := kOu E ob f :: (kwW E K b y o n ls bc tk hk P Wt Tu Sc Ta Wa He Fk Pk)) C (m_pivot E J cd n b y o Wt P Rm Ym Tm Cm Km (nI sl) (nI k1) (nI k2) HM) gL_145 3 rfl (by decide +kernel) ⟨Nat.le_of_ble_eq_true rfl, Nat.le_of_ble_eq_true rfl⟩ ⟨by show 20 + t + 0 ≤ 1052; omega, by show 9036 + 6 * t + 6 * 0 ≤ 17276; omega⟩ [0, 1, 2, 3, 4, 5, 6, 7] [8, 9, 10, 11, 12, 13, 14, 15, 16, 17, 18] rfl rfl (by decide) (by decide) (by decide) 0 rfl rfl rfl (Nat.le_of_ble_eq_true rfl) dL_law_1152 (fun v w q => ?_)
    refine kx_widen (k := 20 + t) (n := 9036 + 6 * t) (by show 20 + t + 0 ≤ 20 + t; omega) (by show 9036 + 6 * t + 6 * 0 ≤ 9036 + 6 * t; omega) ?_
    rcases q with ⟨s2, j1, j2, g1, es2, g2, ej1, g3, ej2, hpv2, rfl⟩ | ⟨hb2, rfl, rfl⟩
    · skip
      obtain rfl := nJ g1 (by omega) (by omega)
      obtain rfl := nJ g2 (by omega) (by omega)
      obtain rfl := nJ g3 (by omega) (by omega)
      rcases hpv with ⟨hv1, rfl⟩ | ⟨hv1, rfl⟩
      · skip
        rcases hpv2 with ⟨hv2, rfl⟩ | ⟨hv2, rfl⟩
        · skip
          refine kx_istore (lv2 := [(6, .int (nI (1))), (5, .int (nI (0))), (0, .ref (b9)), (1, .ref (K 0)), (2, .ref (J 0)), (3, .ref (ob)), (4, .int (nI (4 * t)))]) C dL_law_1155 (by decide) rfl ?_
          refine kx_aload_n C dL_law_1157 rfl 4 rfl ?_
          refine kx_callVi (rest := []) (wr := kOu E ob f :: (kwW E K b y o n ls bc tk hk P Wt Tu Sc Ta Wa He Fk Pk)) C (m_thrown E J 0 n b y o Wt P Rm Ym Tm Cm Km) gL_86 0 rfl (by decide +kernel) ⟨Nat.le_of_ble_eq_true rfl, Nat.le_of_ble_eq_true rfl⟩ ⟨by show 20 + t + 0 ≤ 1052; omega, by show 9036 + 6 * t + 6 * 0 ≤ 17276; omega⟩ [11, 12, 13, 14, 15, 16, 17, 18] [0, 1, 2, 3, 4, 5, 6, 7, 8, 9, 10] rfl rfl (by decide) (by decide) (by decide) 0 rfl rfl rfl (Nat.le_of_ble_eq_true rfl) dL_law_1158 (fun v w q => ?_)
          obtain ⟨rfl, rfl⟩ := q
          refine kx_widen (k := 20 + t) (n := 9036 + 6 * t) (by show 20 + t + 0 ≤ 20 + t; omega) (by show 9036 + 6 * t + 6 * 0 ≤ 9036 + 6 * t; omega) ?_
          refine kx_iload C dL_law_1161 1 rfl ?_
          refine kx_icmp_eq (tgt := 1168) C (by omega) (by omega) dL_law_1163 (by decide) (fun c1 => ?_) (fun c1 => ?_)
          · skip
            refine kx_iload C dL_law_1168 1 rfl ?_
            refine kx_if_ne (tgt := 1192) C (by omega) dL_law_1170 (by decide) (fun c2 => ?_) (fun c2 => ?_)
            · skip
              exact absurd c2 (by decide)
            · skip
              refine kx_aload_n C dL_law_1173 rfl 5 rfl ?_
              refine kx_iconst (v := nI 0) C dL_law_1174 (by decide +kernel) ?_
              refine kx_laldO (x := kZl (nI 1)) C 0 rfl hf dL_law_1175 ?_
              refine kx_iload C dL_law_1176 0 rfl ?_
              refine kx_if_eq (tgt := 1185) C (by omega) dL_law_1178 (by decide) (fun c3 => ?_) (fun c3 => ?_)
              · skip
                exact absurd c3 (by decide)
              · skip
                refine kx_lconst (v := lN 1) C dL_law_1181 (by decide +kernel) ?_
                refine kx_goto (tgt := 1186) C dL_law_1182 (by decide) ?_
                refine kx_lcmp_eqR (tgt := 1192) C dL_law_1186 dL_law_1187 (by decide) (fun c4 => ?_) (fun c4 => ?_)
                · skip
                  refine kx_goto (tgt := 1319) C dL_law_1192 (by decide) ?_
                  refine kx_lv (lv2 := [(0, .ref (b9)), (1, .ref (K 0)), (2, .ref (J 0)), (3, .ref (ob)), (4, .int (nI (4 * t)))]) [2, 3, 4, 5, 6] rfl ?_
                  exact hB _ _ _ _ _ _ _ _ _ _ _ _ _ _ _ _ _ _ _ _ _ _ _ _ HO HM
                · skip
                  exact absurd (by decide +kernel) c4
          · skip
            exact absurd c1 (by decide)
        · skip
          exact absurd hv1 hv2
      · skip
        rcases hpv2 with ⟨hv2, rfl⟩ | ⟨hv2, rfl⟩
        · skip
          exact absurd hv2 hv1
        · skip
          refine kx_istore (lv2 := [(6, .int (nI (0))), (5, .int (nI (0))), (0, .ref (b9)), (1, .ref (K 0)), (2, .ref (J 0)), (3, .ref (ob)), (4, .int (nI (4 * t)))]) C dL_law_1155 (by decide) rfl ?_
          refine kx_aload_n C dL_law_1157 rfl 4 rfl ?_
          refine kx_callVi (rest := []) (wr := kOu E ob f :: (kwW E K b y o n ls bc tk hk P Wt Tu Sc Ta Wa He Fk Pk)) C (m_thrown E J 0 n b y o Wt P Rm Ym Tm Cm Km) gL_86 0 rfl (by decide +kernel) ⟨Nat.le_of_ble_eq_true rfl, Nat.le_of_ble_eq_true rfl⟩ ⟨by show 20 + t + 0 ≤ 1052; omega, by show 9036 + 6 * t + 6 * 0 ≤ 17276; omega⟩ [11, 12, 13, 14, 15, 16, 17, 18] [0, 1, 2, 3, 4, 5, 6, 7, 8, 9, 10] rfl rfl (by decide) (by decide) (by decide) 0 rfl rfl rfl (Nat.le_of_ble_eq_true rfl) dL_law_1158 (fun v w q => ?_)
          obtain ⟨rfl, rfl⟩ := q
          refine kx_widen (k := 20 + t) (n := 9036 + 6 * t) (by show 20 + t + 0 ≤ 20 + t; omega) (by show 9036 + 6 * t + 6 * 0 ≤ 9036 + 6 * t; omega) ?_
          refine kx_iload C dL_law_1161 1 rfl ?_
          refine kx_icmp_eq (tgt := 1168) C (by omega) (by omega) dL_law_1163 (by decide) (fun c5 => ?_) (fun c5 => ?_)
          · skip
            refine kx_iload C dL_law_1168 1 rfl ?_
            refine kx_if_ne (tgt := 1192) C (by omega) dL_law_1170 (by decide) (fun c6 => ?_) (fun c6 => ?_)
            · skip
              exact absurd c6 (by decide)
            · skip
              refine kx_aload_n C dL_law_1173 rfl 5 rfl ?_
              refine kx_iconst (v := nI 0) C dL_law_1174 (by decide +kernel) ?_
              refine kx_laldO (x := kZl (nI 0)) C 0 rfl hf dL_law_1175 ?_
              refine kx_iload C dL_law_1176 0 rfl ?_
              refine kx_if_eq (tgt := 1185) C (by omega) dL_law_1178 (by decide) (fun c7 => ?_) (fun c7 => ?_)
              · skip
                refine kx_lconst (v := lN 0) C dL_law_1185 (by decide +kernel) ?_
                refine kx_lcmp_eqR (tgt := 1192) C dL_law_1186 dL_law_1187 (by decide) (fun c8 => ?_) (fun c8 => ?_)
                · skip
                  refine kx_goto (tgt := 1319) C dL_law_1192 (by decide) ?_
                  refine kx_lv (lv2 := [(0, .ref (b9)), (1, .ref (K 0)), (2, .ref (J 0)), (3, .ref (ob)), (4, .int (nI (4 * t)))]) [2, 3, 4, 5, 6] rfl ?_
                  exact hB _ _ _ _ _ _ _ _ _ _ _ _ _ _ _ _ _ _ _ _ _ _ _ _ HO HM
                · skip
                  exact absurd (by decide +kernel) c8
              · skip
                exact absurd c7 (by decide)
          · skip
            exact absurd c5 (by decide)
    · skip
      exact absurd ⟨⟨sl, esl, rfl⟩, ⟨k1, ek1, rfl⟩, ⟨k2, ek2, rfl⟩⟩ hb2
  · skip
    obtain ⟨-, hb, rfl⟩ := hx
    refine kx_istore (lv2 := [(5, .int (nI (1))), (0, .ref (b9)), (1, .ref (K 0)), (2, .ref (J 0)), (3, .ref (ob)), (4, .int (nI (4 * t)))]) C dL_law_1131 (by decide) rfl ?_
    refine kx_aload_n C dL_law_1133 rfl 3 rfl ?_
    refine kx_aload_n C dL_law_1134 rfl 1 rfl ?_
    refine kx_iload C dL_law_1135 5 rfl ?_
    refine kx_iconst (v := nI 1) C dL_law_1137 (by decide +kernel) ?_
    refine kx_iadd C dL_law_1138 ?_
    refine kx_sld C hX hL (by omega) e0 dL_law_1139 ?_
    refine kx_aload_n C dL_law_1140 rfl 1 rfl ?_
    refine kx_iload C dL_law_1141 5 rfl ?_
    refine kx_iconst (v := nI 2) C dL_law_1143 (by decide +kernel) ?_
    refine kx_iadd C dL_law_1144 ?_
    refine kx_sld C hX hL (by omega) e1 dL_law_1145 ?_
    refine kx_aload_n C dL_law_1146 rfl 1 rfl ?_
    refine kx_iload C dL_law_1147 5 rfl ?_
    refine kx_iconst (v := nI 3) C dL_law_1149 (by decide +kernel) ?_
    refine kx_iadd C dL_law_1150 ?_
    refine kx_sld C hX hL (by omega) e2 dL_law_1151 ?_
    refine kx_callVz (rest := []) (wr := kOu E ob f0 :: (kwW E K b y o n ls bc tk hk P Wt Tu Sc Ta Wa He Fk Pk)) C (m_pivot E J cd n b y o Wt P Rm Ym Tm Cm Km x0 x1 x2 HM) gL_145 3 rfl (by decide +kernel) ⟨Nat.le_of_ble_eq_true rfl, Nat.le_of_ble_eq_true rfl⟩ ⟨by show 20 + t + 0 ≤ 1052; omega, by show 9036 + 6 * t + 6 * 0 ≤ 17276; omega⟩ [0, 1, 2, 3, 4, 5, 6, 7] [8, 9, 10, 11, 12, 13, 14, 15, 16, 17, 18] rfl rfl (by decide) (by decide) (by decide) 0 rfl rfl rfl (Nat.le_of_ble_eq_true rfl) dL_law_1152 (fun v w q => ?_)
    refine kx_widen (k := 20 + t) (n := 9036 + 6 * t) (by show 20 + t + 0 ≤ 20 + t; omega) (by show 9036 + 6 * t + 6 * 0 ≤ 9036 + 6 * t; omega) ?_
    rcases q with ⟨s2, j1, j2, g1, es2, g2, ej1, g3, ej2, hpv2, rfl⟩ | ⟨hb2, rfl, rfl⟩
    · skip
      exact absurd ⟨⟨s2, es2, g1⟩, ⟨j1, ej1, g2⟩, ⟨j2, ej2, g3⟩⟩ hb
    · skip
      refine kx_istore (lv2 := [(6, .int (nI (0))), (5, .int (nI (1))), (0, .ref (b9)), (1, .ref (K 0)), (2, .ref (J 0)), (3, .ref (ob)), (4, .int (nI (4 * t)))]) C dL_law_1155 (by decide) rfl ?_
      refine kx_aload_n C dL_law_1157 rfl 4 rfl ?_
      refine kx_callVi (rest := []) (wr := kOu E ob f0 :: (kwW E K b y o n ls bc tk hk P Wt Tu Sc Ta Wa He Fk Pk)) C (m_thrown E J 1 n b y o Wt P Rm Ym Tm Cm Km) gL_86 0 rfl (by decide +kernel) ⟨Nat.le_of_ble_eq_true rfl, Nat.le_of_ble_eq_true rfl⟩ ⟨by show 20 + t + 0 ≤ 1052; omega, by show 9036 + 6 * t + 6 * 0 ≤ 17276; omega⟩ [11, 12, 13, 14, 15, 16, 17, 18] [0, 1, 2, 3, 4, 5, 6, 7, 8, 9, 10] rfl rfl (by decide) (by decide) (by decide) 0 rfl rfl rfl (Nat.le_of_ble_eq_true rfl) dL_law_1158 (fun v w q => ?_)
      obtain ⟨rfl, rfl⟩ := q
      refine kx_widen (k := 20 + t) (n := 9036 + 6 * t) (by show 20 + t + 0 ≤ 20 + t; omega) (by show 9036 + 6 * t + 6 * 0 ≤ 9036 + 6 * t; omega) ?_
      refine kx_iload C dL_law_1161 1 rfl ?_
      refine kx_icmp_eq (tgt := 1168) C (by omega) (by omega) dL_law_1163 (by decide) (fun c9 => ?_) (fun c9 => ?_)
      · skip
        refine kx_iload C dL_law_1168 1 rfl ?_
        refine kx_if_ne (tgt := 1192) C (by omega) dL_law_1170 (by decide) (fun c10 => ?_) (fun c10 => ?_)
        · skip
          refine kx_goto (tgt := 1319) C dL_law_1192 (by decide) ?_
          refine kx_lv (lv2 := [(0, .ref (b9)), (1, .ref (K 0)), (2, .ref (J 0)), (3, .ref (ob)), (4, .int (nI (4 * t)))]) [2, 3, 4, 5, 6] rfl ?_
          exact hB _ _ _ _ _ _ _ _ _ _ _ _ _ _ _ _ _ _ _ _ _ _ _ _ HO HM
        · skip
          exact absurd c10 (by decide)
      · skip
        exact absurd c9 (by decide)

set_option maxHeartbeats 4000000 in
set_option maxRecDepth 100000 in
theorem lc_of (E : KE) (G : KG) (C : kc E G cL_law 7 RL) (hHP : kHP (kGs G)) (HX : E.1.stackTraces = false) (K J : Nat → Nat) (ob b9 L t : Nat) (xs : Nat → Int32) (hX : kSc G b9 L xs) (hL : L ≤ 2048) (ht4 : 4 * t + 4 ≤ L) (hB : kLB E G K J ob b9 t) (b y o n ls bc tk hk : Nat) (P Wt Tu Sc Ta Wa He Fk Pk : Nat → Nat) (cd : Nat) (Rm Ym Tm Cm Km : Nat → Nat) (f0 : Nat → Int64) (HO : kOk b y o n ls bc tk hk P Wt Tu Sc Ta Wa He Fk Pk) (HM : kMo n b y o Wt P Rm Ym Km) : kx E room_1 G 7 (19 + t) (9030 + 6 * t) ((kOu E ob f0 :: (kwW E K b y o n ls bc tk hk P Wt Tu Sc Ta Wa He Fk Pk)) ++ (kmW E J cd n b y o Wt P Rm Ym Tm Cm Km)) [(0, .ref (b9)), (1, .ref (K 0)), (2, .ref (J 0)), (3, .ref (ob)), (4, .int (nI (4 * t)))] 1263 [] := by
  obtain ⟨H1, Hb, Hy, Ho, HP, HW, HRm, HYm, HKm⟩ := id HM
  obtain ⟨x0, e0⟩ : ∃ x : Int32, xs (4 * t + 1) = x := ⟨_, rfl⟩
  refine kx_aload_n C dL_law_1263 rfl 1 rfl ?_
  refine kx_aload_n C dL_law_1264 rfl 0 rfl ?_
  refine kx_iload C dL_law_1265 4 rfl ?_
  refine kx_iconst (v := nI 1) C dL_law_1267 (by decide +kernel) ?_
  refine kx_iadd C dL_law_1268 ?_
  refine kx_sld C hX hL (by omega) e0 dL_law_1269 ?_
  refine kx_aload_n C dL_law_1270 rfl 3 rfl ?_
  refine kx_callSH (rest := []) (wr := (kmW E J cd n b y o Wt P Rm Ym Tm Cm Km)) C hHP (l_of E K b y o n ls bc tk hk P Wt Tu Sc Ta Wa He Fk Pk ob f0 x0 (c_of E K b y o n ls bc tk hk P Wt Tu Sc Ta Wa He Fk Pk x0 HX HO) (fun _ _ h => h.1)) (kgH mL_149 sm_L_of ini_KeyWalksLaw cw_of) 3 rfl (by decide +kernel) ⟨Nat.le_of_ble_eq_true rfl, Nat.le_of_ble_eq_true rfl⟩ ⟨by show 19 + t + 1 ≤ 1052; omega, by show 9030 + 6 * t + 6 * 1 ≤ 17276; omega⟩ [0, 1, 2, 3, 4, 5, 6, 7, 8, 9, 10] [11, 12, 13, 14, 15, 16, 17, 18] rfl rfl (by decide) (by decide) (by decide) rfl (Nat.le_of_ble_eq_true rfl) dL_law_1271 (fun v w q => ?_)
  refine kx_widen (k := 20 + t) (n := 9036 + 6 * t) (by show 19 + t + 1 ≤ 20 + t; omega) (by show 9030 + 6 * t + 6 * 1 ≤ 9036 + 6 * t; omega) ?_
  rcases q with ⟨rfl, r9, w9, f, hp, hf, rfl⟩ | ⟨rfl, w9, hx, rfl⟩
  · skip
    rcases hp with ⟨⟨rfl, rfl⟩ | ⟨rfl, rfl⟩ | ⟨rfl, rfl⟩ | ⟨rfl, rfl⟩, rfl⟩ | ⟨rfl, ls2, bc2, Tv, Sv, Av, Vv, Fv, rfl, HO2, rfl⟩
    · skip
      refine kx_istore (lv2 := [(5, .int (nI (0))), (0, .ref (b9)), (1, .ref (K 0)), (2, .ref (J 0)), (3, .ref (ob)), (4, .int (nI (4 * t)))]) C dL_law_1274 (by decide) rfl ?_
      refine kx_aload_n C dL_law_1276 rfl 3 rfl ?_
      refine kx_aload_n C dL_law_1277 rfl 1 rfl ?_
      refine kx_iload C dL_law_1278 5 rfl ?_
      refine kx_iconst (v := nI 1) C dL_law_1280 (by decide +kernel) ?_
      refine kx_iadd C dL_law_1281 ?_
      refine kx_sld C hX hL (by omega) e0 dL_law_1282 ?_
      refine kx_callVi (rest := []) (wr := kOu E ob f :: (kwW E K b y o n ls bc tk hk P Wt Tu Sc Ta Wa He Fk Pk)) C (m_of E J cd n b y o Wt P Rm Ym Tm Cm Km (nI 0) HM) gL_151 1 rfl (by decide +kernel) ⟨Nat.le_of_ble_eq_true rfl, Nat.le_of_ble_eq_true rfl⟩ ⟨by show 20 + t + 0 ≤ 1052; omega, by show 9036 + 6 * t + 6 * 0 ≤ 17276; omega⟩ [0, 1, 2, 3, 4, 5, 6, 7] [8, 9, 10, 11, 12, 13, 14, 15, 16, 17, 18] rfl rfl (by decide) (by decide) (by decide) 0 rfl rfl rfl (Nat.le_of_ble_eq_true rfl) dL_law_1283 (fun v w q => ?_)
      refine kx_widen (k := 20 + t) (n := 9036 + 6 * t) (by show 20 + t + 0 ≤ 20 + t; omega) (by show 9036 + 6 * t + 6 * 0 ≤ 9036 + 6 * t; omega) ?_
      rcases q with ⟨w2, g1, ew, ⟨hw4, -⟩ | ⟨hne, rfl, rfl⟩⟩ | ⟨hb2, -, -⟩
      · skip
        have h9 := nJ g1 (by omega) (by omega)
        exact absurd hw4 (by omega)
      · skip
        obtain rfl := nJ g1 (by omega) (by omega)
        refine kx_istore (lv2 := [(6, .int (nI (if 0 = 0 then n else if 0 = 1 then b else if 0 = 2 then y else o))), (5, .int (nI (0))), (0, .ref (b9)), (1, .ref (K 0)), (2, .ref (J 0)), (3, .ref (ob)), (4, .int (nI (4 * t)))]) C dL_law_1286 (by decide) rfl ?_
        refine kx_aload_n C dL_law_1288 rfl 4 rfl ?_
        refine kx_callVi (rest := []) (wr := kOu E ob f :: (kwW E K b y o n ls bc tk hk P Wt Tu Sc Ta Wa He Fk Pk)) C (m_thrown E J 0 n b y o Wt P Rm Ym Tm Cm Km) gL_86 0 rfl (by decide +kernel) ⟨Nat.le_of_ble_eq_true rfl, Nat.le_of_ble_eq_true rfl⟩ ⟨by show 20 + t + 0 ≤ 1052; omega, by show 9036 + 6 * t + 6 * 0 ≤ 17276; omega⟩ [11, 12, 13, 14, 15, 16, 17, 18] [0, 1, 2, 3, 4, 5, 6, 7, 8, 9, 10] rfl rfl (by decide) (by decide) (by decide) 0 rfl rfl rfl (Nat.le_of_ble_eq_true rfl) dL_law_1289 (fun v w q => ?_)
        obtain ⟨rfl, rfl⟩ := q
        refine kx_widen (k := 20 + t) (n := 9036 + 6 * t) (by show 20 + t + 0 ≤ 20 + t; omega) (by show 9036 + 6 * t + 6 * 0 ≤ 9036 + 6 * t; omega) ?_
        refine kx_iload C dL_law_1292 1 rfl ?_
        refine kx_icmp_eq (tgt := 1299) C (by omega) (by omega) dL_law_1294 (by decide) (fun c1 => ?_) (fun c1 => ?_)
        · skip
          refine kx_iload C dL_law_1299 1 rfl ?_
          refine kx_if_ne (tgt := 1316) C (by omega) dL_law_1301 (by decide) (fun c2 => ?_) (fun c2 => ?_)
          · skip
            exact absurd c2 (by decide)
          · skip
            refine kx_aload_n C dL_law_1304 rfl 5 rfl ?_
            refine kx_iconst (v := nI 0) C dL_law_1305 (by decide +kernel) ?_
            refine kx_laldO (x := (nI n).toInt64) C 0 rfl hf dL_law_1306 ?_
            refine kx_iload C dL_law_1307 0 rfl ?_
            refine kx_i2l (v := (nI (if 0 = 0 then n else if 0 = 1 then b else if 0 = 2 then y else o)).toInt64) C dL_law_1309 rfl ?_
            refine kx_lcmp_eqR (tgt := 1316) C dL_law_1310 dL_law_1311 (by decide) (fun c3 => ?_) (fun c3 => ?_)
            · skip
              refine kx_goto (tgt := 1319) C dL_law_1316 (by decide) ?_
              refine kx_lv (lv2 := [(0, .ref (b9)), (1, .ref (K 0)), (2, .ref (J 0)), (3, .ref (ob)), (4, .int (nI (4 * t)))]) [2, 3, 4, 5, 6] rfl ?_
              exact hB _ _ _ _ _ _ _ _ _ _ _ _ _ _ _ _ _ _ _ _ _ _ _ _ HO HM
            · skip
              exact absurd (congrArg Int32.toInt64 (by simp)) c3
        · skip
          exact absurd c1 (by decide)
      · skip
        exact absurd ⟨0, by decide, rfl⟩ hb2
    · skip
      refine kx_istore (lv2 := [(5, .int (nI (0))), (0, .ref (b9)), (1, .ref (K 0)), (2, .ref (J 0)), (3, .ref (ob)), (4, .int (nI (4 * t)))]) C dL_law_1274 (by decide) rfl ?_
      refine kx_aload_n C dL_law_1276 rfl 3 rfl ?_
      refine kx_aload_n C dL_law_1277 rfl 1 rfl ?_
      refine kx_iload C dL_law_1278 5 rfl ?_
      refine kx_iconst (v := nI 1) C dL_law_1280 (by decide +kernel) ?_
      refine kx_iadd C dL_law_1281 ?_
      refine kx_sld C hX hL (by omega) e0 dL_law_1282 ?_
      refine kx_callVi (rest := []) (wr := kOu E ob f :: (kwW E K b y o n ls bc tk hk P Wt Tu Sc Ta Wa He Fk Pk)) C (m_of E J cd n b y o Wt P Rm Ym Tm Cm Km (nI 1) HM) gL_151 1 rfl (by decide +kernel) ⟨Nat.le_of_ble_eq_true rfl, Nat.le_of_ble_eq_true rfl⟩ ⟨by show 20 + t + 0 ≤ 1052; omega, by show 9036 + 6 * t + 6 * 0 ≤ 17276; omega⟩ [0, 1, 2, 3, 4, 5, 6, 7] [8, 9, 10, 11, 12, 13, 14, 15, 16, 17, 18] rfl rfl (by decide) (by decide) (by decide) 0 rfl rfl rfl (Nat.le_of_ble_eq_true rfl) dL_law_1283 (fun v w q => ?_)
      refine kx_widen (k := 20 + t) (n := 9036 + 6 * t) (by show 20 + t + 0 ≤ 20 + t; omega) (by show 9036 + 6 * t + 6 * 0 ≤ 9036 + 6 * t; omega) ?_
      rcases q with ⟨w2, g1, ew, ⟨hw4, -⟩ | ⟨hne, rfl, rfl⟩⟩ | ⟨hb2, -, -⟩
      · skip
        have h9 := nJ g1 (by omega) (by omega)
        exact absurd hw4 (by omega)
      · skip
        obtain rfl := nJ g1 (by omega) (by omega)
        refine kx_istore (lv2 := [(6, .int (nI (if 1 = 0 then n else if 1 = 1 then b else if 1 = 2 then y else o))), (5, .int (nI (0))), (0, .ref (b9)), (1, .ref (K 0)), (2, .ref (J 0)), (3, .ref (ob)), (4, .int (nI (4 * t)))]) C dL_law_1286 (by decide) rfl ?_
        refine kx_aload_n C dL_law_1288 rfl 4 rfl ?_
        refine kx_callVi (rest := []) (wr := kOu E ob f :: (kwW E K b y o n ls bc tk hk P Wt Tu Sc Ta Wa He Fk Pk)) C (m_thrown E J 0 n b y o Wt P Rm Ym Tm Cm Km) gL_86 0 rfl (by decide +kernel) ⟨Nat.le_of_ble_eq_true rfl, Nat.le_of_ble_eq_true rfl⟩ ⟨by show 20 + t + 0 ≤ 1052; omega, by show 9036 + 6 * t + 6 * 0 ≤ 17276; omega⟩ [11, 12, 13, 14, 15, 16, 17, 18] [0, 1, 2, 3, 4, 5, 6, 7, 8, 9, 10] rfl rfl (by decide) (by decide) (by decide) 0 rfl rfl rfl (Nat.le_of_ble_eq_true rfl) dL_law_1289 (fun v w q => ?_)
        obtain ⟨rfl, rfl⟩ := q
        refine kx_widen (k := 20 + t) (n := 9036 + 6 * t) (by show 20 + t + 0 ≤ 20 + t; omega) (by show 9036 + 6 * t + 6 * 0 ≤ 9036 + 6 * t; omega) ?_
        refine kx_iload C dL_law_1292 1 rfl ?_
        refine kx_icmp_eq (tgt := 1299) C (by omega) (by omega) dL_law_1294 (by decide) (fun c4 => ?_) (fun c4 => ?_)
        · skip
          refine kx_iload C dL_law_1299 1 rfl ?_
          refine kx_if_ne (tgt := 1316) C (by omega) dL_law_1301 (by decide) (fun c5 => ?_) (fun c5 => ?_)
          · skip
            exact absurd c5 (by decide)
          · skip
            refine kx_aload_n C dL_law_1304 rfl 5 rfl ?_
            refine kx_iconst (v := nI 0) C dL_law_1305 (by decide +kernel) ?_
            refine kx_laldO (x := (nI b).toInt64) C 0 rfl hf dL_law_1306 ?_
            refine kx_iload C dL_law_1307 0 rfl ?_
            refine kx_i2l (v := (nI (if 1 = 0 then n else if 1 = 1 then b else if 1 = 2 then y else o)).toInt64) C dL_law_1309 rfl ?_
            refine kx_lcmp_eqR (tgt := 1316) C dL_law_1310 dL_law_1311 (by decide) (fun c6 => ?_) (fun c6 => ?_)
            · skip
              refine kx_goto (tgt := 1319) C dL_law_1316 (by decide) ?_
              refine kx_lv (lv2 := [(0, .ref (b9)), (1, .ref (K 0)), (2, .ref (J 0)), (3, .ref (ob)), (4, .int (nI (4 * t)))]) [2, 3, 4, 5, 6] rfl ?_
              exact hB _ _ _ _ _ _ _ _ _ _ _ _ _ _ _ _ _ _ _ _ _ _ _ _ HO HM
            · skip
              exact absurd (congrArg Int32.toInt64 (by simp)) c6
        · skip
          exact absurd c4 (by decide)
      · skip
        exact absurd ⟨1, by decide, rfl⟩ hb2
    · skip
      refine kx_istore (lv2 := [(5, .int (nI (0))), (0, .ref (b9)), (1, .ref (K 0)), (2, .ref (J 0)), (3, .ref (ob)), (4, .int (nI (4 * t)))]) C dL_law_1274 (by decide) rfl ?_
      refine kx_aload_n C dL_law_1276 rfl 3 rfl ?_
      refine kx_aload_n C dL_law_1277 rfl 1 rfl ?_
      refine kx_iload C dL_law_1278 5 rfl ?_
      refine kx_iconst (v := nI 1) C dL_law_1280 (by decide +kernel) ?_
      refine kx_iadd C dL_law_1281 ?_
      refine kx_sld C hX hL (by omega) e0 dL_law_1282 ?_
      refine kx_callVi (rest := []) (wr := kOu E ob f :: (kwW E K b y o n ls bc tk hk P Wt Tu Sc Ta Wa He Fk Pk)) C (m_of E J cd n b y o Wt P Rm Ym Tm Cm Km (nI 2) HM) gL_151 1 rfl (by decide +kernel) ⟨Nat.le_of_ble_eq_true rfl, Nat.le_of_ble_eq_true rfl⟩ ⟨by show 20 + t + 0 ≤ 1052; omega, by show 9036 + 6 * t + 6 * 0 ≤ 17276; omega⟩ [0, 1, 2, 3, 4, 5, 6, 7] [8, 9, 10, 11, 12, 13, 14, 15, 16, 17, 18] rfl rfl (by decide) (by decide) (by decide) 0 rfl rfl rfl (Nat.le_of_ble_eq_true rfl) dL_law_1283 (fun v w q => ?_)
      refine kx_widen (k := 20 + t) (n := 9036 + 6 * t) (by show 20 + t + 0 ≤ 20 + t; omega) (by show 9036 + 6 * t + 6 * 0 ≤ 9036 + 6 * t; omega) ?_
      rcases q with ⟨w2, g1, ew, ⟨hw4, -⟩ | ⟨hne, rfl, rfl⟩⟩ | ⟨hb2, -, -⟩
      · skip
        have h9 := nJ g1 (by omega) (by omega)
        exact absurd hw4 (by omega)
      · skip
        obtain rfl := nJ g1 (by omega) (by omega)
        refine kx_istore (lv2 := [(6, .int (nI (if 2 = 0 then n else if 2 = 1 then b else if 2 = 2 then y else o))), (5, .int (nI (0))), (0, .ref (b9)), (1, .ref (K 0)), (2, .ref (J 0)), (3, .ref (ob)), (4, .int (nI (4 * t)))]) C dL_law_1286 (by decide) rfl ?_
        refine kx_aload_n C dL_law_1288 rfl 4 rfl ?_
        refine kx_callVi (rest := []) (wr := kOu E ob f :: (kwW E K b y o n ls bc tk hk P Wt Tu Sc Ta Wa He Fk Pk)) C (m_thrown E J 0 n b y o Wt P Rm Ym Tm Cm Km) gL_86 0 rfl (by decide +kernel) ⟨Nat.le_of_ble_eq_true rfl, Nat.le_of_ble_eq_true rfl⟩ ⟨by show 20 + t + 0 ≤ 1052; omega, by show 9036 + 6 * t + 6 * 0 ≤ 17276; omega⟩ [11, 12, 13, 14, 15, 16, 17, 18] [0, 1, 2, 3, 4, 5, 6, 7, 8, 9, 10] rfl rfl (by decide) (by decide) (by decide) 0 rfl rfl rfl (Nat.le_of_ble_eq_true rfl) dL_law_1289 (fun v w q => ?_)
        obtain ⟨rfl, rfl⟩ := q
        refine kx_widen (k := 20 + t) (n := 9036 + 6 * t) (by show 20 + t + 0 ≤ 20 + t; omega) (by show 9036 + 6 * t + 6 * 0 ≤ 9036 + 6 * t; omega) ?_
        refine kx_iload C dL_law_1292 1 rfl ?_
        refine kx_icmp_eq (tgt := 1299) C (by omega) (by omega) dL_law_1294 (by decide) (fun c7 => ?_) (fun c7 => ?_)
        · skip
          refine kx_iload C dL_law_1299 1 rfl ?_
          refine kx_if_ne (tgt := 1316) C (by omega) dL_law_1301 (by decide) (fun c8 => ?_) (fun c8 => ?_)
          · skip
            exact absurd c8 (by decide)
          · skip
            refine kx_aload_n C dL_law_1304 rfl 5 rfl ?_
            refine kx_iconst (v := nI 0) C dL_law_1305 (by decide +kernel) ?_
            refine kx_laldO (x := (nI y).toInt64) C 0 rfl hf dL_law_1306 ?_
            refine kx_iload C dL_law_1307 0 rfl ?_
            refine kx_i2l (v := (nI (if 2 = 0 then n else if 2 = 1 then b else if 2 = 2 then y else o)).toInt64) C dL_law_1309 rfl ?_
            refine kx_lcmp_eqR (tgt := 1316) C dL_law_1310 dL_law_1311 (by decide) (fun c9 => ?_) (fun c9 => ?_)
            · skip
              refine kx_goto (tgt := 1319) C dL_law_1316 (by decide) ?_
              refine kx_lv (lv2 := [(0, .ref (b9)), (1, .ref (K 0)), (2, .ref (J 0)), (3, .ref (ob)), (4, .int (nI (4 * t)))]) [2, 3, 4, 5, 6] rfl ?_
              exact hB _ _ _ _ _ _ _ _ _ _ _ _ _ _ _ _ _ _ _ _ _ _ _ _ HO HM
            · skip
              exact absurd (congrArg Int32.toInt64 (by simp)) c9
        · skip
          exact absurd c7 (by decide)
      · skip
        exact absurd ⟨2, by decide, rfl⟩ hb2
    · skip
      refine kx_istore (lv2 := [(5, .int (nI (0))), (0, .ref (b9)), (1, .ref (K 0)), (2, .ref (J 0)), (3, .ref (ob)), (4, .int (nI (4 * t)))]) C dL_law_1274 (by decide) rfl ?_
      refine kx_aload_n C dL_law_1276 rfl 3 rfl ?_
      refine kx_aload_n C dL_law_1277 rfl 1 rfl ?_
      refine kx_iload C dL_law_1278 5 rfl ?_
      refine kx_iconst (v := nI 1) C dL_law_1280 (by decide +kernel) ?_
      refine kx_iadd C dL_law_1281 ?_
      refine kx_sld C hX hL (by omega) e0 dL_law_1282 ?_
      refine kx_callVi (rest := []) (wr := kOu E ob f :: (kwW E K b y o n ls bc tk hk P Wt Tu Sc Ta Wa He Fk Pk)) C (m_of E J cd n b y o Wt P Rm Ym Tm Cm Km (nI 3) HM) gL_151 1 rfl (by decide +kernel) ⟨Nat.le_of_ble_eq_true rfl, Nat.le_of_ble_eq_true rfl⟩ ⟨by show 20 + t + 0 ≤ 1052; omega, by show 9036 + 6 * t + 6 * 0 ≤ 17276; omega⟩ [0, 1, 2, 3, 4, 5, 6, 7] [8, 9, 10, 11, 12, 13, 14, 15, 16, 17, 18] rfl rfl (by decide) (by decide) (by decide) 0 rfl rfl rfl (Nat.le_of_ble_eq_true rfl) dL_law_1283 (fun v w q => ?_)
      refine kx_widen (k := 20 + t) (n := 9036 + 6 * t) (by show 20 + t + 0 ≤ 20 + t; omega) (by show 9036 + 6 * t + 6 * 0 ≤ 9036 + 6 * t; omega) ?_
      rcases q with ⟨w2, g1, ew, ⟨hw4, -⟩ | ⟨hne, rfl, rfl⟩⟩ | ⟨hb2, -, -⟩
      · skip
        have h9 := nJ g1 (by omega) (by omega)
        exact absurd hw4 (by omega)
      · skip
        obtain rfl := nJ g1 (by omega) (by omega)
        refine kx_istore (lv2 := [(6, .int (nI (if 3 = 0 then n else if 3 = 1 then b else if 3 = 2 then y else o))), (5, .int (nI (0))), (0, .ref (b9)), (1, .ref (K 0)), (2, .ref (J 0)), (3, .ref (ob)), (4, .int (nI (4 * t)))]) C dL_law_1286 (by decide) rfl ?_
        refine kx_aload_n C dL_law_1288 rfl 4 rfl ?_
        refine kx_callVi (rest := []) (wr := kOu E ob f :: (kwW E K b y o n ls bc tk hk P Wt Tu Sc Ta Wa He Fk Pk)) C (m_thrown E J 0 n b y o Wt P Rm Ym Tm Cm Km) gL_86 0 rfl (by decide +kernel) ⟨Nat.le_of_ble_eq_true rfl, Nat.le_of_ble_eq_true rfl⟩ ⟨by show 20 + t + 0 ≤ 1052; omega, by show 9036 + 6 * t + 6 * 0 ≤ 17276; omega⟩ [11, 12, 13, 14, 15, 16, 17, 18] [0, 1, 2, 3, 4, 5, 6, 7, 8, 9, 10] rfl rfl (by decide) (by decide) (by decide) 0 rfl rfl rfl (Nat.le_of_ble_eq_true rfl) dL_law_1289 (fun v w q => ?_)
        obtain ⟨rfl, rfl⟩ := q
        refine kx_widen (k := 20 + t) (n := 9036 + 6 * t) (by show 20 + t + 0 ≤ 20 + t; omega) (by show 9036 + 6 * t + 6 * 0 ≤ 9036 + 6 * t; omega) ?_
        refine kx_iload C dL_law_1292 1 rfl ?_
        refine kx_icmp_eq (tgt := 1299) C (by omega) (by omega) dL_law_1294 (by decide) (fun c10 => ?_) (fun c10 => ?_)
        · skip
          refine kx_iload C dL_law_1299 1 rfl ?_
          refine kx_if_ne (tgt := 1316) C (by omega) dL_law_1301 (by decide) (fun c11 => ?_) (fun c11 => ?_)
          · skip
            exact absurd c11 (by decide)
          · skip
            refine kx_aload_n C dL_law_1304 rfl 5 rfl ?_
            refine kx_iconst (v := nI 0) C dL_law_1305 (by decide +kernel) ?_
            refine kx_laldO (x := (nI o).toInt64) C 0 rfl hf dL_law_1306 ?_
            refine kx_iload C dL_law_1307 0 rfl ?_
            refine kx_i2l (v := (nI (if 3 = 0 then n else if 3 = 1 then b else if 3 = 2 then y else o)).toInt64) C dL_law_1309 rfl ?_
            refine kx_lcmp_eqR (tgt := 1316) C dL_law_1310 dL_law_1311 (by decide) (fun c12 => ?_) (fun c12 => ?_)
            · skip
              refine kx_goto (tgt := 1319) C dL_law_1316 (by decide) ?_
              refine kx_lv (lv2 := [(0, .ref (b9)), (1, .ref (K 0)), (2, .ref (J 0)), (3, .ref (ob)), (4, .int (nI (4 * t)))]) [2, 3, 4, 5, 6] rfl ?_
              exact hB _ _ _ _ _ _ _ _ _ _ _ _ _ _ _ _ _ _ _ _ _ _ _ _ HO HM
            · skip
              exact absurd (congrArg Int32.toInt64 (by simp)) c12
        · skip
          exact absurd c10 (by decide)
      · skip
        exact absurd ⟨3, by decide, rfl⟩ hb2
    · skip
      refine kx_istore (lv2 := [(5, .int (nI (0))), (0, .ref (b9)), (1, .ref (K 0)), (2, .ref (J 0)), (3, .ref (ob)), (4, .int (nI (4 * t)))]) C dL_law_1274 (by decide) rfl ?_
      refine kx_aload_n C dL_law_1276 rfl 3 rfl ?_
      refine kx_aload_n C dL_law_1277 rfl 1 rfl ?_
      refine kx_iload C dL_law_1278 5 rfl ?_
      refine kx_iconst (v := nI 1) C dL_law_1280 (by decide +kernel) ?_
      refine kx_iadd C dL_law_1281 ?_
      refine kx_sld C hX hL (by omega) e0 dL_law_1282 ?_
      refine kx_callVi (rest := []) (wr := kOu E ob f :: (kwW E K b y o n ls2 bc2 1 hk P Wt Tv Sv Av Vv He Fv Pk)) C (m_of E J cd n b y o Wt P Rm Ym Tm Cm Km (nI 4) HM) gL_151 1 rfl (by decide +kernel) ⟨Nat.le_of_ble_eq_true rfl, Nat.le_of_ble_eq_true rfl⟩ ⟨by show 20 + t + 0 ≤ 1052; omega, by show 9036 + 6 * t + 6 * 0 ≤ 17276; omega⟩ [0, 1, 2, 3, 4, 5, 6, 7] [8, 9, 10, 11, 12, 13, 14, 15, 16, 17, 18] rfl rfl (by decide) (by decide) (by decide) 0 rfl rfl rfl (Nat.le_of_ble_eq_true rfl) dL_law_1283 (fun v w q => ?_)
      refine kx_widen (k := 20 + t) (n := 9036 + 6 * t) (by show 20 + t + 0 ≤ 20 + t; omega) (by show 9036 + 6 * t + 6 * 0 ≤ 9036 + 6 * t; omega) ?_
      rcases q with ⟨w2, g1, ew, ⟨hw4, R2, Y2, T2, C2, K2, hK2, rfl, HM2, rfl⟩ | ⟨hne, -, -⟩⟩ | ⟨hb2, -, -⟩
      · skip
        refine kx_istore (lv2 := [(6, .int (nI (chN K2 n))), (5, .int (nI (0))), (0, .ref (b9)), (1, .ref (K 0)), (2, .ref (J 0)), (3, .ref (ob)), (4, .int (nI (4 * t)))]) C dL_law_1286 (by decide) rfl ?_
        refine kx_aload_n C dL_law_1288 rfl 4 rfl ?_
        refine kx_callVi (rest := []) (wr := kOu E ob f :: (kwW E K b y o n ls2 bc2 1 hk P Wt Tv Sv Av Vv He Fv Pk)) C (m_thrown E J 0 n b y o Wt P R2 Y2 T2 C2 K2) gL_86 0 rfl (by decide +kernel) ⟨Nat.le_of_ble_eq_true rfl, Nat.le_of_ble_eq_true rfl⟩ ⟨by show 20 + t + 0 ≤ 1052; omega, by show 9036 + 6 * t + 6 * 0 ≤ 17276; omega⟩ [11, 12, 13, 14, 15, 16, 17, 18] [0, 1, 2, 3, 4, 5, 6, 7, 8, 9, 10] rfl rfl (by decide) (by decide) (by decide) 0 rfl rfl rfl (Nat.le_of_ble_eq_true rfl) dL_law_1289 (fun v w q => ?_)
        obtain ⟨rfl, rfl⟩ := q
        refine kx_widen (k := 20 + t) (n := 9036 + 6 * t) (by show 20 + t + 0 ≤ 20 + t; omega) (by show 9036 + 6 * t + 6 * 0 ≤ 9036 + 6 * t; omega) ?_
        refine kx_iload C dL_law_1292 1 rfl ?_
        refine kx_icmp_eq (tgt := 1299) C (by omega) (by omega) dL_law_1294 (by decide) (fun c13 => ?_) (fun c13 => ?_)
        · skip
          refine kx_iload C dL_law_1299 1 rfl ?_
          refine kx_if_ne (tgt := 1316) C (by omega) dL_law_1301 (by decide) (fun c14 => ?_) (fun c14 => ?_)
          · skip
            exact absurd c14 (by decide)
          · skip
            refine kx_aload_n C dL_law_1304 rfl 5 rfl ?_
            refine kx_iconst (v := nI 0) C dL_law_1305 (by decide +kernel) ?_
            refine kx_laldO (x := (nI (chN Fv n)).toInt64) C 0 rfl hf dL_law_1306 ?_
            refine kx_iload C dL_law_1307 0 rfl ?_
            refine kx_i2l (v := (nI (chN K2 n)).toInt64) C dL_law_1309 rfl ?_
            refine kx_lcmp_eqR (tgt := 1316) C dL_law_1310 dL_law_1311 (by decide) (fun c15 => ?_) (fun c15 => ?_)
            · skip
              refine kx_goto (tgt := 1319) C dL_law_1316 (by decide) ?_
              refine kx_lv (lv2 := [(0, .ref (b9)), (1, .ref (K 0)), (2, .ref (J 0)), (3, .ref (ob)), (4, .int (nI (4 * t)))]) [2, 3, 4, 5, 6] rfl ?_
              exact hB _ _ _ _ _ _ _ _ _ _ _ _ _ _ _ _ _ _ _ _ _ _ _ _ HO2 HM2
            · skip
              exact absurd (congrArg Int32.toInt64 (by rw [chN_congr (F2 := K2) (fun j hj => (ok_fk HO2 j hj).trans (hK2 j hj).symm)])) c15
        · skip
          exact absurd c13 (by decide)
      · skip
        exact absurd (nJ g1 (by omega) (by omega)).symm hne
      · skip
        exact absurd ⟨4, by decide, rfl⟩ hb2
  · skip
    obtain ⟨-, hb, rfl⟩ := hx
    refine kx_istore (lv2 := [(5, .int (nI (1))), (0, .ref (b9)), (1, .ref (K 0)), (2, .ref (J 0)), (3, .ref (ob)), (4, .int (nI (4 * t)))]) C dL_law_1274 (by decide) rfl ?_
    refine kx_aload_n C dL_law_1276 rfl 3 rfl ?_
    refine kx_aload_n C dL_law_1277 rfl 1 rfl ?_
    refine kx_iload C dL_law_1278 5 rfl ?_
    refine kx_iconst (v := nI 1) C dL_law_1280 (by decide +kernel) ?_
    refine kx_iadd C dL_law_1281 ?_
    refine kx_sld C hX hL (by omega) e0 dL_law_1282 ?_
    refine kx_callVi (rest := []) (wr := kOu E ob f0 :: (kwW E K b y o n ls bc tk hk P Wt Tu Sc Ta Wa He Fk Pk)) C (m_of E J cd n b y o Wt P Rm Ym Tm Cm Km x0 HM) gL_151 1 rfl (by decide +kernel) ⟨Nat.le_of_ble_eq_true rfl, Nat.le_of_ble_eq_true rfl⟩ ⟨by show 20 + t + 0 ≤ 1052; omega, by show 9036 + 6 * t + 6 * 0 ≤ 17276; omega⟩ [0, 1, 2, 3, 4, 5, 6, 7] [8, 9, 10, 11, 12, 13, 14, 15, 16, 17, 18] rfl rfl (by decide) (by decide) (by decide) 0 rfl rfl rfl (Nat.le_of_ble_eq_true rfl) dL_law_1283 (fun v w q => ?_)
    refine kx_widen (k := 20 + t) (n := 9036 + 6 * t) (by show 20 + t + 0 ≤ 20 + t; omega) (by show 9036 + 6 * t + 6 * 0 ≤ 9036 + 6 * t; omega) ?_
    rcases q with ⟨w2, g1, ew, -⟩ | ⟨-, rfl, rfl⟩
    · skip
      exact absurd ⟨w2, ew, g1⟩ hb
    · skip
      refine kx_istore (lv2 := [(6, .int (nI 0)), (5, .int (nI (1))), (0, .ref (b9)), (1, .ref (K 0)), (2, .ref (J 0)), (3, .ref (ob)), (4, .int (nI (4 * t)))]) C dL_law_1286 (by decide) rfl ?_
      refine kx_aload_n C dL_law_1288 rfl 4 rfl ?_
      refine kx_callVi (rest := []) (wr := kOu E ob f0 :: (kwW E K b y o n ls bc tk hk P Wt Tu Sc Ta Wa He Fk Pk)) C (m_thrown E J 1 n b y o Wt P Rm Ym Tm Cm Km) gL_86 0 rfl (by decide +kernel) ⟨Nat.le_of_ble_eq_true rfl, Nat.le_of_ble_eq_true rfl⟩ ⟨by show 20 + t + 0 ≤ 1052; omega, by show 9036 + 6 * t + 6 * 0 ≤ 17276; omega⟩ [11, 12, 13, 14, 15, 16, 17, 18] [0, 1, 2, 3, 4, 5, 6, 7, 8, 9, 10] rfl rfl (by decide) (by decide) (by decide) 0 rfl rfl rfl (Nat.le_of_ble_eq_true rfl) dL_law_1289 (fun v w q => ?_)
      obtain ⟨rfl, rfl⟩ := q
      refine kx_widen (k := 20 + t) (n := 9036 + 6 * t) (by show 20 + t + 0 ≤ 20 + t; omega) (by show 9036 + 6 * t + 6 * 0 ≤ 9036 + 6 * t; omega) ?_
      refine kx_iload C dL_law_1292 1 rfl ?_
      refine kx_icmp_eq (tgt := 1299) C (by omega) (by omega) dL_law_1294 (by decide) (fun c16 => ?_) (fun c16 => ?_)
      · skip
        refine kx_iload C dL_law_1299 1 rfl ?_
        refine kx_if_ne (tgt := 1316) C (by omega) dL_law_1301 (by decide) (fun c17 => ?_) (fun c17 => ?_)
        · skip
          refine kx_goto (tgt := 1319) C dL_law_1316 (by decide) ?_
          refine kx_lv (lv2 := [(0, .ref (b9)), (1, .ref (K 0)), (2, .ref (J 0)), (3, .ref (ob)), (4, .int (nI (4 * t)))]) [2, 3, 4, 5, 6] rfl ?_
          exact hB _ _ _ _ _ _ _ _ _ _ _ _ _ _ _ _ _ _ _ _ _ _ _ _ HO HM
        · skip
          exact absurd c17 (by decide)
      · skip
        exact absurd c16 (by decide)

set_option maxHeartbeats 4000000 in
set_option maxRecDepth 100000 in
theorem lc_clear (E : KE) (G : KG) (C : kc E G cL_law 7 RL) (hHP : kHP (kGs G)) (HX : E.1.stackTraces = false) (K J : Nat → Nat) (ob b9 L t : Nat) (xs : Nat → Int32) (hX : kSc G b9 L xs) (hL : L ≤ 2048) (ht4 : 4 * t + 4 ≤ L) (hB : kLB E G K J ob b9 t) (b y o n ls bc tk hk : Nat) (P Wt Tu Sc Ta Wa He Fk Pk : Nat → Nat) (cd : Nat) (Rm Ym Tm Cm Km : Nat → Nat) (f0 : Nat → Int64) (HO : kOk b y o n ls bc tk hk P Wt Tu Sc Ta Wa He Fk Pk) (HM : kMo n b y o Wt P Rm Ym Km) : kx E room_1 G 7 (19 + t) (9030 + 6 * t) ((kOu E ob f0 :: (kwW E K b y o n ls bc tk hk P Wt Tu Sc Ta Wa He Fk Pk)) ++ (kmW E J cd n b y o Wt P Rm Ym Tm Cm Km)) [(0, .ref (b9)), (1, .ref (K 0)), (2, .ref (J 0)), (3, .ref (ob)), (4, .int (nI (4 * t)))] 132 [] := by
  obtain ⟨H1, Hb, Hy, Ho, HP, HW, HRm, HYm, HKm⟩ := id HM
  refine kx_aload_n C dL_law_132 rfl 1 rfl ?_
  refine kx_callVi (rest := []) (wr := kOu E ob f0 :: (kmW E J cd n b y o Wt P Rm Ym Tm Cm Km)) C (c_clear E K b y o n ls bc tk hk P Wt Tu Sc Ta Wa He Fk Pk HO) gL_76 0 rfl (by decide +kernel) ⟨Nat.le_of_ble_eq_true rfl, Nat.le_of_ble_eq_true rfl⟩ ⟨by show 19 + t + 0 ≤ 1052; omega, by show 9030 + 6 * t + 6 * 0 ≤ 17276; omega⟩ [1, 2, 3, 4, 5, 6, 7, 8, 9, 10] [0, 11, 12, 13, 14, 15, 16, 17, 18] rfl rfl (by decide) (by decide) (by decide) 0 rfl rfl rfl (Nat.le_of_ble_eq_true rfl) dL_law_133 (fun v w q => ?_)
  obtain ⟨rfl, HO2, rfl⟩ := q
  refine kx_widen (k := 20 + t) (n := 9036 + 6 * t) (by show 19 + t + 0 ≤ 20 + t; omega) (by show 9030 + 6 * t + 6 * 0 ≤ 9036 + 6 * t; omega) ?_
  refine kx_aload_n C dL_law_136 rfl 2 rfl ?_
  refine kx_callVi (rest := [.int (nI n)]) (wr := kOu E ob f0 :: (kwW E K 10 5 2 0 ls bc 0 0 (va_cpy kFP P 0 0 24) Wt Tu Sc Ta Wa He Fk Pk)) C (m_clear E J cd n b y o Wt P Rm Ym Tm Cm Km HP) gL_79 0 rfl (by decide +kernel) ⟨Nat.le_of_ble_eq_true rfl, Nat.le_of_ble_eq_true rfl⟩ ⟨by show 20 + t + 0 ≤ 1052; omega, by show 9036 + 6 * t + 6 * 0 ≤ 17276; omega⟩ [1, 2, 3, 4, 5, 6, 7, 8] [0, 9, 10, 11, 12, 13, 14, 15, 16, 17, 18] rfl rfl (by decide) (by decide) (by decide) 0 rfl rfl rfl (Nat.le_of_ble_eq_true rfl) dL_law_137 (fun v w q => ?_)
  obtain ⟨rfl, Pz, hz1, hz2, rfl⟩ := q
  refine kx_widen (k := 20 + t) (n := 9036 + 6 * t) (by show 20 + t + 0 ≤ 20 + t; omega) (by show 9036 + 6 * t + 6 * 0 ≤ 9036 + 6 * t; omega) ?_
  refine kx_ext (P2 := va_cpy kFP P 0 0 24) (ws2 := ((kOu E ob f0 :: (kwW E K 10 5 2 0 ls bc 0 0 (va_cpy kFP P 0 0 24) Wt Tu Sc Ta Wa He Fk Pk)) ++ (kmW E J 0 0 10 5 2 Wt (va_cpy kFP P 0 0 24) Rm Ym Tm Cm Km))) 13 rfl (cpy_agree hz1) rfl ?_
  refine kx_icmp_eqR (tgt := 1319) C dL_law_140 (by decide) (fun c1 => ?_) (fun c1 => ?_)
  · skip
    refine kx_lv (lv2 := [(0, .ref (b9)), (1, .ref (K 0)), (2, .ref (J 0)), (3, .ref (ob)), (4, .int (nI (4 * t)))]) [0, 1, 2, 3, 4] rfl ?_
    exact hB _ _ _ _ _ _ _ _ _ _ _ _ _ _ _ _ _ _ _ _ _ _ _ _ HO2 ⟨Nat.zero_le _, by decide, by decide, by decide, cpy_le HP, HW, HRm, HYm, HKm⟩
  · skip
    exact absurd rfl c1

set_option maxHeartbeats 4000000 in
set_option maxRecDepth 100000 in
theorem lc_least (E : KE) (G : KG) (C : kc E G cL_law 7 RL) (hHP : kHP (kGs G)) (HX : E.1.stackTraces = false) (K J : Nat → Nat) (ob b9 L t : Nat) (xs : Nat → Int32) (hX : kSc G b9 L xs) (hL : L ≤ 2048) (ht4 : 4 * t + 4 ≤ L) (hB : kLB E G K J ob b9 t) (b y o n ls bc tk hk : Nat) (P Wt Tu Sc Ta Wa He Fk Pk : Nat → Nat) (cd : Nat) (Rm Ym Tm Cm Km : Nat → Nat) (f0 : Nat → Int64) (HO : kOk b y o n ls bc tk hk P Wt Tu Sc Ta Wa He Fk Pk) (HM : kMo n b y o Wt P Rm Ym Km) : kx E room_1 G 7 (19 + t) (9030 + 6 * t) ((kOu E ob f0 :: (kwW E K b y o n ls bc tk hk P Wt Tu Sc Ta Wa He Fk Pk)) ++ (kmW E J cd n b y o Wt P Rm Ym Tm Cm Km)) [(0, .ref (b9)), (1, .ref (K 0)), (2, .ref (J 0)), (3, .ref (ob)), (4, .int (nI (4 * t)))] 677 [] := by
  obtain ⟨H1, Hb, Hy, Ho, HP, HW, HRm, HYm, HKm⟩ := id HM
  refine kx_aload_n C dL_law_677 rfl 1 rfl ?_
  refine kx_callVi (rest := []) (wr := kOu E ob f0 :: (kmW E J cd n b y o Wt P Rm Ym Tm Cm Km)) C (c_least E K b y o n ls bc tk hk P Wt Tu Sc Ta Wa He Fk Pk HO) gL_112 0 rfl (by decide +kernel) ⟨Nat.le_of_ble_eq_true rfl, Nat.le_of_ble_eq_true rfl⟩ ⟨by show 19 + t + 0 ≤ 1052; omega, by show 9030 + 6 * t + 6 * 0 ≤ 17276; omega⟩ [1, 2, 3, 4, 5, 6, 7, 8, 9, 10] [0, 11, 12, 13, 14, 15, 16, 17, 18] rfl rfl (by decide) (by decide) (by decide) 0 rfl rfl rfl (Nat.le_of_ble_eq_true rfl) dL_law_678 (fun v w q => ?_)
  obtain ⟨ls2, bc2, Tv, Sv, Av, Vv, Fv, rfl, HO2, rfl⟩ := q
  refine kx_widen (k := 20 + t) (n := 9036 + 6 * t) (by show 19 + t + 0 ≤ 20 + t; omega) (by show 9030 + 6 * t + 6 * 0 ≤ 9036 + 6 * t; omega) ?_
  refine kx_aload_n C dL_law_681 rfl 2 rfl ?_
  refine kx_callVi (rest := [.int (nI ls2)]) (wr := kOu E ob f0 :: (kwW E K b y o n ls2 bc2 1 hk P Wt Tv Sv Av Vv He Fv Pk)) C (m_least E J cd n b y o Wt P Rm Ym Tm Cm Km HM) gL_115 0 rfl (by decide +kernel) ⟨Nat.le_of_ble_eq_true rfl, Nat.le_of_ble_eq_true rfl⟩ ⟨by show 20 + t + 0 ≤ 1052; omega, by show 9036 + 6 * t + 6 * 0 ≤ 17276; omega⟩ [1, 2, 3, 4, 5, 6, 7, 8] [0, 9, 10, 11, 12, 13, 14, 15, 16, 17, 18] rfl rfl (by decide) (by decide) (by decide) 0 rfl rfl rfl (Nat.le_of_ble_eq_true rfl) dL_law_682 (fun v w q => ?_)
  obtain ⟨R2, Y2, T2, C2, K2, rfl, HM2, rfl⟩ := q
  refine kx_widen (k := 20 + t) (n := 9036 + 6 * t) (by show 20 + t + 0 ≤ 20 + t; omega) (by show 9036 + 6 * t + 6 * 0 ≤ 9036 + 6 * t; omega) ?_
  refine kx_icmp_eqR (tgt := 1319) C dL_law_685 (by decide) (fun c1 => ?_) (fun c1 => ?_)
  · skip
    refine kx_lv (lv2 := [(0, .ref (b9)), (1, .ref (K 0)), (2, .ref (J 0)), (3, .ref (ob)), (4, .int (nI (4 * t)))]) [0, 1, 2, 3, 4] rfl ?_
    exact hB _ _ _ _ _ _ _ _ _ _ _ _ _ _ _ _ _ _ _ _ _ _ _ _ HO2 HM2
  · skip
    exact absurd (by rw [ok_ls HO2]) c1

set_option maxHeartbeats 4000000 in
set_option maxRecDepth 100000 in
theorem lc_count (E : KE) (G : KG) (C : kc E G cL_law 7 RL) (hHP : kHP (kGs G)) (HX : E.1.stackTraces = false) (K J : Nat → Nat) (ob b9 L t : Nat) (xs : Nat → Int32) (hX : kSc G b9 L xs) (hL : L ≤ 2048) (ht4 : 4 * t + 4 ≤ L) (hB : kLB E G K J ob b9 t) (b y o n ls bc tk hk : Nat) (P Wt Tu Sc Ta Wa He Fk Pk : Nat → Nat) (cd : Nat) (Rm Ym Tm Cm Km : Nat → Nat) (f0 : Nat → Int64) (HO : kOk b y o n ls bc tk hk P Wt Tu Sc Ta Wa He Fk Pk) (HM : kMo n b y o Wt P Rm Ym Km) : kx E room_1 G 7 (19 + t) (9030 + 6 * t) ((kOu E ob f0 :: (kwW E K b y o n ls bc tk hk P Wt Tu Sc Ta Wa He Fk Pk)) ++ (kmW E J cd n b y o Wt P Rm Ym Tm Cm Km)) [(0, .ref (b9)), (1, .ref (K 0)), (2, .ref (J 0)), (3, .ref (ob)), (4, .int (nI (4 * t)))] 746 [] := by
  obtain ⟨H1, Hb, Hy, Ho, HP, HW, HRm, HYm, HKm⟩ := id HM
  refine kx_aload_n C dL_law_746 rfl 1 rfl ?_
  refine kx_callVl (rest := []) (wr := kOu E ob f0 :: (kmW E J cd n b y o Wt P Rm Ym Tm Cm Km)) C (c_count E K b y o n ls bc tk hk P Wt Tu Sc Ta Wa He Fk Pk HO) gL_120 0 rfl (by decide +kernel) ⟨Nat.le_of_ble_eq_true rfl, Nat.le_of_ble_eq_true rfl⟩ ⟨by show 19 + t + 0 ≤ 1052; omega, by show 9030 + 6 * t + 6 * 0 ≤ 17276; omega⟩ [1, 2, 3, 4, 5, 6, 7, 8, 9, 10] [0, 11, 12, 13, 14, 15, 16, 17, 18] rfl rfl (by decide) (by decide) (by decide) 0 rfl rfl rfl (Nat.le_of_ble_eq_true rfl) dL_law_747 (fun v w q => ?_)
  obtain ⟨ls2, bc2, Tv, Sv, Av, Vv, Fv, rfl, HO2, rfl⟩ := q
  refine kx_widen (k := 20 + t) (n := 9036 + 6 * t) (by show 19 + t + 0 ≤ 20 + t; omega) (by show 9030 + 6 * t + 6 * 0 ≤ 9036 + 6 * t; omega) ?_
  refine kx_aload_n C dL_law_750 rfl 2 rfl ?_
  refine kx_callVl (rest := [.long (lN bc2)]) (wr := kOu E ob f0 :: (kwW E K b y o n ls2 bc2 1 hk P Wt Tv Sv Av Vv He Fv Pk)) C (m_count E J cd n b y o Wt P Rm Ym Tm Cm Km HM) gL_124 0 rfl (by decide +kernel) ⟨Nat.le_of_ble_eq_true rfl, Nat.le_of_ble_eq_true rfl⟩ ⟨by show 20 + t + 0 ≤ 1052; omega, by show 9036 + 6 * t + 6 * 0 ≤ 17276; omega⟩ [1, 2, 3, 4, 5, 6, 7, 8] [0, 9, 10, 11, 12, 13, 14, 15, 16, 17, 18] rfl rfl (by decide) (by decide) (by decide) 0 rfl rfl rfl (Nat.le_of_ble_eq_true rfl) dL_law_751 (fun v w q => ?_)
  obtain ⟨R2, Y2, T2, C2, K2, rfl, HM2, rfl⟩ := q
  refine kx_widen (k := 20 + t) (n := 9036 + 6 * t) (by show 20 + t + 0 ≤ 20 + t; omega) (by show 9036 + 6 * t + 6 * 0 ≤ 9036 + 6 * t; omega) ?_
  refine kx_lcmp_eqR (tgt := 1319) C dL_law_754 dL_law_755 (by decide) (fun c1 => ?_) (fun c1 => ?_)
  · skip
    refine kx_lv (lv2 := [(0, .ref (b9)), (1, .ref (K 0)), (2, .ref (J 0)), (3, .ref (ob)), (4, .int (nI (4 * t)))]) [0, 1, 2, 3, 4] rfl ?_
    exact hB _ _ _ _ _ _ _ _ _ _ _ _ _ _ _ _ _ _ _ _ _ _ _ _ HO2 HM2
  · skip
    exact absurd (by rw [ok_bc HO2]) c1

set_option maxHeartbeats 4000000 in
set_option maxRecDepth 100000 in
theorem law_exit (E : KE) (G : KG) (C : kc E G cL_law 7 RL) (hHP : kHP (kGs G)) (HX : E.1.stackTraces = false) (K J : Nat → Nat) (ob b9 L : Nat) (xs : Nat → Int32) (hX : kSc G b9 L xs) (hL : L ≤ 2048) (hE : ∀ {cells slots : Nat} {ws : va_W} {lv : List (Nat × Value)} {pc : Nat}, cells ≤ 1052 → slots ≤ 17276 → decode cL_law pc = .ok (.ireturn, 1) → kx E room_1 G 7 cells slots ws lv pc [.int (nI 1)]) (t : Nat) (ht : 4 * t ≤ 2048) (hx4 : L < 4 * t + 4) (b y o n ls bc tk hk : Nat) (P Wt Tu Sc Ta Wa He Fk Pk : Nat → Nat) (cd : Nat) (Rm Ym Tm Cm Km : Nat → Nat) (f0 : Nat → Int64) : kx E room_1 G 7 (19 + t) (9030 + 6 * t) ((kOu E ob f0 :: (kwW E K b y o n ls bc tk hk P Wt Tu Sc Ta Wa He Fk Pk)) ++ (kmW E J cd n b y o Wt P Rm Ym Tm Cm Km)) [(0, .ref (b9)), (1, .ref (K 0)), (2, .ref (J 0)), (3, .ref (ob)), (4, .int (nI (4 * t)))] 23 [] := by
  refine kx_iload C dL_law_23 4 rfl ?_
  refine kx_aload_n C dL_law_25 rfl 0 rfl ?_
  refine kx_slen C hX dL_law_26 ?_
  refine kx_iconst (v := nI 4) C dL_law_27 (by decide +kernel) ?_
  refine kx_isubR C dL_law_28 ?_
  refine kx_icmp_gtR (tgt := 1325) C dL_law_29 (by decide) (fun c1 => ?_) (fun c1 => ?_)
  · skip
    refine kx_iconst (v := nI 1) C dL_law_1325 (by decide +kernel) ?_
    exact hE (by omega) (by omega) dL_law_1326
  · exact absurd ((k_gt4 hL (by omega)).mpr hx4) c1
