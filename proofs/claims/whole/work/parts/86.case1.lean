def kLB (E : KE) (G : KG) (K J : Nat → Nat) (ob b9 t : Nat) : Prop := ∀ (b y o n ls bc tk hk : Nat) (P Wt Tu Sc Ta Wa He Fk Pk : Nat → Nat) (cd : Nat) (Rm Ym Tm Cm Km : Nat → Nat) (f0 : Nat → Int64), kOk b y o n ls bc tk hk P Wt Tu Sc Ta Wa He Fk Pk → kMo n b y o Wt P Rm Ym Km → kx E room_1 G 7 (20 + t) (9036 + 6 * t) ((kOu E ob f0 :: (kwW E K b y o n ls bc tk hk P Wt Tu Sc Ta Wa He Fk Pk)) ++ (kmW E J cd n b y o Wt P Rm Ym Tm Cm Km)) [(0, .ref (b9)), (1, .ref (K 0)), (2, .ref (J 0)), (3, .ref (ob)), (4, .int (nI (4 * t)))] 1319 []
theorem kx_toplR {E : KE} {R : Room} {G : KG} {nL cells slots : Nat} {ws : va_W} {lv : List (Nat × Value)} {pc : Nat} {st : List Value} {a b : Int64} (h : a = b) (kk : kx E R G nL cells slots ws lv pc (.long b :: st)) : kx E R G nL cells slots ws lv pc (.long a :: st) := h ▸ kk
set_option maxHeartbeats 4000000 in
set_option maxRecDepth 100000 in
theorem lc_profile (E : KE) (G : KG) (C : kc E G cL_law 7 RL) (hHP : kHP (kGs G)) (HX : E.1.stackTraces = false) (K J : Nat → Nat) (ob b9 L t : Nat) (xs : Nat → Int32) (hX : kSc G b9 L xs) (hL : L ≤ 2048) (ht4 : 4 * t + 4 ≤ L) (hB : kLB E G K J ob b9 t) (b y o n ls bc tk hk : Nat) (P Wt Tu Sc Ta Wa He Fk Pk : Nat → Nat) (cd : Nat) (Rm Ym Tm Cm Km : Nat → Nat) (f0 : Nat → Int64) (HO : kOk b y o n ls bc tk hk P Wt Tu Sc Ta Wa He Fk Pk) (HM : kMo n b y o Wt P Rm Ym Km) : kx E room_1 G 7 (19 + t) (9030 + 6 * t) ((kOu E ob f0 :: (kwW E K b y o n ls bc tk hk P Wt Tu Sc Ta Wa He Fk Pk)) ++ (kmW E J cd n b y o Wt P Rm Ym Tm Cm Km)) [(0, .ref (b9)), (1, .ref (K 0)), (2, .ref (J 0)), (3, .ref (ob)), (4, .int (nI (4 * t)))] 145 [] := by
  obtain ⟨H1, Hb, Hy, Ho, HP, HW, HRm, HYm, HKm⟩ := id HM
  obtain ⟨x0, e0⟩ : ∃ x : Int32, xs (4 * t + 1) = x := ⟨_, rfl⟩
  obtain ⟨x1, e1⟩ : ∃ x : Int32, xs (4 * t + 2) = x := ⟨_, rfl⟩
  obtain ⟨x2, e2⟩ : ∃ x : Int32, xs (4 * t + 3) = x := ⟨_, rfl⟩
  refine kx_aload_n C dL_law_145 rfl 1 rfl ?_
  refine kx_aload_n C dL_law_146 rfl 0 rfl ?_
  refine kx_iload C dL_law_147 4 rfl ?_
  refine kx_iconst (v := nI 1) C dL_law_149 (by decide +kernel) ?_
  refine kx_iadd C dL_law_150 ?_
  refine kx_sld C hX hL (by omega) e0 dL_law_151 ?_
  refine kx_aload_n C dL_law_152 rfl 0 rfl ?_
  refine kx_iload C dL_law_153 4 rfl ?_
  refine kx_iconst (v := nI 2) C dL_law_155 (by decide +kernel) ?_
  refine kx_iadd C dL_law_156 ?_
  refine kx_sld C hX hL (by omega) e1 dL_law_157 ?_
  refine kx_aload_n C dL_law_158 rfl 0 rfl ?_
  refine kx_iload C dL_law_159 4 rfl ?_
  refine kx_iconst (v := nI 3) C dL_law_161 (by decide +kernel) ?_
  refine kx_iadd C dL_law_162 ?_
  refine kx_sld C hX hL (by omega) e2 dL_law_163 ?_
  refine kx_aload_n C dL_law_164 rfl 3 rfl ?_
  refine kx_callSH (rest := []) (wr := (kmW E J cd n b y o Wt P Rm Ym Tm Cm Km)) C hHP (l_profile E K b y o n ls bc tk hk P Wt Tu Sc Ta Wa He Fk Pk ob f0 x0 x1 x2 (c_profile E K b y o n ls bc tk hk P Wt Tu Sc Ta Wa He Fk Pk x0 x1 x2 HX HO) (fun _ _ h => h.1)) (kgH mL_80 sm_L_profile ini_KeyWalksLaw cw_profile) 5 rfl (by decide +kernel) ⟨Nat.le_of_ble_eq_true rfl, Nat.le_of_ble_eq_true rfl⟩ ⟨by show 19 + t + 1 ≤ 1052; omega, by show 9030 + 6 * t + 6 * 1 ≤ 17276; omega⟩ [0, 1, 2, 3, 4, 5, 6, 7, 8, 9, 10] [11, 12, 13, 14, 15, 16, 17, 18] rfl rfl (by decide) (by decide) (by decide) rfl (Nat.le_of_ble_eq_true rfl) dL_law_165 (fun v w q => ?_)
  refine kx_widen (k := 20 + t) (n := 9036 + 6 * t) (by show 19 + t + 1 ≤ 20 + t; omega) (by show 9030 + 6 * t + 6 * 1 ≤ 9036 + 6 * t; omega) ?_
  rcases q with ⟨rfl, r9, w9, f, hp, hf, rfl⟩ | ⟨rfl, w9, hx, rfl⟩
  · skip
    obtain ⟨mo, stp, nu, rfl, emo, rfl, estp, rfl, enu, rfl, HO2, rfl⟩ := hp
    refine kx_istore (lv2 := [(5, .int (nI (0))), (0, .ref (b9)), (1, .ref (K 0)), (2, .ref (J 0)), (3, .ref (ob)), (4, .int (nI (4 * t)))]) C dL_law_168 (by decide) rfl ?_
    refine kx_aload_n C dL_law_170 rfl 3 rfl ?_
    refine kx_aload_n C dL_law_171 rfl 1 rfl ?_
    refine kx_iload C dL_law_172 5 rfl ?_
    refine kx_iconst (v := nI 1) C dL_law_174 (by decide +kernel) ?_
    refine kx_iadd C dL_law_175 ?_
    refine kx_sld C hX hL (by omega) e0 dL_law_176 ?_
    refine kx_aload_n C dL_law_177 rfl 1 rfl ?_
    refine kx_iload C dL_law_178 5 rfl ?_
    refine kx_iconst (v := nI 2) C dL_law_180 (by decide +kernel) ?_
    refine kx_iadd C dL_law_181 ?_
    refine kx_sld C hX hL (by omega) e1 dL_law_182 ?_
    refine kx_aload_n C dL_law_183 rfl 1 rfl ?_
    refine kx_iload C dL_law_184 5 rfl ?_
    refine kx_iconst (v := nI 3) C dL_law_186 (by decide +kernel) ?_
    refine kx_iadd C dL_law_187 ?_
    refine kx_sld C hX hL (by omega) e2 dL_law_188 ?_
    refine kx_callVi (rest := []) (wr := kOu E ob f :: (kwW E K b y o n ls bc 0 0 (va_up P (mo * 12 + stp) nu) Wt Tu Sc Ta Wa He Fk Pk)) C (m_profile E J cd n b y o Wt P Rm Ym Tm Cm Km (nI mo) (nI stp) (nI nu) H1) gL_85 3 rfl (by decide +kernel) ⟨Nat.le_of_ble_eq_true rfl, Nat.le_of_ble_eq_true rfl⟩ ⟨by show 20 + t + 0 ≤ 1052; omega, by show 9036 + 6 * t + 6 * 0 ≤ 17276; omega⟩ [0, 1, 2, 3, 4, 5, 6, 7] [8, 9, 10, 11, 12, 13, 14, 15, 16, 17, 18] rfl rfl (by decide) (by decide) (by decide) 0 rfl rfl rfl (Nat.le_of_ble_eq_true rfl) dL_law_189 (fun v w q => ?_)
    refine kx_widen (k := 20 + t) (n := 9036 + 6 * t) (by show 20 + t + 0 ≤ 20 + t; omega) (by show 9036 + 6 * t + 6 * 0 ≤ 9036 + 6 * t; omega) ?_
    rcases q with ⟨mo2, st2, nu2, g1, em2, g2, es2, g3, en2, rfl, rfl⟩ | ⟨hb2, -, -⟩
    · skip
      obtain rfl := nJ g1 (by omega) (by omega)
      obtain rfl := nJ g2 (by omega) (by omega)
      obtain rfl := nJ g3 (by omega) (by omega)
      refine kx_istore (lv2 := [(6, .int (nI (P (mo * 12 + stp)))), (5, .int (nI (0))), (0, .ref (b9)), (1, .ref (K 0)), (2, .ref (J 0)), (3, .ref (ob)), (4, .int (nI (4 * t)))]) C dL_law_192 (by decide) rfl ?_
      refine kx_aload_n C dL_law_194 rfl 4 rfl ?_
      refine kx_callVi (rest := []) (wr := kOu E ob f :: (kwW E K b y o n ls bc 0 0 (va_up P (mo * 12 + stp) nu) Wt Tu Sc Ta Wa He Fk Pk)) C (m_thrown E J 0 n b y o Wt (va_up P (mo * 12 + stp) nu) Rm Ym Tm Cm Km) gL_86 0 rfl (by decide +kernel) ⟨Nat.le_of_ble_eq_true rfl, Nat.le_of_ble_eq_true rfl⟩ ⟨by show 20 + t + 0 ≤ 1052; omega, by show 9036 + 6 * t + 6 * 0 ≤ 17276; omega⟩ [11, 12, 13, 14, 15, 16, 17, 18] [0, 1, 2, 3, 4, 5, 6, 7, 8, 9, 10] rfl rfl (by decide) (by decide) (by decide) 0 rfl rfl rfl (Nat.le_of_ble_eq_true rfl) dL_law_195 (fun v w q => ?_)
      obtain ⟨rfl, rfl⟩ := q
      refine kx_widen (k := 20 + t) (n := 9036 + 6 * t) (by show 20 + t + 0 ≤ 20 + t; omega) (by show 9036 + 6 * t + 6 * 0 ≤ 9036 + 6 * t; omega) ?_
      refine kx_iload C dL_law_198 1 rfl ?_
      refine kx_icmp_eq (tgt := 205) C (by omega) (by omega) dL_law_200 (by decide) (fun c1 => ?_) (fun c1 => ?_)
      · skip
        refine kx_iload C dL_law_205 1 rfl ?_
        refine kx_if_ne (tgt := 222) C (by omega) dL_law_207 (by decide) (fun c2 => ?_) (fun c2 => ?_)
        · skip
          exact absurd c2 (by decide)
        · skip
          refine kx_aload_n C dL_law_210 rfl 5 rfl ?_
          refine kx_iconst (v := nI 0) C dL_law_211 (by decide +kernel) ?_
          refine kx_laldO (x := (nI (P (mo * 12 + stp))).toInt64) C 0 rfl hf dL_law_212 ?_
          refine kx_iload C dL_law_213 0 rfl ?_
          refine kx_i2l (v := (nI (P (mo * 12 + stp))).toInt64) C dL_law_215 rfl ?_
          refine kx_lcmp_eqR (tgt := 222) C dL_law_216 dL_law_217 (by decide) (fun c3 => ?_) (fun c3 => ?_)
          · skip
            refine kx_goto (tgt := 1319) C dL_law_222 (by decide) ?_
            refine kx_lv (lv2 := [(0, .ref (b9)), (1, .ref (K 0)), (2, .ref (J 0)), (3, .ref (ob)), (4, .int (nI (4 * t)))]) [2, 3, 4, 5, 6] rfl ?_
            exact hB _ _ _ _ _ _ _ _ _ _ _ _ _ _ _ _ _ _ _ _ _ _ _ _ HO2 ⟨H1, Hb, Hy, Ho, (up_le HP enu), HW, HRm, HYm, HKm⟩
          · skip
            exact absurd (congrArg Int32.toInt64 rfl) c3
      · skip
        exact absurd c1 (by decide)
    · skip
      exact absurd ⟨⟨mo, emo, rfl⟩, ⟨stp, estp, rfl⟩, ⟨nu, enu, rfl⟩⟩ hb2
  · skip
    obtain ⟨-, hb, rfl⟩ := hx
    refine kx_istore (lv2 := [(5, .int (nI (1))), (0, .ref (b9)), (1, .ref (K 0)), (2, .ref (J 0)), (3, .ref (ob)), (4, .int (nI (4 * t)))]) C dL_law_168 (by decide) rfl ?_
    refine kx_aload_n C dL_law_170 rfl 3 rfl ?_
    refine kx_aload_n C dL_law_171 rfl 1 rfl ?_
    refine kx_iload C dL_law_172 5 rfl ?_
    refine kx_iconst (v := nI 1) C dL_law_174 (by decide +kernel) ?_
    refine kx_iadd C dL_law_175 ?_
    refine kx_sld C hX hL (by omega) e0 dL_law_176 ?_
    refine kx_aload_n C dL_law_177 rfl 1 rfl ?_
    refine kx_iload C dL_law_178 5 rfl ?_
    refine kx_iconst (v := nI 2) C dL_law_180 (by decide +kernel) ?_
    refine kx_iadd C dL_law_181 ?_
    refine kx_sld C hX hL (by omega) e1 dL_law_182 ?_
    refine kx_aload_n C dL_law_183 rfl 1 rfl ?_
    refine kx_iload C dL_law_184 5 rfl ?_
    refine kx_iconst (v := nI 3) C dL_law_186 (by decide +kernel) ?_
    refine kx_iadd C dL_law_187 ?_
    refine kx_sld C hX hL (by omega) e2 dL_law_188 ?_
    refine kx_callVi (rest := []) (wr := kOu E ob f0 :: (kwW E K b y o n ls bc tk hk P Wt Tu Sc Ta Wa He Fk Pk)) C (m_profile E J cd n b y o Wt P Rm Ym Tm Cm Km x0 x1 x2 H1) gL_85 3 rfl (by decide +kernel) ⟨Nat.le_of_ble_eq_true rfl, Nat.le_of_ble_eq_true rfl⟩ ⟨by show 20 + t + 0 ≤ 1052; omega, by show 9036 + 6 * t + 6 * 0 ≤ 17276; omega⟩ [0, 1, 2, 3, 4, 5, 6, 7] [8, 9, 10, 11, 12, 13, 14, 15, 16, 17, 18] rfl rfl (by decide) (by decide) (by decide) 0 rfl rfl rfl (Nat.le_of_ble_eq_true rfl) dL_law_189 (fun v w q => ?_)
    refine kx_widen (k := 20 + t) (n := 9036 + 6 * t) (by show 20 + t + 0 ≤ 20 + t; omega) (by show 9036 + 6 * t + 6 * 0 ≤ 9036 + 6 * t; omega) ?_
    rcases q with ⟨mo2, st2, nu2, g1, em2, g2, es2, g3, en2, -, -⟩ | ⟨-, rfl, rfl⟩
    · skip
      exact absurd ⟨⟨mo2, em2, g1⟩, ⟨st2, es2, g2⟩, ⟨nu2, en2, g3⟩⟩ hb
    · skip
      refine kx_istore (lv2 := [(6, .int (nI 0)), (5, .int (nI (1))), (0, .ref (b9)), (1, .ref (K 0)), (2, .ref (J 0)), (3, .ref (ob)), (4, .int (nI (4 * t)))]) C dL_law_192 (by decide) rfl ?_
      refine kx_aload_n C dL_law_194 rfl 4 rfl ?_
      refine kx_callVi (rest := []) (wr := kOu E ob f0 :: (kwW E K b y o n ls bc tk hk P Wt Tu Sc Ta Wa He Fk Pk)) C (m_thrown E J 1 n b y o Wt P Rm Ym Tm Cm Km) gL_86 0 rfl (by decide +kernel) ⟨Nat.le_of_ble_eq_true rfl, Nat.le_of_ble_eq_true rfl⟩ ⟨by show 20 + t + 0 ≤ 1052; omega, by show 9036 + 6 * t + 6 * 0 ≤ 17276; omega⟩ [11, 12, 13, 14, 15, 16, 17, 18] [0, 1, 2, 3, 4, 5, 6, 7, 8, 9, 10] rfl rfl (by decide) (by decide) (by decide) 0 rfl rfl rfl (Nat.le_of_ble_eq_true rfl) dL_law_195 (fun v w q => ?_)
      obtain ⟨rfl, rfl⟩ := q
      refine kx_widen (k := 20 + t) (n := 9036 + 6 * t) (by show 20 + t + 0 ≤ 20 + t; omega) (by show 9036 + 6 * t + 6 * 0 ≤ 9036 + 6 * t; omega) ?_
      refine kx_iload C dL_law_198 1 rfl ?_
      refine kx_icmp_eq (tgt := 205) C (by omega) (by omega) dL_law_200 (by decide) (fun c4 => ?_) (fun c4 => ?_)
      · skip
        refine kx_iload C dL_law_205 1 rfl ?_
        refine kx_if_ne (tgt := 222) C (by omega) dL_law_207 (by decide) (fun c5 => ?_) (fun c5 => ?_)
        · skip
          refine kx_goto (tgt := 1319) C dL_law_222 (by decide) ?_
          refine kx_lv (lv2 := [(0, .ref (b9)), (1, .ref (K 0)), (2, .ref (J 0)), (3, .ref (ob)), (4, .int (nI (4 * t)))]) [2, 3, 4, 5, 6] rfl ?_
          exact hB _ _ _ _ _ _ _ _ _ _ _ _ _ _ _ _ _ _ _ _ _ _ _ _ HO HM
        · skip
          exact absurd c5 (by decide)
      · skip
        exact absurd c4 (by decide)

set_option maxHeartbeats 4000000 in
set_option maxRecDepth 100000 in
theorem lc_costs (E : KE) (G : KG) (C : kc E G cL_law 7 RL) (hHP : kHP (kGs G)) (HX : E.1.stackTraces = false) (K J : Nat → Nat) (ob b9 L t : Nat) (xs : Nat → Int32) (hX : kSc G b9 L xs) (hL : L ≤ 2048) (ht4 : 4 * t + 4 ≤ L) (hB : kLB E G K J ob b9 t) (b y o n ls bc tk hk : Nat) (P Wt Tu Sc Ta Wa He Fk Pk : Nat → Nat) (cd : Nat) (Rm Ym Tm Cm Km : Nat → Nat) (f0 : Nat → Int64) (HO : kOk b y o n ls bc tk hk P Wt Tu Sc Ta Wa He Fk Pk) (HM : kMo n b y o Wt P Rm Ym Km) : kx E room_1 G 7 (19 + t) (9030 + 6 * t) ((kOu E ob f0 :: (kwW E K b y o n ls bc tk hk P Wt Tu Sc Ta Wa He Fk Pk)) ++ (kmW E J cd n b y o Wt P Rm Ym Tm Cm Km)) [(0, .ref (b9)), (1, .ref (K 0)), (2, .ref (J 0)), (3, .ref (ob)), (4, .int (nI (4 * t)))] 225 [] := by
  obtain ⟨H1, Hb, Hy, Ho, HP, HW, HRm, HYm, HKm⟩ := id HM
  obtain ⟨x0, e0⟩ : ∃ x : Int32, xs (4 * t + 1) = x := ⟨_, rfl⟩
  obtain ⟨x1, e1⟩ : ∃ x : Int32, xs (4 * t + 2) = x := ⟨_, rfl⟩
  obtain ⟨x2, e2⟩ : ∃ x : Int32, xs (4 * t + 3) = x := ⟨_, rfl⟩
  refine kx_aload_n C dL_law_225 rfl 1 rfl ?_
  refine kx_aload_n C dL_law_226 rfl 0 rfl ?_
  refine kx_iload C dL_law_227 4 rfl ?_
  refine kx_iconst (v := nI 1) C dL_law_229 (by decide +kernel) ?_
  refine kx_iadd C dL_law_230 ?_
  refine kx_sld C hX hL (by omega) e0 dL_law_231 ?_
  refine kx_aload_n C dL_law_232 rfl 0 rfl ?_
  refine kx_iload C dL_law_233 4 rfl ?_
  refine kx_iconst (v := nI 2) C dL_law_235 (by decide +kernel) ?_
  refine kx_iadd C dL_law_236 ?_
  refine kx_sld C hX hL (by omega) e1 dL_law_237 ?_
  refine kx_aload_n C dL_law_238 rfl 0 rfl ?_
  refine kx_iload C dL_law_239 4 rfl ?_
  refine kx_iconst (v := nI 3) C dL_law_241 (by decide +kernel) ?_
  refine kx_iadd C dL_law_242 ?_
  refine kx_sld C hX hL (by omega) e2 dL_law_243 ?_
  refine kx_aload_n C dL_law_244 rfl 3 rfl ?_
  refine kx_callSH (rest := []) (wr := (kmW E J cd n b y o Wt P Rm Ym Tm Cm Km)) C hHP (l_costs E K b y o n ls bc tk hk P Wt Tu Sc Ta Wa He Fk Pk ob f0 x0 x1 x2 (c_costs E K b y o n ls bc tk hk P Wt Tu Sc Ta Wa He Fk Pk x0 x1 x2 HX HO) (fun _ _ h => h.1)) (kgH mL_89 sm_L_costs ini_KeyWalksLaw cw_costs) 5 rfl (by decide +kernel) ⟨Nat.le_of_ble_eq_true rfl, Nat.le_of_ble_eq_true rfl⟩ ⟨by show 19 + t + 1 ≤ 1052; omega, by show 9030 + 6 * t + 6 * 1 ≤ 17276; omega⟩ [0, 1, 2, 3, 4, 5, 6, 7, 8, 9, 10] [11, 12, 13, 14, 15, 16, 17, 18] rfl rfl (by decide) (by decide) (by decide) rfl (Nat.le_of_ble_eq_true rfl) dL_law_245 (fun v w q => ?_)
  refine kx_widen (k := 20 + t) (n := 9036 + 6 * t) (by show 19 + t + 1 ≤ 20 + t; omega) (by show 9030 + 6 * t + 6 * 1 ≤ 9036 + 6 * t; omega) ?_
  rcases q with ⟨rfl, r9, w9, f, hp, hf, rfl⟩ | ⟨rfl, w9, hx, rfl⟩
  · skip
    obtain ⟨b2, y2, o2, rfl, eb2, rfl, ey2, rfl, eo2, rfl, HO2, rfl⟩ := hp
    refine kx_istore (lv2 := [(5, .int (nI (0))), (0, .ref (b9)), (1, .ref (K 0)), (2, .ref (J 0)), (3, .ref (ob)), (4, .int (nI (4 * t)))]) C dL_law_248 (by decide) rfl ?_
    refine kx_aload_n C dL_law_250 rfl 3 rfl ?_
    refine kx_aload_n C dL_law_251 rfl 1 rfl ?_
    refine kx_iload C dL_law_252 5 rfl ?_
    refine kx_iconst (v := nI 1) C dL_law_254 (by decide +kernel) ?_
    refine kx_iadd C dL_law_255 ?_
    refine kx_sld C hX hL (by omega) e0 dL_law_256 ?_
    refine kx_aload_n C dL_law_257 rfl 1 rfl ?_
    refine kx_iload C dL_law_258 5 rfl ?_
    refine kx_iconst (v := nI 2) C dL_law_260 (by decide +kernel) ?_
    refine kx_iadd C dL_law_261 ?_
    refine kx_sld C hX hL (by omega) e1 dL_law_262 ?_
    refine kx_aload_n C dL_law_263 rfl 1 rfl ?_
    refine kx_iload C dL_law_264 5 rfl ?_
    refine kx_iconst (v := nI 3) C dL_law_266 (by decide +kernel) ?_
    refine kx_iadd C dL_law_267 ?_
    refine kx_sld C hX hL (by omega) e2 dL_law_268 ?_
    refine kx_callVi (rest := []) (wr := kOu E ob f :: (kwW E K b2 y2 o2 n ls bc 0 0 P Wt Tu Sc Ta Wa He Fk Pk)) C (m_costs E J cd n b y o Wt P Rm Ym Tm Cm Km (nI b2) (nI y2) (nI o2) H1 Hb Hy Ho) gL_91 3 rfl (by decide +kernel) ⟨Nat.le_of_ble_eq_true rfl, Nat.le_of_ble_eq_true rfl⟩ ⟨by show 20 + t + 0 ≤ 1052; omega, by show 9036 + 6 * t + 6 * 0 ≤ 17276; omega⟩ [0, 1, 2, 3, 4, 5, 6, 7] [8, 9, 10, 11, 12, 13, 14, 15, 16, 17, 18] rfl rfl (by decide) (by decide) (by decide) 0 rfl rfl rfl (Nat.le_of_ble_eq_true rfl) dL_law_269 (fun v w q => ?_)
    refine kx_widen (k := 20 + t) (n := 9036 + 6 * t) (by show 20 + t + 0 ≤ 20 + t; omega) (by show 9036 + 6 * t + 6 * 0 ≤ 9036 + 6 * t; omega) ?_
    rcases q with ⟨b3, y3, o3, g1, eb3, g2, ey3, g3, eo3, rfl, rfl⟩ | ⟨hb2, -, -⟩
    · skip
      obtain rfl := nJ g1 (by omega) (by omega)
      obtain rfl := nJ g2 (by omega) (by omega)
      obtain rfl := nJ g3 (by omega) (by omega)
      refine kx_istore (lv2 := [(6, .int (nI ((if b2 = b then 0 else 1) + (if y2 = y then 0 else 1) + (if o2 = o then 0 else 1)))), (5, .int (nI (0))), (0, .ref (b9)), (1, .ref (K 0)), (2, .ref (J 0)), (3, .ref (ob)), (4, .int (nI (4 * t)))]) C dL_law_272 (by decide) rfl ?_
      refine kx_aload_n C dL_law_274 rfl 4 rfl ?_
      refine kx_callVi (rest := []) (wr := kOu E ob f :: (kwW E K b2 y2 o2 n ls bc 0 0 P Wt Tu Sc Ta Wa He Fk Pk)) C (m_thrown E J 0 n b2 y2 o2 Wt P Rm Ym Tm Cm Km) gL_86 0 rfl (by decide +kernel) ⟨Nat.le_of_ble_eq_true rfl, Nat.le_of_ble_eq_true rfl⟩ ⟨by show 20 + t + 0 ≤ 1052; omega, by show 9036 + 6 * t + 6 * 0 ≤ 17276; omega⟩ [11, 12, 13, 14, 15, 16, 17, 18] [0, 1, 2, 3, 4, 5, 6, 7, 8, 9, 10] rfl rfl (by decide) (by decide) (by decide) 0 rfl rfl rfl (Nat.le_of_ble_eq_true rfl) dL_law_275 (fun v w q => ?_)
      obtain ⟨rfl, rfl⟩ := q
      refine kx_widen (k := 20 + t) (n := 9036 + 6 * t) (by show 20 + t + 0 ≤ 20 + t; omega) (by show 9036 + 6 * t + 6 * 0 ≤ 9036 + 6 * t; omega) ?_
      refine kx_iload C dL_law_278 1 rfl ?_
      refine kx_icmp_eq (tgt := 285) C (by omega) (by omega) dL_law_280 (by decide) (fun c1 => ?_) (fun c1 => ?_)
      · skip
        refine kx_iload C dL_law_285 1 rfl ?_
        refine kx_if_ne (tgt := 302) C (by omega) dL_law_287 (by decide) (fun c2 => ?_) (fun c2 => ?_)
        · skip
          exact absurd c2 (by decide)
        · skip
          refine kx_aload_n C dL_law_290 rfl 5 rfl ?_
          refine kx_iconst (v := nI 0) C dL_law_291 (by decide +kernel) ?_
          refine kx_laldO (x := (nI ((if b = b2 then 0 else 1) + (if y = y2 then 0 else 1) + (if o = o2 then 0 else 1))).toInt64) C 0 rfl hf dL_law_292 ?_
          refine kx_iload C dL_law_293 0 rfl ?_
          refine kx_i2l (v := (nI ((if b2 = b then 0 else 1) + (if y2 = y then 0 else 1) + (if o2 = o then 0 else 1))).toInt64) C dL_law_295 rfl ?_
          refine kx_lcmp_eqR (tgt := 302) C dL_law_296 dL_law_297 (by decide) (fun c3 => ?_) (fun c3 => ?_)
          · skip
            refine kx_goto (tgt := 1319) C dL_law_302 (by decide) ?_
            refine kx_lv (lv2 := [(0, .ref (b9)), (1, .ref (K 0)), (2, .ref (J 0)), (3, .ref (ob)), (4, .int (nI (4 * t)))]) [2, 3, 4, 5, 6] rfl ?_
            exact hB _ _ _ _ _ _ _ _ _ _ _ _ _ _ _ _ _ _ _ _ _ _ _ _ HO2 ⟨H1, eb2, ey2, eo2, HP, HW, HRm, HYm, HKm⟩
          · skip
            exact absurd (congrArg Int32.toInt64 (by rw [ifc b b2, ifc y y2, ifc o o2])) c3
      · skip
        exact absurd c1 (by decide)
    · skip
      exact absurd ⟨⟨b2, eb2, rfl⟩, ⟨y2, ey2, rfl⟩, ⟨o2, eo2, rfl⟩⟩ hb2
  · skip
    obtain ⟨-, hb, rfl⟩ := hx
    refine kx_istore (lv2 := [(5, .int (nI (1))), (0, .ref (b9)), (1, .ref (K 0)), (2, .ref (J 0)), (3, .ref (ob)), (4, .int (nI (4 * t)))]) C dL_law_248 (by decide) rfl ?_
    refine kx_aload_n C dL_law_250 rfl 3 rfl ?_
    refine kx_aload_n C dL_law_251 rfl 1 rfl ?_
    refine kx_iload C dL_law_252 5 rfl ?_
    refine kx_iconst (v := nI 1) C dL_law_254 (by decide +kernel) ?_
    refine kx_iadd C dL_law_255 ?_
    refine kx_sld C hX hL (by omega) e0 dL_law_256 ?_
    refine kx_aload_n C dL_law_257 rfl 1 rfl ?_
    refine kx_iload C dL_law_258 5 rfl ?_
    refine kx_iconst (v := nI 2) C dL_law_260 (by decide +kernel) ?_
    refine kx_iadd C dL_law_261 ?_
    refine kx_sld C hX hL (by omega) e1 dL_law_262 ?_
    refine kx_aload_n C dL_law_263 rfl 1 rfl ?_
    refine kx_iload C dL_law_264 5 rfl ?_
    refine kx_iconst (v := nI 3) C dL_law_266 (by decide +kernel) ?_
    refine kx_iadd C dL_law_267 ?_
    refine kx_sld C hX hL (by omega) e2 dL_law_268 ?_
    refine kx_callVi (rest := []) (wr := kOu E ob f0 :: (kwW E K b y o n ls bc tk hk P Wt Tu Sc Ta Wa He Fk Pk)) C (m_costs E J cd n b y o Wt P Rm Ym Tm Cm Km x0 x1 x2 H1 Hb Hy Ho) gL_91 3 rfl (by decide +kernel) ⟨Nat.le_of_ble_eq_true rfl, Nat.le_of_ble_eq_true rfl⟩ ⟨by show 20 + t + 0 ≤ 1052; omega, by show 9036 + 6 * t + 6 * 0 ≤ 17276; omega⟩ [0, 1, 2, 3, 4, 5, 6, 7] [8, 9, 10, 11, 12, 13, 14, 15, 16, 17, 18] rfl rfl (by decide) (by decide) (by decide) 0 rfl rfl rfl (Nat.le_of_ble_eq_true rfl) dL_law_269 (fun v w q => ?_)
    refine kx_widen (k := 20 + t) (n := 9036 + 6 * t) (by show 20 + t + 0 ≤ 20 + t; omega) (by show 9036 + 6 * t + 6 * 0 ≤ 9036 + 6 * t; omega) ?_
    rcases q with ⟨b3, y3, o3, g1, eb3, g2, ey3, g3, eo3, -, -⟩ | ⟨-, rfl, rfl⟩
    · skip
      exact absurd ⟨⟨b3, eb3, g1⟩, ⟨y3, ey3, g2⟩, ⟨o3, eo3, g3⟩⟩ hb
    · skip
      refine kx_istore (lv2 := [(6, .int (nI 0)), (5, .int (nI (1))), (0, .ref (b9)), (1, .ref (K 0)), (2, .ref (J 0)), (3, .ref (ob)), (4, .int (nI (4 * t)))]) C dL_law_272 (by decide) rfl ?_
      refine kx_aload_n C dL_law_274 rfl 4 rfl ?_
      refine kx_callVi (rest := []) (wr := kOu E ob f0 :: (kwW E K b y o n ls bc tk hk P Wt Tu Sc Ta Wa He Fk Pk)) C (m_thrown E J 1 n b y o Wt P Rm Ym Tm Cm Km) gL_86 0 rfl (by decide +kernel) ⟨Nat.le_of_ble_eq_true rfl, Nat.le_of_ble_eq_true rfl⟩ ⟨by show 20 + t + 0 ≤ 1052; omega, by show 9036 + 6 * t + 6 * 0 ≤ 17276; omega⟩ [11, 12, 13, 14, 15, 16, 17, 18] [0, 1, 2, 3, 4, 5, 6, 7, 8, 9, 10] rfl rfl (by decide) (by decide) (by decide) 0 rfl rfl rfl (Nat.le_of_ble_eq_true rfl) dL_law_275 (fun v w q => ?_)
      obtain ⟨rfl, rfl⟩ := q
      refine kx_widen (k := 20 + t) (n := 9036 + 6 * t) (by show 20 + t + 0 ≤ 20 + t; omega) (by show 9036 + 6 * t + 6 * 0 ≤ 9036 + 6 * t; omega) ?_
      refine kx_iload C dL_law_278 1 rfl ?_
      refine kx_icmp_eq (tgt := 285) C (by omega) (by omega) dL_law_280 (by decide) (fun c4 => ?_) (fun c4 => ?_)
      · skip
        refine kx_iload C dL_law_285 1 rfl ?_
        refine kx_if_ne (tgt := 302) C (by omega) dL_law_287 (by decide) (fun c5 => ?_) (fun c5 => ?_)
        · skip
          refine kx_goto (tgt := 1319) C dL_law_302 (by decide) ?_
          refine kx_lv (lv2 := [(0, .ref (b9)), (1, .ref (K 0)), (2, .ref (J 0)), (3, .ref (ob)), (4, .int (nI (4 * t)))]) [2, 3, 4, 5, 6] rfl ?_
          exact hB _ _ _ _ _ _ _ _ _ _ _ _ _ _ _ _ _ _ _ _ _ _ _ _ HO HM
        · skip
          exact absurd c5 (by decide)
      · skip
        exact absurd c4 (by decide)

set_option maxHeartbeats 4000000 in
set_option maxRecDepth 100000 in
theorem lc_slice (E : KE) (G : KG) (C : kc E G cL_law 7 RL) (hHP : kHP (kGs G)) (HX : E.1.stackTraces = false) (K J : Nat → Nat) (ob b9 L t : Nat) (xs : Nat → Int32) (hX : kSc G b9 L xs) (hL : L ≤ 2048) (ht4 : 4 * t + 4 ≤ L) (hB : kLB E G K J ob b9 t) (b y o n ls bc tk hk : Nat) (P Wt Tu Sc Ta Wa He Fk Pk : Nat → Nat) (cd : Nat) (Rm Ym Tm Cm Km : Nat → Nat) (f0 : Nat → Int64) (HO : kOk b y o n ls bc tk hk P Wt Tu Sc Ta Wa He Fk Pk) (HM : kMo n b y o Wt P Rm Ym Km) : kx E room_1 G 7 (19 + t) (9030 + 6 * t) ((kOu E ob f0 :: (kwW E K b y o n ls bc tk hk P Wt Tu Sc Ta Wa He Fk Pk)) ++ (kmW E J cd n b y o Wt P Rm Ym Tm Cm Km)) [(0, .ref (b9)), (1, .ref (K 0)), (2, .ref (J 0)), (3, .ref (ob)), (4, .int (nI (4 * t)))] 305 [] := by
  obtain ⟨H1, Hb, Hy, Ho, HP, HW, HRm, HYm, HKm⟩ := id HM
  refine kx_aload_n C dL_law_305 rfl 1 rfl ?_
  refine kx_aload_n C dL_law_306 rfl 3 rfl ?_
  refine kx_callSH (rest := []) (wr := (kmW E J cd n b y o Wt P Rm Ym Tm Cm Km)) C hHP (l_slice E K b y o n ls bc tk hk P Wt Tu Sc Ta Wa He Fk Pk ob f0  (c_slice E K b y o n ls bc tk hk P Wt Tu Sc Ta Wa He Fk Pk  HX HO) (fun _ _ h => h.1)) (kgH mL_92 sm_L_slice ini_KeyWalksLaw cw_slice) 2 rfl (by decide +kernel) ⟨Nat.le_of_ble_eq_true rfl, Nat.le_of_ble_eq_true rfl⟩ ⟨by show 19 + t + 1 ≤ 1052; omega, by show 9030 + 6 * t + 6 * 1 ≤ 17276; omega⟩ [0, 1, 2, 3, 4, 5, 6, 7, 8, 9, 10] [11, 12, 13, 14, 15, 16, 17, 18] rfl rfl (by decide) (by decide) (by decide) rfl (Nat.le_of_ble_eq_true rfl) dL_law_307 (fun v w q => ?_)
  refine kx_widen (k := 20 + t) (n := 9036 + 6 * t) (by show 19 + t + 1 ≤ 20 + t; omega) (by show 9030 + 6 * t + 6 * 1 ≤ 9036 + 6 * t; omega) ?_
  rcases q with ⟨rfl, r9, w9, f, hp, hf, rfl⟩ | ⟨rfl, w9, hx, rfl⟩
  · skip
    obtain ⟨hn, rfl, Wv, a1, a2, HO2, rfl⟩ := hp
    refine kx_istore (lv2 := [(5, .int (nI (0))), (0, .ref (b9)), (1, .ref (K 0)), (2, .ref (J 0)), (3, .ref (ob)), (4, .int (nI (4 * t)))]) C dL_law_310 (by decide) rfl ?_
    refine kx_aload_n C dL_law_312 rfl 3 rfl ?_
    refine kx_callVi (rest := []) (wr := kOu E ob f :: (kwW E K b y o (n + 1) ls bc 0 0 P Wv Tu Sc Ta Wa He Fk Pk)) C (m_slice E J cd n b y o Wt P Rm Ym Tm Cm Km  H1 HW) gL_95 0 rfl (by decide +kernel) ⟨Nat.le_of_ble_eq_true rfl, Nat.le_of_ble_eq_true rfl⟩ ⟨by show 20 + t + 0 ≤ 1052; omega, by show 9036 + 6 * t + 6 * 0 ≤ 17276; omega⟩ [0, 1, 2, 3, 4, 5, 6, 7] [8, 9, 10, 11, 12, 13, 14, 15, 16, 17, 18] rfl rfl (by decide) (by decide) (by decide) 0 rfl rfl rfl (Nat.le_of_ble_eq_true rfl) dL_law_313 (fun v w q => ?_)
    refine kx_widen (k := 20 + t) (n := 9036 + 6 * t) (by show 20 + t + 0 ≤ 20 + t; omega) (by show 9036 + 6 * t + 6 * 0 ≤ 9036 + 6 * t; omega) ?_
    rcases q with ⟨hn2, rfl, W2, b1, b2, b3, rfl⟩ | ⟨hn2, -, -⟩
    · skip
      obtain rfl := (w_agree a1 a2 b1 b2).symm
      refine kx_istore (lv2 := [(6, .int (nI n)), (5, .int (nI (0))), (0, .ref (b9)), (1, .ref (K 0)), (2, .ref (J 0)), (3, .ref (ob)), (4, .int (nI (4 * t)))]) C dL_law_316 (by decide) rfl ?_
      refine kx_aload_n C dL_law_318 rfl 4 rfl ?_
      refine kx_callVi (rest := []) (wr := kOu E ob f :: (kwW E K b y o (n + 1) ls bc 0 0 P Wv Tu Sc Ta Wa He Fk Pk)) C (m_thrown E J 0 (n + 1) b y o Wv P Rm Ym Tm Cm Km) gL_86 0 rfl (by decide +kernel) ⟨Nat.le_of_ble_eq_true rfl, Nat.le_of_ble_eq_true rfl⟩ ⟨by show 20 + t + 0 ≤ 1052; omega, by show 9036 + 6 * t + 6 * 0 ≤ 17276; omega⟩ [11, 12, 13, 14, 15, 16, 17, 18] [0, 1, 2, 3, 4, 5, 6, 7, 8, 9, 10] rfl rfl (by decide) (by decide) (by decide) 0 rfl rfl rfl (Nat.le_of_ble_eq_true rfl) dL_law_319 (fun v w q => ?_)
      obtain ⟨rfl, rfl⟩ := q
      refine kx_widen (k := 20 + t) (n := 9036 + 6 * t) (by show 20 + t + 0 ≤ 20 + t; omega) (by show 9036 + 6 * t + 6 * 0 ≤ 9036 + 6 * t; omega) ?_
      refine kx_iload C dL_law_322 1 rfl ?_
      refine kx_icmp_eq (tgt := 329) C (by omega) (by omega) dL_law_324 (by decide) (fun c1 => ?_) (fun c1 => ?_)
      · skip
        refine kx_iload C dL_law_329 1 rfl ?_
        refine kx_if_ne (tgt := 346) C (by omega) dL_law_331 (by decide) (fun c2 => ?_) (fun c2 => ?_)
        · skip
          exact absurd c2 (by decide)
        · skip
          refine kx_aload_n C dL_law_334 rfl 5 rfl ?_
          refine kx_iconst (v := nI 0) C dL_law_335 (by decide +kernel) ?_
          refine kx_laldO (x := (nI n).toInt64) C 0 rfl hf dL_law_336 ?_
          refine kx_iload C dL_law_337 0 rfl ?_
          refine kx_i2l (v := (nI n).toInt64) C dL_law_339 rfl ?_
          refine kx_lcmp_eqR (tgt := 346) C dL_law_340 dL_law_341 (by decide) (fun c3 => ?_) (fun c3 => ?_)
          · skip
            refine kx_goto (tgt := 1319) C dL_law_346 (by decide) ?_
            refine kx_lv (lv2 := [(0, .ref (b9)), (1, .ref (K 0)), (2, .ref (J 0)), (3, .ref (ob)), (4, .int (nI (4 * t)))]) [2, 3, 4, 5, 6] rfl ?_
            exact hB _ _ _ _ _ _ _ _ _ _ _ _ _ _ _ _ _ _ _ _ _ _ _ _ HO2 ⟨by omega, Hb, Hy, Ho, HP, b3, HRm, HYm, HKm⟩
          · skip
            exact absurd (congrArg Int32.toInt64 rfl) c3
      · skip
        exact absurd c1 (by decide)
    · skip
      exact absurd hn2 (by omega)
  · skip
    obtain ⟨-, hb, rfl⟩ := hx
    refine kx_istore (lv2 := [(5, .int (nI (1))), (0, .ref (b9)), (1, .ref (K 0)), (2, .ref (J 0)), (3, .ref (ob)), (4, .int (nI (4 * t)))]) C dL_law_310 (by decide) rfl ?_
    refine kx_aload_n C dL_law_312 rfl 3 rfl ?_
    refine kx_callVi (rest := []) (wr := kOu E ob f0 :: (kwW E K b y o n ls bc tk hk P Wt Tu Sc Ta Wa He Fk Pk)) C (m_slice E J cd n b y o Wt P Rm Ym Tm Cm Km  H1 HW) gL_95 0 rfl (by decide +kernel) ⟨Nat.le_of_ble_eq_true rfl, Nat.le_of_ble_eq_true rfl⟩ ⟨by show 20 + t + 0 ≤ 1052; omega, by show 9036 + 6 * t + 6 * 0 ≤ 17276; omega⟩ [0, 1, 2, 3, 4, 5, 6, 7] [8, 9, 10, 11, 12, 13, 14, 15, 16, 17, 18] rfl rfl (by decide) (by decide) (by decide) 0 rfl rfl rfl (Nat.le_of_ble_eq_true rfl) dL_law_313 (fun v w q => ?_)
    refine kx_widen (k := 20 + t) (n := 9036 + 6 * t) (by show 20 + t + 0 ≤ 20 + t; omega) (by show 9036 + 6 * t + 6 * 0 ≤ 9036 + 6 * t; omega) ?_
    rcases q with ⟨hn2, -⟩ | ⟨-, rfl, rfl⟩
    · skip
      exact absurd hb (by omega)
    · skip
      refine kx_istore (lv2 := [(6, .int (nI 0)), (5, .int (nI (1))), (0, .ref (b9)), (1, .ref (K 0)), (2, .ref (J 0)), (3, .ref (ob)), (4, .int (nI (4 * t)))]) C dL_law_316 (by decide) rfl ?_
      refine kx_aload_n C dL_law_318 rfl 4 rfl ?_
      refine kx_callVi (rest := []) (wr := kOu E ob f0 :: (kwW E K b y o n ls bc tk hk P Wt Tu Sc Ta Wa He Fk Pk)) C (m_thrown E J 1 n b y o Wt P Rm Ym Tm Cm Km) gL_86 0 rfl (by decide +kernel) ⟨Nat.le_of_ble_eq_true rfl, Nat.le_of_ble_eq_true rfl⟩ ⟨by show 20 + t + 0 ≤ 1052; omega, by show 9036 + 6 * t + 6 * 0 ≤ 17276; omega⟩ [11, 12, 13, 14, 15, 16, 17, 18] [0, 1, 2, 3, 4, 5, 6, 7, 8, 9, 10] rfl rfl (by decide) (by decide) (by decide) 0 rfl rfl rfl (Nat.le_of_ble_eq_true rfl) dL_law_319 (fun v w q => ?_)
      obtain ⟨rfl, rfl⟩ := q
      refine kx_widen (k := 20 + t) (n := 9036 + 6 * t) (by show 20 + t + 0 ≤ 20 + t; omega) (by show 9036 + 6 * t + 6 * 0 ≤ 9036 + 6 * t; omega) ?_
      refine kx_iload C dL_law_322 1 rfl ?_
      refine kx_icmp_eq (tgt := 329) C (by omega) (by omega) dL_law_324 (by decide) (fun c4 => ?_) (fun c4 => ?_)
      · skip
        refine kx_iload C dL_law_329 1 rfl ?_
        refine kx_if_ne (tgt := 346) C (by omega) dL_law_331 (by decide) (fun c5 => ?_) (fun c5 => ?_)
        · skip
          refine kx_goto (tgt := 1319) C dL_law_346 (by decide) ?_
          refine kx_lv (lv2 := [(0, .ref (b9)), (1, .ref (K 0)), (2, .ref (J 0)), (3, .ref (ob)), (4, .int (nI (4 * t)))]) [2, 3, 4, 5, 6] rfl ?_
          exact hB _ _ _ _ _ _ _ _ _ _ _ _ _ _ _ _ _ _ _ _ _ _ _ _ HO HM
        · skip
          exact absurd c5 (by decide)
      · skip
        exact absurd c4 (by decide)

set_option maxHeartbeats 4000000 in
set_option maxRecDepth 100000 in
theorem lc_drop (E : KE) (G : KG) (C : kc E G cL_law 7 RL) (hHP : kHP (kGs G)) (HX : E.1.stackTraces = false) (K J : Nat → Nat) (ob b9 L t : Nat) (xs : Nat → Int32) (hX : kSc G b9 L xs) (hL : L ≤ 2048) (ht4 : 4 * t + 4 ≤ L) (hB : kLB E G K J ob b9 t) (b y o n ls bc tk hk : Nat) (P Wt Tu Sc Ta Wa He Fk Pk : Nat → Nat) (cd : Nat) (Rm Ym Tm Cm Km : Nat → Nat) (f0 : Nat → Int64) (HO : kOk b y o n ls bc tk hk P Wt Tu Sc Ta Wa He Fk Pk) (HM : kMo n b y o Wt P Rm Ym Km) : kx E room_1 G 7 (19 + t) (9030 + 6 * t) ((kOu E ob f0 :: (kwW E K b y o n ls bc tk hk P Wt Tu Sc Ta Wa He Fk Pk)) ++ (kmW E J cd n b y o Wt P Rm Ym Tm Cm Km)) [(0, .ref (b9)), (1, .ref (K 0)), (2, .ref (J 0)), (3, .ref (ob)), (4, .int (nI (4 * t)))] 429 [] := by
  obtain ⟨H1, Hb, Hy, Ho, HP, HW, HRm, HYm, HKm⟩ := id HM
  refine kx_aload_n C dL_law_429 rfl 1 rfl ?_
  refine kx_aload_n C dL_law_430 rfl 3 rfl ?_
  refine kx_callSH (rest := []) (wr := (kmW E J cd n b y o Wt P Rm Ym Tm Cm Km)) C hHP (l_drop E K b y o n ls bc tk hk P Wt Tu Sc Ta Wa He Fk Pk ob f0  (c_drop E K b y o n ls bc tk hk P Wt Tu Sc Ta Wa He Fk Pk  HX HO) (fun _ _ h => h.1)) (kgH mL_99 sm_L_drop ini_KeyWalksLaw cw_drop) 2 rfl (by decide +kernel) ⟨Nat.le_of_ble_eq_true rfl, Nat.le_of_ble_eq_true rfl⟩ ⟨by show 19 + t + 1 ≤ 1052; omega, by show 9030 + 6 * t + 6 * 1 ≤ 17276; omega⟩ [0, 1, 2, 3, 4, 5, 6, 7, 8, 9, 10] [11, 12, 13, 14, 15, 16, 17, 18] rfl rfl (by decide) (by decide) (by decide) rfl (Nat.le_of_ble_eq_true rfl) dL_law_431 (fun v w q => ?_)
  refine kx_widen (k := 20 + t) (n := 9036 + 6 * t) (by show 19 + t + 1 ≤ 20 + t; omega) (by show 9030 + 6 * t + 6 * 1 ≤ 9036 + 6 * t; omega) ?_
  rcases q with ⟨rfl, r9, w9, f, hp, hf, rfl⟩ | ⟨rfl, w9, hx, rfl⟩
  · skip
    obtain ⟨hn, rfl, HO2, rfl⟩ := hp
    refine kx_istore (lv2 := [(5, .int (nI (0))), (0, .ref (b9)), (1, .ref (K 0)), (2, .ref (J 0)), (3, .ref (ob)), (4, .int (nI (4 * t)))]) C dL_law_434 (by decide) rfl ?_
    refine kx_aload_n C dL_law_436 rfl 3 rfl ?_
    refine kx_callVi (rest := []) (wr := kOu E ob f :: (kwW E K b y o (n - 1) ls bc 0 0 P Wt Tu Sc Ta Wa He Fk Pk)) C (m_drop E J cd n b y o Wt P Rm Ym Tm Cm Km  H1) gL_101 0 rfl (by decide +kernel) ⟨Nat.le_of_ble_eq_true rfl, Nat.le_of_ble_eq_true rfl⟩ ⟨by show 20 + t + 0 ≤ 1052; omega, by show 9036 + 6 * t + 6 * 0 ≤ 17276; omega⟩ [0, 1, 2, 3, 4, 5, 6, 7] [8, 9, 10, 11, 12, 13, 14, 15, 16, 17, 18] rfl rfl (by decide) (by decide) (by decide) 0 rfl rfl rfl (Nat.le_of_ble_eq_true rfl) dL_law_437 (fun v w q => ?_)
    refine kx_widen (k := 20 + t) (n := 9036 + 6 * t) (by show 20 + t + 0 ≤ 20 + t; omega) (by show 9036 + 6 * t + 6 * 0 ≤ 9036 + 6 * t; omega) ?_
    rcases q with ⟨hn2, rfl, rfl⟩ | ⟨hn2, -, -⟩
    · skip
      refine kx_istore (lv2 := [(6, .int (nI (n - 1))), (5, .int (nI (0))), (0, .ref (b9)), (1, .ref (K 0)), (2, .ref (J 0)), (3, .ref (ob)), (4, .int (nI (4 * t)))]) C dL_law_440 (by decide) rfl ?_
      refine kx_aload_n C dL_law_442 rfl 4 rfl ?_
      refine kx_callVi (rest := []) (wr := kOu E ob f :: (kwW E K b y o (n - 1) ls bc 0 0 P Wt Tu Sc Ta Wa He Fk Pk)) C (m_thrown E J 0 (n - 1) b y o Wt P Rm Ym Tm Cm Km) gL_86 0 rfl (by decide +kernel) ⟨Nat.le_of_ble_eq_true rfl, Nat.le_of_ble_eq_true rfl⟩ ⟨by show 20 + t + 0 ≤ 1052; omega, by show 9036 + 6 * t + 6 * 0 ≤ 17276; omega⟩ [11, 12, 13, 14, 15, 16, 17, 18] [0, 1, 2, 3, 4, 5, 6, 7, 8, 9, 10] rfl rfl (by decide) (by decide) (by decide) 0 rfl rfl rfl (Nat.le_of_ble_eq_true rfl) dL_law_443 (fun v w q => ?_)
      obtain ⟨rfl, rfl⟩ := q
      refine kx_widen (k := 20 + t) (n := 9036 + 6 * t) (by show 20 + t + 0 ≤ 20 + t; omega) (by show 9036 + 6 * t + 6 * 0 ≤ 9036 + 6 * t; omega) ?_
      refine kx_iload C dL_law_446 1 rfl ?_
      refine kx_icmp_eq (tgt := 453) C (by omega) (by omega) dL_law_448 (by decide) (fun c1 => ?_) (fun c1 => ?_)
      · skip
        refine kx_iload C dL_law_453 1 rfl ?_
        refine kx_if_ne (tgt := 470) C (by omega) dL_law_455 (by decide) (fun c2 => ?_) (fun c2 => ?_)
        · skip
          exact absurd c2 (by decide)
        · skip
          refine kx_aload_n C dL_law_458 rfl 5 rfl ?_
          refine kx_iconst (v := nI 0) C dL_law_459 (by decide +kernel) ?_
          refine kx_laldO (x := (nI (n - 1)).toInt64) C 0 rfl hf dL_law_460 ?_
          refine kx_iload C dL_law_461 0 rfl ?_
          refine kx_i2l (v := (nI (n - 1)).toInt64) C dL_law_463 rfl ?_
          refine kx_lcmp_eqR (tgt := 470) C dL_law_464 dL_law_465 (by decide) (fun c3 => ?_) (fun c3 => ?_)
          · skip
            refine kx_goto (tgt := 1319) C dL_law_470 (by decide) ?_
            refine kx_lv (lv2 := [(0, .ref (b9)), (1, .ref (K 0)), (2, .ref (J 0)), (3, .ref (ob)), (4, .int (nI (4 * t)))]) [2, 3, 4, 5, 6] rfl ?_
            exact hB _ _ _ _ _ _ _ _ _ _ _ _ _ _ _ _ _ _ _ _ _ _ _ _ HO2 ⟨by omega, Hb, Hy, Ho, HP, HW, HRm, HYm, HKm⟩
          · skip
            exact absurd (congrArg Int32.toInt64 rfl) c3
      · skip
        exact absurd c1 (by decide)
    · skip
      exact absurd hn2 (by omega)
  · skip
    obtain ⟨-, hb, rfl⟩ := hx
    refine kx_istore (lv2 := [(5, .int (nI (1))), (0, .ref (b9)), (1, .ref (K 0)), (2, .ref (J 0)), (3, .ref (ob)), (4, .int (nI (4 * t)))]) C dL_law_434 (by decide) rfl ?_
    refine kx_aload_n C dL_law_436 rfl 3 rfl ?_
    refine kx_callVi (rest := []) (wr := kOu E ob f0 :: (kwW E K b y o n ls bc tk hk P Wt Tu Sc Ta Wa He Fk Pk)) C (m_drop E J cd n b y o Wt P Rm Ym Tm Cm Km  H1) gL_101 0 rfl (by decide +kernel) ⟨Nat.le_of_ble_eq_true rfl, Nat.le_of_ble_eq_true rfl⟩ ⟨by show 20 + t + 0 ≤ 1052; omega, by show 9036 + 6 * t + 6 * 0 ≤ 17276; omega⟩ [0, 1, 2, 3, 4, 5, 6, 7] [8, 9, 10, 11, 12, 13, 14, 15, 16, 17, 18] rfl rfl (by decide) (by decide) (by decide) 0 rfl rfl rfl (Nat.le_of_ble_eq_true rfl) dL_law_437 (fun v w q => ?_)
    refine kx_widen (k := 20 + t) (n := 9036 + 6 * t) (by show 20 + t + 0 ≤ 20 + t; omega) (by show 9036 + 6 * t + 6 * 0 ≤ 9036 + 6 * t; omega) ?_
    rcases q with ⟨hn2, -⟩ | ⟨-, rfl, rfl⟩
    · skip
      exact absurd hb (by omega)
    · skip
      refine kx_istore (lv2 := [(6, .int (nI 0)), (5, .int (nI (1))), (0, .ref (b9)), (1, .ref (K 0)), (2, .ref (J 0)), (3, .ref (ob)), (4, .int (nI (4 * t)))]) C dL_law_440 (by decide) rfl ?_
      refine kx_aload_n C dL_law_442 rfl 4 rfl ?_
      refine kx_callVi (rest := []) (wr := kOu E ob f0 :: (kwW E K b y o n ls bc tk hk P Wt Tu Sc Ta Wa He Fk Pk)) C (m_thrown E J 1 n b y o Wt P Rm Ym Tm Cm Km) gL_86 0 rfl (by decide +kernel) ⟨Nat.le_of_ble_eq_true rfl, Nat.le_of_ble_eq_true rfl⟩ ⟨by show 20 + t + 0 ≤ 1052; omega, by show 9036 + 6 * t + 6 * 0 ≤ 17276; omega⟩ [11, 12, 13, 14, 15, 16, 17, 18] [0, 1, 2, 3, 4, 5, 6, 7, 8, 9, 10] rfl rfl (by decide) (by decide) (by decide) 0 rfl rfl rfl (Nat.le_of_ble_eq_true rfl) dL_law_443 (fun v w q => ?_)
      obtain ⟨rfl, rfl⟩ := q
      refine kx_widen (k := 20 + t) (n := 9036 + 6 * t) (by show 20 + t + 0 ≤ 20 + t; omega) (by show 9036 + 6 * t + 6 * 0 ≤ 9036 + 6 * t; omega) ?_
      refine kx_iload C dL_law_446 1 rfl ?_
      refine kx_icmp_eq (tgt := 453) C (by omega) (by omega) dL_law_448 (by decide) (fun c4 => ?_) (fun c4 => ?_)
      · skip
        refine kx_iload C dL_law_453 1 rfl ?_
        refine kx_if_ne (tgt := 470) C (by omega) dL_law_455 (by decide) (fun c5 => ?_) (fun c5 => ?_)
        · skip
          refine kx_goto (tgt := 1319) C dL_law_470 (by decide) ?_
          refine kx_lv (lv2 := [(0, .ref (b9)), (1, .ref (K 0)), (2, .ref (J 0)), (3, .ref (ob)), (4, .int (nI (4 * t)))]) [2, 3, 4, 5, 6] rfl ?_
          exact hB _ _ _ _ _ _ _ _ _ _ _ _ _ _ _ _ _ _ _ _ _ _ _ _ HO HM
        · skip
          exact absurd c5 (by decide)
      · skip
        exact absurd c4 (by decide)

set_option maxHeartbeats 4000000 in
set_option maxRecDepth 100000 in
theorem lc_note (E : KE) (G : KG) (C : kc E G cL_law 7 RL) (hHP : kHP (kGs G)) (HX : E.1.stackTraces = false) (K J : Nat → Nat) (ob b9 L t : Nat) (xs : Nat → Int32) (hX : kSc G b9 L xs) (hL : L ≤ 2048) (ht4 : 4 * t + 4 ≤ L) (hB : kLB E G K J ob b9 t) (b y o n ls bc tk hk : Nat) (P Wt Tu Sc Ta Wa He Fk Pk : Nat → Nat) (cd : Nat) (Rm Ym Tm Cm Km : Nat → Nat) (f0 : Nat → Int64) (HO : kOk b y o n ls bc tk hk P Wt Tu Sc Ta Wa He Fk Pk) (HM : kMo n b y o Wt P Rm Ym Km) : kx E room_1 G 7 (19 + t) (9030 + 6 * t) ((kOu E ob f0 :: (kwW E K b y o n ls bc tk hk P Wt Tu Sc Ta Wa He Fk Pk)) ++ (kmW E J cd n b y o Wt P Rm Ym Tm Cm Km)) [(0, .ref (b9)), (1, .ref (K 0)), (2, .ref (J 0)), (3, .ref (ob)), (4, .int (nI (4 * t)))] 349 [] := by
  obtain ⟨H1, Hb, Hy, Ho, HP, HW, HRm, HYm, HKm⟩ := id HM
  obtain ⟨x0, e0⟩ : ∃ x : Int32, xs (4 * t + 1) = x := ⟨_, rfl⟩
  obtain ⟨x1, e1⟩ : ∃ x : Int32, xs (4 * t + 2) = x := ⟨_, rfl⟩
  obtain ⟨x2, e2⟩ : ∃ x : Int32, xs (4 * t + 3) = x := ⟨_, rfl⟩
  refine kx_aload_n C dL_law_349 rfl 1 rfl ?_
  refine kx_aload_n C dL_law_350 rfl 0 rfl ?_
  refine kx_iload C dL_law_351 4 rfl ?_
  refine kx_iconst (v := nI 1) C dL_law_353 (by decide +kernel) ?_
  refine kx_iadd C dL_law_354 ?_
  refine kx_sld C hX hL (by omega) e0 dL_law_355 ?_
  refine kx_aload_n C dL_law_356 rfl 0 rfl ?_
  refine kx_iload C dL_law_357 4 rfl ?_
  refine kx_iconst (v := nI 2) C dL_law_359 (by decide +kernel) ?_
  refine kx_iadd C dL_law_360 ?_
  refine kx_sld C hX hL (by omega) e1 dL_law_361 ?_
  refine kx_aload_n C dL_law_362 rfl 0 rfl ?_
  refine kx_iload C dL_law_363 4 rfl ?_
  refine kx_iconst (v := nI 3) C dL_law_365 (by decide +kernel) ?_
  refine kx_iadd C dL_law_366 ?_
  refine kx_sld C hX hL (by omega) e2 dL_law_367 ?_
  refine kx_aload_n C dL_law_368 rfl 3 rfl ?_
  refine kx_callSH (rest := []) (wr := (kmW E J cd n b y o Wt P Rm Ym Tm Cm Km)) C hHP (l_note E K b y o n ls bc tk hk P Wt Tu Sc Ta Wa He Fk Pk ob f0 x0 x1 x2 (c_note E K b y o n ls bc tk hk P Wt Tu Sc Ta Wa He Fk Pk x0 x1 x2 HX HO) (fun _ _ h => h.1.elim (fun z => Or.inl z.1) (fun z => Or.inr z.1))) (kgH mL_96 sm_L_note ini_KeyWalksLaw cw_note) 5 rfl (by decide +kernel) ⟨Nat.le_of_ble_eq_true rfl, Nat.le_of_ble_eq_true rfl⟩ ⟨by show 19 + t + 1 ≤ 1052; omega, by show 9030 + 6 * t + 6 * 1 ≤ 17276; omega⟩ [0, 1, 2, 3, 4, 5, 6, 7, 8, 9, 10] [11, 12, 13, 14, 15, 16, 17, 18] rfl rfl (by decide) (by decide) (by decide) rfl (Nat.le_of_ble_eq_true rfl) dL_law_369 (fun v w q => ?_)
  refine kx_widen (k := 20 + t) (n := 9036 + 6 * t) (by show 19 + t + 1 ≤ 20 + t; omega) (by show 9030 + 6 * t + 6 * 1 ≤ 9036 + 6 * t; omega) ?_
  rcases q with ⟨rfl, r9, w9, f, hp, hf, rfl⟩ | ⟨rfl, w9, hx, rfl⟩ | ⟨rfl, w9, hx, rfl⟩
  · skip
    obtain ⟨sl, pi, wt, rfl, esl, rfl, epi, rfl, hw1, hw2, hle, rfl, HO2, rfl⟩ := hp
    refine kx_istore (lv2 := [(5, .int (nI (0))), (0, .ref (b9)), (1, .ref (K 0)), (2, .ref (J 0)), (3, .ref (ob)), (4, .int (nI (4 * t)))]) C dL_law_372 (by decide) rfl ?_
    refine kx_aload_n C dL_law_374 rfl 3 rfl ?_
    refine kx_aload_n C dL_law_375 rfl 1 rfl ?_
    refine kx_iload C dL_law_376 5 rfl ?_
    refine kx_iconst (v := nI 1) C dL_law_378 (by decide +kernel) ?_
    refine kx_iadd C dL_law_379 ?_
    refine kx_sld C hX hL (by omega) e0 dL_law_380 ?_
    refine kx_aload_n C dL_law_381 rfl 1 rfl ?_
    refine kx_iload C dL_law_382 5 rfl ?_
    refine kx_iconst (v := nI 2) C dL_law_384 (by decide +kernel) ?_
    refine kx_iadd C dL_law_385 ?_
    refine kx_sld C hX hL (by omega) e1 dL_law_386 ?_
    refine kx_aload_n C dL_law_387 rfl 1 rfl ?_
    refine kx_iload C dL_law_388 5 rfl ?_
    refine kx_iconst (v := nI 3) C dL_law_390 (by decide +kernel) ?_
    refine kx_iadd C dL_law_391 ?_
    refine kx_sld C hX hL (by omega) e2 dL_law_392 ?_
    refine kx_callVi (rest := []) (wr := kOu E ob f :: (kwW E K b y o n ls bc 0 0 P (va_up Wt (sl * 12 + pi) (Wt (sl * 12 + pi) + wt)) Tu Sc Ta Wa He Fk Pk)) C (m_note E J cd n b y o Wt P Rm Ym Tm Cm Km (nI sl) (nI pi) (nI wt) H1 HW) gL_98 3 rfl (by decide +kernel) ⟨Nat.le_of_ble_eq_true rfl, Nat.le_of_ble_eq_true rfl⟩ ⟨by show 20 + t + 0 ≤ 1052; omega, by show 9036 + 6 * t + 6 * 0 ≤ 17276; omega⟩ [0, 1, 2, 3, 4, 5, 6, 7] [8, 9, 10, 11, 12, 13, 14, 15, 16, 17, 18] rfl rfl (by decide) (by decide) (by decide) 0 rfl rfl rfl (Nat.le_of_ble_eq_true rfl) dL_law_393 (fun v w q => ?_)
    refine kx_widen (k := 20 + t) (n := 9036 + 6 * t) (by show 20 + t + 0 ≤ 20 + t; omega) (by show 9036 + 6 * t + 6 * 0 ≤ 9036 + 6 * t; omega) ?_
    rcases q with ⟨s2, p2, w2, g1, es2, g2, ep2, g3, hw3, hw4, hq⟩ | ⟨hb2, rfl, rfl⟩
    · skip
      obtain rfl := nJ g1 (by omega) (by omega)
      obtain rfl := nJ g2 (by omega) (by omega)
      obtain rfl := nJ g3 (by omega) (by omega)
      rcases hq with ⟨hle2, rfl, rfl⟩ | ⟨hgt2, rfl, rfl⟩
      · skip
        refine kx_istore (lv2 := [(6, .int (nI (Wt (sl * 12 + pi) + wt))), (5, .int (nI (0))), (0, .ref (b9)), (1, .ref (K 0)), (2, .ref (J 0)), (3, .ref (ob)), (4, .int (nI (4 * t)))]) C dL_law_396 (by decide) rfl ?_
        refine kx_aload_n C dL_law_398 rfl 4 rfl ?_
        refine kx_callVi (rest := []) (wr := kOu E ob f :: (kwW E K b y o n ls bc 0 0 P (va_up Wt (sl * 12 + pi) (Wt (sl * 12 + pi) + wt)) Tu Sc Ta Wa He Fk Pk)) C (m_thrown E J 0 n b y o (va_up Wt (sl * 12 + pi) (Wt (sl * 12 + pi) + wt)) P Rm Ym Tm Cm Km) gL_86 0 rfl (by decide +kernel) ⟨Nat.le_of_ble_eq_true rfl, Nat.le_of_ble_eq_true rfl⟩ ⟨by show 20 + t + 0 ≤ 1052; omega, by show 9036 + 6 * t + 6 * 0 ≤ 17276; omega⟩ [11, 12, 13, 14, 15, 16, 17, 18] [0, 1, 2, 3, 4, 5, 6, 7, 8, 9, 10] rfl rfl (by decide) (by decide) (by decide) 0 rfl rfl rfl (Nat.le_of_ble_eq_true rfl) dL_law_399 (fun v w q => ?_)
        obtain ⟨rfl, rfl⟩ := q
        refine kx_widen (k := 20 + t) (n := 9036 + 6 * t) (by show 20 + t + 0 ≤ 20 + t; omega) (by show 9036 + 6 * t + 6 * 0 ≤ 9036 + 6 * t; omega) ?_
        refine kx_iload C dL_law_402 1 rfl ?_
        refine kx_icmp_eq (tgt := 409) C (by omega) (by omega) dL_law_404 (by decide) (fun c1 => ?_) (fun c1 => ?_)
        · skip
          refine kx_iload C dL_law_409 1 rfl ?_
          refine kx_if_ne (tgt := 426) C (by omega) dL_law_411 (by decide) (fun c2 => ?_) (fun c2 => ?_)
          · skip
            exact absurd c2 (by decide)
          · skip
            refine kx_aload_n C dL_law_414 rfl 5 rfl ?_
            refine kx_iconst (v := nI 0) C dL_law_415 (by decide +kernel) ?_
            refine kx_laldO (x := (nI (Wt (sl * 12 + pi) + wt)).toInt64) C 0 rfl hf dL_law_416 ?_
            refine kx_iload C dL_law_417 0 rfl ?_
            refine kx_i2l (v := (nI (Wt (sl * 12 + pi) + wt)).toInt64) C dL_law_419 rfl ?_
            refine kx_lcmp_eqR (tgt := 426) C dL_law_420 dL_law_421 (by decide) (fun c3 => ?_) (fun c3 => ?_)
            · skip
              refine kx_goto (tgt := 1319) C dL_law_426 (by decide) ?_
              refine kx_lv (lv2 := [(0, .ref (b9)), (1, .ref (K 0)), (2, .ref (J 0)), (3, .ref (ob)), (4, .int (nI (4 * t)))]) [2, 3, 4, 5, 6] rfl ?_
              exact hB _ _ _ _ _ _ _ _ _ _ _ _ _ _ _ _ _ _ _ _ _ _ _ _ HO2 ⟨H1, Hb, Hy, Ho, HP, up_le HW hle, HRm, HYm, HKm⟩
            · skip
              exact absurd (congrArg Int32.toInt64 rfl) c3
        · skip
          exact absurd c1 (by decide)
      · skip
        exact absurd hle (by omega)
    · skip
      exact absurd ⟨⟨sl, esl, rfl⟩, ⟨pi, epi, rfl⟩, ⟨wt, hw1, hw2, rfl⟩⟩ hb2
  · skip
    replace hx : (kIAE = kIAE ∧ ¬ ((∃ j, j < n ∧ x0 = nI j) ∧ (∃ j, j ≤ 11 ∧ x1 = nI j) ∧ (∃ j, 1 ≤ j ∧ j ≤ 200 ∧ x2 = nI j))) ∧ w9 = (kwW E K b y o n ls bc tk hk P Wt Tu Sc Ta Wa He Fk Pk) := ⟨hx.1.elim id (fun z => absurd z.1 (by decide)), hx.2⟩
    obtain ⟨⟨-, hb⟩, rfl⟩ := hx
    refine kx_istore (lv2 := [(5, .int (nI (1))), (0, .ref (b9)), (1, .ref (K 0)), (2, .ref (J 0)), (3, .ref (ob)), (4, .int (nI (4 * t)))]) C dL_law_372 (by decide) rfl ?_
    refine kx_aload_n C dL_law_374 rfl 3 rfl ?_
    refine kx_aload_n C dL_law_375 rfl 1 rfl ?_
    refine kx_iload C dL_law_376 5 rfl ?_
    refine kx_iconst (v := nI 1) C dL_law_378 (by decide +kernel) ?_
    refine kx_iadd C dL_law_379 ?_
    refine kx_sld C hX hL (by omega) e0 dL_law_380 ?_
    refine kx_aload_n C dL_law_381 rfl 1 rfl ?_
    refine kx_iload C dL_law_382 5 rfl ?_
    refine kx_iconst (v := nI 2) C dL_law_384 (by decide +kernel) ?_
    refine kx_iadd C dL_law_385 ?_
    refine kx_sld C hX hL (by omega) e1 dL_law_386 ?_
    refine kx_aload_n C dL_law_387 rfl 1 rfl ?_
    refine kx_iload C dL_law_388 5 rfl ?_
    refine kx_iconst (v := nI 3) C dL_law_390 (by decide +kernel) ?_
    refine kx_iadd C dL_law_391 ?_
    refine kx_sld C hX hL (by omega) e2 dL_law_392 ?_
    refine kx_callVi (rest := []) (wr := kOu E ob f0 :: (kwW E K b y o n ls bc tk hk P Wt Tu Sc Ta Wa He Fk Pk)) C (m_note E J cd n b y o Wt P Rm Ym Tm Cm Km x0 x1 x2 H1 HW) gL_98 3 rfl (by decide +kernel) ⟨Nat.le_of_ble_eq_true rfl, Nat.le_of_ble_eq_true rfl⟩ ⟨by show 20 + t + 0 ≤ 1052; omega, by show 9036 + 6 * t + 6 * 0 ≤ 17276; omega⟩ [0, 1, 2, 3, 4, 5, 6, 7] [8, 9, 10, 11, 12, 13, 14, 15, 16, 17, 18] rfl rfl (by decide) (by decide) (by decide) 0 rfl rfl rfl (Nat.le_of_ble_eq_true rfl) dL_law_393 (fun v w q => ?_)
    refine kx_widen (k := 20 + t) (n := 9036 + 6 * t) (by show 20 + t + 0 ≤ 20 + t; omega) (by show 9036 + 6 * t + 6 * 0 ≤ 9036 + 6 * t; omega) ?_
    rcases q with ⟨s2, p2, w2, g1, es2, g2, ep2, g3, hw3, hw4, hq⟩ | ⟨hb2, rfl, rfl⟩
    · skip
      exact absurd ⟨⟨s2, es2, g1⟩, ⟨p2, ep2, g2⟩, ⟨w2, hw3, hw4, g3⟩⟩ hb
    · skip
      refine kx_istore (lv2 := [(6, .int (nI 0)), (5, .int (nI (1))), (0, .ref (b9)), (1, .ref (K 0)), (2, .ref (J 0)), (3, .ref (ob)), (4, .int (nI (4 * t)))]) C dL_law_396 (by decide) rfl ?_
      refine kx_aload_n C dL_law_398 rfl 4 rfl ?_
      refine kx_callVi (rest := []) (wr := kOu E ob f0 :: (kwW E K b y o n ls bc tk hk P Wt Tu Sc Ta Wa He Fk Pk)) C (m_thrown E J 1 n b y o Wt P Rm Ym Tm Cm Km) gL_86 0 rfl (by decide +kernel) ⟨Nat.le_of_ble_eq_true rfl, Nat.le_of_ble_eq_true rfl⟩ ⟨by show 20 + t + 0 ≤ 1052; omega, by show 9036 + 6 * t + 6 * 0 ≤ 17276; omega⟩ [11, 12, 13, 14, 15, 16, 17, 18] [0, 1, 2, 3, 4, 5, 6, 7, 8, 9, 10] rfl rfl (by decide) (by decide) (by decide) 0 rfl rfl rfl (Nat.le_of_ble_eq_true rfl) dL_law_399 (fun v w q => ?_)
      obtain ⟨rfl, rfl⟩ := q
      refine kx_widen (k := 20 + t) (n := 9036 + 6 * t) (by show 20 + t + 0 ≤ 20 + t; omega) (by show 9036 + 6 * t + 6 * 0 ≤ 9036 + 6 * t; omega) ?_
      refine kx_iload C dL_law_402 1 rfl ?_
      refine kx_icmp_eq (tgt := 409) C (by omega) (by omega) dL_law_404 (by decide) (fun c4 => ?_) (fun c4 => ?_)
      · skip
        refine kx_iload C dL_law_409 1 rfl ?_
        refine kx_if_ne (tgt := 426) C (by omega) dL_law_411 (by decide) (fun c5 => ?_) (fun c5 => ?_)
        · skip
          refine kx_goto (tgt := 1319) C dL_law_426 (by decide) ?_
          refine kx_lv (lv2 := [(0, .ref (b9)), (1, .ref (K 0)), (2, .ref (J 0)), (3, .ref (ob)), (4, .int (nI (4 * t)))]) [2, 3, 4, 5, 6] rfl ?_
          exact hB _ _ _ _ _ _ _ _ _ _ _ _ _ _ _ _ _ _ _ _ _ _ _ _ HO HM
        · skip
          exact absurd c5 (by decide)
      · skip
        exact absurd c4 (by decide)
  · skip
    replace hx : (kISE = kISE ∧ ∃ sl pi wt, x0 = nI sl ∧ sl < n ∧ x1 = nI pi ∧ pi ≤ 11 ∧ x2 = nI wt ∧ 1 ≤ wt ∧ wt ≤ 200 ∧ 200 < Wt (sl * 12 + pi) + wt) ∧ w9 = (kwW E K b y o n ls bc tk hk P Wt Tu Sc Ta Wa He Fk Pk) := ⟨hx.1.elim (fun z => absurd z.1 (by decide)) id, hx.2⟩
    obtain ⟨⟨-, sl, pi, wt, rfl, esl, rfl, epi, rfl, hw1, hw2, hgt⟩, rfl⟩ := hx
    refine kx_istore (lv2 := [(5, .int (nI (2))), (0, .ref (b9)), (1, .ref (K 0)), (2, .ref (J 0)), (3, .ref (ob)), (4, .int (nI (4 * t)))]) C dL_law_372 (by decide) rfl ?_
    refine kx_aload_n C dL_law_374 rfl 3 rfl ?_
    refine kx_aload_n C dL_law_375 rfl 1 rfl ?_
    refine kx_iload C dL_law_376 5 rfl ?_
    refine kx_iconst (v := nI 1) C dL_law_378 (by decide +kernel) ?_
    refine kx_iadd C dL_law_379 ?_
    refine kx_sld C hX hL (by omega) e0 dL_law_380 ?_
    refine kx_aload_n C dL_law_381 rfl 1 rfl ?_
    refine kx_iload C dL_law_382 5 rfl ?_
    refine kx_iconst (v := nI 2) C dL_law_384 (by decide +kernel) ?_
    refine kx_iadd C dL_law_385 ?_
    refine kx_sld C hX hL (by omega) e1 dL_law_386 ?_
    refine kx_aload_n C dL_law_387 rfl 1 rfl ?_
    refine kx_iload C dL_law_388 5 rfl ?_
    refine kx_iconst (v := nI 3) C dL_law_390 (by decide +kernel) ?_
    refine kx_iadd C dL_law_391 ?_
    refine kx_sld C hX hL (by omega) e2 dL_law_392 ?_
    refine kx_callVi (rest := []) (wr := kOu E ob f0 :: (kwW E K b y o n ls bc tk hk P Wt Tu Sc Ta Wa He Fk Pk)) C (m_note E J cd n b y o Wt P Rm Ym Tm Cm Km (nI sl) (nI pi) (nI wt) H1 HW) gL_98 3 rfl (by decide +kernel) ⟨Nat.le_of_ble_eq_true rfl, Nat.le_of_ble_eq_true rfl⟩ ⟨by show 20 + t + 0 ≤ 1052; omega, by show 9036 + 6 * t + 6 * 0 ≤ 17276; omega⟩ [0, 1, 2, 3, 4, 5, 6, 7] [8, 9, 10, 11, 12, 13, 14, 15, 16, 17, 18] rfl rfl (by decide) (by decide) (by decide) 0 rfl rfl rfl (Nat.le_of_ble_eq_true rfl) dL_law_393 (fun v w q => ?_)
    refine kx_widen (k := 20 + t) (n := 9036 + 6 * t) (by show 20 + t + 0 ≤ 20 + t; omega) (by show 9036 + 6 * t + 6 * 0 ≤ 9036 + 6 * t; omega) ?_
    rcases q with ⟨s2, p2, w2, g1, es2, g2, ep2, g3, hw3, hw4, hq⟩ | ⟨hb2, rfl, rfl⟩
    · skip
      obtain rfl := nJ g1 (by omega) (by omega)
      obtain rfl := nJ g2 (by omega) (by omega)
      obtain rfl := nJ g3 (by omega) (by omega)
      rcases hq with ⟨hle2, rfl, rfl⟩ | ⟨hgt2, rfl, rfl⟩
      · skip
        exact absurd hle2 (by omega)
      · skip
        refine kx_istore (lv2 := [(6, .int (nI 0)), (5, .int (nI (2))), (0, .ref (b9)), (1, .ref (K 0)), (2, .ref (J 0)), (3, .ref (ob)), (4, .int (nI (4 * t)))]) C dL_law_396 (by decide) rfl ?_
        refine kx_aload_n C dL_law_398 rfl 4 rfl ?_
        refine kx_callVi (rest := []) (wr := kOu E ob f0 :: (kwW E K b y o n ls bc tk hk P Wt Tu Sc Ta Wa He Fk Pk)) C (m_thrown E J 2 n b y o Wt P Rm Ym Tm Cm Km) gL_86 0 rfl (by decide +kernel) ⟨Nat.le_of_ble_eq_true rfl, Nat.le_of_ble_eq_true rfl⟩ ⟨by show 20 + t + 0 ≤ 1052; omega, by show 9036 + 6 * t + 6 * 0 ≤ 17276; omega⟩ [11, 12, 13, 14, 15, 16, 17, 18] [0, 1, 2, 3, 4, 5, 6, 7, 8, 9, 10] rfl rfl (by decide) (by decide) (by decide) 0 rfl rfl rfl (Nat.le_of_ble_eq_true rfl) dL_law_399 (fun v w q => ?_)
        obtain ⟨rfl, rfl⟩ := q
        refine kx_widen (k := 20 + t) (n := 9036 + 6 * t) (by show 20 + t + 0 ≤ 20 + t; omega) (by show 9036 + 6 * t + 6 * 0 ≤ 9036 + 6 * t; omega) ?_
        refine kx_iload C dL_law_402 1 rfl ?_
        refine kx_icmp_eq (tgt := 409) C (by omega) (by omega) dL_law_404 (by decide) (fun c6 => ?_) (fun c6 => ?_)
        · skip
          refine kx_iload C dL_law_409 1 rfl ?_
          refine kx_if_ne (tgt := 426) C (by omega) dL_law_411 (by decide) (fun c7 => ?_) (fun c7 => ?_)
          · skip
            refine kx_goto (tgt := 1319) C dL_law_426 (by decide) ?_
            refine kx_lv (lv2 := [(0, .ref (b9)), (1, .ref (K 0)), (2, .ref (J 0)), (3, .ref (ob)), (4, .int (nI (4 * t)))]) [2, 3, 4, 5, 6] rfl ?_
            exact hB _ _ _ _ _ _ _ _ _ _ _ _ _ _ _ _ _ _ _ _ _ _ _ _ HO HM
          · skip
            exact absurd c7 (by decide)
        · skip
          exact absurd c6 (by decide)
    · skip
      exact absurd ⟨⟨sl, esl, rfl⟩, ⟨pi, epi, rfl⟩, ⟨wt, hw1, hw2, rfl⟩⟩ hb2

set_option maxHeartbeats 4000000 in
set_option maxRecDepth 100000 in
theorem lc_fit (E : KE) (G : KG) (C : kc E G cL_law 7 RL) (hHP : kHP (kGs G)) (HX : E.1.stackTraces = false) (K J : Nat → Nat) (ob b9 L t : Nat) (xs : Nat → Int32) (hX : kSc G b9 L xs) (hL : L ≤ 2048) (ht4 : 4 * t + 4 ≤ L) (hB : kLB E G K J ob b9 t) (b y o n ls bc tk hk : Nat) (P Wt Tu Sc Ta Wa He Fk Pk : Nat → Nat) (cd : Nat) (Rm Ym Tm Cm Km : Nat → Nat) (f0 : Nat → Int64) (HO : kOk b y o n ls bc tk hk P Wt Tu Sc Ta Wa He Fk Pk) (HM : kMo n b y o Wt P Rm Ym Km) : kx E room_1 G 7 (19 + t) (9030 + 6 * t) ((kOu E ob f0 :: (kwW E K b y o n ls bc tk hk P Wt Tu Sc Ta Wa He Fk Pk)) ++ (kmW E J cd n b y o Wt P Rm Ym Tm Cm Km)) [(0, .ref (b9)), (1, .ref (K 0)), (2, .ref (J 0)), (3, .ref (ob)), (4, .int (nI (4 * t)))] 473 [] := by
  obtain ⟨H1, Hb, Hy, Ho, HP, HW, HRm, HYm, HKm⟩ := id HM
  obtain ⟨x0, e0⟩ : ∃ x : Int32, xs (4 * t + 1) = x := ⟨_, rfl⟩
  obtain ⟨x1, e1⟩ : ∃ x : Int32, xs (4 * t + 2) = x := ⟨_, rfl⟩
  refine kx_aload_n C dL_law_473 rfl 1 rfl ?_
  refine kx_aload_n C dL_law_474 rfl 0 rfl ?_
  refine kx_iload C dL_law_475 4 rfl ?_
  refine kx_iconst (v := nI 1) C dL_law_477 (by decide +kernel) ?_
  refine kx_iadd C dL_law_478 ?_
  refine kx_sld C hX hL (by omega) e0 dL_law_479 ?_
  refine kx_aload_n C dL_law_480 rfl 0 rfl ?_
  refine kx_iload C dL_law_481 4 rfl ?_
  refine kx_iconst (v := nI 2) C dL_law_483 (by decide +kernel) ?_
  refine kx_iadd C dL_law_484 ?_
  refine kx_sld C hX hL (by omega) e1 dL_law_485 ?_
  refine kx_aload_n C dL_law_486 rfl 3 rfl ?_
  refine kx_callSH (rest := []) (wr := (kmW E J cd n b y o Wt P Rm Ym Tm Cm Km)) C hHP (l_fit E K b y o n ls bc tk hk P Wt Tu Sc Ta Wa He Fk Pk ob f0 x0 x1 (c_fit E K b y o n ls bc tk hk P Wt Tu Sc Ta Wa He Fk Pk x0 x1 HX HO) (fun _ _ h => h.1)) (kgH mL_102 sm_L_fit ini_KeyWalksLaw cw_fit) 4 rfl (by decide +kernel) ⟨Nat.le_of_ble_eq_true rfl, Nat.le_of_ble_eq_true rfl⟩ ⟨by show 19 + t + 1 ≤ 1052; omega, by show 9030 + 6 * t + 6 * 1 ≤ 17276; omega⟩ [0, 1, 2, 3, 4, 5, 6, 7, 8, 9, 10] [11, 12, 13, 14, 15, 16, 17, 18] rfl rfl (by decide) (by decide) (by decide) rfl (Nat.le_of_ble_eq_true rfl) dL_law_487 (fun v w q => ?_)
  refine kx_widen (k := 20 + t) (n := 9036 + 6 * t) (by show 19 + t + 1 ≤ 20 + t; omega) (by show 9030 + 6 * t + 6 * 1 ≤ 9036 + 6 * t; omega) ?_
  rcases q with ⟨rfl, r9, w9, f, hp, hf, rfl⟩ | ⟨rfl, w9, hx, rfl⟩
  · skip
    obtain ⟨sl, k, rfl, esl, rfl, ek, rfl, rfl⟩ := hp
    refine kx_istore (lv2 := [(5, .int (nI (0))), (0, .ref (b9)), (1, .ref (K 0)), (2, .ref (J 0)), (3, .ref (ob)), (4, .int (nI (4 * t)))]) C dL_law_490 (by decide) rfl ?_
    refine kx_aload_n C dL_law_492 rfl 3 rfl ?_
    refine kx_aload_n C dL_law_493 rfl 1 rfl ?_
    refine kx_iload C dL_law_494 5 rfl ?_
    refine kx_iconst (v := nI 1) C dL_law_496 (by decide +kernel) ?_
    refine kx_iadd C dL_law_497 ?_
    refine kx_sld C hX hL (by omega) e0 dL_law_498 ?_
    refine kx_aload_n C dL_law_499 rfl 1 rfl ?_
    refine kx_iload C dL_law_500 5 rfl ?_
    refine kx_iconst (v := nI 2) C dL_law_502 (by decide +kernel) ?_
    refine kx_iadd C dL_law_503 ?_
    refine kx_sld C hX hL (by omega) e1 dL_law_504 ?_
    refine kx_callVi (rest := []) (wr := kOu E ob f :: (kwW E K b y o n ls bc tk hk P Wt Tu Sc Ta Wa He Fk Pk)) C (m_fit E J cd n b y o Wt P Rm Ym Tm Cm Km (nI sl) (nI k) H1) gL_105 2 rfl (by decide +kernel) ⟨Nat.le_of_ble_eq_true rfl, Nat.le_of_ble_eq_true rfl⟩ ⟨by show 20 + t + 0 ≤ 1052; omega, by show 9036 + 6 * t + 6 * 0 ≤ 17276; omega⟩ [0, 1, 2, 3, 4, 5, 6, 7] [8, 9, 10, 11, 12, 13, 14, 15, 16, 17, 18] rfl rfl (by decide) (by decide) (by decide) 0 rfl rfl rfl (Nat.le_of_ble_eq_true rfl) dL_law_505 (fun v w q => ?_)
    refine kx_widen (k := 20 + t) (n := 9036 + 6 * t) (by show 20 + t + 0 ≤ 20 + t; omega) (by show 9036 + 6 * t + 6 * 0 ≤ 9036 + 6 * t; omega) ?_
    rcases q with ⟨s2, k2, g1, es2, g2, ek2, rfl, rfl⟩ | ⟨hb2, -, -⟩
    · skip
      obtain rfl := nJ g1 (by omega) (by omega)
      obtain rfl := nJ g2 (by omega) (by omega)
      refine kx_istore (lv2 := [(6, .int (nI (fitN P Wt sl k))), (5, .int (nI (0))), (0, .ref (b9)), (1, .ref (K 0)), (2, .ref (J 0)), (3, .ref (ob)), (4, .int (nI (4 * t)))]) C dL_law_508 (by decide) rfl ?_
      refine kx_aload_n C dL_law_510 rfl 4 rfl ?_
      refine kx_callVi (rest := []) (wr := kOu E ob f :: (kwW E K b y o n ls bc tk hk P Wt Tu Sc Ta Wa He Fk Pk)) C (m_thrown E J 0 n b y o Wt P Rm Ym Tm Cm Km) gL_86 0 rfl (by decide +kernel) ⟨Nat.le_of_ble_eq_true rfl, Nat.le_of_ble_eq_true rfl⟩ ⟨by show 20 + t + 0 ≤ 1052; omega, by show 9036 + 6 * t + 6 * 0 ≤ 17276; omega⟩ [11, 12, 13, 14, 15, 16, 17, 18] [0, 1, 2, 3, 4, 5, 6, 7, 8, 9, 10] rfl rfl (by decide) (by decide) (by decide) 0 rfl rfl rfl (Nat.le_of_ble_eq_true rfl) dL_law_511 (fun v w q => ?_)
      obtain ⟨rfl, rfl⟩ := q
      refine kx_widen (k := 20 + t) (n := 9036 + 6 * t) (by show 20 + t + 0 ≤ 20 + t; omega) (by show 9036 + 6 * t + 6 * 0 ≤ 9036 + 6 * t; omega) ?_
      refine kx_iload C dL_law_514 1 rfl ?_
      refine kx_icmp_eq (tgt := 521) C (by omega) (by omega) dL_law_516 (by decide) (fun c1 => ?_) (fun c1 => ?_)
      · skip
        refine kx_iload C dL_law_521 1 rfl ?_
        refine kx_if_ne (tgt := 538) C (by omega) dL_law_523 (by decide) (fun c2 => ?_) (fun c2 => ?_)
        · skip
          exact absurd c2 (by decide)
        · skip
          refine kx_aload_n C dL_law_526 rfl 5 rfl ?_
          refine kx_iconst (v := nI 0) C dL_law_527 (by decide +kernel) ?_
          refine kx_laldO (x := (nI (fitN P Wt sl k)).toInt64) C 0 rfl hf dL_law_528 ?_
          refine kx_iload C dL_law_529 0 rfl ?_
          refine kx_i2l (v := (nI (fitN P Wt sl k)).toInt64) C dL_law_531 rfl ?_
          refine kx_lcmp_eqR (tgt := 538) C dL_law_532 dL_law_533 (by decide) (fun c3 => ?_) (fun c3 => ?_)
          · skip
            refine kx_goto (tgt := 1319) C dL_law_538 (by decide) ?_
            refine kx_lv (lv2 := [(0, .ref (b9)), (1, .ref (K 0)), (2, .ref (J 0)), (3, .ref (ob)), (4, .int (nI (4 * t)))]) [2, 3, 4, 5, 6] rfl ?_
            exact hB _ _ _ _ _ _ _ _ _ _ _ _ _ _ _ _ _ _ _ _ _ _ _ _ HO HM
          · skip
            exact absurd (congrArg Int32.toInt64 rfl) c3
      · skip
        exact absurd c1 (by decide)
    · skip
      exact absurd ⟨⟨sl, esl, rfl⟩, ⟨k, ek, rfl⟩⟩ hb2
  · skip
    obtain ⟨-, hb, rfl⟩ := hx
    refine kx_istore (lv2 := [(5, .int (nI (1))), (0, .ref (b9)), (1, .ref (K 0)), (2, .ref (J 0)), (3, .ref (ob)), (4, .int (nI (4 * t)))]) C dL_law_490 (by decide) rfl ?_
    refine kx_aload_n C dL_law_492 rfl 3 rfl ?_
    refine kx_aload_n C dL_law_493 rfl 1 rfl ?_
    refine kx_iload C dL_law_494 5 rfl ?_
    refine kx_iconst (v := nI 1) C dL_law_496 (by decide +kernel) ?_
    refine kx_iadd C dL_law_497 ?_
    refine kx_sld C hX hL (by omega) e0 dL_law_498 ?_
    refine kx_aload_n C dL_law_499 rfl 1 rfl ?_
    refine kx_iload C dL_law_500 5 rfl ?_
    refine kx_iconst (v := nI 2) C dL_law_502 (by decide +kernel) ?_
    refine kx_iadd C dL_law_503 ?_
    refine kx_sld C hX hL (by omega) e1 dL_law_504 ?_
    refine kx_callVi (rest := []) (wr := kOu E ob f0 :: (kwW E K b y o n ls bc tk hk P Wt Tu Sc Ta Wa He Fk Pk)) C (m_fit E J cd n b y o Wt P Rm Ym Tm Cm Km x0 x1 H1) gL_105 2 rfl (by decide +kernel) ⟨Nat.le_of_ble_eq_true rfl, Nat.le_of_ble_eq_true rfl⟩ ⟨by show 20 + t + 0 ≤ 1052; omega, by show 9036 + 6 * t + 6 * 0 ≤ 17276; omega⟩ [0, 1, 2, 3, 4, 5, 6, 7] [8, 9, 10, 11, 12, 13, 14, 15, 16, 17, 18] rfl rfl (by decide) (by decide) (by decide) 0 rfl rfl rfl (Nat.le_of_ble_eq_true rfl) dL_law_505 (fun v w q => ?_)
    refine kx_widen (k := 20 + t) (n := 9036 + 6 * t) (by show 20 + t + 0 ≤ 20 + t; omega) (by show 9036 + 6 * t + 6 * 0 ≤ 9036 + 6 * t; omega) ?_
    rcases q with ⟨s2, k2, g1, es2, g2, ek2, -, -⟩ | ⟨-, rfl, rfl⟩
    · skip
      exact absurd ⟨⟨s2, es2, g1⟩, ⟨k2, ek2, g2⟩⟩ hb
    · skip
      refine kx_istore (lv2 := [(6, .int (nI 0)), (5, .int (nI (1))), (0, .ref (b9)), (1, .ref (K 0)), (2, .ref (J 0)), (3, .ref (ob)), (4, .int (nI (4 * t)))]) C dL_law_508 (by decide) rfl ?_
      refine kx_aload_n C dL_law_510 rfl 4 rfl ?_
      refine kx_callVi (rest := []) (wr := kOu E ob f0 :: (kwW E K b y o n ls bc tk hk P Wt Tu Sc Ta Wa He Fk Pk)) C (m_thrown E J 1 n b y o Wt P Rm Ym Tm Cm Km) gL_86 0 rfl (by decide +kernel) ⟨Nat.le_of_ble_eq_true rfl, Nat.le_of_ble_eq_true rfl⟩ ⟨by show 20 + t + 0 ≤ 1052; omega, by show 9036 + 6 * t + 6 * 0 ≤ 17276; omega⟩ [11, 12, 13, 14, 15, 16, 17, 18] [0, 1, 2, 3, 4, 5, 6, 7, 8, 9, 10] rfl rfl (by decide) (by decide) (by decide) 0 rfl rfl rfl (Nat.le_of_ble_eq_true rfl) dL_law_511 (fun v w q => ?_)
      obtain ⟨rfl, rfl⟩ := q
      refine kx_widen (k := 20 + t) (n := 9036 + 6 * t) (by show 20 + t + 0 ≤ 20 + t; omega) (by show 9036 + 6 * t + 6 * 0 ≤ 9036 + 6 * t; omega) ?_
      refine kx_iload C dL_law_514 1 rfl ?_
      refine kx_icmp_eq (tgt := 521) C (by omega) (by omega) dL_law_516 (by decide) (fun c4 => ?_) (fun c4 => ?_)
      · skip
        refine kx_iload C dL_law_521 1 rfl ?_
        refine kx_if_ne (tgt := 538) C (by omega) dL_law_523 (by decide) (fun c5 => ?_) (fun c5 => ?_)
        · skip
          refine kx_goto (tgt := 1319) C dL_law_538 (by decide) ?_
          refine kx_lv (lv2 := [(0, .ref (b9)), (1, .ref (K 0)), (2, .ref (J 0)), (3, .ref (ob)), (4, .int (nI (4 * t)))]) [2, 3, 4, 5, 6] rfl ?_
          exact hB _ _ _ _ _ _ _ _ _ _ _ _ _ _ _ _ _ _ _ _ _ _ _ _ HO HM
        · skip
          exact absurd c5 (by decide)
      · skip
        exact absurd c4 (by decide)

set_option maxHeartbeats 4000000 in
set_option maxRecDepth 100000 in
theorem lc_cost (E : KE) (G : KG) (C : kc E G cL_law 7 RL) (hHP : kHP (kGs G)) (HX : E.1.stackTraces = false) (K J : Nat → Nat) (ob b9 L t : Nat) (xs : Nat → Int32) (hX : kSc G b9 L xs) (hL : L ≤ 2048) (ht4 : 4 * t + 4 ≤ L) (hB : kLB E G K J ob b9 t) (b y o n ls bc tk hk : Nat) (P Wt Tu Sc Ta Wa He Fk Pk : Nat → Nat) (cd : Nat) (Rm Ym Tm Cm Km : Nat → Nat) (f0 : Nat → Int64) (HO : kOk b y o n ls bc tk hk P Wt Tu Sc Ta Wa He Fk Pk) (HM : kMo n b y o Wt P Rm Ym Km) : kx E room_1 G 7 (19 + t) (9030 + 6 * t) ((kOu E ob f0 :: (kwW E K b y o n ls bc tk hk P Wt Tu Sc Ta Wa He Fk Pk)) ++ (kmW E J cd n b y o Wt P Rm Ym Tm Cm Km)) [(0, .ref (b9)), (1, .ref (K 0)), (2, .ref (J 0)), (3, .ref (ob)), (4, .int (nI (4 * t)))] 541 [] := by
  obtain ⟨H1, Hb, Hy, Ho, HP, HW, HRm, HYm, HKm⟩ := id HM
  obtain ⟨x0, e0⟩ : ∃ x : Int32, xs (4 * t + 1) = x := ⟨_, rfl⟩
  obtain ⟨x1, e1⟩ : ∃ x : Int32, xs (4 * t + 2) = x := ⟨_, rfl⟩
  refine kx_aload_n C dL_law_541 rfl 1 rfl ?_
  refine kx_aload_n C dL_law_542 rfl 0 rfl ?_
  refine kx_iload C dL_law_543 4 rfl ?_
  refine kx_iconst (v := nI 1) C dL_law_545 (by decide +kernel) ?_
  refine kx_iadd C dL_law_546 ?_
  refine kx_sld C hX hL (by omega) e0 dL_law_547 ?_
  refine kx_aload_n C dL_law_548 rfl 0 rfl ?_
  refine kx_iload C dL_law_549 4 rfl ?_
  refine kx_iconst (v := nI 2) C dL_law_551 (by decide +kernel) ?_
  refine kx_iadd C dL_law_552 ?_
  refine kx_sld C hX hL (by omega) e1 dL_law_553 ?_
  refine kx_aload_n C dL_law_554 rfl 3 rfl ?_
  refine kx_callSH (rest := []) (wr := (kmW E J cd n b y o Wt P Rm Ym Tm Cm Km)) C hHP (l_cost E K b y o n ls bc tk hk P Wt Tu Sc Ta Wa He Fk Pk ob f0 x0 x1 (c_cost E K b y o n ls bc tk hk P Wt Tu Sc Ta Wa He Fk Pk x0 x1 HX HO) (fun _ _ h => h.1)) (kgH mL_106 sm_L_cost ini_KeyWalksLaw cw_cost) 4 rfl (by decide +kernel) ⟨Nat.le_of_ble_eq_true rfl, Nat.le_of_ble_eq_true rfl⟩ ⟨by show 19 + t + 1 ≤ 1052; omega, by show 9030 + 6 * t + 6 * 1 ≤ 17276; omega⟩ [0, 1, 2, 3, 4, 5, 6, 7, 8, 9, 10] [11, 12, 13, 14, 15, 16, 17, 18] rfl rfl (by decide) (by decide) (by decide) rfl (Nat.le_of_ble_eq_true rfl) dL_law_555 (fun v w q => ?_)
  refine kx_widen (k := 20 + t) (n := 9036 + 6 * t) (by show 19 + t + 1 ≤ 20 + t; omega) (by show 9030 + 6 * t + 6 * 1 ≤ 9036 + 6 * t; omega) ?_
  rcases q with ⟨rfl, r9, w9, f, hp, hf, rfl⟩ | ⟨rfl, w9, hx, rfl⟩
  · skip
    obtain ⟨sl, k, rfl, esl, rfl, ek, rfl, rfl⟩ := hp
    refine kx_istore (lv2 := [(5, .int (nI (0))), (0, .ref (b9)), (1, .ref (K 0)), (2, .ref (J 0)), (3, .ref (ob)), (4, .int (nI (4 * t)))]) C dL_law_558 (by decide) rfl ?_
    refine kx_aload_n C dL_law_560 rfl 3 rfl ?_
    refine kx_aload_n C dL_law_561 rfl 1 rfl ?_
    refine kx_iload C dL_law_562 5 rfl ?_
    refine kx_iconst (v := nI 1) C dL_law_564 (by decide +kernel) ?_
    refine kx_iadd C dL_law_565 ?_
    refine kx_sld C hX hL (by omega) e0 dL_law_566 ?_
    refine kx_aload_n C dL_law_567 rfl 1 rfl ?_
    refine kx_iload C dL_law_568 5 rfl ?_
    refine kx_iconst (v := nI 2) C dL_law_570 (by decide +kernel) ?_
    refine kx_iadd C dL_law_571 ?_
    refine kx_sld C hX hL (by omega) e1 dL_law_572 ?_
    refine kx_callVi (rest := []) (wr := kOu E ob f :: (kwW E K b y o n ls bc tk hk P Wt Tu Sc Ta Wa He Fk Pk)) C (m_cost E J cd n b y o Wt P Rm Ym Tm Cm Km (nI sl) (nI k) H1 HP HW) gL_108 2 rfl (by decide +kernel) ⟨Nat.le_of_ble_eq_true rfl, Nat.le_of_ble_eq_true rfl⟩ ⟨by show 20 + t + 0 ≤ 1052; omega, by show 9036 + 6 * t + 6 * 0 ≤ 17276; omega⟩ [0, 1, 2, 3, 4, 5, 6, 7] [8, 9, 10, 11, 12, 13, 14, 15, 16, 17, 18] rfl rfl (by decide) (by decide) (by decide) 0 rfl rfl rfl (Nat.le_of_ble_eq_true rfl) dL_law_573 (fun v w q => ?_)
    refine kx_widen (k := 20 + t) (n := 9036 + 6 * t) (by show 20 + t + 0 ≤ 20 + t; omega) (by show 9036 + 6 * t + 6 * 0 ≤ 9036 + 6 * t; omega) ?_
    rcases q with ⟨s2, k2, g1, es2, g2, ek2, rfl, rfl⟩ | ⟨hb2, -, -⟩
    · skip
      obtain rfl := nJ g1 (by omega) (by omega)
      obtain rfl := nJ g2 (by omega) (by omega)
      refine kx_istore (lv2 := [(6, .int (nI (costN P Wt sl k))), (5, .int (nI (0))), (0, .ref (b9)), (1, .ref (K 0)), (2, .ref (J 0)), (3, .ref (ob)), (4, .int (nI (4 * t)))]) C dL_law_576 (by decide) rfl ?_
      refine kx_aload_n C dL_law_578 rfl 4 rfl ?_
      refine kx_callVi (rest := []) (wr := kOu E ob f :: (kwW E K b y o n ls bc tk hk P Wt Tu Sc Ta Wa He Fk Pk)) C (m_thrown E J 0 n b y o Wt P Rm Ym Tm Cm Km) gL_86 0 rfl (by decide +kernel) ⟨Nat.le_of_ble_eq_true rfl, Nat.le_of_ble_eq_true rfl⟩ ⟨by show 20 + t + 0 ≤ 1052; omega, by show 9036 + 6 * t + 6 * 0 ≤ 17276; omega⟩ [11, 12, 13, 14, 15, 16, 17, 18] [0, 1, 2, 3, 4, 5, 6, 7, 8, 9, 10] rfl rfl (by decide) (by decide) (by decide) 0 rfl rfl rfl (Nat.le_of_ble_eq_true rfl) dL_law_579 (fun v w q => ?_)
      obtain ⟨rfl, rfl⟩ := q
      refine kx_widen (k := 20 + t) (n := 9036 + 6 * t) (by show 20 + t + 0 ≤ 20 + t; omega) (by show 9036 + 6 * t + 6 * 0 ≤ 9036 + 6 * t; omega) ?_
      refine kx_iload C dL_law_582 1 rfl ?_
      refine kx_icmp_eq (tgt := 589) C (by omega) (by omega) dL_law_584 (by decide) (fun c1 => ?_) (fun c1 => ?_)
      · skip
        refine kx_iload C dL_law_589 1 rfl ?_
        refine kx_if_ne (tgt := 606) C (by omega) dL_law_591 (by decide) (fun c2 => ?_) (fun c2 => ?_)
        · skip
          exact absurd c2 (by decide)
        · skip
          refine kx_aload_n C dL_law_594 rfl 5 rfl ?_
          refine kx_iconst (v := nI 0) C dL_law_595 (by decide +kernel) ?_
          refine kx_laldO (x := (nI (costN P Wt sl k)).toInt64) C 0 rfl hf dL_law_596 ?_
          refine kx_iload C dL_law_597 0 rfl ?_
          refine kx_i2l (v := (nI (costN P Wt sl k)).toInt64) C dL_law_599 rfl ?_
          refine kx_lcmp_eqR (tgt := 606) C dL_law_600 dL_law_601 (by decide) (fun c3 => ?_) (fun c3 => ?_)
          · skip
            refine kx_goto (tgt := 1319) C dL_law_606 (by decide) ?_
            refine kx_lv (lv2 := [(0, .ref (b9)), (1, .ref (K 0)), (2, .ref (J 0)), (3, .ref (ob)), (4, .int (nI (4 * t)))]) [2, 3, 4, 5, 6] rfl ?_
            exact hB _ _ _ _ _ _ _ _ _ _ _ _ _ _ _ _ _ _ _ _ _ _ _ _ HO HM
          · skip
            exact absurd (congrArg Int32.toInt64 rfl) c3
      · skip
        exact absurd c1 (by decide)
    · skip
      exact absurd ⟨⟨sl, esl, rfl⟩, ⟨k, ek, rfl⟩⟩ hb2
  · skip
    obtain ⟨-, hb, rfl⟩ := hx
    refine kx_istore (lv2 := [(5, .int (nI (1))), (0, .ref (b9)), (1, .ref (K 0)), (2, .ref (J 0)), (3, .ref (ob)), (4, .int (nI (4 * t)))]) C dL_law_558 (by decide) rfl ?_
    refine kx_aload_n C dL_law_560 rfl 3 rfl ?_
    refine kx_aload_n C dL_law_561 rfl 1 rfl ?_
    refine kx_iload C dL_law_562 5 rfl ?_
    refine kx_iconst (v := nI 1) C dL_law_564 (by decide +kernel) ?_
    refine kx_iadd C dL_law_565 ?_
    refine kx_sld C hX hL (by omega) e0 dL_law_566 ?_
    refine kx_aload_n C dL_law_567 rfl 1 rfl ?_
    refine kx_iload C dL_law_568 5 rfl ?_
    refine kx_iconst (v := nI 2) C dL_law_570 (by decide +kernel) ?_
    refine kx_iadd C dL_law_571 ?_
    refine kx_sld C hX hL (by omega) e1 dL_law_572 ?_
    refine kx_callVi (rest := []) (wr := kOu E ob f0 :: (kwW E K b y o n ls bc tk hk P Wt Tu Sc Ta Wa He Fk Pk)) C (m_cost E J cd n b y o Wt P Rm Ym Tm Cm Km x0 x1 H1 HP HW) gL_108 2 rfl (by decide +kernel) ⟨Nat.le_of_ble_eq_true rfl, Nat.le_of_ble_eq_true rfl⟩ ⟨by show 20 + t + 0 ≤ 1052; omega, by show 9036 + 6 * t + 6 * 0 ≤ 17276; omega⟩ [0, 1, 2, 3, 4, 5, 6, 7] [8, 9, 10, 11, 12, 13, 14, 15, 16, 17, 18] rfl rfl (by decide) (by decide) (by decide) 0 rfl rfl rfl (Nat.le_of_ble_eq_true rfl) dL_law_573 (fun v w q => ?_)
    refine kx_widen (k := 20 + t) (n := 9036 + 6 * t) (by show 20 + t + 0 ≤ 20 + t; omega) (by show 9036 + 6 * t + 6 * 0 ≤ 9036 + 6 * t; omega) ?_
    rcases q with ⟨s2, k2, g1, es2, g2, ek2, -, -⟩ | ⟨-, rfl, rfl⟩
    · skip
      exact absurd ⟨⟨s2, es2, g1⟩, ⟨k2, ek2, g2⟩⟩ hb
    · skip
      refine kx_istore (lv2 := [(6, .int (nI 0)), (5, .int (nI (1))), (0, .ref (b9)), (1, .ref (K 0)), (2, .ref (J 0)), (3, .ref (ob)), (4, .int (nI (4 * t)))]) C dL_law_576 (by decide) rfl ?_
      refine kx_aload_n C dL_law_578 rfl 4 rfl ?_
      refine kx_callVi (rest := []) (wr := kOu E ob f0 :: (kwW E K b y o n ls bc tk hk P Wt Tu Sc Ta Wa He Fk Pk)) C (m_thrown E J 1 n b y o Wt P Rm Ym Tm Cm Km) gL_86 0 rfl (by decide +kernel) ⟨Nat.le_of_ble_eq_true rfl, Nat.le_of_ble_eq_true rfl⟩ ⟨by show 20 + t + 0 ≤ 1052; omega, by show 9036 + 6 * t + 6 * 0 ≤ 17276; omega⟩ [11, 12, 13, 14, 15, 16, 17, 18] [0, 1, 2, 3, 4, 5, 6, 7, 8, 9, 10] rfl rfl (by decide) (by decide) (by decide) 0 rfl rfl rfl (Nat.le_of_ble_eq_true rfl) dL_law_579 (fun v w q => ?_)
      obtain ⟨rfl, rfl⟩ := q
      refine kx_widen (k := 20 + t) (n := 9036 + 6 * t) (by show 20 + t + 0 ≤ 20 + t; omega) (by show 9036 + 6 * t + 6 * 0 ≤ 9036 + 6 * t; omega) ?_
      refine kx_iload C dL_law_582 1 rfl ?_
      refine kx_icmp_eq (tgt := 589) C (by omega) (by omega) dL_law_584 (by decide) (fun c4 => ?_) (fun c4 => ?_)
      · skip
        refine kx_iload C dL_law_589 1 rfl ?_
        refine kx_if_ne (tgt := 606) C (by omega) dL_law_591 (by decide) (fun c5 => ?_) (fun c5 => ?_)
        · skip
          refine kx_goto (tgt := 1319) C dL_law_606 (by decide) ?_
          refine kx_lv (lv2 := [(0, .ref (b9)), (1, .ref (K 0)), (2, .ref (J 0)), (3, .ref (ob)), (4, .int (nI (4 * t)))]) [2, 3, 4, 5, 6] rfl ?_
          exact hB _ _ _ _ _ _ _ _ _ _ _ _ _ _ _ _ _ _ _ _ _ _ _ _ HO HM
        · skip
          exact absurd c5 (by decide)
      · skip
        exact absurd c4 (by decide)
