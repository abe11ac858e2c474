set_option maxHeartbeats 4000000 in
set_option maxRecDepth 100000 in
theorem law_loop (E : KE) (G : KG) (C : kc E G cL_law 7 RL) (hHP : kHP (kGs G)) (HX : E.1.stackTraces = false) (K J : Nat → Nat) (ob b9 L : Nat) (xs : Nat → Int32) (hX : kSc G b9 L xs) (hL : L ≤ 2048) (hE : ∀ {cells slots : Nat} {ws : va_W} {lv : List (Nat × Value)} {pc : Nat}, cells ≤ 1052 → slots ≤ 17276 → decode cL_law pc = .ok (.ireturn, 1) → kx E room_1 G 7 cells slots ws lv pc [.int (nI 1)]) : ∀ (N t : Nat) (b y o n ls bc tk hk : Nat) (P Wt Tu Sc Ta Wa He Fk Pk : Nat → Nat) (cd : Nat) (Rm Ym Tm Cm Km : Nat → Nat) (f0 : Nat → Int64), 4 * t ≤ 2048 → L < 4 * t + 4 * N + 4 → kOk b y o n ls bc tk hk P Wt Tu Sc Ta Wa He Fk Pk → kMo n b y o Wt P Rm Ym Km → kx E room_1 G 7 (19 + t) (9030 + 6 * t) ((kOu E ob f0 :: (kwW E K b y o n ls bc tk hk P Wt Tu Sc Ta Wa He Fk Pk)) ++ (kmW E J cd n b y o Wt P Rm Ym Tm Cm Km)) [(0, .ref (b9)), (1, .ref (K 0)), (2, .ref (J 0)), (3, .ref (ob)), (4, .int (nI (4 * t)))] 23 [] := by
  intro N
  induction N with
  | zero =>
    intro t b y o n ls bc tk hk P Wt Tu Sc Ta Wa He Fk Pk cd Rm Ym Tm Cm Km f0 ht hm HO HM
    exact law_exit E G C hHP HX K J ob b9 L xs hX hL hE t ht (by omega) b y o n ls bc tk hk P Wt Tu Sc Ta Wa He Fk Pk cd Rm Ym Tm Cm Km f0
  | succ N ih =>
    intro t b y o n ls bc tk hk P Wt Tu Sc Ta Wa He Fk Pk cd Rm Ym Tm Cm Km f0 ht hm HO HM
    by_cases hx4 : L < 4 * t + 4
    · exact law_exit E G C hHP HX K J ob b9 L xs hX hL hE t ht hx4 b y o n ls bc tk hk P Wt Tu Sc Ta Wa He Fk Pk cd Rm Ym Tm Cm Km f0
    have ht4 : 4 * t + 4 ≤ L := by omega
    have hB : kLB E G K J ob b9 t := by
      intro b y o n ls bc tk hk P Wt Tu Sc Ta Wa He Fk Pk cd Rm Ym Tm Cm Km f0 HO HM
      refine kx_iinc (v := nI (4 * (t + 1))) (lv2 := [(4, .int (nI (4 * (t + 1)))), (0, .ref (b9)), (1, .ref (K 0)), (2, .ref (J 0)), (3, .ref (ob))]) C dL_law_1319 4 rfl (by rw [show Int32.ofInt 4 = nI 4 by decide +kernel, nI_add]; rfl) (by decide) rfl ?_
      refine kx_goto (tgt := 23) C dL_law_1322 (by decide) ?_
      refine kx_lv (lv2 := [(0, .ref (b9)), (1, .ref (K 0)), (2, .ref (J 0)), (3, .ref (ob)), (4, .int (nI (4 * (t + 1))))]) [1, 2, 3, 4, 0] rfl ?_
      refine kx_widen (k := 19 + (t + 1)) (n := 9030 + 6 * (t + 1)) (by omega) (by omega) ?_
      exact ih (t + 1) b y o n ls bc tk hk P Wt Tu Sc Ta Wa He Fk Pk cd Rm Ym Tm Cm Km f0 (by omega) (by omega) HO HM
    refine kx_iload C dL_law_23 4 rfl ?_
    refine kx_aload_n C dL_law_25 rfl 0 rfl ?_
    refine kx_slen C hX dL_law_26 ?_
    refine kx_iconst (v := nI 4) C dL_law_27 (by decide +kernel) ?_
    refine kx_isubR C dL_law_28 ?_
    refine kx_icmp_gtR (tgt := 1325) C dL_law_29 (by decide) (fun c1 => ?_) (fun c1 => ?_)
    · exact absurd ((k_gt4 hL (by omega)).mp c1) hx4
    refine kx_aload_n C dL_law_32 rfl 0 rfl ?_
    refine kx_iload C dL_law_33 4 rfl ?_
    obtain ⟨w0, e0⟩ : ∃ x : Int32, xs (4 * t) = x := ⟨_, rfl⟩
    refine kx_sld C hX hL (by omega) e0 dL_law_35 ?_
    refine kx_bipush (v := nI 31) C dL_law_36 (by decide +kernel) ?_
    refine kx_iandR C dL_law_38 ?_
    obtain ⟨j, hj, ej⟩ := k_and31 w0
    refine kx_topi ej ?_
    by_cases h0 : j = 0
    · subst h0
      refine kx_tsIn (off := 93) (tgt := 132) C dL_law_39 (by decide +kernel) (by decide +kernel) (by decide +kernel) (by decide) ?_
      exact lc_clear E G C hHP HX K J ob b9 L t xs hX hL ht4 hB b y o n ls bc tk hk P Wt Tu Sc Ta Wa He Fk Pk cd Rm Ym Tm Cm Km f0 HO HM
    by_cases h1 : j = 1
    · subst h1
      refine kx_tsIn (off := 106) (tgt := 145) C dL_law_39 (by decide +kernel) (by decide +kernel) (by decide +kernel) (by decide) ?_
      exact lc_profile E G C hHP HX K J ob b9 L t xs hX hL ht4 hB b y o n ls bc tk hk P Wt Tu Sc Ta Wa He Fk Pk cd Rm Ym Tm Cm Km f0 HO HM
    by_cases h2 : j = 2
    · subst h2
      refine kx_tsIn (off := 186) (tgt := 225) C dL_law_39 (by decide +kernel) (by decide +kernel) (by decide +kernel) (by decide) ?_
      exact lc_costs E G C hHP HX K J ob b9 L t xs hX hL ht4 hB b y o n ls bc tk hk P Wt Tu Sc Ta Wa He Fk Pk cd Rm Ym Tm Cm Km f0 HO HM
    by_cases h3 : j = 3
    · subst h3
      refine kx_tsIn (off := 266) (tgt := 305) C dL_law_39 (by decide +kernel) (by decide +kernel) (by decide +kernel) (by decide) ?_
      exact lc_slice E G C hHP HX K J ob b9 L t xs hX hL ht4 hB b y o n ls bc tk hk P Wt Tu Sc Ta Wa He Fk Pk cd Rm Ym Tm Cm Km f0 HO HM
    by_cases h4 : j = 4
    · subst h4
      refine kx_tsIn (off := 310) (tgt := 349) C dL_law_39 (by decide +kernel) (by decide +kernel) (by decide +kernel) (by decide) ?_
      exact lc_note E G C hHP HX K J ob b9 L t xs hX hL ht4 hB b y o n ls bc tk hk P Wt Tu Sc Ta Wa He Fk Pk cd Rm Ym Tm Cm Km f0 HO HM
    by_cases h5 : j = 5
    · subst h5
      refine kx_tsIn (off := 390) (tgt := 429) C dL_law_39 (by decide +kernel) (by decide +kernel) (by decide +kernel) (by decide) ?_
      exact lc_drop E G C hHP HX K J ob b9 L t xs hX hL ht4 hB b y o n ls bc tk hk P Wt Tu Sc Ta Wa He Fk Pk cd Rm Ym Tm Cm Km f0 HO HM
    by_cases h6 : j = 6
    · subst h6
      refine kx_tsIn (off := 434) (tgt := 473) C dL_law_39 (by decide +kernel) (by decide +kernel) (by decide +kernel) (by decide) ?_
      exact lc_fit E G C hHP HX K J ob b9 L t xs hX hL ht4 hB b y o n ls bc tk hk P Wt Tu Sc Ta Wa He Fk Pk cd Rm Ym Tm Cm Km f0 HO HM
    by_cases h7 : j = 7
    · subst h7
      refine kx_tsIn (off := 502) (tgt := 541) C dL_law_39 (by decide +kernel) (by decide +kernel) (by decide +kernel) (by decide) ?_
      exact lc_cost E G C hHP HX K J ob b9 L t xs hX hL ht4 hB b y o n ls bc tk hk P Wt Tu Sc Ta Wa He Fk Pk cd Rm Ym Tm Cm Km f0 HO HM
    by_cases h8 : j = 8
    · subst h8
      refine kx_tsIn (off := 570) (tgt := 609) C dL_law_39 (by decide +kernel) (by decide +kernel) (by decide +kernel) (by decide) ?_
      exact lc_turn E G C hHP HX K J ob b9 L t xs hX hL ht4 hB b y o n ls bc tk hk P Wt Tu Sc Ta Wa He Fk Pk cd Rm Ym Tm Cm Km f0 HO HM
    by_cases h9 : j = 9
    · subst h9
      refine kx_tsIn (off := 638) (tgt := 677) C dL_law_39 (by decide +kernel) (by decide +kernel) (by decide +kernel) (by decide) ?_
      exact lc_least E G C hHP HX K J ob b9 L t xs hX hL ht4 hB b y o n ls bc tk hk P Wt Tu Sc Ta Wa He Fk Pk cd Rm Ym Tm Cm Km f0 HO HM
    by_cases h10 : j = 10
    · subst h10
      refine kx_tsIn (off := 651) (tgt := 690) C dL_law_39 (by decide +kernel) (by decide +kernel) (by decide +kernel) (by decide) ?_
      exact lc_key E G C hHP HX K J ob b9 L t xs hX hL ht4 hB b y o n ls bc tk hk P Wt Tu Sc Ta Wa He Fk Pk cd Rm Ym Tm Cm Km f0 HO HM
    by_cases h11 : j = 11
    · subst h11
      refine kx_tsIn (off := 707) (tgt := 746) C dL_law_39 (by decide +kernel) (by decide +kernel) (by decide +kernel) (by decide) ?_
      exact lc_count E G C hHP HX K J ob b9 L t xs hX hL ht4 hB b y o n ls bc tk hk P Wt Tu Sc Ta Wa He Fk Pk cd Rm Ym Tm Cm Km f0 HO HM
    by_cases h12 : j = 12
    · subst h12
      refine kx_tsIn (off := 721) (tgt := 760) C dL_law_39 (by decide +kernel) (by decide +kernel) (by decide +kernel) (by decide) ?_
      exact lc_pick E G C hHP HX K J ob b9 L t xs hX hL ht4 hB b y o n ls bc tk hk P Wt Tu Sc Ta Wa He Fk Pk cd Rm Ym Tm Cm Km f0 HO HM
    by_cases h13 : j = 13
    · subst h13
      refine kx_tsIn (off := 821) (tgt := 860) C dL_law_39 (by decide +kernel) (by decide +kernel) (by decide +kernel) (by decide) ?_
      exact lc_through E G C hHP HX K J ob b9 L t xs hX hL ht4 hB b y o n ls bc tk hk P Wt Tu Sc Ta Wa He Fk Pk cd Rm Ym Tm Cm Km f0 HO HM
    by_cases h14 : j = 14
    · subst h14
      refine kx_tsIn (off := 889) (tgt := 928) C dL_law_39 (by decide +kernel) (by decide +kernel) (by decide +kernel) (by decide) ?_
      exact lc_near E G C hHP HX K J ob b9 L t xs hX hL ht4 hB b y o n ls bc tk hk P Wt Tu Sc Ta Wa He Fk Pk cd Rm Ym Tm Cm Km f0 HO HM
    by_cases h15 : j = 15
    · subst h15
      refine kx_tsIn (off := 957) (tgt := 996) C dL_law_39 (by decide +kernel) (by decide +kernel) (by decide +kernel) (by decide) ?_
      exact lc_sure E G C hHP HX K J ob b9 L t xs hX hL ht4 hB b y o n ls bc tk hk P Wt Tu Sc Ta Wa He Fk Pk cd Rm Ym Tm Cm Km f0 HO HM
    by_cases h16 : j = 16
    · subst h16
      refine kx_tsIn (off := 1013) (tgt := 1052) C dL_law_39 (by decide +kernel) (by decide +kernel) (by decide +kernel) (by decide) ?_
      exact lc_change E G C hHP HX K J ob b9 L t xs hX hL ht4 hB b y o n ls bc tk hk P Wt Tu Sc Ta Wa He Fk Pk cd Rm Ym Tm Cm Km f0 HO HM
    by_cases h17 : j = 17
    · subst h17
      refine kx_tsIn (off := 1069) (tgt := 1108) C dL_law_39 (by decide +kernel) (by decide +kernel) (by decide +kernel) (by decide) ?_
      exact lc_pivot E G C hHP HX K J ob b9 L t xs hX hL ht4 hB b y o n ls bc tk hk P Wt Tu Sc Ta Wa He Fk Pk cd Rm Ym Tm Cm Km f0 HO HM
    by_cases h18 : j = 18
    · subst h18
      refine kx_tsIn (off := 1156) (tgt := 1195) C dL_law_39 (by decide +kernel) (by decide +kernel) (by decide +kernel) (by decide) ?_
      exact lc_whole E G C hHP HX K J ob b9 L t xs hX hL ht4 hB b y o n ls bc tk hk P Wt Tu Sc Ta Wa He Fk Pk cd Rm Ym Tm Cm Km f0 HO HM
    by_cases h19 : j = 19
    · subst h19
      refine kx_tsIn (off := 1224) (tgt := 1263) C dL_law_39 (by decide +kernel) (by decide +kernel) (by decide +kernel) (by decide) ?_
      exact lc_of E G C hHP HX K J ob b9 L t xs hX hL ht4 hB b y o n ls bc tk hk P Wt Tu Sc Ta Wa He Fk Pk cd Rm Ym Tm Cm Km f0 HO HM
    refine kx_tsOut (tgt := 1319) C dL_law_39 (Or.inr (by rw [nI_toInt (by omega)]; omega)) (by decide) ?_
    refine kx_widen (k := 20 + t) (n := 9036 + 6 * t) (by omega) (by omega) ?_
    exact hB b y o n ls bc tk hk P Wt Tu Sc Ta Wa He Fk Pk cd Rm Ym Tm Cm Km f0 HO HM
