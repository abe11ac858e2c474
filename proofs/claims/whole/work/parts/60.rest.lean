theorem kFP_le (j : Nat) : kFP j ≤ 99 := by
  by_cases h : j < 24
  · have h2 : ∀ j, j < 24 → kFP j ≤ 99 := by decide +kernel
    exact h2 j h
  · have : kFP j = 0 := by
      unfold kFP
      rw [List.getD_eq_getElem?_getD, List.getElem?_eq_none (by show 24 ≤ j; omega)]
      rfl
    omega
theorem cpy_le {P : Nat → Nat} (hP : ∀ j, P j ≤ 99) : ∀ j, va_cpy kFP P 0 0 24 j ≤ 99 := fun j => by
  unfold va_cpy
  split
  · exact kFP_le _
  · exact hP j

set_option maxHeartbeats 4000000 in
set_option maxRecDepth 100000 in
theorem c_setFirst (E : KE) (K : Nat → Nat) (b y o n ls bc tk hk : Nat) (P Wt Tu Sc Ta Wa He Fk Pk : Nat → Nat) : kMv E yX0_setFirst cX0_setFirst 1 (rk 2 0) [.ref (K 0)] (kwW E K b y o n ls bc tk hk P Wt Tu Sc Ta Wa He Fk Pk) (fun w => w = (kwW E K 10 5 2 0 ls bc 0 0 (va_cpy kFP P 0 0 24) Wt Tu Sc Ta Wa He Fk Pk)) := by
  refine kMv_of (cc := cX0_setFirst) (maxL := 1) (by decide) (Nat.le_of_ble_eq_true rfl) ?_
  intro G C hE
  refine kx_getFP C fl0_147 dX0_setFirst_0 (fun t ht => ?_)
  refine kx_iconst (v := nI 0) C dX0_setFirst_3 (by decide +kernel) ?_
  refine kx_aload_n C dX0_setFirst_4 rfl 0 rfl ?_
  refine kx_get (v := .ref (K 1)) (ci := 0) C kin0 0 rfl rfl 0 (by decide) fl0_9 rfl rfl dX0_setFirst_5 ?_
  refine kx_iconst (v := nI 0) C dX0_setFirst_8 (by decide +kernel) ?_
  refine kx_bipush (v := nI 24) C dX0_setFirst_9 (by decide +kernel) ?_
  refine kx_copyFP (ws2 := (kwW E K b y o n ls bc tk hk (va_cpy kFP P 0 0 24) Wt Tu Sc Ta Wa He Fk Pk)) C ht m0_150 k_acn k_acs ini_java_lang_System 1 rfl (by decide) (Nat.le_of_ble_eq_true rfl) (Nat.le_of_ble_eq_true rfl) rfl dX0_setFirst_11 ?_
  refine kx_aload_n C dX0_setFirst_14 rfl 0 rfl ?_
  refine kx_bipush (v := nI 10) C dX0_setFirst_15 (by decide +kernel) ?_
  refine kx_put (ws2 := (kwW E K 10 y o n ls bc tk hk (va_cpy kFP P 0 0 24) Wt Tu Sc Ta Wa He Fk Pk)) (ci := 0) C kin0 tyX0_ok nmX0 0 rfl rfl 2 (by decide) fl0_52 rfl rfl rfl rfl (Nat.le_of_ble_eq_true rfl) rfl dX0_setFirst_17 ?_
  refine kx_aload_n C dX0_setFirst_20 rfl 0 rfl ?_
  refine kx_iconst (v := nI 5) C dX0_setFirst_21 (by decide +kernel) ?_
  refine kx_put (ws2 := (kwW E K 10 5 o n ls bc tk hk (va_cpy kFP P 0 0 24) Wt Tu Sc Ta Wa He Fk Pk)) (ci := 0) C kin0 tyX0_ok nmX0 0 rfl rfl 3 (by decide) fl0_55 rfl rfl rfl rfl (Nat.le_of_ble_eq_true rfl) rfl dX0_setFirst_22 ?_
  refine kx_aload_n C dX0_setFirst_25 rfl 0 rfl ?_
  refine kx_iconst (v := nI 2) C dX0_setFirst_26 (by decide +kernel) ?_
  refine kx_put (ws2 := (kwW E K 10 5 2 n ls bc tk hk (va_cpy kFP P 0 0 24) Wt Tu Sc Ta Wa He Fk Pk)) (ci := 0) C kin0 tyX0_ok nmX0 0 rfl rfl 4 (by decide) fl0_58 rfl rfl rfl rfl (Nat.le_of_ble_eq_true rfl) rfl dX0_setFirst_27 ?_
  refine kx_aload_n C dX0_setFirst_30 rfl 0 rfl ?_
  refine kx_iconst (v := nI 0) C dX0_setFirst_31 (by decide +kernel) ?_
  refine kx_put (ws2 := (kwW E K 10 5 2 0 ls bc tk hk (va_cpy kFP P 0 0 24) Wt Tu Sc Ta Wa He Fk Pk)) (ci := 0) C kin0 tyX0_ok nmX0 0 rfl rfl 5 (by decide) fl0_41 rfl rfl rfl rfl (Nat.le_of_ble_eq_true rfl) rfl dX0_setFirst_32 ?_
  refine kx_aload_n C dX0_setFirst_35 rfl 0 rfl ?_
  refine kx_callVv (rest := []) (wr := []) C (c_forget E K 10 5 2 0 ls bc tk hk (va_cpy kFP P 0 0 24) Wt Tu Sc Ta Wa He Fk Pk) g0_49 0 rfl (by decide +kernel) ⟨Nat.le_of_ble_eq_true rfl, Nat.le_of_ble_eq_true rfl⟩ ⟨Nat.le_of_ble_eq_true rfl, Nat.le_of_ble_eq_true rfl⟩ [0, 1, 2, 3, 4, 5, 6, 7, 8, 9] [] rfl rfl (by decide) (by decide) (by decide) 0 rfl rfl rfl (Nat.le_of_ble_eq_true rfl) dX0_setFirst_36 (fun w q1 => ?_)
  obtain rfl := q1
  refine kx_eqw (ws2 := (kwW E K 10 5 2 0 ls bc 0 0 (va_cpy kFP P 0 0 24) Wt Tu Sc Ta Wa He Fk Pk)) rfl ?_
  exact hE (Nat.le_of_ble_eq_true rfl) (Nat.le_of_ble_eq_true rfl) dX0_setFirst_39 rfl

set_option maxHeartbeats 4000000 in
set_option maxRecDepth 100000 in
theorem c_clear (E : KE) (K : Nat → Nat) (b y o n ls bc tk hk : Nat) (P Wt Tu Sc Ta Wa He Fk Pk : Nat → Nat) (HO : kOk b y o n ls bc tk hk P Wt Tu Sc Ta Wa He Fk Pk) : kMi E yX0_clear cX0_clear 2 (rk 10 0) [.ref (K 0)] (kwW E K b y o n ls bc tk hk P Wt Tu Sc Ta Wa He Fk Pk) (fun r w => r = nI n ∧ kOk 10 5 2 0 ls bc 0 0 (va_cpy kFP P 0 0 24) Wt Tu Sc Ta Wa He Fk Pk ∧ w = (kwW E K 10 5 2 0 ls bc 0 0 (va_cpy kFP P 0 0 24) Wt Tu Sc Ta Wa He Fk Pk)) := by
  refine kMi_of (cc := cX0_clear) (maxL := 2) (by decide) (Nat.le_of_ble_eq_true rfl) ?_
  intro G C hE
  obtain ⟨H1, HP, HW, Hb, Hy, Ho, Htk, Hhk, Hls, HTa, HWa, HHe, HFk, HPk, HK, HH⟩ := id HO
  refine kx_aload_n C dX0_clear_0 rfl 0 rfl ?_
  refine kx_get (v := .int (nI (n))) (ci := 0) C kin0 0 rfl rfl 5 (by decide) fl0_41 rfl rfl dX0_clear_1 ?_
  refine kx_istore_n (lv2 := [(1, .int (nI (n))), (0, .ref (K 0))]) C dX0_clear_4 rfl (by decide) rfl ?_
  refine kx_aload_n C dX0_clear_5 rfl 1 rfl ?_
  refine kx_callVv (rest := []) (wr := []) C (c_setFirst E K b y o n ls bc tk hk P Wt Tu Sc Ta Wa He Fk Pk) g0_38 0 rfl (by decide +kernel) ⟨Nat.le_of_ble_eq_true rfl, Nat.le_of_ble_eq_true rfl⟩ ⟨Nat.le_of_ble_eq_true rfl, Nat.le_of_ble_eq_true rfl⟩ [0, 1, 2, 3, 4, 5, 6, 7, 8, 9] [] rfl rfl (by decide) (by decide) (by decide) 0 rfl rfl rfl (Nat.le_of_ble_eq_true rfl) dX0_clear_6 (fun w q1 => ?_)
  obtain rfl := q1
  refine kx_eqw (ws2 := (kwW E K 10 5 2 0 ls bc 0 0 (va_cpy kFP P 0 0 24) Wt Tu Sc Ta Wa He Fk Pk)) rfl ?_
  refine kx_iload_n C dX0_clear_9 rfl 0 rfl ?_
  exact hE (Nat.le_of_ble_eq_true rfl) (Nat.le_of_ble_eq_true rfl) dX0_clear_10 ⟨rfl, ⟨Nat.zero_le _, cpy_le HP, HW, (by decide), (by decide), (by decide), Nat.zero_le _, Nat.zero_le _, Hls, HTa, HWa, HHe, HFk, HPk, fun z => absurd rfl z, fun z => absurd rfl z⟩, rfl⟩

theorem kOut4 {x : Int32} (h : ¬ ∃ j, j ≤ 4 ∧ x = nI j) : x.toInt < 0 ∨ 4 < x.toInt := by
  rcases Int.lt_or_le x.toInt 0 with z | z
  · exact Or.inl z
  · rcases Int.lt_or_le 4 x.toInt with z2 | z2
    · exact Or.inr z2
    · have hn : ¬ x < 0 := fun q => by
        have := Int32.lt_iff_toInt_lt.mp q
        have e0 : (0 : Int32).toInt = 0 := by decide +kernel
        omega
      obtain ⟨j, hj, rfl⟩ := nI_of (x := x) hn
      rw [nI_toInt hj] at z2
      exact absurd ⟨j, by omega, rfl⟩ h

theorem kthr_of_61 (E : KE) (h : E.1.stackTraces = false) : kThr E (rk 10 1) cX0_of yX0_of.cls kEx_102 kTx_145 kNm_102 102 145 106 61 [] := ⟨h, by decide +kernel, by decide +kernel, kcl0_102, kini_102, by decide +kernel, kat_102_106, kot_102_106, dX0_of_61, dX0_of_64, dX0_of_65, dX0_of_67, dX0_of_70, Nat.le_of_ble_eq_true rfl, Nat.le_of_ble_eq_true rfl, rfl⟩
set_option maxHeartbeats 4000000 in
set_option maxRecDepth 100000 in
theorem c_of (E : KE) (K : Nat → Nat) (b y o n ls bc tk hk : Nat) (P Wt Tu Sc Ta Wa He Fk Pk : Nat → Nat) (x0 : Int32) (HX : E.1.stackTraces = false) (HO : kOk b y o n ls bc tk hk P Wt Tu Sc Ta Wa He Fk Pk) : kTi E yX0_of cX0_of 2 (rk 10 1) [.ref (K 0), .int (x0)] (kwW E K b y o n ls bc tk hk P Wt Tu Sc Ta Wa He Fk Pk) (fun r w => (((x0 = nI 0 ∧ r = nI n) ∨ (x0 = nI 1 ∧ r = nI b) ∨ (x0 = nI 2 ∧ r = nI y) ∨ (x0 = nI 3 ∧ r = nI o)) ∧ w = (kwW E K b y o n ls bc tk hk P Wt Tu Sc Ta Wa He Fk Pk)) ∨ (x0 = nI 4 ∧ ∃ (ls2 bc2 : Nat) (Tv Sv Av Vv Fv : Nat → Nat), r = nI (chN Fv n) ∧ kOk b y o n ls2 bc2 1 hk P Wt Tv Sv Av Vv He Fv Pk ∧ w = (kwW E K b y o n ls2 bc2 1 hk P Wt Tv Sv Av Vv He Fv Pk))) (fun n9 w => n9 = "java/lang/IllegalArgumentException" ∧ ¬ (∃ j, j ≤ 4 ∧ x0 = nI j) ∧ w = (kwW E K b y o n ls bc tk hk P Wt Tu Sc Ta Wa He Fk Pk)) := by
  refine kTi_of (cc := cX0_of) (maxL := 2) (by decide) (Nat.le_of_ble_eq_true rfl) ?_
  intro G C hE hX hT
  obtain ⟨H1, HP, HW, Hb, Hy, Ho, Htk, Hhk, Hls, HTa, HWa, HHe, HFk, HPk, HK, HH⟩ := id HO
  refine kx_iload_n C dX0_of_0 rfl 1 rfl ?_
  by_cases h0 : x0 = nI 0
  · subst h0
    refine kx_tsIn (off := 35) (tgt := 36) C dX0_of_1 (by decide +kernel) (by decide +kernel) (by decide +kernel) (by decide) ?_
    refine kx_aload_n C dX0_of_36 rfl 0 rfl ?_
    refine kx_get (v := .int (nI (n))) (ci := 0) C kin0 0 rfl rfl 5 (by decide) fl0_41 rfl rfl dX0_of_37 ?_
    exact hE (Nat.le_of_ble_eq_true rfl) (Nat.le_of_ble_eq_true rfl) dX0_of_40 (Or.inl ⟨Or.inl ⟨rfl, rfl⟩, rfl⟩)
  by_cases h1 : x0 = nI 1
  · subst h1
    refine kx_tsIn (off := 40) (tgt := 41) C dX0_of_1 (by decide +kernel) (by decide +kernel) (by decide +kernel) (by decide) ?_
    refine kx_aload_n C dX0_of_41 rfl 0 rfl ?_
    refine kx_get (v := .int (nI (b))) (ci := 0) C kin0 0 rfl rfl 2 (by decide) fl0_52 rfl rfl dX0_of_42 ?_
    exact hE (Nat.le_of_ble_eq_true rfl) (Nat.le_of_ble_eq_true rfl) dX0_of_45 (Or.inl ⟨Or.inr (Or.inl ⟨rfl, rfl⟩), rfl⟩)
  by_cases h2 : x0 = nI 2
  · subst h2
    refine kx_tsIn (off := 45) (tgt := 46) C dX0_of_1 (by decide +kernel) (by decide +kernel) (by decide +kernel) (by decide) ?_
    refine kx_aload_n C dX0_of_46 rfl 0 rfl ?_
    refine kx_get (v := .int (nI (y))) (ci := 0) C kin0 0 rfl rfl 3 (by decide) fl0_55 rfl rfl dX0_of_47 ?_
    exact hE (Nat.le_of_ble_eq_true rfl) (Nat.le_of_ble_eq_true rfl) dX0_of_50 (Or.inl ⟨Or.inr (Or.inr (Or.inl ⟨rfl, rfl⟩)), rfl⟩)
  by_cases h3 : x0 = nI 3
  · subst h3
    refine kx_tsIn (off := 50) (tgt := 51) C dX0_of_1 (by decide +kernel) (by decide +kernel) (by decide +kernel) (by decide) ?_
    refine kx_aload_n C dX0_of_51 rfl 0 rfl ?_
    refine kx_get (v := .int (nI (o))) (ci := 0) C kin0 0 rfl rfl 4 (by decide) fl0_58 rfl rfl dX0_of_52 ?_
    exact hE (Nat.le_of_ble_eq_true rfl) (Nat.le_of_ble_eq_true rfl) dX0_of_55 (Or.inl ⟨Or.inr (Or.inr (Or.inr ⟨rfl, rfl⟩)), rfl⟩)
  by_cases h4 : x0 = nI 4
  · subst h4
    refine kx_tsIn (off := 55) (tgt := 56) C dX0_of_1 (by decide +kernel) (by decide +kernel) (by decide +kernel) (by decide) ?_
    refine kx_aload_n C dX0_of_56 rfl 0 rfl ?_
    refine kx_callVi (rest := []) (wr := []) C (c_changesOfFirst E K b y o n ls bc tk hk P Wt Tu Sc Ta Wa He Fk Pk HO) g0_141 0 rfl (by decide +kernel) ⟨Nat.le_of_ble_eq_true rfl, Nat.le_of_ble_eq_true rfl⟩ ⟨Nat.le_of_ble_eq_true rfl, Nat.le_of_ble_eq_true rfl⟩ [0, 1, 2, 3, 4, 5, 6, 7, 8, 9] [] rfl rfl (by decide) (by decide) (by decide) 0 rfl rfl rfl (Nat.le_of_ble_eq_true rfl) dX0_of_57 (fun v w q1 => ?_)
    obtain ⟨ls2, bc2, Tv, Sv, Av, Vv, Fv, rfl, HO2, rfl⟩ := q1
    refine kx_eqw (ws2 := (kwW E K b y o n ls2 bc2 1 hk P Wt Tv Sv Av Vv He Fv Pk)) rfl ?_
    exact hE (Nat.le_of_ble_eq_true rfl) (Nat.le_of_ble_eq_true rfl) dX0_of_60 (Or.inr ⟨rfl, ls2, bc2, Tv, Sv, Av, Vv, Fv, rfl, HO2, rfl⟩)
  have hx9 : ¬ ∃ j, j ≤ 4 ∧ x0 = nI j := by
    rintro ⟨j, hj, e⟩
    rcases (show j = 0 ∨ j = 1 ∨ j = 2 ∨ j = 3 ∨ j = 4 by omega) with rfl | rfl | rfl | rfl | rfl
    · exact h0 e
    · exact h1 e
    · exact h2 e
    · exact h3 e
    · exact h4 e
  refine kx_tsOut (tgt := 61) C dX0_of_1 (kOut4 hx9) (by decide) ?_
  exact hT (kthr_of_61 E HX) (Nat.le_of_ble_eq_true rfl) (Nat.le_of_ble_eq_true rfl) ⟨rfl, (fun z => hx9 z), rfl⟩
