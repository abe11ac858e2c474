theorem kIn3 {x : Int32} {m : Nat} (hm : m < 2 ^ 31) (h1 : ¬ x < nI 1) (h2 : ¬ nI m < x) : ∃ j, (1 ≤ j ∧ j ≤ m) ∧ x = nI j := by
  have h0 : ¬ x < 0 := fun z => h1 (Int32.lt_iff_toInt_lt.mpr (by
    have a := Int32.lt_iff_toInt_lt.mp z
    have e0 : (0 : Int32).toInt = 0 := by decide +kernel
    have e1 : (nI 1).toInt = 1 := by decide +kernel
    omega))
  obtain ⟨j, hj, rfl⟩ := nI_of (x := x) h0
  exact ⟨j, ⟨Nat.not_lt.mp fun z => h1 ((nI_ltI hj (by decide)).mpr z), Nat.not_lt.mp fun z => h2 ((nI_ltI hm hj).mpr z)⟩, rfl⟩
theorem kIn4 {x : Int32} {m : Nat} (hm : m < 2 ^ 31) (h : x < nI 1 ∨ nI m < x) : ¬ ∃ j, 1 ≤ j ∧ j ≤ m ∧ x = nI j := by
  rintro ⟨j, h1, hj, rfl⟩
  rcases h with h | h
  · have := (nI_ltI (by omega) (by decide)).mp h
    omega
  · have := (nI_ltI hm (by omega)).mp h
    omega
theorem kW0 {Wv : Nat → Nat} {n i : Nat} (h : ∀ j, j < i → Wv (n * 12 + j) = 0) : ∀ j, j < i + 1 → va_up Wv (n * 12 + i) 0 (n * 12 + j) = 0 := by
  intro j hj
  by_cases e : j = i
  · subst e; rw [va_up_self]
  · rw [va_up_ne _ _ (by omega)]; exact h j (by omega)
theorem kW1 {Wv Wt : Nat → Nat} {n i v : Nat} (h : ∀ j, j < n * 12 ∨ n * 12 + 12 ≤ j → Wv j = Wt j) (hi : i < 12) : ∀ j, j < n * 12 ∨ n * 12 + 12 ≤ j → va_up Wv (n * 12 + i) v j = Wt j := by
  intro j hj
  rw [va_up_ne _ _ (by omega)]
  exact h j hj
theorem kthr_drop_7 (E : KE) (h : E.1.stackTraces = false) : kThr E (rk 10 1) cX0_drop yX0_drop.cls kEx_61 kTx_74 kNm_61 61 74 65 7 [] := ⟨h, by decide +kernel, by decide +kernel, kcl0_61, kini_61, by decide +kernel, kat_61_65, kot_61_65, dX0_drop_7, dX0_drop_10, dX0_drop_11, dX0_drop_13, dX0_drop_16, Nat.le_of_ble_eq_true rfl, Nat.le_of_ble_eq_true rfl, rfl⟩
theorem kthr_slice_9 (E : KE) (h : E.1.stackTraces = false) : kThr E (rk 10 1) cX0_slice yX0_slice.cls kEx_61 kTx_63 kNm_61 61 63 65 9 [] := ⟨h, by decide +kernel, by decide +kernel, kcl0_61, kini_61, by decide +kernel, kat_61_65, kot_61_65, dX0_slice_9, dX0_slice_12, dX0_slice_13, dX0_slice_15, dX0_slice_18, Nat.le_of_ble_eq_true rfl, Nat.le_of_ble_eq_true rfl, rfl⟩
theorem kthr_note_47 (E : KE) (h : E.1.stackTraces = false) : kThr E (rk 10 1) cX0_note yX0_note.cls kEx_61 kTx_72 kNm_61 61 72 65 47 [] := ⟨h, by decide +kernel, by decide +kernel, kcl0_61, kini_61, by decide +kernel, kat_61_65, kot_61_65, dX0_note_47, dX0_note_50, dX0_note_51, dX0_note_53, dX0_note_56, Nat.le_of_ble_eq_true rfl, Nat.le_of_ble_eq_true rfl, rfl⟩
set_option maxHeartbeats 4000000 in
set_option maxRecDepth 100000 in
theorem c_fit (E : KE) (K : Nat → Nat) (b y o n ls bc tk hk : Nat) (P Wt Tu Sc Ta Wa He Fk Pk : Nat → Nat) (x0 x1 : Int32) (HX : E.1.stackTraces = false) (HO : kOk b y o n ls bc tk hk P Wt Tu Sc Ta Wa He Fk Pk) : kTi E yX0_fit cX0_fit 3 (rk 10 1) [.ref (K 0), .int (x0), .int (x1)] (kwW E K b y o n ls bc tk hk P Wt Tu Sc Ta Wa He Fk Pk) (fun r w => ∃ sl k, x0 = nI sl ∧ sl < n ∧ x1 = nI k ∧ k ≤ 23 ∧ r = nI (fitN P Wt sl k) ∧ w = (kwW E K b y o n ls bc tk hk P Wt Tu Sc Ta Wa He Fk Pk)) (fun n9 w => n9 = "java/lang/IllegalArgumentException" ∧ ¬ ((∃ j, j < n ∧ x0 = nI j) ∧ (∃ j, j ≤ 23 ∧ x1 = nI j)) ∧ w = (kwW E K b y o n ls bc tk hk P Wt Tu Sc Ta Wa He Fk Pk)) := by
  refine kTi_of (cc := cX0_fit) (maxL := 3) (by decide) (Nat.le_of_ble_eq_true rfl) ?_
  intro G C hE hX hT
  obtain ⟨H1, HP, HW, Hb, Hy, Ho, Htk, Hhk, Hls, HTa, HWa, HHe, HFk, HPk, HK, HH⟩ := id HO
  refine kx_aload_n C dX0_fit_0 rfl 0 rfl ?_
  refine kx_iload_n C dX0_fit_1 rfl 1 rfl ?_
  refine kx_callVR (rest := []) (wr := []) C (c_requireSlice E K b y o n ls bc tk hk P Wt Tu Sc Ta Wa He Fk Pk x0 HX H1) g0_68 1 rfl (by decide +kernel) ⟨Nat.le_of_ble_eq_true rfl, Nat.le_of_ble_eq_true rfl⟩ ⟨Nat.le_of_ble_eq_true rfl, Nat.le_of_ble_eq_true rfl⟩ [0, 1, 2, 3, 4, 5, 6, 7, 8, 9] [] rfl rfl (by decide) (by decide) (by decide) 0 rfl rfl rfl (Nat.le_of_ble_eq_true rfl) dX0_fit_2 (fun n9 q1 => ?_) (fun q1 => ?_)
  · skip
    exact hX (Nat.le_of_ble_eq_true rfl) (Nat.le_of_ble_eq_true rfl) ⟨q1.1, (fun z => q1.2 z.1), rfl⟩
  obtain ⟨sl, esl, rfl⟩ := q1
  refine kx_iload_n C dX0_fit_5 rfl 2 rfl ?_
  refine kx_callSR (rest := []) (wr := (kwW E K b y o n ls bc tk hk P Wt Tu Sc Ta Wa He Fk Pk)) C (c_requireKey E x1 HX) g0_76 1 rfl (by decide +kernel) ⟨Nat.le_of_ble_eq_true rfl, Nat.le_of_ble_eq_true rfl⟩ ⟨Nat.le_of_ble_eq_true rfl, Nat.le_of_ble_eq_true rfl⟩ [] [0, 1, 2, 3, 4, 5, 6, 7, 8, 9] rfl rfl (by decide) (by decide) (by decide) rfl (Nat.le_of_ble_eq_true rfl) dX0_fit_6 (fun n9 q2 => ?_) (fun q2 => ?_)
  · skip
    exact hX (Nat.le_of_ble_eq_true rfl) (Nat.le_of_ble_eq_true rfl) ⟨q2.1, (fun z => q2.2 z.2), (List.append_nil _)⟩
  obtain ⟨k, ek, rfl⟩ := q2
  refine kx_aload_n C dX0_fit_9 rfl 0 rfl ?_
  refine kx_iload_n C dX0_fit_10 rfl 1 rfl ?_
  refine kx_iload_n C dX0_fit_11 rfl 2 rfl ?_
  refine kx_callVi (rest := []) (wr := []) C (c_fitIn E K b y o n ls bc tk hk P Wt Tu Sc Ta Wa He Fk Pk sl k (by omega) (by omega)) g0_79 2 rfl (by decide +kernel) ⟨Nat.le_of_ble_eq_true rfl, Nat.le_of_ble_eq_true rfl⟩ ⟨Nat.le_of_ble_eq_true rfl, Nat.le_of_ble_eq_true rfl⟩ [0, 1, 2, 3, 4, 5, 6, 7, 8, 9] [] rfl rfl (by decide) (by decide) (by decide) 0 rfl rfl rfl (Nat.le_of_ble_eq_true rfl) dX0_fit_12 (fun v w q3 => ?_)
  obtain ⟨rfl, rfl⟩ := q3
  refine kx_eqw (ws2 := (kwW E K b y o n ls bc tk hk P Wt Tu Sc Ta Wa He Fk Pk)) rfl ?_
  exact hE (Nat.le_of_ble_eq_true rfl) (Nat.le_of_ble_eq_true rfl) dX0_fit_15 ⟨sl, k, rfl, esl, rfl, ek, rfl, rfl⟩

set_option maxHeartbeats 4000000 in
set_option maxRecDepth 100000 in
theorem c_cost (E : KE) (K : Nat → Nat) (b y o n ls bc tk hk : Nat) (P Wt Tu Sc Ta Wa He Fk Pk : Nat → Nat) (x0 x1 : Int32) (HX : E.1.stackTraces = false) (HO : kOk b y o n ls bc tk hk P Wt Tu Sc Ta Wa He Fk Pk) : kTi E yX0_cost cX0_cost 3 (rk 10 1) [.ref (K 0), .int (x0), .int (x1)] (kwW E K b y o n ls bc tk hk P Wt Tu Sc Ta Wa He Fk Pk) (fun r w => ∃ sl k, x0 = nI sl ∧ sl < n ∧ x1 = nI k ∧ k ≤ 23 ∧ r = nI (costN P Wt sl k) ∧ w = (kwW E K b y o n ls bc tk hk P Wt Tu Sc Ta Wa He Fk Pk)) (fun n9 w => n9 = "java/lang/IllegalArgumentException" ∧ ¬ ((∃ j, j < n ∧ x0 = nI j) ∧ (∃ j, j ≤ 23 ∧ x1 = nI j)) ∧ w = (kwW E K b y o n ls bc tk hk P Wt Tu Sc Ta Wa He Fk Pk)) := by
  refine kTi_of (cc := cX0_cost) (maxL := 3) (by decide) (Nat.le_of_ble_eq_true rfl) ?_
  intro G C hE hX hT
  obtain ⟨H1, HP, HW, Hb, Hy, Ho, Htk, Hhk, Hls, HTa, HWa, HHe, HFk, HPk, HK, HH⟩ := id HO
  refine kx_aload_n C dX0_cost_0 rfl 0 rfl ?_
  refine kx_iload_n C dX0_cost_1 rfl 1 rfl ?_
  refine kx_callVR (rest := []) (wr := []) C (c_requireSlice E K b y o n ls bc tk hk P Wt Tu Sc Ta Wa He Fk Pk x0 HX H1) g0_68 1 rfl (by decide +kernel) ⟨Nat.le_of_ble_eq_true rfl, Nat.le_of_ble_eq_true rfl⟩ ⟨Nat.le_of_ble_eq_true rfl, Nat.le_of_ble_eq_true rfl⟩ [0, 1, 2, 3, 4, 5, 6, 7, 8, 9] [] rfl rfl (by decide) (by decide) (by decide) 0 rfl rfl rfl (Nat.le_of_ble_eq_true rfl) dX0_cost_2 (fun n9 q1 => ?_) (fun q1 => ?_)
  · skip
    exact hX (Nat.le_of_ble_eq_true rfl) (Nat.le_of_ble_eq_true rfl) ⟨q1.1, (fun z => q1.2 z.1), rfl⟩
  obtain ⟨sl, esl, rfl⟩ := q1
  refine kx_iload_n C dX0_cost_5 rfl 2 rfl ?_
  refine kx_callSR (rest := []) (wr := (kwW E K b y o n ls bc tk hk P Wt Tu Sc Ta Wa He Fk Pk)) C (c_requireKey E x1 HX) g0_76 1 rfl (by decide +kernel) ⟨Nat.le_of_ble_eq_true rfl, Nat.le_of_ble_eq_true rfl⟩ ⟨Nat.le_of_ble_eq_true rfl, Nat.le_of_ble_eq_true rfl⟩ [] [0, 1, 2, 3, 4, 5, 6, 7, 8, 9] rfl rfl (by decide) (by decide) (by decide) rfl (Nat.le_of_ble_eq_true rfl) dX0_cost_6 (fun n9 q2 => ?_) (fun q2 => ?_)
  · skip
    exact hX (Nat.le_of_ble_eq_true rfl) (Nat.le_of_ble_eq_true rfl) ⟨q2.1, (fun z => q2.2 z.2), (List.append_nil _)⟩
  obtain ⟨k, ek, rfl⟩ := q2
  refine kx_aload_n C dX0_cost_9 rfl 0 rfl ?_
  refine kx_iload_n C dX0_cost_10 rfl 1 rfl ?_
  refine kx_callVi (rest := []) (wr := []) C (c_greatestFit E K b y o n ls bc tk hk P Wt Tu Sc Ta Wa He Fk Pk sl (by omega) HP HW) g0_83 1 rfl (by decide +kernel) ⟨Nat.le_of_ble_eq_true rfl, Nat.le_of_ble_eq_true rfl⟩ ⟨Nat.le_of_ble_eq_true rfl, Nat.le_of_ble_eq_true rfl⟩ [0, 1, 2, 3, 4, 5, 6, 7, 8, 9] [] rfl rfl (by decide) (by decide) (by decide) 0 rfl rfl rfl (Nat.le_of_ble_eq_true rfl) dX0_cost_11 (fun v w q3 => ?_)
  obtain ⟨rfl, rfl⟩ := q3
  refine kx_eqw (ws2 := (kwW E K b y o n ls bc tk hk P Wt Tu Sc Ta Wa He Fk Pk)) rfl ?_
  refine kx_aload_n C dX0_cost_14 rfl 0 rfl ?_
  refine kx_iload_n C dX0_cost_15 rfl 1 rfl ?_
  refine kx_iload_n C dX0_cost_16 rfl 2 rfl ?_
  refine kx_callVi (rest := [.int (nI (gfit P Wt sl))]) (wr := []) C (c_fitIn E K b y o n ls bc tk hk P Wt Tu Sc Ta Wa He Fk Pk sl k (by omega) (by omega)) g0_79 2 rfl (by decide +kernel) ⟨Nat.le_of_ble_eq_true rfl, Nat.le_of_ble_eq_true rfl⟩ ⟨Nat.le_of_ble_eq_true rfl, Nat.le_of_ble_eq_true rfl⟩ [0, 1, 2, 3, 4, 5, 6, 7, 8, 9] [] rfl rfl (by decide) (by decide) (by decide) 0 rfl rfl rfl (Nat.le_of_ble_eq_true rfl) dX0_cost_17 (fun v w q4 => ?_)
  obtain ⟨rfl, rfl⟩ := q4
  refine kx_eqw (ws2 := (kwW E K b y o n ls bc tk hk P Wt Tu Sc Ta Wa He Fk Pk)) rfl ?_
  refine kx_isub C (le_maxN (f := fun k => fitN P Wt sl k) (by omega)) dX0_cost_20 ?_
  exact hE (Nat.le_of_ble_eq_true rfl) (Nat.le_of_ble_eq_true rfl) dX0_cost_21 ⟨sl, k, rfl, esl, rfl, ek, rfl, rfl⟩

set_option maxHeartbeats 4000000 in
set_option maxRecDepth 100000 in
theorem c_turn (E : KE) (K : Nat → Nat) (b y o n ls bc tk hk : Nat) (P Wt Tu Sc Ta Wa He Fk Pk : Nat → Nat) (x0 x1 : Int32) (HX : E.1.stackTraces = false) (HO : kOk b y o n ls bc tk hk P Wt Tu Sc Ta Wa He Fk Pk) : kTi E yX0_turn cX0_turn 3 (rk 10 1) [.ref (K 0), .int (x0), .int (x1)] (kwW E K b y o n ls bc tk hk P Wt Tu Sc Ta Wa He Fk Pk) (fun r w => ∃ f t, x0 = nI f ∧ f ≤ 23 ∧ x1 = nI t ∧ t ≤ 23 ∧ r = nI (turnN b y o f t) ∧ w = (kwW E K b y o n ls bc tk hk P Wt Tu Sc Ta Wa He Fk Pk)) (fun n9 w => n9 = "java/lang/IllegalArgumentException" ∧ ¬ ((∃ j, j ≤ 23 ∧ x0 = nI j) ∧ (∃ j, j ≤ 23 ∧ x1 = nI j)) ∧ w = (kwW E K b y o n ls bc tk hk P Wt Tu Sc Ta Wa He Fk Pk)) := by
  refine kTi_of (cc := cX0_turn) (maxL := 3) (by decide) (Nat.le_of_ble_eq_true rfl) ?_
  intro G C hE hX hT
  obtain ⟨H1, HP, HW, Hb, Hy, Ho, Htk, Hhk, Hls, HTa, HWa, HHe, HFk, HPk, HK, HH⟩ := id HO
  refine kx_iload_n C dX0_turn_0 rfl 1 rfl ?_
  refine kx_callSR (rest := []) (wr := (kwW E K b y o n ls bc tk hk P Wt Tu Sc Ta Wa He Fk Pk)) C (c_requireKey E x0 HX) g0_76 1 rfl (by decide +kernel) ⟨Nat.le_of_ble_eq_true rfl, Nat.le_of_ble_eq_true rfl⟩ ⟨Nat.le_of_ble_eq_true rfl, Nat.le_of_ble_eq_true rfl⟩ [] [0, 1, 2, 3, 4, 5, 6, 7, 8, 9] rfl rfl (by decide) (by decide) (by decide) rfl (Nat.le_of_ble_eq_true rfl) dX0_turn_1 (fun n9 q1 => ?_) (fun q1 => ?_)
  · skip
    exact hX (Nat.le_of_ble_eq_true rfl) (Nat.le_of_ble_eq_true rfl) ⟨q1.1, (fun z => q1.2 z.1), (List.append_nil _)⟩
  obtain ⟨f, ef, rfl⟩ := q1
  refine kx_iload_n C dX0_turn_4 rfl 2 rfl ?_
  refine kx_callSR (rest := []) (wr := (kwW E K b y o n ls bc tk hk P Wt Tu Sc Ta Wa He Fk Pk)) C (c_requireKey E x1 HX) g0_76 1 rfl (by decide +kernel) ⟨Nat.le_of_ble_eq_true rfl, Nat.le_of_ble_eq_true rfl⟩ ⟨Nat.le_of_ble_eq_true rfl, Nat.le_of_ble_eq_true rfl⟩ [] [0, 1, 2, 3, 4, 5, 6, 7, 8, 9] rfl rfl (by decide) (by decide) (by decide) rfl (Nat.le_of_ble_eq_true rfl) dX0_turn_5 (fun n9 q2 => ?_) (fun q2 => ?_)
  · skip
    exact hX (Nat.le_of_ble_eq_true rfl) (Nat.le_of_ble_eq_true rfl) ⟨q2.1, (fun z => q2.2 z.2), (List.append_nil _)⟩
  obtain ⟨t, et, rfl⟩ := q2
  refine kx_aload_n C dX0_turn_8 rfl 0 rfl ?_
  refine kx_iload_n C dX0_turn_9 rfl 1 rfl ?_
  refine kx_iload_n C dX0_turn_10 rfl 2 rfl ?_
  refine kx_callVi (rest := []) (wr := []) C (c_turnBetween E K b y o n ls bc tk hk P Wt Tu Sc Ta Wa He Fk Pk f t (by omega) (by omega)) g0_87 2 rfl (by decide +kernel) ⟨Nat.le_of_ble_eq_true rfl, Nat.le_of_ble_eq_true rfl⟩ ⟨Nat.le_of_ble_eq_true rfl, Nat.le_of_ble_eq_true rfl⟩ [0, 1, 2, 3, 4, 5, 6, 7, 8, 9] [] rfl rfl (by decide) (by decide) (by decide) 0 rfl rfl rfl (Nat.le_of_ble_eq_true rfl) dX0_turn_11 (fun v w q3 => ?_)
  obtain ⟨rfl, rfl⟩ := q3
  refine kx_eqw (ws2 := (kwW E K b y o n ls bc tk hk P Wt Tu Sc Ta Wa He Fk Pk)) rfl ?_
  exact hE (Nat.le_of_ble_eq_true rfl) (Nat.le_of_ble_eq_true rfl) dX0_turn_14 ⟨f, t, rfl, ef, rfl, et, rfl, rfl⟩

set_option maxHeartbeats 4000000 in
set_option maxRecDepth 100000 in
theorem c_least (E : KE) (K : Nat → Nat) (b y o n ls bc tk hk : Nat) (P Wt Tu Sc Ta Wa He Fk Pk : Nat → Nat) (HO : kOk b y o n ls bc tk hk P Wt Tu Sc Ta Wa He Fk Pk) : kMi E yX0_least cX0_least 1 (rk 10 0) [.ref (K 0)] (kwW E K b y o n ls bc tk hk P Wt Tu Sc Ta Wa He Fk Pk) (fun r w => ∃ (ls2 bc2 : Nat) (Tv Sv Av Vv Fv : Nat → Nat), r = nI ls2 ∧ kOk b y o n ls2 bc2 1 hk P Wt Tv Sv Av Vv He Fv Pk ∧ w = (kwW E K b y o n ls2 bc2 1 hk P Wt Tv Sv Av Vv He Fv Pk)) := by
  refine kMi_of (cc := cX0_least) (maxL := 1) (by decide) (Nat.le_of_ble_eq_true rfl) ?_
  intro G C hE
  obtain ⟨H1, HP, HW, Hb, Hy, Ho, Htk, Hhk, Hls, HTa, HWa, HHe, HFk, HPk, HK, HH⟩ := id HO
  refine kx_aload_n C dX0_least_0 rfl 0 rfl ?_
  refine kx_callVv (rest := []) (wr := []) C (c_knowTails E K b y o n ls bc tk hk P Wt Tu Sc Ta Wa He Fk Pk HO) g0_90 0 rfl (by decide +kernel) ⟨Nat.le_of_ble_eq_true rfl, Nat.le_of_ble_eq_true rfl⟩ ⟨Nat.le_of_ble_eq_true rfl, Nat.le_of_ble_eq_true rfl⟩ [0, 1, 2, 3, 4, 5, 6, 7, 8, 9] [] rfl rfl (by decide) (by decide) (by decide) 0 rfl rfl rfl (Nat.le_of_ble_eq_true rfl) dX0_least_1 (fun w q1 => ?_)
  obtain ⟨ls2, bc2, Tv, Sv, Av, Vv, Fv, HO2, rfl⟩ := q1
  refine kx_eqw (ws2 := (kwW E K b y o n ls2 bc2 1 hk P Wt Tv Sv Av Vv He Fv Pk)) rfl ?_
  obtain ⟨G1, GP, GW, Gb, Gy, Go, Gtk, Ghk, Gls, GTa, GWa, GHe, GFk, GPk, GK, GH⟩ := id HO2
  obtain ⟨GT, GR, G0, Gn, GF⟩ := GK (by decide)
  refine kx_aload_n C dX0_least_4 rfl 0 rfl ?_
  refine kx_get (v := .int (nI (ls2))) (ci := 0) C kin0 0 rfl rfl 13 (by decide) fl0_93 rfl rfl dX0_least_5 ?_
  exact hE (Nat.le_of_ble_eq_true rfl) (Nat.le_of_ble_eq_true rfl) dX0_least_8 ⟨ls2, bc2, Tv, Sv, Av, Vv, Fv, rfl, HO2, rfl⟩

set_option maxHeartbeats 4000000 in
set_option maxRecDepth 100000 in
theorem c_count (E : KE) (K : Nat → Nat) (b y o n ls bc tk hk : Nat) (P Wt Tu Sc Ta Wa He Fk Pk : Nat → Nat) (HO : kOk b y o n ls bc tk hk P Wt Tu Sc Ta Wa He Fk Pk) : kMl E yX0_count cX0_count 1 (rk 10 0) [.ref (K 0)] (kwW E K b y o n ls bc tk hk P Wt Tu Sc Ta Wa He Fk Pk) (fun r w => ∃ (ls2 bc2 : Nat) (Tv Sv Av Vv Fv : Nat → Nat), r = lN bc2 ∧ kOk b y o n ls2 bc2 1 hk P Wt Tv Sv Av Vv He Fv Pk ∧ w = (kwW E K b y o n ls2 bc2 1 hk P Wt Tv Sv Av Vv He Fv Pk)) := by
  refine kMl_of (cc := cX0_count) (maxL := 1) (by decide) (Nat.le_of_ble_eq_true rfl) ?_
  intro G C hE
  obtain ⟨H1, HP, HW, Hb, Hy, Ho, Htk, Hhk, Hls, HTa, HWa, HHe, HFk, HPk, HK, HH⟩ := id HO
  refine kx_aload_n C dX0_count_0 rfl 0 rfl ?_
  refine kx_callVv (rest := []) (wr := []) C (c_knowTails E K b y o n ls bc tk hk P Wt Tu Sc Ta Wa He Fk Pk HO) g0_90 0 rfl (by decide +kernel) ⟨Nat.le_of_ble_eq_true rfl, Nat.le_of_ble_eq_true rfl⟩ ⟨Nat.le_of_ble_eq_true rfl, Nat.le_of_ble_eq_true rfl⟩ [0, 1, 2, 3, 4, 5, 6, 7, 8, 9] [] rfl rfl (by decide) (by decide) (by decide) 0 rfl rfl rfl (Nat.le_of_ble_eq_true rfl) dX0_count_1 (fun w q1 => ?_)
  obtain ⟨ls2, bc2, Tv, Sv, Av, Vv, Fv, HO2, rfl⟩ := q1
  refine kx_eqw (ws2 := (kwW E K b y o n ls2 bc2 1 hk P Wt Tv Sv Av Vv He Fv Pk)) rfl ?_
  obtain ⟨G1, GP, GW, Gb, Gy, Go, Gtk, Ghk, Gls, GTa, GWa, GHe, GFk, GPk, GK, GH⟩ := id HO2
  obtain ⟨GT, GR, G0, Gn, GF⟩ := GK (by decide)
  refine kx_aload_n C dX0_count_4 rfl 0 rfl ?_
  refine kx_get (v := .long (lN (bc2))) (ci := 0) C kin0 0 rfl rfl 14 (by decide) fl0_96 rfl rfl dX0_count_5 ?_
  exact hE (Nat.le_of_ble_eq_true rfl) (Nat.le_of_ble_eq_true rfl) dX0_count_8 ⟨ls2, bc2, Tv, Sv, Av, Vv, Fv, rfl, HO2, rfl⟩

set_option maxHeartbeats 4000000 in
set_option maxRecDepth 100000 in
theorem c_key (E : KE) (K : Nat → Nat) (b y o n ls bc tk hk : Nat) (P Wt Tu Sc Ta Wa He Fk Pk : Nat → Nat) (x0 : Int32) (HX : E.1.stackTraces = false) (HO : kOk b y o n ls bc tk hk P Wt Tu Sc Ta Wa He Fk Pk) : kTi E yX0_key cX0_key 2 (rk 10 1) [.ref (K 0), .int (x0)] (kwW E K b y o n ls bc tk hk P Wt Tu Sc Ta Wa He Fk Pk) (fun r w => ∃ sl, x0 = nI sl ∧ sl < n ∧ ∃ (ls2 bc2 : Nat) (Tv Sv Av Vv Fv : Nat → Nat), r = nI (Fv sl) ∧ kOk b y o n ls2 bc2 1 hk P Wt Tv Sv Av Vv He Fv Pk ∧ w = (kwW E K b y o n ls2 bc2 1 hk P Wt Tv Sv Av Vv He Fv Pk)) (fun n9 w => n9 = "java/lang/IllegalArgumentException" ∧ ¬ (∃ j, j < n ∧ x0 = nI j) ∧ w = (kwW E K b y o n ls bc tk hk P Wt Tu Sc Ta Wa He Fk Pk)) := by
  refine kTi_of (cc := cX0_key) (maxL := 2) (by decide) (Nat.le_of_ble_eq_true rfl) ?_
  intro G C hE hX hT
  obtain ⟨H1, HP, HW, Hb, Hy, Ho, Htk, Hhk, Hls, HTa, HWa, HHe, HFk, HPk, HK, HH⟩ := id HO
  refine kx_aload_n C dX0_key_0 rfl 0 rfl ?_
  refine kx_iload_n C dX0_key_1 rfl 1 rfl ?_
  refine kx_callVR (rest := []) (wr := []) C (c_requireSlice E K b y o n ls bc tk hk P Wt Tu Sc Ta Wa He Fk Pk x0 HX H1) g0_68 1 rfl (by decide +kernel) ⟨Nat.le_of_ble_eq_true rfl, Nat.le_of_ble_eq_true rfl⟩ ⟨Nat.le_of_ble_eq_true rfl, Nat.le_of_ble_eq_true rfl⟩ [0, 1, 2, 3, 4, 5, 6, 7, 8, 9] [] rfl rfl (by decide) (by decide) (by decide) 0 rfl rfl rfl (Nat.le_of_ble_eq_true rfl) dX0_key_2 (fun n9 q1 => ?_) (fun q1 => ?_)
  · skip
    exact hX (Nat.le_of_ble_eq_true rfl) (Nat.le_of_ble_eq_true rfl) ⟨q1.1, q1.2, rfl⟩
  obtain ⟨sl, esl, rfl⟩ := q1
  refine kx_aload_n C dX0_key_5 rfl 0 rfl ?_
  refine kx_callVv (rest := []) (wr := []) C (c_knowTails E K b y o n ls bc tk hk P Wt Tu Sc Ta Wa He Fk Pk HO) g0_90 0 rfl (by decide +kernel) ⟨Nat.le_of_ble_eq_true rfl, Nat.le_of_ble_eq_true rfl⟩ ⟨Nat.le_of_ble_eq_true rfl, Nat.le_of_ble_eq_true rfl⟩ [0, 1, 2, 3, 4, 5, 6, 7, 8, 9] [] rfl rfl (by decide) (by decide) (by decide) 0 rfl rfl rfl (Nat.le_of_ble_eq_true rfl) dX0_key_6 (fun w q2 => ?_)
  obtain ⟨ls2, bc2, Tv, Sv, Av, Vv, Fv, HO2, rfl⟩ := q2
  refine kx_eqw (ws2 := (kwW E K b y o n ls2 bc2 1 hk P Wt Tv Sv Av Vv He Fv Pk)) rfl ?_
  obtain ⟨G1, GP, GW, Gb, Gy, Go, Gtk, Ghk, Gls, GTa, GWa, GHe, GFk, GPk, GK, GH⟩ := id HO2
  obtain ⟨GT, GR, G0, Gn, GF⟩ := GK (by decide)
  refine kx_aload_n C dX0_key_9 rfl 0 rfl ?_
  refine kx_get (v := .ref (K 8)) (ci := 0) C kin0 0 rfl rfl 11 (by decide) fl0_32 rfl rfl dX0_key_10 ?_
  refine kx_iload_n C dX0_key_13 rfl 1 rfl ?_
  refine kx_iald C 8 rfl (j := sl) (by omega) (by decide) dX0_key_14 ?_
  exact hE (Nat.le_of_ble_eq_true rfl) (Nat.le_of_ble_eq_true rfl) dX0_key_15 ⟨sl, rfl, esl, ls2, bc2, Tv, Sv, Av, Vv, Fv, rfl, HO2, rfl⟩

set_option maxHeartbeats 4000000 in
set_option maxRecDepth 100000 in
theorem c_drop (E : KE) (K : Nat → Nat) (b y o n ls bc tk hk : Nat) (P Wt Tu Sc Ta Wa He Fk Pk : Nat → Nat) (HX : E.1.stackTraces = false) (HO : kOk b y o n ls bc tk hk P Wt Tu Sc Ta Wa He Fk Pk) : kTi E yX0_drop cX0_drop 1 (rk 10 1) [.ref (K 0)] (kwW E K b y o n ls bc tk hk P Wt Tu Sc Ta Wa He Fk Pk) (fun r w => 0 < n ∧ r = nI (n - 1) ∧ kOk b y o (n - 1) ls bc 0 0 P Wt Tu Sc Ta Wa He Fk Pk ∧ w = (kwW E K b y o (n - 1) ls bc 0 0 P Wt Tu Sc Ta Wa He Fk Pk)) (fun n9 w => n9 = "java/lang/IllegalStateException" ∧ n = 0 ∧ w = (kwW E K b y o n ls bc tk hk P Wt Tu Sc Ta Wa He Fk Pk)) := by
  refine kTi_of (cc := cX0_drop) (maxL := 1) (by decide) (Nat.le_of_ble_eq_true rfl) ?_
  intro G C hE hX hT
  obtain ⟨H1, HP, HW, Hb, Hy, Ho, Htk, Hhk, Hls, HTa, HWa, HHe, HFk, HPk, HK, HH⟩ := id HO
  refine kx_aload_n C dX0_drop_0 rfl 0 rfl ?_
  refine kx_get (v := .int (nI (n))) (ci := 0) C kin0 0 rfl rfl 5 (by decide) fl0_41 rfl rfl dX0_drop_1 ?_
  refine kx_if_gt (tgt := 17) C (by omega) dX0_drop_4 (by decide) (fun c1 => ?_) (fun c1 => ?_)
  · skip
    refine kx_aload_n C dX0_drop_17 rfl 0 rfl ?_
    refine kx_dup C dX0_drop_18 rfl ?_
    refine kx_get (v := .int (nI (n))) (ci := 0) C kin0 0 rfl rfl 5 (by decide) fl0_41 rfl rfl dX0_drop_19 ?_
    refine kx_iconst (v := nI 1) C dX0_drop_22 (by decide +kernel) ?_
    refine kx_isub C (by omega) dX0_drop_23 ?_
    refine kx_put (ws2 := (kwW E K b y o ((n) - (1)) ls bc tk hk P Wt Tu Sc Ta Wa He Fk Pk)) (ci := 0) C kin0 tyX0_ok nmX0 0 rfl rfl 5 (by decide) fl0_41 rfl rfl rfl rfl (Nat.le_of_ble_eq_true rfl) rfl dX0_drop_24 ?_
    refine kx_aload_n C dX0_drop_27 rfl 0 rfl ?_
    refine kx_callVv (rest := []) (wr := []) C (c_forget E K b y o ((n) - (1)) ls bc tk hk P Wt Tu Sc Ta Wa He Fk Pk) g0_49 0 rfl (by decide +kernel) ⟨Nat.le_of_ble_eq_true rfl, Nat.le_of_ble_eq_true rfl⟩ ⟨Nat.le_of_ble_eq_true rfl, Nat.le_of_ble_eq_true rfl⟩ [0, 1, 2, 3, 4, 5, 6, 7, 8, 9] [] rfl rfl (by decide) (by decide) (by decide) 0 rfl rfl rfl (Nat.le_of_ble_eq_true rfl) dX0_drop_28 (fun w q2 => ?_)
    obtain rfl := q2
    refine kx_eqw (ws2 := (kwW E K b y o ((n) - (1)) ls bc 0 0 P Wt Tu Sc Ta Wa He Fk Pk)) rfl ?_
    refine kx_aload_n C dX0_drop_31 rfl 0 rfl ?_
    refine kx_get (v := .int (nI ((n) - (1)))) (ci := 0) C kin0 0 rfl rfl 5 (by decide) fl0_41 rfl rfl dX0_drop_32 ?_
    exact hE (Nat.le_of_ble_eq_true rfl) (Nat.le_of_ble_eq_true rfl) dX0_drop_35 ⟨c1, rfl, ⟨(by omega), HP, HW, Hb, Hy, Ho, Nat.zero_le _, Nat.zero_le _, Hls, HTa, HWa, HHe, HFk, HPk, fun z => absurd rfl z, fun z => absurd rfl z⟩, rfl⟩
  · skip
    exact hT (kthr_drop_7 E HX) (Nat.le_of_ble_eq_true rfl) (Nat.le_of_ble_eq_true rfl) ⟨rfl, c1, rfl⟩

set_option maxHeartbeats 4000000 in
set_option maxRecDepth 100000 in
theorem c_slice (E : KE) (K : Nat → Nat) (b y o n ls bc tk hk : Nat) (P Wt Tu Sc Ta Wa He Fk Pk : Nat → Nat) (HX : E.1.stackTraces = false) (HO : kOk b y o n ls bc tk hk P Wt Tu Sc Ta Wa He Fk Pk) : kTi E yX0_slice cX0_slice 3 (rk 10 1) [.ref (K 0)] (kwW E K b y o n ls bc tk hk P Wt Tu Sc Ta Wa He Fk Pk) (fun r w => n < 40 ∧ r = nI n ∧ ∃ Wv : Nat → Nat, (∀ j, j < 12 → Wv (n * 12 + j) = 0) ∧ (∀ j, j < n * 12 ∨ n * 12 + 12 ≤ j → Wv j = Wt j) ∧ kOk b y o (n + 1) ls bc 0 0 P Wv Tu Sc Ta Wa He Fk Pk ∧ w = (kwW E K b y o (n + 1) ls bc 0 0 P Wv Tu Sc Ta Wa He Fk Pk)) (fun n9 w => n9 = "java/lang/IllegalStateException" ∧ 40 ≤ n ∧ w = (kwW E K b y o n ls bc tk hk P Wt Tu Sc Ta Wa He Fk Pk)) := by
  refine kTi_of (cc := cX0_slice) (maxL := 3) (by decide) (Nat.le_of_ble_eq_true rfl) ?_
  intro G C hE hX hT
  obtain ⟨H1, HP, HW, Hb, Hy, Ho, Htk, Hhk, Hls, HTa, HWa, HHe, HFk, HPk, HK, HH⟩ := id HO
  have lp26 : ∀ (N_lp26 : Nat) (i : Nat) (Wv : Nat → Nat), (i ≤ 12) → (∀ j, j < i → Wv (n * 12 + j) = 0) → (∀ j, j < n * 12 ∨ n * 12 + 12 ≤ j → Wv j = Wt j) → (∀ j, Wv j ≤ 200) → (n < 40) → (12 < i + N_lp26) → kx E (rk 10 1) G 3 0 0 (kwW E K b y o n ls bc tk hk P Wv Tu Sc Ta Wa He Fk Pk) [(0, .ref (K 0)), (1, .int (nI (n))), (2, .int (nI (i)))] 26 [] := by
    intro N_lp26
    induction N_lp26 with
    | zero =>
      intro i Wv h0_lp26 h1_lp26 h2_lp26 h3_lp26 h4_lp26 hm_lp26
      exact absurd hm_lp26 (by omega)
    | succ N_lp26 ih_lp26 =>
      intro i Wv h0_lp26 h1_lp26 h2_lp26 h3_lp26 h4_lp26 hm_lp26
      refine kx_iload_n C dX0_slice_26 rfl 2 rfl ?_
      refine kx_bipush (v := nI 12) C dX0_slice_27 (by decide +kernel) ?_
      refine kx_icmp_ge (tgt := 50) C (by omega) (by omega) dX0_slice_29 (by decide) (fun c1 => ?_) (fun c1 => ?_)
      · skip
        obtain rfl : 12 = i := by omega
        refine kx_aload_n C dX0_slice_50 rfl 0 rfl ?_
        refine kx_dup C dX0_slice_51 rfl ?_
        refine kx_get (v := .int (nI (n))) (ci := 0) C kin0 0 rfl rfl 5 (by decide) fl0_41 rfl rfl dX0_slice_52 ?_
        refine kx_iconst (v := nI 1) C dX0_slice_55 (by decide +kernel) ?_
        refine kx_iadd C dX0_slice_56 ?_
        refine kx_put (ws2 := (kwW E K b y o ((n) + (1)) ls bc tk hk P Wv Tu Sc Ta Wa He Fk Pk)) (ci := 0) C kin0 tyX0_ok nmX0 0 rfl rfl 5 (by decide) fl0_41 rfl rfl rfl rfl (Nat.le_of_ble_eq_true rfl) rfl dX0_slice_57 ?_
        refine kx_aload_n C dX0_slice_60 rfl 0 rfl ?_
        refine kx_callVv (rest := []) (wr := []) C (c_forget E K b y o ((n) + (1)) ls bc tk hk P Wv Tu Sc Ta Wa He Fk Pk) g0_49 0 rfl (by decide +kernel) ⟨Nat.le_of_ble_eq_true rfl, Nat.le_of_ble_eq_true rfl⟩ ⟨Nat.le_of_ble_eq_true rfl, Nat.le_of_ble_eq_true rfl⟩ [0, 1, 2, 3, 4, 5, 6, 7, 8, 9] [] rfl rfl (by decide) (by decide) (by decide) 0 rfl rfl rfl (Nat.le_of_ble_eq_true rfl) dX0_slice_61 (fun w q2 => ?_)
        obtain rfl := q2
        refine kx_eqw (ws2 := (kwW E K b y o ((n) + (1)) ls bc 0 0 P Wv Tu Sc Ta Wa He Fk Pk)) rfl ?_
        refine kx_iload_n C dX0_slice_64 rfl 1 rfl ?_
        exact hE (Nat.le_of_ble_eq_true rfl) (Nat.le_of_ble_eq_true rfl) dX0_slice_65 ⟨by omega, rfl, Wv, fun j hj => h1_lp26 j hj, h2_lp26, ⟨(by omega), HP, h3_lp26, Hb, Hy, Ho, Nat.zero_le _, Nat.zero_le _, Hls, HTa, HWa, HHe, HFk, HPk, fun z => absurd rfl z, fun z => absurd rfl z⟩, rfl⟩
      · skip
        refine kx_aload_n C dX0_slice_32 rfl 0 rfl ?_
        refine kx_get (v := .ref (K 2)) (ci := 0) C kin0 0 rfl rfl 1 (by decide) fl0_13 rfl rfl dX0_slice_33 ?_
        refine kx_iload_n C dX0_slice_36 rfl 1 rfl ?_
        refine kx_bipush (v := nI 12) C dX0_slice_37 (by decide +kernel) ?_
        refine kx_imul C dX0_slice_39 ?_
        refine kx_iload_n C dX0_slice_40 rfl 2 rfl ?_
        refine kx_iadd C dX0_slice_41 ?_
        refine kx_iconst (v := nI 0) C dX0_slice_42 (by decide +kernel) ?_
        refine kx_iast (ws2 := (kwW E K b y o n ls bc tk hk P (va_up Wv (((n) * (12)) + (i)) (0)) Tu Sc Ta Wa He Fk Pk)) C 2 rfl (j := ((n) * (12)) + (i)) (v := 0) (by omega) (by decide) rfl dX0_slice_43 ?_
        refine kx_iinc (v := nI (i + 1)) (lv2 := [(2, .int (nI (i + 1))), (0, .ref (K 0)), (1, .int (nI (n)))]) C dX0_slice_44 2 rfl (kI1 _) (by decide) rfl ?_
        refine kx_goto (tgt := 26) C dX0_slice_47 (by decide) ?_
        refine kx_lv (lv2 := [(0, .ref (K 0)), (1, .int (nI (n))), (2, .int (nI (i + 1)))]) [1, 2, 0] rfl ?_
        refine kx_eqw (ws2 := (kwW E K b y o n ls bc tk hk P (va_up Wv (((n) * (12)) + (i)) (0)) Tu Sc Ta Wa He Fk Pk)) rfl ?_
        exact ih_lp26 (i + 1) (va_up Wv (((n) * (12)) + (i)) (0)) (by omega) (kW0 h1_lp26) (kW1 h2_lp26 (by omega)) (up_le h3_lp26 (Nat.zero_le _)) h4_lp26 (by omega)
  refine kx_aload_n C dX0_slice_0 rfl 0 rfl ?_
  refine kx_get (v := .int (nI (n))) (ci := 0) C kin0 0 rfl rfl 5 (by decide) fl0_41 rfl rfl dX0_slice_1 ?_
  refine kx_bipush (v := nI 40) C dX0_slice_4 (by decide +kernel) ?_
  refine kx_icmp_lt (tgt := 19) C (by omega) (by omega) dX0_slice_6 (by decide) (fun c1 => ?_) (fun c1 => ?_)
  · skip
    refine kx_aload_n C dX0_slice_19 rfl 0 rfl ?_
    refine kx_get (v := .int (nI (n))) (ci := 0) C kin0 0 rfl rfl 5 (by decide) fl0_41 rfl rfl dX0_slice_20 ?_
    refine kx_istore_n (lv2 := [(1, .int (nI (n))), (0, .ref (K 0))]) C dX0_slice_23 rfl (by decide) rfl ?_
    refine kx_iconst (v := nI 0) C dX0_slice_24 (by decide +kernel) ?_
    refine kx_istore_n (lv2 := [(2, .int (nI (0))), (1, .int (nI (n))), (0, .ref (K 0))]) C dX0_slice_25 rfl (by decide) rfl ?_
    refine kx_lv (lv2 := [(0, .ref (K 0)), (1, .int (nI (n))), (2, .int (nI (0)))]) [2, 1, 0] rfl ?_
    refine kx_eqw (ws2 := (kwW E K b y o n ls bc tk hk P Wt Tu Sc Ta Wa He Fk Pk)) rfl ?_
    exact lp26 13 0 Wt (by omega) (fun j hj => absurd hj (by omega)) (fun _ _ => rfl) HW (by omega) (by omega)
  · skip
    exact hT (kthr_slice_9 E HX) (Nat.le_of_ble_eq_true rfl) (Nat.le_of_ble_eq_true rfl) ⟨rfl, c1, rfl⟩

set_option maxHeartbeats 4000000 in
set_option maxRecDepth 100000 in
theorem c_note (E : KE) (K : Nat → Nat) (b y o n ls bc tk hk : Nat) (P Wt Tu Sc Ta Wa He Fk Pk : Nat → Nat) (x0 x1 x2 : Int32) (HX : E.1.stackTraces = false) (HO : kOk b y o n ls bc tk hk P Wt Tu Sc Ta Wa He Fk Pk) : kTi E yX0_note cX0_note 6 (rk 10 1) [.ref (K 0), .int (x0), .int (x1), .int (x2)] (kwW E K b y o n ls bc tk hk P Wt Tu Sc Ta Wa He Fk Pk) (fun r w => ∃ sl pi wt, x0 = nI sl ∧ sl < n ∧ x1 = nI pi ∧ pi ≤ 11 ∧ x2 = nI wt ∧ 1 ≤ wt ∧ wt ≤ 200 ∧ Wt (sl * 12 + pi) + wt ≤ 200 ∧ r = nI (Wt (sl * 12 + pi) + wt) ∧ kOk b y o n ls bc 0 0 P (va_up Wt (sl * 12 + pi) (Wt (sl * 12 + pi) + wt)) Tu Sc Ta Wa He Fk Pk ∧ w = (kwW E K b y o n ls bc 0 0 P (va_up Wt (sl * 12 + pi) (Wt (sl * 12 + pi) + wt)) Tu Sc Ta Wa He Fk Pk)) (fun n9 w => ((n9 = "java/lang/IllegalArgumentException" ∧ ¬ ((∃ j, j < n ∧ x0 = nI j) ∧ (∃ j, j ≤ 11 ∧ x1 = nI j) ∧ (∃ j, 1 ≤ j ∧ j ≤ 200 ∧ x2 = nI j))) ∨ (n9 = "java/lang/IllegalStateException" ∧ ∃ sl pi wt, x0 = nI sl ∧ sl < n ∧ x1 = nI pi ∧ pi ≤ 11 ∧ x2 = nI wt ∧ 1 ≤ wt ∧ wt ≤ 200 ∧ 200 < Wt (sl * 12 + pi) + wt)) ∧ w = (kwW E K b y o n ls bc tk hk P Wt Tu Sc Ta Wa He Fk Pk)) := by
  refine kTi_of (cc := cX0_note) (maxL := 6) (by decide) (Nat.le_of_ble_eq_true rfl) ?_
  intro G C hE hX hT
  obtain ⟨H1, HP, HW, Hb, Hy, Ho, Htk, Hhk, Hls, HTa, HWa, HHe, HFk, HPk, HK, HH⟩ := id HO
  refine kx_aload_n C dX0_note_0 rfl 0 rfl ?_
  refine kx_iload_n C dX0_note_1 rfl 1 rfl ?_
  refine kx_callVR (rest := []) (wr := []) C (c_requireSlice E K b y o n ls bc tk hk P Wt Tu Sc Ta Wa He Fk Pk x0 HX H1) g0_68 1 rfl (by decide +kernel) ⟨Nat.le_of_ble_eq_true rfl, Nat.le_of_ble_eq_true rfl⟩ ⟨Nat.le_of_ble_eq_true rfl, Nat.le_of_ble_eq_true rfl⟩ [0, 1, 2, 3, 4, 5, 6, 7, 8, 9] [] rfl rfl (by decide) (by decide) (by decide) 0 rfl rfl rfl (Nat.le_of_ble_eq_true rfl) dX0_note_2 (fun n9 q1 => ?_) (fun q1 => ?_)
  · skip
    exact hX (Nat.le_of_ble_eq_true rfl) (Nat.le_of_ble_eq_true rfl) ⟨Or.inl ⟨q1.1, (fun z => q1.2 z.1)⟩, rfl⟩
  obtain ⟨sl, esl, rfl⟩ := q1
  refine kx_iload_n C dX0_note_5 rfl 2 rfl ?_
  refine kx_iconst (v := nI 0) C dX0_note_6 (by decide +kernel) ?_
  refine kx_bipush (v := nI 11) C dX0_note_7 (by decide +kernel) ?_
  refine kx_callSR (rest := []) (wr := (kwW E K b y o n ls bc tk hk P Wt Tu Sc Ta Wa He Fk Pk)) C (c_requireWithin E x1 (nI 0) (nI 11) HX) g0_45 3 rfl (by decide +kernel) ⟨Nat.le_of_ble_eq_true rfl, Nat.le_of_ble_eq_true rfl⟩ ⟨Nat.le_of_ble_eq_true rfl, Nat.le_of_ble_eq_true rfl⟩ [] [0, 1, 2, 3, 4, 5, 6, 7, 8, 9] rfl rfl (by decide) (by decide) (by decide) rfl (Nat.le_of_ble_eq_true rfl) dX0_note_9 (fun n9 q2 => ?_) (fun q2 => ?_)
  · skip
    exact hX (Nat.le_of_ble_eq_true rfl) (Nat.le_of_ble_eq_true rfl) ⟨Or.inl ⟨q2.1, (fun z => (kIn2 (by decide) q2.2) z.2.1)⟩, (List.append_nil _)⟩
  obtain ⟨pi, epi, rfl⟩ := kIn1 (by decide) q2.1 q2.2
  refine kx_iload_n C dX0_note_12 rfl 3 rfl ?_
  refine kx_iconst (v := nI 1) C dX0_note_13 (by decide +kernel) ?_
  refine kx_sipush (v := nI 200) C dX0_note_14 (by decide +kernel) ?_
  refine kx_callSR (rest := []) (wr := (kwW E K b y o n ls bc tk hk P Wt Tu Sc Ta Wa He Fk Pk)) C (c_requireWithin E x2 (nI 1) (nI 200) HX) g0_45 3 rfl (by decide +kernel) ⟨Nat.le_of_ble_eq_true rfl, Nat.le_of_ble_eq_true rfl⟩ ⟨Nat.le_of_ble_eq_true rfl, Nat.le_of_ble_eq_true rfl⟩ [] [0, 1, 2, 3, 4, 5, 6, 7, 8, 9] rfl rfl (by decide) (by decide) (by decide) rfl (Nat.le_of_ble_eq_true rfl) dX0_note_17 (fun n9 q3 => ?_) (fun q3 => ?_)
  · skip
    exact hX (Nat.le_of_ble_eq_true rfl) (Nat.le_of_ble_eq_true rfl) ⟨Or.inl ⟨q3.1, (fun z => (kIn4 (by decide) q3.2) z.2.2)⟩, (List.append_nil _)⟩
  obtain ⟨wt, ewt, rfl⟩ := kIn3 (by decide) q3.1 q3.2
  refine kx_iload_n C dX0_note_20 rfl 1 rfl ?_
  refine kx_bipush (v := nI 12) C dX0_note_21 (by decide +kernel) ?_
  refine kx_imul C dX0_note_23 ?_
  refine kx_iload_n C dX0_note_24 rfl 2 rfl ?_
  refine kx_iadd C dX0_note_25 ?_
  refine kx_istore (lv2 := [(4, .int (nI (((sl) * (12)) + (pi)))), (0, .ref (K 0)), (1, .int (nI (sl))), (2, .int (nI (pi))), (3, .int (nI (wt)))]) C dX0_note_26 (by decide) rfl ?_
  refine kx_aload_n C dX0_note_28 rfl 1 rfl ?_
  refine kx_get (v := .ref (K 2)) (ci := 0) C kin0 0 rfl rfl 1 (by decide) fl0_13 rfl rfl dX0_note_29 ?_
  refine kx_iload C dX0_note_32 0 rfl ?_
  refine kx_iald C 2 rfl (j := ((sl) * (12)) + (pi)) (by omega) (by decide) dX0_note_34 ?_
  refine kx_iload_n C dX0_note_35 rfl 4 rfl ?_
  refine kx_iadd C dX0_note_36 ?_
  refine kx_istore (lv2 := [(5, .int (nI ((Wt (((sl) * (12)) + (pi))) + (wt)))), (4, .int (nI (((sl) * (12)) + (pi)))), (0, .ref (K 0)), (1, .int (nI (sl))), (2, .int (nI (pi))), (3, .int (nI (wt)))]) C dX0_note_37 (by decide) rfl ?_
  refine kx_iload C dX0_note_39 0 rfl ?_
  refine kx_sipush (v := nI 200) C dX0_note_41 (by decide +kernel) ?_
  refine kx_icmp_le (tgt := 57) C (by have := HW (sl * 12 + pi); omega) (by decide) dX0_note_44 (by decide) (fun c4 => ?_) (fun c4 => ?_)
  · skip
    refine kx_aload_n C dX0_note_57 rfl 2 rfl ?_
    refine kx_get (v := .ref (K 2)) (ci := 0) C kin0 0 rfl rfl 1 (by decide) fl0_13 rfl rfl dX0_note_58 ?_
    refine kx_iload C dX0_note_61 1 rfl ?_
    refine kx_iload C dX0_note_63 0 rfl ?_
    refine kx_iast (ws2 := (kwW E K b y o n ls bc tk hk P (va_up Wt (((sl) * (12)) + (pi)) ((Wt (((sl) * (12)) + (pi))) + (wt))) Tu Sc Ta Wa He Fk Pk)) C 2 rfl (j := ((sl) * (12)) + (pi)) (v := (Wt (((sl) * (12)) + (pi))) + (wt)) (by omega) (by decide) rfl dX0_note_65 ?_
    refine kx_aload_n C dX0_note_66 rfl 2 rfl ?_
    refine kx_callVv (rest := []) (wr := []) C (c_forget E K b y o n ls bc tk hk P (va_up Wt (((sl) * (12)) + (pi)) ((Wt (((sl) * (12)) + (pi))) + (wt))) Tu Sc Ta Wa He Fk Pk) g0_49 0 rfl (by decide +kernel) ⟨Nat.le_of_ble_eq_true rfl, Nat.le_of_ble_eq_true rfl⟩ ⟨Nat.le_of_ble_eq_true rfl, Nat.le_of_ble_eq_true rfl⟩ [0, 1, 2, 3, 4, 5, 6, 7, 8, 9] [] rfl rfl (by decide) (by decide) (by decide) 0 rfl rfl rfl (Nat.le_of_ble_eq_true rfl) dX0_note_67 (fun w q5 => ?_)
    obtain rfl := q5
    refine kx_eqw (ws2 := (kwW E K b y o n ls bc 0 0 P (va_up Wt (((sl) * (12)) + (pi)) ((Wt (((sl) * (12)) + (pi))) + (wt))) Tu Sc Ta Wa He Fk Pk)) rfl ?_
    refine kx_iload C dX0_note_70 0 rfl ?_
    exact hE (Nat.le_of_ble_eq_true rfl) (Nat.le_of_ble_eq_true rfl) dX0_note_72 ⟨sl, pi, wt, rfl, esl, rfl, epi, rfl, ewt.1, ewt.2, c4, rfl, ⟨H1, HP, (up_le HW c4), Hb, Hy, Ho, Nat.zero_le _, Nat.zero_le _, Hls, HTa, HWa, HHe, HFk, HPk, fun z => absurd rfl z, fun z => absurd rfl z⟩, rfl⟩
  · skip
    exact hT (kthr_note_47 E HX) (Nat.le_of_ble_eq_true rfl) (Nat.le_of_ble_eq_true rfl) ⟨Or.inr ⟨rfl, sl, pi, wt, rfl, esl, rfl, epi, rfl, ewt.1, ewt.2, c4⟩, rfl⟩

set_option maxHeartbeats 4000000 in
set_option maxRecDepth 100000 in
theorem c_profile (E : KE) (K : Nat → Nat) (b y o n ls bc tk hk : Nat) (P Wt Tu Sc Ta Wa He Fk Pk : Nat → Nat) (x0 x1 x2 : Int32) (HX : E.1.stackTraces = false) (HO : kOk b y o n ls bc tk hk P Wt Tu Sc Ta Wa He Fk Pk) : kTi E yX0_profile cX0_profile 6 (rk 10 1) [.ref (K 0), .int (x0), .int (x1), .int (x2)] (kwW E K b y o n ls bc tk hk P Wt Tu Sc Ta Wa He Fk Pk) (fun r w => ∃ mo stp nu, x0 = nI mo ∧ mo ≤ 1 ∧ x1 = nI stp ∧ stp ≤ 11 ∧ x2 = nI nu ∧ nu ≤ 99 ∧ r = nI (P (mo * 12 + stp)) ∧ kOk b y o n ls bc 0 0 (va_up P (mo * 12 + stp) nu) Wt Tu Sc Ta Wa He Fk Pk ∧ w = (kwW E K b y o n ls bc 0 0 (va_up P (mo * 12 + stp) nu) Wt Tu Sc Ta Wa He Fk Pk)) (fun n9 w => n9 = "java/lang/IllegalArgumentException" ∧ ¬ ((∃ j, j ≤ 1 ∧ x0 = nI j) ∧ (∃ j, j ≤ 11 ∧ x1 = nI j) ∧ (∃ j, j ≤ 99 ∧ x2 = nI j)) ∧ w = (kwW E K b y o n ls bc tk hk P Wt Tu Sc Ta Wa He Fk Pk)) := by
  refine kTi_of (cc := cX0_profile) (maxL := 6) (by decide) (Nat.le_of_ble_eq_true rfl) ?_
  intro G C hE hX hT
  obtain ⟨H1, HP, HW, Hb, Hy, Ho, Htk, Hhk, Hls, HTa, HWa, HHe, HFk, HPk, HK, HH⟩ := id HO
  refine kx_iload_n C dX0_profile_0 rfl 1 rfl ?_
  refine kx_iconst (v := nI 0) C dX0_profile_1 (by decide +kernel) ?_
  refine kx_iconst (v := nI 1) C dX0_profile_2 (by decide +kernel) ?_
  refine kx_callSR (rest := []) (wr := (kwW E K b y o n ls bc tk hk P Wt Tu Sc Ta Wa He Fk Pk)) C (c_requireWithin E x0 (nI 0) (nI 1) HX) g0_45 3 rfl (by decide +kernel) ⟨Nat.le_of_ble_eq_true rfl, Nat.le_of_ble_eq_true rfl⟩ ⟨Nat.le_of_ble_eq_true rfl, Nat.le_of_ble_eq_true rfl⟩ [] [0, 1, 2, 3, 4, 5, 6, 7, 8, 9] rfl rfl (by decide) (by decide) (by decide) rfl (Nat.le_of_ble_eq_true rfl) dX0_profile_3 (fun n9 q1 => ?_) (fun q1 => ?_)
  · skip
    exact hX (Nat.le_of_ble_eq_true rfl) (Nat.le_of_ble_eq_true rfl) ⟨q1.1, (fun z => (kIn2 (by decide) q1.2) z.1), (List.append_nil _)⟩
  obtain ⟨mo, emo, rfl⟩ := kIn1 (by decide) q1.1 q1.2
  refine kx_iload_n C dX0_profile_6 rfl 2 rfl ?_
  refine kx_iconst (v := nI 0) C dX0_profile_7 (by decide +kernel) ?_
  refine kx_bipush (v := nI 11) C dX0_profile_8 (by decide +kernel) ?_
  refine kx_callSR (rest := []) (wr := (kwW E K b y o n ls bc tk hk P Wt Tu Sc Ta Wa He Fk Pk)) C (c_requireWithin E x1 (nI 0) (nI 11) HX) g0_45 3 rfl (by decide +kernel) ⟨Nat.le_of_ble_eq_true rfl, Nat.le_of_ble_eq_true rfl⟩ ⟨Nat.le_of_ble_eq_true rfl, Nat.le_of_ble_eq_true rfl⟩ [] [0, 1, 2, 3, 4, 5, 6, 7, 8, 9] rfl rfl (by decide) (by decide) (by decide) rfl (Nat.le_of_ble_eq_true rfl) dX0_profile_10 (fun n9 q2 => ?_) (fun q2 => ?_)
  · skip
    exact hX (Nat.le_of_ble_eq_true rfl) (Nat.le_of_ble_eq_true rfl) ⟨q2.1, (fun z => (kIn2 (by decide) q2.2) z.2.1), (List.append_nil _)⟩
  obtain ⟨stp, estp, rfl⟩ := kIn1 (by decide) q2.1 q2.2
  refine kx_iload_n C dX0_profile_13 rfl 3 rfl ?_
  refine kx_iconst (v := nI 0) C dX0_profile_14 (by decide +kernel) ?_
  refine kx_bipush (v := nI 99) C dX0_profile_15 (by decide +kernel) ?_
  refine kx_callSR (rest := []) (wr := (kwW E K b y o n ls bc tk hk P Wt Tu Sc Ta Wa He Fk Pk)) C (c_requireWithin E x2 (nI 0) (nI 99) HX) g0_45 3 rfl (by decide +kernel) ⟨Nat.le_of_ble_eq_true rfl, Nat.le_of_ble_eq_true rfl⟩ ⟨Nat.le_of_ble_eq_true rfl, Nat.le_of_ble_eq_true rfl⟩ [] [0, 1, 2, 3, 4, 5, 6, 7, 8, 9] rfl rfl (by decide) (by decide) (by decide) rfl (Nat.le_of_ble_eq_true rfl) dX0_profile_17 (fun n9 q3 => ?_) (fun q3 => ?_)
  · skip
    exact hX (Nat.le_of_ble_eq_true rfl) (Nat.le_of_ble_eq_true rfl) ⟨q3.1, (fun z => (kIn2 (by decide) q3.2) z.2.2), (List.append_nil _)⟩
  obtain ⟨nu, enu, rfl⟩ := kIn1 (by decide) q3.1 q3.2
  refine kx_iload_n C dX0_profile_20 rfl 1 rfl ?_
  refine kx_bipush (v := nI 12) C dX0_profile_21 (by decide +kernel) ?_
  refine kx_imul C dX0_profile_23 ?_
  refine kx_iload_n C dX0_profile_24 rfl 2 rfl ?_
  refine kx_iadd C dX0_profile_25 ?_
  refine kx_istore (lv2 := [(4, .int (nI (((mo) * (12)) + (stp)))), (0, .ref (K 0)), (1, .int (nI (mo))), (2, .int (nI (stp))), (3, .int (nI (nu)))]) C dX0_profile_26 (by decide) rfl ?_
  refine kx_aload_n C dX0_profile_28 rfl 1 rfl ?_
  refine kx_get (v := .ref (K 1)) (ci := 0) C kin0 0 rfl rfl 0 (by decide) fl0_9 rfl rfl dX0_profile_29 ?_
  refine kx_iload C dX0_profile_32 0 rfl ?_
  refine kx_iald C 1 rfl (j := ((mo) * (12)) + (stp)) (by omega) (by decide) dX0_profile_34 ?_
  refine kx_istore (lv2 := [(5, .int (nI (P (((mo) * (12)) + (stp))))), (4, .int (nI (((mo) * (12)) + (stp)))), (0, .ref (K 0)), (1, .int (nI (mo))), (2, .int (nI (stp))), (3, .int (nI (nu)))]) C dX0_profile_35 (by decide) rfl ?_
  refine kx_aload_n C dX0_profile_37 rfl 2 rfl ?_
  refine kx_get (v := .ref (K 1)) (ci := 0) C kin0 0 rfl rfl 0 (by decide) fl0_9 rfl rfl dX0_profile_38 ?_
  refine kx_iload C dX0_profile_41 1 rfl ?_
  refine kx_iload_n C dX0_profile_43 rfl 5 rfl ?_
  refine kx_iast (ws2 := (kwW E K b y o n ls bc tk hk (va_up P (((mo) * (12)) + (stp)) (nu)) Wt Tu Sc Ta Wa He Fk Pk)) C 1 rfl (j := ((mo) * (12)) + (stp)) (v := nu) (by omega) (by decide) rfl dX0_profile_44 ?_
  refine kx_aload_n C dX0_profile_45 rfl 2 rfl ?_
  refine kx_callVv (rest := []) (wr := []) C (c_forget E K b y o n ls bc tk hk (va_up P (((mo) * (12)) + (stp)) (nu)) Wt Tu Sc Ta Wa He Fk Pk) g0_49 0 rfl (by decide +kernel) ⟨Nat.le_of_ble_eq_true rfl, Nat.le_of_ble_eq_true rfl⟩ ⟨Nat.le_of_ble_eq_true rfl, Nat.le_of_ble_eq_true rfl⟩ [0, 1, 2, 3, 4, 5, 6, 7, 8, 9] [] rfl rfl (by decide) (by decide) (by decide) 0 rfl rfl rfl (Nat.le_of_ble_eq_true rfl) dX0_profile_46 (fun w q4 => ?_)
  obtain rfl := q4
  refine kx_eqw (ws2 := (kwW E K b y o n ls bc 0 0 (va_up P (((mo) * (12)) + (stp)) (nu)) Wt Tu Sc Ta Wa He Fk Pk)) rfl ?_
  refine kx_iload C dX0_profile_49 0 rfl ?_
  exact hE (Nat.le_of_ble_eq_true rfl) (Nat.le_of_ble_eq_true rfl) dX0_profile_51 ⟨mo, stp, nu, rfl, emo, rfl, estp, rfl, enu, rfl, ⟨H1, (up_le HP enu), HW, Hb, Hy, Ho, Nat.zero_le _, Nat.zero_le _, Hls, HTa, HWa, HHe, HFk, HPk, fun z => absurd rfl z, fun z => absurd rfl z⟩, rfl⟩

set_option maxHeartbeats 4000000 in
set_option maxRecDepth 100000 in
theorem c_costs (E : KE) (K : Nat → Nat) (b y o n ls bc tk hk : Nat) (P Wt Tu Sc Ta Wa He Fk Pk : Nat → Nat) (x0 x1 x2 : Int32) (HX : E.1.stackTraces = false) (HO : kOk b y o n ls bc tk hk P Wt Tu Sc Ta Wa He Fk Pk) : kTi E yX0_costs cX0_costs 5 (rk 10 1) [.ref (K 0), .int (x0), .int (x1), .int (x2)] (kwW E K b y o n ls bc tk hk P Wt Tu Sc Ta Wa He Fk Pk) (fun r w => ∃ b2 y2 o2, x0 = nI b2 ∧ b2 ≤ 1000 ∧ x1 = nI y2 ∧ y2 ≤ 1000 ∧ x2 = nI o2 ∧ o2 ≤ 1000 ∧ r = nI ((if b = b2 then 0 else 1) + (if y = y2 then 0 else 1) + (if o = o2 then 0 else 1)) ∧ kOk b2 y2 o2 n ls bc 0 0 P Wt Tu Sc Ta Wa He Fk Pk ∧ w = (kwW E K b2 y2 o2 n ls bc 0 0 P Wt Tu Sc Ta Wa He Fk Pk)) (fun n9 w => n9 = "java/lang/IllegalArgumentException" ∧ ¬ ((∃ j, j ≤ 1000 ∧ x0 = nI j) ∧ (∃ j, j ≤ 1000 ∧ x1 = nI j) ∧ (∃ j, j ≤ 1000 ∧ x2 = nI j)) ∧ w = (kwW E K b y o n ls bc tk hk P Wt Tu Sc Ta Wa He Fk Pk)) := by
  refine kTi_of (cc := cX0_costs) (maxL := 5) (by decide) (Nat.le_of_ble_eq_true rfl) ?_
  intro G C hE hX hT
  obtain ⟨H1, HP, HW, Hb, Hy, Ho, Htk, Hhk, Hls, HTa, HWa, HHe, HFk, HPk, HK, HH⟩ := id HO
  refine kx_iload_n C dX0_costs_0 rfl 1 rfl ?_
  refine kx_iconst (v := nI 0) C dX0_costs_1 (by decide +kernel) ?_
  refine kx_sipush (v := nI 1000) C dX0_costs_2 (by decide +kernel) ?_
  refine kx_callSR (rest := []) (wr := (kwW E K b y o n ls bc tk hk P Wt Tu Sc Ta Wa He Fk Pk)) C (c_requireWithin E x0 (nI 0) (nI 1000) HX) g0_45 3 rfl (by decide +kernel) ⟨Nat.le_of_ble_eq_true rfl, Nat.le_of_ble_eq_true rfl⟩ ⟨Nat.le_of_ble_eq_true rfl, Nat.le_of_ble_eq_true rfl⟩ [] [0, 1, 2, 3, 4, 5, 6, 7, 8, 9] rfl rfl (by decide) (by decide) (by decide) rfl (Nat.le_of_ble_eq_true rfl) dX0_costs_5 (fun n9 q1 => ?_) (fun q1 => ?_)
  · skip
    exact hX (Nat.le_of_ble_eq_true rfl) (Nat.le_of_ble_eq_true rfl) ⟨q1.1, (fun z => (kIn2 (by decide) q1.2) z.1), (List.append_nil _)⟩
  obtain ⟨b2, eb2, rfl⟩ := kIn1 (by decide) q1.1 q1.2
  refine kx_iload_n C dX0_costs_8 rfl 2 rfl ?_
  refine kx_iconst (v := nI 0) C dX0_costs_9 (by decide +kernel) ?_
  refine kx_sipush (v := nI 1000) C dX0_costs_10 (by decide +kernel) ?_
  refine kx_callSR (rest := []) (wr := (kwW E K b y o n ls bc tk hk P Wt Tu Sc Ta Wa He Fk Pk)) C (c_requireWithin E x1 (nI 0) (nI 1000) HX) g0_45 3 rfl (by decide +kernel) ⟨Nat.le_of_ble_eq_true rfl, Nat.le_of_ble_eq_true rfl⟩ ⟨Nat.le_of_ble_eq_true rfl, Nat.le_of_ble_eq_true rfl⟩ [] [0, 1, 2, 3, 4, 5, 6, 7, 8, 9] rfl rfl (by decide) (by decide) (by decide) rfl (Nat.le_of_ble_eq_true rfl) dX0_costs_13 (fun n9 q2 => ?_) (fun q2 => ?_)
  · skip
    exact hX (Nat.le_of_ble_eq_true rfl) (Nat.le_of_ble_eq_true rfl) ⟨q2.1, (fun z => (kIn2 (by decide) q2.2) z.2.1), (List.append_nil _)⟩
  obtain ⟨y2, ey2, rfl⟩ := kIn1 (by decide) q2.1 q2.2
  refine kx_iload_n C dX0_costs_16 rfl 3 rfl ?_
  refine kx_iconst (v := nI 0) C dX0_costs_17 (by decide +kernel) ?_
  refine kx_sipush (v := nI 1000) C dX0_costs_18 (by decide +kernel) ?_
  refine kx_callSR (rest := []) (wr := (kwW E K b y o n ls bc tk hk P Wt Tu Sc Ta Wa He Fk Pk)) C (c_requireWithin E x2 (nI 0) (nI 1000) HX) g0_45 3 rfl (by decide +kernel) ⟨Nat.le_of_ble_eq_true rfl, Nat.le_of_ble_eq_true rfl⟩ ⟨Nat.le_of_ble_eq_true rfl, Nat.le_of_ble_eq_true rfl⟩ [] [0, 1, 2, 3, 4, 5, 6, 7, 8, 9] rfl rfl (by decide) (by decide) (by decide) rfl (Nat.le_of_ble_eq_true rfl) dX0_costs_21 (fun n9 q3 => ?_) (fun q3 => ?_)
  · skip
    exact hX (Nat.le_of_ble_eq_true rfl) (Nat.le_of_ble_eq_true rfl) ⟨q3.1, (fun z => (kIn2 (by decide) q3.2) z.2.2), (List.append_nil _)⟩
  obtain ⟨o2, eo2, rfl⟩ := kIn1 (by decide) q3.1 q3.2
  refine kx_aload_n C dX0_costs_24 rfl 0 rfl ?_
  refine kx_get (v := .int (nI (b))) (ci := 0) C kin0 0 rfl rfl 2 (by decide) fl0_52 rfl rfl dX0_costs_25 ?_
  refine kx_iload_n C dX0_costs_28 rfl 1 rfl ?_
  refine kx_icmp_eq (tgt := 36) C (by omega) (by omega) dX0_costs_29 (by decide) (fun c4 => ?_) (fun c4 => ?_)
  · skip
    refine kx_iconst (v := nI 0) C dX0_costs_36 (by decide +kernel) ?_
    refine kx_aload_n C dX0_costs_37 rfl 0 rfl ?_
    refine kx_get (v := .int (nI (y))) (ci := 0) C kin0 0 rfl rfl 3 (by decide) fl0_55 rfl rfl dX0_costs_38 ?_
    refine kx_iload_n C dX0_costs_41 rfl 2 rfl ?_
    refine kx_icmp_eq (tgt := 49) C (by omega) (by omega) dX0_costs_42 (by decide) (fun c5 => ?_) (fun c5 => ?_)
    · skip
      refine kx_iconst (v := nI 0) C dX0_costs_49 (by decide +kernel) ?_
      refine kx_iadd C dX0_costs_50 ?_
      refine kx_aload_n C dX0_costs_51 rfl 0 rfl ?_
      refine kx_get (v := .int (nI (o))) (ci := 0) C kin0 0 rfl rfl 4 (by decide) fl0_58 rfl rfl dX0_costs_52 ?_
      refine kx_iload_n C dX0_costs_55 rfl 3 rfl ?_
      refine kx_icmp_eq (tgt := 63) C (by omega) (by omega) dX0_costs_56 (by decide) (fun c6 => ?_) (fun c6 => ?_)
      · skip
        refine kx_iconst (v := nI 0) C dX0_costs_63 (by decide +kernel) ?_
        refine kx_iadd C dX0_costs_64 ?_
        refine kx_istore (lv2 := [(4, .int (nI (((0) + (0)) + (0)))), (0, .ref (K 0)), (1, .int (nI (b2))), (2, .int (nI (y2))), (3, .int (nI (o2)))]) C dX0_costs_65 (by decide) rfl ?_
        refine kx_aload_n C dX0_costs_67 rfl 1 rfl ?_
        refine kx_iload_n C dX0_costs_68 rfl 2 rfl ?_
        refine kx_put (ws2 := (kwW E K b2 y o n ls bc tk hk P Wt Tu Sc Ta Wa He Fk Pk)) (ci := 0) C kin0 tyX0_ok nmX0 0 rfl rfl 2 (by decide) fl0_52 rfl rfl rfl rfl (Nat.le_of_ble_eq_true rfl) rfl dX0_costs_69 ?_
        refine kx_aload_n C dX0_costs_72 rfl 1 rfl ?_
        refine kx_iload_n C dX0_costs_73 rfl 3 rfl ?_
        refine kx_put (ws2 := (kwW E K b2 y2 o n ls bc tk hk P Wt Tu Sc Ta Wa He Fk Pk)) (ci := 0) C kin0 tyX0_ok nmX0 0 rfl rfl 3 (by decide) fl0_55 rfl rfl rfl rfl (Nat.le_of_ble_eq_true rfl) rfl dX0_costs_74 ?_
        refine kx_aload_n C dX0_costs_77 rfl 1 rfl ?_
        refine kx_iload_n C dX0_costs_78 rfl 4 rfl ?_
        refine kx_put (ws2 := (kwW E K b2 y2 o2 n ls bc tk hk P Wt Tu Sc Ta Wa He Fk Pk)) (ci := 0) C kin0 tyX0_ok nmX0 0 rfl rfl 4 (by decide) fl0_58 rfl rfl rfl rfl (Nat.le_of_ble_eq_true rfl) rfl dX0_costs_79 ?_
        refine kx_aload_n C dX0_costs_82 rfl 1 rfl ?_
        refine kx_callVv (rest := []) (wr := []) C (c_forget E K b2 y2 o2 n ls bc tk hk P Wt Tu Sc Ta Wa He Fk Pk) g0_49 0 rfl (by decide +kernel) ⟨Nat.le_of_ble_eq_true rfl, Nat.le_of_ble_eq_true rfl⟩ ⟨Nat.le_of_ble_eq_true rfl, Nat.le_of_ble_eq_true rfl⟩ [0, 1, 2, 3, 4, 5, 6, 7, 8, 9] [] rfl rfl (by decide) (by decide) (by decide) 0 rfl rfl rfl (Nat.le_of_ble_eq_true rfl) dX0_costs_83 (fun w q7 => ?_)
        obtain rfl := q7
        refine kx_eqw (ws2 := (kwW E K b2 y2 o2 n ls bc 0 0 P Wt Tu Sc Ta Wa He Fk Pk)) rfl ?_
        refine kx_iload C dX0_costs_86 0 rfl ?_
        exact hE (Nat.le_of_ble_eq_true rfl) (Nat.le_of_ble_eq_true rfl) dX0_costs_88 ⟨b2, y2, o2, rfl, eb2, rfl, ey2, rfl, eo2, congrArg nI (by simp [*]), ⟨H1, HP, HW, eb2, ey2, eo2, Nat.zero_le _, Nat.zero_le _, Hls, HTa, HWa, HHe, HFk, HPk, fun z => absurd rfl z, fun z => absurd rfl z⟩, rfl⟩
      · skip
        refine kx_iconst (v := nI 1) C dX0_costs_59 (by decide +kernel) ?_
        refine kx_goto (tgt := 64) C dX0_costs_60 (by decide) ?_
        refine kx_iadd C dX0_costs_64 ?_
        refine kx_istore (lv2 := [(4, .int (nI (((0) + (0)) + (1)))), (0, .ref (K 0)), (1, .int (nI (b2))), (2, .int (nI (y2))), (3, .int (nI (o2)))]) C dX0_costs_65 (by decide) rfl ?_
        refine kx_aload_n C dX0_costs_67 rfl 1 rfl ?_
        refine kx_iload_n C dX0_costs_68 rfl 2 rfl ?_
        refine kx_put (ws2 := (kwW E K b2 y o n ls bc tk hk P Wt Tu Sc Ta Wa He Fk Pk)) (ci := 0) C kin0 tyX0_ok nmX0 0 rfl rfl 2 (by decide) fl0_52 rfl rfl rfl rfl (Nat.le_of_ble_eq_true rfl) rfl dX0_costs_69 ?_
        refine kx_aload_n C dX0_costs_72 rfl 1 rfl ?_
        refine kx_iload_n C dX0_costs_73 rfl 3 rfl ?_
        refine kx_put (ws2 := (kwW E K b2 y2 o n ls bc tk hk P Wt Tu Sc Ta Wa He Fk Pk)) (ci := 0) C kin0 tyX0_ok nmX0 0 rfl rfl 3 (by decide) fl0_55 rfl rfl rfl rfl (Nat.le_of_ble_eq_true rfl) rfl dX0_costs_74 ?_
        refine kx_aload_n C dX0_costs_77 rfl 1 rfl ?_
        refine kx_iload_n C dX0_costs_78 rfl 4 rfl ?_
        refine kx_put (ws2 := (kwW E K b2 y2 o2 n ls bc tk hk P Wt Tu Sc Ta Wa He Fk Pk)) (ci := 0) C kin0 tyX0_ok nmX0 0 rfl rfl 4 (by decide) fl0_58 rfl rfl rfl rfl (Nat.le_of_ble_eq_true rfl) rfl dX0_costs_79 ?_
        refine kx_aload_n C dX0_costs_82 rfl 1 rfl ?_
        refine kx_callVv (rest := []) (wr := []) C (c_forget E K b2 y2 o2 n ls bc tk hk P Wt Tu Sc Ta Wa He Fk Pk) g0_49 0 rfl (by decide +kernel) ⟨Nat.le_of_ble_eq_true rfl, Nat.le_of_ble_eq_true rfl⟩ ⟨Nat.le_of_ble_eq_true rfl, Nat.le_of_ble_eq_true rfl⟩ [0, 1, 2, 3, 4, 5, 6, 7, 8, 9] [] rfl rfl (by decide) (by decide) (by decide) 0 rfl rfl rfl (Nat.le_of_ble_eq_true rfl) dX0_costs_83 (fun w q8 => ?_)
        obtain rfl := q8
        refine kx_eqw (ws2 := (kwW E K b2 y2 o2 n ls bc 0 0 P Wt Tu Sc Ta Wa He Fk Pk)) rfl ?_
        refine kx_iload C dX0_costs_86 0 rfl ?_
        exact hE (Nat.le_of_ble_eq_true rfl) (Nat.le_of_ble_eq_true rfl) dX0_costs_88 ⟨b2, y2, o2, rfl, eb2, rfl, ey2, rfl, eo2, congrArg nI (by simp [*]), ⟨H1, HP, HW, eb2, ey2, eo2, Nat.zero_le _, Nat.zero_le _, Hls, HTa, HWa, HHe, HFk, HPk, fun z => absurd rfl z, fun z => absurd rfl z⟩, rfl⟩
    · skip
      refine kx_iconst (v := nI 1) C dX0_costs_45 (by decide +kernel) ?_
      refine kx_goto (tgt := 50) C dX0_costs_46 (by decide) ?_
      refine kx_iadd C dX0_costs_50 ?_
      refine kx_aload_n C dX0_costs_51 rfl 0 rfl ?_
      refine kx_get (v := .int (nI (o))) (ci := 0) C kin0 0 rfl rfl 4 (by decide) fl0_58 rfl rfl dX0_costs_52 ?_
      refine kx_iload_n C dX0_costs_55 rfl 3 rfl ?_
      refine kx_icmp_eq (tgt := 63) C (by omega) (by omega) dX0_costs_56 (by decide) (fun c9 => ?_) (fun c9 => ?_)
      · skip
        refine kx_iconst (v := nI 0) C dX0_costs_63 (by decide +kernel) ?_
        refine kx_iadd C dX0_costs_64 ?_
        refine kx_istore (lv2 := [(4, .int (nI (((0) + (1)) + (0)))), (0, .ref (K 0)), (1, .int (nI (b2))), (2, .int (nI (y2))), (3, .int (nI (o2)))]) C dX0_costs_65 (by decide) rfl ?_
        refine kx_aload_n C dX0_costs_67 rfl 1 rfl ?_
        refine kx_iload_n C dX0_costs_68 rfl 2 rfl ?_
        refine kx_put (ws2 := (kwW E K b2 y o n ls bc tk hk P Wt Tu Sc Ta Wa He Fk Pk)) (ci := 0) C kin0 tyX0_ok nmX0 0 rfl rfl 2 (by decide) fl0_52 rfl rfl rfl rfl (Nat.le_of_ble_eq_true rfl) rfl dX0_costs_69 ?_
        refine kx_aload_n C dX0_costs_72 rfl 1 rfl ?_
        refine kx_iload_n C dX0_costs_73 rfl 3 rfl ?_
        refine kx_put (ws2 := (kwW E K b2 y2 o n ls bc tk hk P Wt Tu Sc Ta Wa He Fk Pk)) (ci := 0) C kin0 tyX0_ok nmX0 0 rfl rfl 3 (by decide) fl0_55 rfl rfl rfl rfl (Nat.le_of_ble_eq_true rfl) rfl dX0_costs_74 ?_
        refine kx_aload_n C dX0_costs_77 rfl 1 rfl ?_
        refine kx_iload_n C dX0_costs_78 rfl 4 rfl ?_
        refine kx_put (ws2 := (kwW E K b2 y2 o2 n ls bc tk hk P Wt Tu Sc Ta Wa He Fk Pk)) (ci := 0) C kin0 tyX0_ok nmX0 0 rfl rfl 4 (by decide) fl0_58 rfl rfl rfl rfl (Nat.le_of_ble_eq_true rfl) rfl dX0_costs_79 ?_
        refine kx_aload_n C dX0_costs_82 rfl 1 rfl ?_
        refine kx_callVv (rest := []) (wr := []) C (c_forget E K b2 y2 o2 n ls bc tk hk P Wt Tu Sc Ta Wa He Fk Pk) g0_49 0 rfl (by decide +kernel) ⟨Nat.le_of_ble_eq_true rfl, Nat.le_of_ble_eq_true rfl⟩ ⟨Nat.le_of_ble_eq_true rfl, Nat.le_of_ble_eq_true rfl⟩ [0, 1, 2, 3, 4, 5, 6, 7, 8, 9] [] rfl rfl (by decide) (by decide) (by decide) 0 rfl rfl rfl (Nat.le_of_ble_eq_true rfl) dX0_costs_83 (fun w q10 => ?_)
        obtain rfl := q10
        refine kx_eqw (ws2 := (kwW E K b2 y2 o2 n ls bc 0 0 P Wt Tu Sc Ta Wa He Fk Pk)) rfl ?_
        refine kx_iload C dX0_costs_86 0 rfl ?_
        exact hE (Nat.le_of_ble_eq_true rfl) (Nat.le_of_ble_eq_true rfl) dX0_costs_88 ⟨b2, y2, o2, rfl, eb2, rfl, ey2, rfl, eo2, congrArg nI (by simp [*]), ⟨H1, HP, HW, eb2, ey2, eo2, Nat.zero_le _, Nat.zero_le _, Hls, HTa, HWa, HHe, HFk, HPk, fun z => absurd rfl z, fun z => absurd rfl z⟩, rfl⟩
      · skip
        refine kx_iconst (v := nI 1) C dX0_costs_59 (by decide +kernel) ?_
        refine kx_goto (tgt := 64) C dX0_costs_60 (by decide) ?_
        refine kx_iadd C dX0_costs_64 ?_
        refine kx_istore (lv2 := [(4, .int (nI (((0) + (1)) + (1)))), (0, .ref (K 0)), (1, .int (nI (b2))), (2, .int (nI (y2))), (3, .int (nI (o2)))]) C dX0_costs_65 (by decide) rfl ?_
        refine kx_aload_n C dX0_costs_67 rfl 1 rfl ?_
        refine kx_iload_n C dX0_costs_68 rfl 2 rfl ?_
        refine kx_put (ws2 := (kwW E K b2 y o n ls bc tk hk P Wt Tu Sc Ta Wa He Fk Pk)) (ci := 0) C kin0 tyX0_ok nmX0 0 rfl rfl 2 (by decide) fl0_52 rfl rfl rfl rfl (Nat.le_of_ble_eq_true rfl) rfl dX0_costs_69 ?_
        refine kx_aload_n C dX0_costs_72 rfl 1 rfl ?_
        refine kx_iload_n C dX0_costs_73 rfl 3 rfl ?_
        refine kx_put (ws2 := (kwW E K b2 y2 o n ls bc tk hk P Wt Tu Sc Ta Wa He Fk Pk)) (ci := 0) C kin0 tyX0_ok nmX0 0 rfl rfl 3 (by decide) fl0_55 rfl rfl rfl rfl (Nat.le_of_ble_eq_true rfl) rfl dX0_costs_74 ?_
        refine kx_aload_n C dX0_costs_77 rfl 1 rfl ?_
        refine kx_iload_n C dX0_costs_78 rfl 4 rfl ?_
        refine kx_put (ws2 := (kwW E K b2 y2 o2 n ls bc tk hk P Wt Tu Sc Ta Wa He Fk Pk)) (ci := 0) C kin0 tyX0_ok nmX0 0 rfl rfl 4 (by decide) fl0_58 rfl rfl rfl rfl (Nat.le_of_ble_eq_true rfl) rfl dX0_costs_79 ?_
        refine kx_aload_n C dX0_costs_82 rfl 1 rfl ?_
        refine kx_callVv (rest := []) (wr := []) C (c_forget E K b2 y2 o2 n ls bc tk hk P Wt Tu Sc Ta Wa He Fk Pk) g0_49 0 rfl (by decide +kernel) ⟨Nat.le_of_ble_eq_true rfl, Nat.le_of_ble_eq_true rfl⟩ ⟨Nat.le_of_ble_eq_true rfl, Nat.le_of_ble_eq_true rfl⟩ [0, 1, 2, 3, 4, 5, 6, 7, 8, 9] [] rfl rfl (by decide) (by decide) (by decide) 0 rfl rfl rfl (Nat.le_of_ble_eq_true rfl) dX0_costs_83 (fun w q11 => ?_)
        obtain rfl := q11
        refine kx_eqw (ws2 := (kwW E K b2 y2 o2 n ls bc 0 0 P Wt Tu Sc Ta Wa He Fk Pk)) rfl ?_
        refine kx_iload C dX0_costs_86 0 rfl ?_
        exact hE (Nat.le_of_ble_eq_true rfl) (Nat.le_of_ble_eq_true rfl) dX0_costs_88 ⟨b2, y2, o2, rfl, eb2, rfl, ey2, rfl, eo2, congrArg nI (by simp [*]), ⟨H1, HP, HW, eb2, ey2, eo2, Nat.zero_le _, Nat.zero_le _, Hls, HTa, HWa, HHe, HFk, HPk, fun z => absurd rfl z, fun z => absurd rfl z⟩, rfl⟩
  · skip
    refine kx_iconst (v := nI 1) C dX0_costs_32 (by decide +kernel) ?_
    refine kx_goto (tgt := 37) C dX0_costs_33 (by decide) ?_
    refine kx_aload_n C dX0_costs_37 rfl 0 rfl ?_
    refine kx_get (v := .int (nI (y))) (ci := 0) C kin0 0 rfl rfl 3 (by decide) fl0_55 rfl rfl dX0_costs_38 ?_
    refine kx_iload_n C dX0_costs_41 rfl 2 rfl ?_
    refine kx_icmp_eq (tgt := 49) C (by omega) (by omega) dX0_costs_42 (by decide) (fun c12 => ?_) (fun c12 => ?_)
    · skip
      refine kx_iconst (v := nI 0) C dX0_costs_49 (by decide +kernel) ?_
      refine kx_iadd C dX0_costs_50 ?_
      refine kx_aload_n C dX0_costs_51 rfl 0 rfl ?_
      refine kx_get (v := .int (nI (o))) (ci := 0) C kin0 0 rfl rfl 4 (by decide) fl0_58 rfl rfl dX0_costs_52 ?_
      refine kx_iload_n C dX0_costs_55 rfl 3 rfl ?_
      refine kx_icmp_eq (tgt := 63) C (by omega) (by omega) dX0_costs_56 (by decide) (fun c13 => ?_) (fun c13 => ?_)
      · skip
        refine kx_iconst (v := nI 0) C dX0_costs_63 (by decide +kernel) ?_
        refine kx_iadd C dX0_costs_64 ?_
        refine kx_istore (lv2 := [(4, .int (nI (((1) + (0)) + (0)))), (0, .ref (K 0)), (1, .int (nI (b2))), (2, .int (nI (y2))), (3, .int (nI (o2)))]) C dX0_costs_65 (by decide) rfl ?_
        refine kx_aload_n C dX0_costs_67 rfl 1 rfl ?_
        refine kx_iload_n C dX0_costs_68 rfl 2 rfl ?_
        refine kx_put (ws2 := (kwW E K b2 y o n ls bc tk hk P Wt Tu Sc Ta Wa He Fk Pk)) (ci := 0) C kin0 tyX0_ok nmX0 0 rfl rfl 2 (by decide) fl0_52 rfl rfl rfl rfl (Nat.le_of_ble_eq_true rfl) rfl dX0_costs_69 ?_
        refine kx_aload_n C dX0_costs_72 rfl 1 rfl ?_
        refine kx_iload_n C dX0_costs_73 rfl 3 rfl ?_
        refine kx_put (ws2 := (kwW E K b2 y2 o n ls bc tk hk P Wt Tu Sc Ta Wa He Fk Pk)) (ci := 0) C kin0 tyX0_ok nmX0 0 rfl rfl 3 (by decide) fl0_55 rfl rfl rfl rfl (Nat.le_of_ble_eq_true rfl) rfl dX0_costs_74 ?_
        refine kx_aload_n C dX0_costs_77 rfl 1 rfl ?_
        refine kx_iload_n C dX0_costs_78 rfl 4 rfl ?_
        refine kx_put (ws2 := (kwW E K b2 y2 o2 n ls bc tk hk P Wt Tu Sc Ta Wa He Fk Pk)) (ci := 0) C kin0 tyX0_ok nmX0 0 rfl rfl 4 (by decide) fl0_58 rfl rfl rfl rfl (Nat.le_of_ble_eq_true rfl) rfl dX0_costs_79 ?_
        refine kx_aload_n C dX0_costs_82 rfl 1 rfl ?_
        refine kx_callVv (rest := []) (wr := []) C (c_forget E K b2 y2 o2 n ls bc tk hk P Wt Tu Sc Ta Wa He Fk Pk) g0_49 0 rfl (by decide +kernel) ⟨Nat.le_of_ble_eq_true rfl, Nat.le_of_ble_eq_true rfl⟩ ⟨Nat.le_of_ble_eq_true rfl, Nat.le_of_ble_eq_true rfl⟩ [0, 1, 2, 3, 4, 5, 6, 7, 8, 9] [] rfl rfl (by decide) (by decide) (by decide) 0 rfl rfl rfl (Nat.le_of_ble_eq_true rfl) dX0_costs_83 (fun w q14 => ?_)
        obtain rfl := q14
        refine kx_eqw (ws2 := (kwW E K b2 y2 o2 n ls bc 0 0 P Wt Tu Sc Ta Wa He Fk Pk)) rfl ?_
        refine kx_iload C dX0_costs_86 0 rfl ?_
        exact hE (Nat.le_of_ble_eq_true rfl) (Nat.le_of_ble_eq_true rfl) dX0_costs_88 ⟨b2, y2, o2, rfl, eb2, rfl, ey2, rfl, eo2, congrArg nI (by simp [*]), ⟨H1, HP, HW, eb2, ey2, eo2, Nat.zero_le _, Nat.zero_le _, Hls, HTa, HWa, HHe, HFk, HPk, fun z => absurd rfl z, fun z => absurd rfl z⟩, rfl⟩
      · skip
        refine kx_iconst (v := nI 1) C dX0_costs_59 (by decide +kernel) ?_
        refine kx_goto (tgt := 64) C dX0_costs_60 (by decide) ?_
        refine kx_iadd C dX0_costs_64 ?_
        refine kx_istore (lv2 := [(4, .int (nI (((1) + (0)) + (1)))), (0, .ref (K 0)), (1, .int (nI (b2))), (2, .int (nI (y2))), (3, .int (nI (o2)))]) C dX0_costs_65 (by decide) rfl ?_
        refine kx_aload_n C dX0_costs_67 rfl 1 rfl ?_
        refine kx_iload_n C dX0_costs_68 rfl 2 rfl ?_
        refine kx_put (ws2 := (kwW E K b2 y o n ls bc tk hk P Wt Tu Sc Ta Wa He Fk Pk)) (ci := 0) C kin0 tyX0_ok nmX0 0 rfl rfl 2 (by decide) fl0_52 rfl rfl rfl rfl (Nat.le_of_ble_eq_true rfl) rfl dX0_costs_69 ?_
        refine kx_aload_n C dX0_costs_72 rfl 1 rfl ?_
        refine kx_iload_n C dX0_costs_73 rfl 3 rfl ?_
        refine kx_put (ws2 := (kwW E K b2 y2 o n ls bc tk hk P Wt Tu Sc Ta Wa He Fk Pk)) (ci := 0) C kin0 tyX0_ok nmX0 0 rfl rfl 3 (by decide) fl0_55 rfl rfl rfl rfl (Nat.le_of_ble_eq_true rfl) rfl dX0_costs_74 ?_
        refine kx_aload_n C dX0_costs_77 rfl 1 rfl ?_
        refine kx_iload_n C dX0_costs_78 rfl 4 rfl ?_
        refine kx_put (ws2 := (kwW E K b2 y2 o2 n ls bc tk hk P Wt Tu Sc Ta Wa He Fk Pk)) (ci := 0) C kin0 tyX0_ok nmX0 0 rfl rfl 4 (by decide) fl0_58 rfl rfl rfl rfl (Nat.le_of_ble_eq_true rfl) rfl dX0_costs_79 ?_
        refine kx_aload_n C dX0_costs_82 rfl 1 rfl ?_
        refine kx_callVv (rest := []) (wr := []) C (c_forget E K b2 y2 o2 n ls bc tk hk P Wt Tu Sc Ta Wa He Fk Pk) g0_49 0 rfl (by decide +kernel) ⟨Nat.le_of_ble_eq_true rfl, Nat.le_of_ble_eq_true rfl⟩ ⟨Nat.le_of_ble_eq_true rfl, Nat.le_of_ble_eq_true rfl⟩ [0, 1, 2, 3, 4, 5, 6, 7, 8, 9] [] rfl rfl (by decide) (by decide) (by decide) 0 rfl rfl rfl (Nat.le_of_ble_eq_true rfl) dX0_costs_83 (fun w q15 => ?_)
        obtain rfl := q15
        refine kx_eqw (ws2 := (kwW E K b2 y2 o2 n ls bc 0 0 P Wt Tu Sc Ta Wa He Fk Pk)) rfl ?_
        refine kx_iload C dX0_costs_86 0 rfl ?_
        exact hE (Nat.le_of_ble_eq_true rfl) (Nat.le_of_ble_eq_true rfl) dX0_costs_88 ⟨b2, y2, o2, rfl, eb2, rfl, ey2, rfl, eo2, congrArg nI (by simp [*]), ⟨H1, HP, HW, eb2, ey2, eo2, Nat.zero_le _, Nat.zero_le _, Hls, HTa, HWa, HHe, HFk, HPk, fun z => absurd rfl z, fun z => absurd rfl z⟩, rfl⟩
    · skip
      refine kx_iconst (v := nI 1) C dX0_costs_45 (by decide +kernel) ?_
      refine kx_goto (tgt := 50) C dX0_costs_46 (by decide) ?_
      refine kx_iadd C dX0_costs_50 ?_
      refine kx_aload_n C dX0_costs_51 rfl 0 rfl ?_
      refine kx_get (v := .int (nI (o))) (ci := 0) C kin0 0 rfl rfl 4 (by decide) fl0_58 rfl rfl dX0_costs_52 ?_
      refine kx_iload_n C dX0_costs_55 rfl 3 rfl ?_
      refine kx_icmp_eq (tgt := 63) C (by omega) (by omega) dX0_costs_56 (by decide) (fun c16 => ?_) (fun c16 => ?_)
      · skip
        refine kx_iconst (v := nI 0) C dX0_costs_63 (by decide +kernel) ?_
        refine kx_iadd C dX0_costs_64 ?_
        refine kx_istore (lv2 := [(4, .int (nI (((1) + (1)) + (0)))), (0, .ref (K 0)), (1, .int (nI (b2))), (2, .int (nI (y2))), (3, .int (nI (o2)))]) C dX0_costs_65 (by decide) rfl ?_
        refine kx_aload_n C dX0_costs_67 rfl 1 rfl ?_
        refine kx_iload_n C dX0_costs_68 rfl 2 rfl ?_
        refine kx_put (ws2 := (kwW E K b2 y o n ls bc tk hk P Wt Tu Sc Ta Wa He Fk Pk)) (ci := 0) C kin0 tyX0_ok nmX0 0 rfl rfl 2 (by decide) fl0_52 rfl rfl rfl rfl (Nat.le_of_ble_eq_true rfl) rfl dX0_costs_69 ?_
        refine kx_aload_n C dX0_costs_72 rfl 1 rfl ?_
        refine kx_iload_n C dX0_costs_73 rfl 3 rfl ?_
        refine kx_put (ws2 := (kwW E K b2 y2 o n ls bc tk hk P Wt Tu Sc Ta Wa He Fk Pk)) (ci := 0) C kin0 tyX0_ok nmX0 0 rfl rfl 3 (by decide) fl0_55 rfl rfl rfl rfl (Nat.le_of_ble_eq_true rfl) rfl dX0_costs_74 ?_
        refine kx_aload_n C dX0_costs_77 rfl 1 rfl ?_
        refine kx_iload_n C dX0_costs_78 rfl 4 rfl ?_
        refine kx_put (ws2 := (kwW E K b2 y2 o2 n ls bc tk hk P Wt Tu Sc Ta Wa He Fk Pk)) (ci := 0) C kin0 tyX0_ok nmX0 0 rfl rfl 4 (by decide) fl0_58 rfl rfl rfl rfl (Nat.le_of_ble_eq_true rfl) rfl dX0_costs_79 ?_
        refine kx_aload_n C dX0_costs_82 rfl 1 rfl ?_
        refine kx_callVv (rest := []) (wr := []) C (c_forget E K b2 y2 o2 n ls bc tk hk P Wt Tu Sc Ta Wa He Fk Pk) g0_49 0 rfl (by decide +kernel) ⟨Nat.le_of_ble_eq_true rfl, Nat.le_of_ble_eq_true rfl⟩ ⟨Nat.le_of_ble_eq_true rfl, Nat.le_of_ble_eq_true rfl⟩ [0, 1, 2, 3, 4, 5, 6, 7, 8, 9] [] rfl rfl (by decide) (by decide) (by decide) 0 rfl rfl rfl (Nat.le_of_ble_eq_true rfl) dX0_costs_83 (fun w q17 => ?_)
        obtain rfl := q17
        refine kx_eqw (ws2 := (kwW E K b2 y2 o2 n ls bc 0 0 P Wt Tu Sc Ta Wa He Fk Pk)) rfl ?_
        refine kx_iload C dX0_costs_86 0 rfl ?_
        exact hE (Nat.le_of_ble_eq_true rfl) (Nat.le_of_ble_eq_true rfl) dX0_costs_88 ⟨b2, y2, o2, rfl, eb2, rfl, ey2, rfl, eo2, congrArg nI (by simp [*]), ⟨H1, HP, HW, eb2, ey2, eo2, Nat.zero_le _, Nat.zero_le _, Hls, HTa, HWa, HHe, HFk, HPk, fun z => absurd rfl z, fun z => absurd rfl z⟩, rfl⟩
      · skip
        refine kx_iconst (v := nI 1) C dX0_costs_59 (by decide +kernel) ?_
        refine kx_goto (tgt := 64) C dX0_costs_60 (by decide) ?_
        refine kx_iadd C dX0_costs_64 ?_
        refine kx_istore (lv2 := [(4, .int (nI (((1) + (1)) + (1)))), (0, .ref (K 0)), (1, .int (nI (b2))), (2, .int (nI (y2))), (3, .int (nI (o2)))]) C dX0_costs_65 (by decide) rfl ?_
        refine kx_aload_n C dX0_costs_67 rfl 1 rfl ?_
        refine kx_iload_n C dX0_costs_68 rfl 2 rfl ?_
        refine kx_put (ws2 := (kwW E K b2 y o n ls bc tk hk P Wt Tu Sc Ta Wa He Fk Pk)) (ci := 0) C kin0 tyX0_ok nmX0 0 rfl rfl 2 (by decide) fl0_52 rfl rfl rfl rfl (Nat.le_of_ble_eq_true rfl) rfl dX0_costs_69 ?_
        refine kx_aload_n C dX0_costs_72 rfl 1 rfl ?_
        refine kx_iload_n C dX0_costs_73 rfl 3 rfl ?_
        refine kx_put (ws2 := (kwW E K b2 y2 o n ls bc tk hk P Wt Tu Sc Ta Wa He Fk Pk)) (ci := 0) C kin0 tyX0_ok nmX0 0 rfl rfl 3 (by decide) fl0_55 rfl rfl rfl rfl (Nat.le_of_ble_eq_true rfl) rfl dX0_costs_74 ?_
        refine kx_aload_n C dX0_costs_77 rfl 1 rfl ?_
        refine kx_iload_n C dX0_costs_78 rfl 4 rfl ?_
        refine kx_put (ws2 := (kwW E K b2 y2 o2 n ls bc tk hk P Wt Tu Sc Ta Wa He Fk Pk)) (ci := 0) C kin0 tyX0_ok nmX0 0 rfl rfl 4 (by decide) fl0_58 rfl rfl rfl rfl (Nat.le_of_ble_eq_true rfl) rfl dX0_costs_79 ?_
        refine kx_aload_n C dX0_costs_82 rfl 1 rfl ?_
        refine kx_callVv (rest := []) (wr := []) C (c_forget E K b2 y2 o2 n ls bc tk hk P Wt Tu Sc Ta Wa He Fk Pk) g0_49 0 rfl (by decide +kernel) ⟨Nat.le_of_ble_eq_true rfl, Nat.le_of_ble_eq_true rfl⟩ ⟨Nat.le_of_ble_eq_true rfl, Nat.le_of_ble_eq_true rfl⟩ [0, 1, 2, 3, 4, 5, 6, 7, 8, 9] [] rfl rfl (by decide) (by decide) (by decide) 0 rfl rfl rfl (Nat.le_of_ble_eq_true rfl) dX0_costs_83 (fun w q18 => ?_)
        obtain rfl := q18
        refine kx_eqw (ws2 := (kwW E K b2 y2 o2 n ls bc 0 0 P Wt Tu Sc Ta Wa He Fk Pk)) rfl ?_
        refine kx_iload C dX0_costs_86 0 rfl ?_
        exact hE (Nat.le_of_ble_eq_true rfl) (Nat.le_of_ble_eq_true rfl) dX0_costs_88 ⟨b2, y2, o2, rfl, eb2, rfl, ey2, rfl, eo2, congrArg nI (by simp [*]), ⟨H1, HP, HW, eb2, ey2, eo2, Nat.zero_le _, Nat.zero_le _, Hls, HTa, HWa, HHe, HFk, HPk, fun z => absurd rfl z, fun z => absurd rfl z⟩, rfl⟩
