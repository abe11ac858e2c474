theorem kthr_requireWithin_10 (E : KE) (h : E.1.stackTraces = false) : kThr E (rk 8 1) cX0_requireWithin yX0_requireWithin.cls kEx_102 kTx_163 kNm_102 102 163 106 10 [] := ⟨h, by decide +kernel, by decide +kernel, kcl0_102, kini_102, by decide +kernel, kat_102_106, kot_102_106, dX0_requireWithin_10, dX0_requireWithin_13, dX0_requireWithin_14, dX0_requireWithin_16, dX0_requireWithin_19, Nat.le_of_ble_eq_true rfl, Nat.le_of_ble_eq_true rfl, rfl⟩
theorem kSl1 {n : Nat} {x : Int32} (hn : n ≤ 40) (h1 : ¬ x < nI 0) (h2 : ¬ nI n - nI 1 < x) : ∃ j, j < n ∧ x = nI j := by
  obtain ⟨j, hj, rfl⟩ := nI_of (x := x) h1
  by_cases e : n = 0
  · subst e
    exact absurd (show nI 0 - nI 1 < nI j from by
      have hz : nI 0 - nI 1 < 0 := by decide +kernel
      have h3 := Int32.lt_iff_toInt_lt.mp hz
      have h4 := nI_toInt hj
      refine Int32.lt_iff_toInt_lt.mpr ?_
      have h5 : (0 : Int32).toInt = 0 := by decide +kernel
      omega) h2
  · rw [pk_sub (by omega)] at h2
    refine ⟨j, ?_, rfl⟩
    have h3 : ¬ n - 1 < j := fun z => h2 ((nI_ltI (by omega) hj).mpr z)
    omega
theorem kSl2 {n : Nat} {x : Int32} (hn : n ≤ 40) (h : x < nI 0 ∨ nI n - nI 1 < x) : ¬ ∃ j, j < n ∧ x = nI j := by
  rintro ⟨j, hj, rfl⟩
  rcases h with h | h
  · exact nI_pos (by omega) h
  · rw [pk_sub (by omega)] at h
    have := (nI_ltI (by omega) (by omega)).mp h
    omega
theorem kIn1 {x : Int32} {m : Nat} (hm : m < 2 ^ 31) (h1 : ¬ x < nI 0) (h2 : ¬ nI m < x) : ∃ j, j ≤ m ∧ x = nI j := by
  obtain ⟨j, hj, rfl⟩ := nI_of (x := x) h1
  exact ⟨j, Nat.not_lt.mp fun z => h2 ((nI_ltI hm hj).mpr z), rfl⟩
theorem kIn2 {x : Int32} {m : Nat} (hm : m < 2 ^ 31) (h : x < nI 0 ∨ nI m < x) : ¬ ∃ j, j ≤ m ∧ x = nI j := by
  rintro ⟨j, hj, rfl⟩
  rcases h with h | h
  · exact nI_pos (by omega) h
  · have := (nI_ltI hm (by omega)).mp h
    omega
set_option maxRecDepth 100000 in
theorem c_requireWithin (E : KE) (x lo hi : Int32) (HX : E.1.stackTraces = false) : kRv E yX0_requireWithin cX0_requireWithin 3 (rk 8 1) [.int x, .int lo, .int hi] [] (¬ x < lo ∧ ¬ hi < x) (fun n => n = "java/lang/IllegalArgumentException" ∧ (x < lo ∨ hi < x)) := by
  refine kRv_of (cc := cX0_requireWithin) (maxL := 3) (by decide) (Nat.le_of_ble_eq_true rfl) ?_
  intro p e s m below meth c Q hx hb hml hown hts hK hNs ham hP hD hE hT hO ls hl
  have hl : lv_has ls 3 [(0, .int x), (1, .int lo), (2, .int hi)] := hl
  refine lv_iload_n hx hb dX0_requireWithin_0 rfl (lv_at hl 0 rfl) ?_
  refine lv_iload_n hx hb dX0_requireWithin_1 rfl (lv_at hl 1 rfl) ?_
  refine lv_icmp_lt (tgt := 10) hx hb dX0_requireWithin_2 (by decide) (fun c1 => ?_) (fun c1 => ?_)
  · exact hT (kthr_requireWithin_10 E HX) hl.1 (Nat.le_of_ble_eq_true rfl) (Nat.le_of_ble_eq_true rfl) ⟨rfl, Or.inl c1⟩
  · refine lv_iload_n hx hb dX0_requireWithin_5 rfl (lv_at hl 0 rfl) ?_
    refine lv_iload_n hx hb dX0_requireWithin_6 rfl (lv_at hl 2 rfl) ?_
    refine lv_icmp_le (tgt := 20) hx hb dX0_requireWithin_7 (by decide) (fun c2 => ?_) (fun c2 => ?_)
    · exact hE dX0_requireWithin_20 ⟨c1, Int32.not_lt.mpr c2⟩
    · exact hT (kthr_requireWithin_10 E HX) hl.1 (Nat.le_of_ble_eq_true rfl) (Nat.le_of_ble_eq_true rfl) ⟨rfl, Or.inr (Int32.not_le.mp c2)⟩
set_option maxRecDepth 100000 in
theorem c_requireKey (E : KE) (x : Int32) (HX : E.1.stackTraces = false) : kRv E yX0_requireKey cX0_requireKey 1 (rk 9 1) [.int x] [] (∃ j, j ≤ 23 ∧ x = nI j) (fun n => n = "java/lang/IllegalArgumentException" ∧ ¬ ∃ j, j ≤ 23 ∧ x = nI j) := by
  refine kRv_of (cc := cX0_requireKey) (maxL := 1) (by decide) (Nat.le_of_ble_eq_true rfl) ?_
  intro p e s m below meth c Q hx hb hml hown hts hK hNs ham hP hD hE hT hO ls hl
  have hl : lv_has ls 1 [(0, .int x)] := hl
  refine lv_iload_n hx hb dX0_requireKey_0 rfl (lv_at hl 0 rfl) ?_
  refine lv_iconst (v := nI 0) hx hb dX0_requireKey_1 (by decide +kernel) ?_
  refine lv_bipush (v := nI 23) hx hb dX0_requireKey_2 (by decide +kernel) ?_
  refine kw_callSR (rest := []) hx hb hml hown hts hK hNs ham hP (c_requireWithin E x (nI 0) (nI 23) HX) g0_45 3 rfl (by decide +kernel) ⟨Nat.le_of_ble_eq_true rfl, Nat.le_of_ble_eq_true rfl⟩ ⟨Nat.le_of_ble_eq_true rfl, Nat.le_of_ble_eq_true rfl⟩ hl.1 rfl (Nat.le_of_ble_eq_true rfl) dX0_requireKey_4 (fun n H locs q ce h hPH hSH hce hcv hcl => ?_) (fun h => ?_)
  · exact hO hPH hSH hce hcv hcl (Nat.le_of_ble_eq_true rfl) (Nat.le_of_ble_eq_true rfl) ⟨h.1, kIn2 (by decide) h.2⟩
  · exact hE dX0_requireKey_7 (kIn1 (by decide) h.1 h.2)
set_option maxRecDepth 100000 in
theorem c_requireSlice (E : KE) (K : Nat → Nat) (b y o n ls bc tk hk : Nat) (P Wt Tu Sc Ta Wa He Fk Pk : Nat → Nat) (x : Int32) (HX : E.1.stackTraces = false) (H1 : n ≤ 40) : kRv E yX0_requireSlice cX0_requireSlice 2 (rk 9 1) [.ref (K 0), .int x] (kwW E K b y o n ls bc tk hk P Wt Tu Sc Ta Wa He Fk Pk) (∃ j, j < n ∧ x = nI j) (fun n9 => n9 = "java/lang/IllegalArgumentException" ∧ ¬ ∃ j, j < n ∧ x = nI j) := by
  refine kRv_of (cc := cX0_requireSlice) (maxL := 2) (by decide) (Nat.le_of_ble_eq_true rfl) ?_
  intro p e s m below meth c Q hx hb hml hown hts hK hNs ham hP hD hE hT hO ls hl
  have hl : lv_has ls 2 [(0, .ref (K 0)), (1, .int x)] := hl
  refine lv_iload_n hx hb dX0_requireSlice_0 rfl (lv_at hl 1 rfl) ?_
  refine lv_iconst (v := nI 0) hx hb dX0_requireSlice_1 (by decide +kernel) ?_
  refine lv_aload_n hx hb dX0_requireSlice_2 rfl (lv_at hl 0 rfl) ?_
  refine va_get (D := E.2.1) (ci := 0) (v := .int (nI n)) hx hb hts kin0 hown hK hP 0 rfl rfl 5 (by decide) (hts _ fl0_41) (fun _ h9 => h9) rfl dX0_requireSlice_3 ?_
  refine lv_iconst (v := nI 1) hx hb dX0_requireSlice_6 (by decide +kernel) ?_
  refine lv_isub hx hb dX0_requireSlice_7 ?_
  refine kw_callSR (rest := []) hx hb hml hown hts hK hNs ham hP (c_requireWithin E x (nI 0) (nI n - nI 1) HX) g0_45 3 rfl (by decide +kernel) ⟨Nat.le_of_ble_eq_true rfl, Nat.le_of_ble_eq_true rfl⟩ ⟨Nat.le_of_ble_eq_true rfl, Nat.le_of_ble_eq_true rfl⟩ hl.1 rfl (Nat.le_of_ble_eq_true rfl) dX0_requireSlice_8 (fun n H locs q ce h hPH hSH hce hcv hcl => ?_) (fun h => ?_)
  · exact hO hPH hSH hce hcv hcl (Nat.le_of_ble_eq_true rfl) (Nat.le_of_ble_eq_true rfl) ⟨h.1, kSl2 H1 h.2⟩
  · exact hE dX0_requireSlice_11 (kSl1 H1 h.1 h.2)
