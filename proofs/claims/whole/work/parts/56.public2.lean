/-- THROUGH a slice and a key -/
def thrN (n b y o : Nat) (P Wt : Nat → Nat) (s k : Nat) : Nat := hdN (costN P Wt) (turnN b y o) s k + tlS n b y o P Wt s k - costN P Wt s k
theorem kThr_eq {n b y o : Nat} {P Wt Sc Ta Wa He : Nat → Nat} (hR : kRows n b y o P Wt Sc Ta Wa 0) (hH : kHeads n b y o P Wt He) : ∀ s, s < n → ∀ k, k < 24 → Sc (s * 24 + k) ≤ He (s * 24 + k) + Ta (s * 24 + k) ∧ He (s * 24 + k) + Ta (s * 24 + k) - Sc (s * 24 + k) = thrN n b y o P Wt s k := by
  intro s hs k hk
  obtain ⟨q1, q2, -⟩ := hR s (Nat.zero_le _) hs k hk
  rw [q1, q2, hH s hs k hk]
  refine ⟨Nat.le_trans (cost_le_tl (t := turnN b y o) (n - 1 - s) s k) ?_, rfl⟩
  unfold tlS
  omega
/-- the keys, as bits, whose number is at most L -/
def nrN (T : Nat → Nat) (L : Nat) : Nat → Int32
  | 0 => nI 0
  | k + 1 => if T k ≤ L then nrN T L k ||| ((nI 1) <<< ((nI k) &&& 31)) else nrN T L k
theorem nrN_congr {T T2 : Nat → Nat} {L : Nat} : ∀ {m : Nat}, (∀ k, k < m → T k = T2 k) → nrN T L m = nrN T2 L m
  | 0, _ => rfl
  | m + 1, h => by
    simp only [nrN]
    rw [nrN_congr (m := m) (fun k hk => h k (by omega)), h m (by omega)]
/-- where a sum is greatest, the first such place -/
def whN (F : Nat → Nat) : Nat → Nat × Nat
  | 0 => (0, F 0)
  | m + 1 => if (whN F m).2 < F (m + 1) then (m + 1, F (m + 1)) else whN F m
theorem whN_le {F : Nat → Nat} {B : Nat} (h : ∀ j, F j ≤ B) : ∀ m, (whN F m).2 ≤ B
  | 0 => h 0
  | m + 1 => by
    have := whN_le h m
    simp only [whN]
    split
    · exact h _
    · exact this
/-- no way through a slice and a key costs less than the least -/
theorem through_ge {c t : Nat → Nat → Nat} {n : Nat} (hn : n ≤ 40) (hc : ∀ s k, c s k ≤ 237600) (ht : ∀ a b, t a b ≤ 8000) : ∀ (s k : Nat), s < n → k < 24 → ∃ k0, k0 < 24 ∧ tlN c t (n - 1) 0 k0 + c s k ≤ hdN c t s k + tlN c t (n - 1 - s) s k
  | 0, k, _, hk => ⟨k, hk, by simp only [hdN, Nat.sub_zero]; omega⟩
  | s + 1, k, hs, hk => by
    have hb : minN (fun fr => hdN c t s fr + t fr k) kBIG 24 < kBIG := by
      have h1 := minN_le (f := fun fr => hdN c t s fr + t fr k) (M := kBIG) (n := 24) (j := 0) (by decide)
      have h2 := hdN_le hc ht s 0
      have h3 := ht 0 k
      have h4 : (s + 1) * 245600 ≤ 40 * 245600 := Nat.mul_le_mul_right _ (by omega)
      have h5 : kBIG = 1000000000 := rfl
      omega
    obtain ⟨fr, hf, he⟩ := minN_at hb
    obtain ⟨k0, h0, h1⟩ := through_ge hn hc ht s fr (by omega) hf
    refine ⟨k0, h0, ?_⟩
    have e1 : n - 1 - s = (n - 1 - (s + 1)) + 1 := by omega
    rw [e1] at h1
    rw [hdN, he]
    simp only [tlN] at h1
    have h2 := minN_le (f := fun to => t fr to + tlN c t (n - 1 - (s + 1)) (s + 1) to) (M := kBIG) (n := 24) (j := k) hk
    omega
theorem least_le_thr {n b y o : Nat} {P Wt : Nat → Nat} (hn : n ≤ 40) (hP : ∀ j, P j ≤ 99) (hW : ∀ j, Wt j ≤ 200) (hb : b ≤ 1000) (hy : y ≤ 1000) (ho : o ≤ 1000) {s k : Nat} (hs : s < n) (hk : k < 24) : minN (fun k => tlS n b y o P Wt 0 k) kBIG 24 ≤ thrN n b y o P Wt s k := by
  obtain ⟨k0, h0, h1⟩ := through_ge hn (costN_le hP hW) (turnN_le hb hy ho) s k hs hk
  have h2 := minN_le (f := fun k => tlS n b y o P Wt 0 k) (M := kBIG) (n := 24) (j := k0) h0
  unfold thrN
  unfold tlS at h2 ⊢
  simp only [Nat.sub_zero] at h2 ⊢
  omega
/-- THE NEXT, if f is the first's key there -/
def nxN (n b y o : Nat) (P Wt : Nat → Nat) (f s : Nat) : Nat := minN (fun k => if k = f then kBIG else thrN n b y o P Wt s k) kBIG 24
theorem minN_geB {f : Nat → Nat} {M B : Nat} (hM : B ≤ M) : ∀ {n : Nat}, (∀ j, j < n → B ≤ f j) → B ≤ minN f M n
  | 0, _ => hM
  | n + 1, h => by
    have h1 := minN_geB hM (n := n) (fun j hj => h j (by omega))
    have h2 := h n (by omega)
    simp only [minN]
    omega
theorem pk_long {x : Int64} {m : Nat} (hm : m < 2 ^ 63) (h1 : ¬ x < lN 0) (h2 : x < lN m) : ∃ i, i < m ∧ x = lN i := by
  obtain ⟨i, hi, rfl⟩ := pk_lOf (x := x) h1
  exact ⟨i, (pk_lLT hi hm).mp h2, rfl⟩
theorem kThr_le {n b y o : Nat} {P Wt : Nat → Nat} (hn : n ≤ 40) (hP : ∀ j, P j ≤ 99) (hW : ∀ j, Wt j ≤ 200) (hb : b ≤ 1000) (hy : y ≤ 1000) (ho : o ≤ 1000) {s : Nat} (hs : s < n) (k : Nat) : thrN n b y o P Wt s k ≤ 41 * 245600 := by
  have h1 := hdN_le (costN_le hP hW) (turnN_le hb hy ho) s k
  have h2 := tlN_le (costN_le hP hW) (turnN_le hb hy ho) (n - 1 - s) s k
  have h3 : (s + 1) * 245600 + (n - 1 - s + 1) * 245600 = (n + 1) * 245600 := by rw [← Nat.add_mul]; congr 1; omega
  have h4 : (n + 1) * 245600 ≤ 41 * 245600 := Nat.mul_le_mul_right _ (by omega)
  unfold thrN tlS
  omega
theorem kNx_le {n b y o : Nat} {P Wt : Nat → Nat} {f : Nat} (hn : n ≤ 40) (hP : ∀ j, P j ≤ 99) (hW : ∀ j, Wt j ≤ 200) (hb : b ≤ 1000) (hy : y ≤ 1000) (ho : o ≤ 1000) {s : Nat} (hs : s < n) : nxN n b y o P Wt f s ≤ 20000000 := by
  obtain ⟨k, hk, hne⟩ : ∃ k, k < 24 ∧ k ≠ f := by
    by_cases e : f = 0
    · exact ⟨1, by decide, by omega⟩
    · exact ⟨0, by decide, fun z => e z.symm⟩
  have h := minN_le (f := fun k => if k = f then kBIG else thrN n b y o P Wt s k) (M := kBIG) (n := 24) hk
  rw [if_neg hne] at h
  have h2 := kThr_le hn hP hW hb hy ho hs k
  unfold nxN
  omega
theorem kPk1 {x : Int64} (h : x < lN 0) : ¬ ∃ j, j < 1000000000000000000 ∧ x = lN j := by
  rintro ⟨j, hj, rfl⟩
  have := (pk_lLT (by omega) (by decide)).mp h
  omega
theorem kPk2 {x : Int64} (h : ¬ x < lN 1000000000000000000) : ¬ ∃ j, j < 1000000000000000000 ∧ x = lN j := by
  rintro ⟨j, hj, rfl⟩
  exact h ((pk_lLT (by omega) (by decide)).mpr hj)
theorem kPvS {Wt P : Nat → Nat} {sl k1 k2 i : Nat} (h : ∀ p, p < i → 0 < Wt (sl * 12 + p) → P (numX p k1) ≠ 0 ∧ P (numX p k2) ≠ 0) (hi : 0 < Wt (sl * 12 + i) → P (numX i k1) ≠ 0 ∧ P (numX i k2) ≠ 0) : ∀ p, p < i + 1 → 0 < Wt (sl * 12 + p) → P (numX p k1) ≠ 0 ∧ P (numX p k2) ≠ 0 := by
  intro p hp
  by_cases e : p = i
  · subst e; exact hi
  · exact h p (by omega)
theorem kNW1 {n : Nat} {x0 x1 : Int32} (h : ¬ ∃ j, j < n ∧ x0 = nI j) (z : ∃ i j, x0 = nI i ∧ x1 = nI j ∧ i ≤ j ∧ j < n) : False := by
  obtain ⟨i, j, rfl, rfl, h1, h2⟩ := z
  exact h ⟨i, by omega, rfl⟩
theorem kNW2 {n : Nat} {x0 x1 : Int32} (h : ¬ ∃ j, j < n ∧ x1 = nI j) (z : ∃ i j, x0 = nI i ∧ x1 = nI j ∧ i ≤ j ∧ j < n) : False := by
  obtain ⟨i, j, rfl, rfl, h1, h2⟩ := z
  exact h ⟨j, h2, rfl⟩
theorem kNW3 {n fi la : Nat} (hn : n ≤ 40) (h0 : fi < n) (h1 : la < n) (h : la < fi) (z : ∃ i j, nI fi = nI i ∧ nI la = nI j ∧ i ≤ j ∧ j < n) : False := by
  obtain ⟨i, j, e1, e2, h3, h4⟩ := z
  have := (nI_eq (by omega) (by omega)).mp e1
  have := (nI_eq (by omega) (by omega)).mp e2
  omega
theorem kthr_sure_19 (E : KE) (h : E.1.stackTraces = false) : kThr E (rk 10 1) cX0_sure yX0_sure.cls kEx_121 kTx_123 kNm_121 121 123 125 19 [] := ⟨h, by decide +kernel, by decide +kernel, kcl0_121, kini_121, by decide +kernel, kat_121_125, kot_121_125, dX0_sure_19, dX0_sure_22, dX0_sure_23, dX0_sure_25, dX0_sure_28, Nat.le_of_ble_eq_true rfl, Nat.le_of_ble_eq_true rfl, rfl⟩
theorem kthr_pick_14 (E : KE) (h : E.1.stackTraces = false) : kThr E (rk 10 1) cX0_pick yX0_pick.cls kEx_102 kTx_104 kNm_102 102 104 106 14 [] := ⟨h, by decide +kernel, by decide +kernel, kcl0_102, kini_102, by decide +kernel, kat_102_106, kot_102_106, dX0_pick_14, dX0_pick_17, dX0_pick_18, dX0_pick_20, dX0_pick_23, Nat.le_of_ble_eq_true rfl, Nat.le_of_ble_eq_true rfl, rfl⟩
theorem kthr_change_4 (E : KE) (h : E.1.stackTraces = false) : kThr E (rk 10 1) cX0_change yX0_change.cls kEx_102 kTx_126 kNm_102 102 126 106 4 [] := ⟨h, by decide +kernel, by decide +kernel, kcl0_102, kini_102, by decide +kernel, kat_102_106, kot_102_106, dX0_change_4, dX0_change_7, dX0_change_8, dX0_change_10, dX0_change_13, Nat.le_of_ble_eq_true rfl, Nat.le_of_ble_eq_true rfl, rfl⟩
theorem kthr_whole_15 (E : KE) (h : E.1.stackTraces = false) : kThr E (rk 10 1) cX0_whole yX0_whole.cls kEx_102 kTx_135 kNm_102 102 135 106 15 [] := ⟨h, by decide +kernel, by decide +kernel, kcl0_102, kini_102, by decide +kernel, kat_102_106, kot_102_106, dX0_whole_15, dX0_whole_18, dX0_whole_19, dX0_whole_21, dX0_whole_24, Nat.le_of_ble_eq_true rfl, Nat.le_of_ble_eq_true rfl, rfl⟩
set_option maxHeartbeats 4000000 in
set_option maxRecDepth 100000 in
theorem c_through (E : KE) (K : Nat → Nat) (b y o n ls bc tk hk : Nat) (P Wt Tu Sc Ta Wa He Fk Pk : Nat → Nat) (x0 x1 : Int32) (HX : E.1.stackTraces = false) (HO : kOk b y o n ls bc tk hk P Wt Tu Sc Ta Wa He Fk Pk) : kTi E yX0_through cX0_through 3 (rk 10 1) [.ref (K 0), .int (x0), .int (x1)] (kwW E K b y o n ls bc tk hk P Wt Tu Sc Ta Wa He Fk Pk) (fun r w => ∃ sl k, x0 = nI sl ∧ sl < n ∧ x1 = nI k ∧ k ≤ 23 ∧ ∃ (ls2 bc2 : Nat) (Tv Sv Av Vv Fv Hv : Nat → Nat), r = nI (thrN n b y o P Wt sl k) ∧ kOk b y o n ls2 bc2 1 1 P Wt Tv Sv Av Vv Hv Fv Pk ∧ w = (kwW E K b y o n ls2 bc2 1 1 P Wt Tv Sv Av Vv Hv Fv Pk)) (fun n9 w => n9 = "java/lang/IllegalArgumentException" ∧ ¬ ((∃ j, j < n ∧ x0 = nI j) ∧ (∃ j, j ≤ 23 ∧ x1 = nI j)) ∧ w = (kwW E K b y o n ls bc tk hk P Wt Tu Sc Ta Wa He Fk Pk)) := by
  refine kTi_of (cc := cX0_through) (maxL := 3) (by decide) (Nat.le_of_ble_eq_true rfl) ?_
  intro G C hE hX hT
  obtain ⟨H1, HP, HW, Hb, Hy, Ho, Htk, Hhk, Hls, HTa, HWa, HHe, HFk, HPk, HK, HH⟩ := id HO
  refine kx_aload_n C dX0_through_0 rfl 0 rfl ?_
  refine kx_iload_n C dX0_through_1 rfl 1 rfl ?_
  refine kx_callVR (rest := []) (wr := []) C (c_requireSlice E K b y o n ls bc tk hk P Wt Tu Sc Ta Wa He Fk Pk x0 HX H1) g0_68 1 rfl (by decide +kernel) ⟨Nat.le_of_ble_eq_true rfl, Nat.le_of_ble_eq_true rfl⟩ ⟨Nat.le_of_ble_eq_true rfl, Nat.le_of_ble_eq_true rfl⟩ [0, 1, 2, 3, 4, 5, 6, 7, 8, 9] [] rfl rfl (by decide) (by decide) (by decide) 0 rfl rfl rfl (Nat.le_of_ble_eq_true rfl) dX0_through_2 (fun n9 q1 => ?_) (fun q1 => ?_)
  · skip
    exact hX (Nat.le_of_ble_eq_true rfl) (Nat.le_of_ble_eq_true rfl) ⟨q1.1, (fun z => q1.2 z.1), rfl⟩
  obtain ⟨sl, esl, rfl⟩ := q1
  refine kx_iload_n C dX0_through_5 rfl 2 rfl ?_
  refine kx_callSR (rest := []) (wr := (kwW E K b y o n ls bc tk hk P Wt Tu Sc Ta Wa He Fk Pk)) C (c_requireKey E x1 HX) g0_76 1 rfl (by decide +kernel) ⟨Nat.le_of_ble_eq_true rfl, Nat.le_of_ble_eq_true rfl⟩ ⟨Nat.le_of_ble_eq_true rfl, Nat.le_of_ble_eq_true rfl⟩ [] [0, 1, 2, 3, 4, 5, 6, 7, 8, 9] rfl rfl (by decide) (by decide) (by decide) rfl (Nat.le_of_ble_eq_true rfl) dX0_through_6 (fun n9 q2 => ?_) (fun q2 => ?_)
  · skip
    exact hX (Nat.le_of_ble_eq_true rfl) (Nat.le_of_ble_eq_true rfl) ⟨q2.1, (fun z => q2.2 z.2), (List.append_nil _)⟩
  obtain ⟨k, ek, rfl⟩ := q2
  refine kx_aload_n C dX0_through_9 rfl 0 rfl ?_
  refine kx_callVv (rest := []) (wr := []) C (c_knowHeads E K b y o n ls bc tk hk P Wt Tu Sc Ta Wa He Fk Pk HO) g0_111 0 rfl (by decide +kernel) ⟨Nat.le_of_ble_eq_true rfl, Nat.le_of_ble_eq_true rfl⟩ ⟨Nat.le_of_ble_eq_true rfl, Nat.le_of_ble_eq_true rfl⟩ [0, 1, 2, 3, 4, 5, 6, 7, 8, 9] [] rfl rfl (by decide) (by decide) (by decide) 0 rfl rfl rfl (Nat.le_of_ble_eq_true rfl) dX0_through_10 (fun w q3 => ?_)
  obtain ⟨ls2, bc2, Tv, Sv, Av, Vv, Fv, Hv, HO2, rfl⟩ := q3
  refine kx_eqw (ws2 := (kwW E K b y o n ls2 bc2 1 1 P Wt Tv Sv Av Vv Hv Fv Pk)) rfl ?_
  obtain ⟨G1, GP, GW, Gb, Gy, Go, Gtk, Ghk, Gls, GTa, GWa, GHe, GFk, GPk, GK, GH⟩ := id HO2
  obtain ⟨GT, GR, G0, Gn, GF⟩ := GK (by decide)
  have GHd := (GH (by decide)).2
  have GTh := kThr_eq GR GHd
  refine kx_aload_n C dX0_through_13 rfl 0 rfl ?_
  refine kx_iload_n C dX0_through_14 rfl 1 rfl ?_
  refine kx_iload_n C dX0_through_15 rfl 2 rfl ?_
  refine kx_callVi (rest := []) (wr := []) C (c_leastThrough E K b y o n ls2 bc2 1 1 P Wt Tv Sv Av Vv Hv Fv Pk sl k (by omega) (by omega) (GTh sl esl k (by omega)).1) g0_114 2 rfl (by decide +kernel) ⟨Nat.le_of_ble_eq_true rfl, Nat.le_of_ble_eq_true rfl⟩ ⟨Nat.le_of_ble_eq_true rfl, Nat.le_of_ble_eq_true rfl⟩ [0, 1, 2, 3, 4, 5, 6, 7, 8, 9] [] rfl rfl (by decide) (by decide) (by decide) 0 rfl rfl rfl (Nat.le_of_ble_eq_true rfl) dX0_through_16 (fun v w q4 => ?_)
  obtain ⟨rfl, rfl⟩ := q4
  refine kx_eqw (ws2 := (kwW E K b y o n ls2 bc2 1 1 P Wt Tv Sv Av Vv Hv Fv Pk)) rfl ?_
  exact hE (Nat.le_of_ble_eq_true rfl) (Nat.le_of_ble_eq_true rfl) dX0_through_19 ⟨sl, k, rfl, esl, rfl, ek, ls2, bc2, Tv, Sv, Av, Vv, Fv, Hv, congrArg nI (GTh sl esl k (by omega)).2, HO2, rfl⟩

set_option maxHeartbeats 4000000 in
set_option maxRecDepth 100000 in
theorem c_near (E : KE) (K : Nat → Nat) (b y o n ls bc tk hk : Nat) (P Wt Tu Sc Ta Wa He Fk Pk : Nat → Nat) (x0 x1 : Int32) (HX : E.1.stackTraces = false) (HO : kOk b y o n ls bc tk hk P Wt Tu Sc Ta Wa He Fk Pk) : kTi E yX0_near cX0_near 5 (rk 10 1) [.ref (K 0), .int (x0), .int (x1)] (kwW E K b y o n ls bc tk hk P Wt Tu Sc Ta Wa He Fk Pk) (fun r w => ∃ sl sk, x0 = nI sl ∧ sl < n ∧ x1 = nI sk ∧ sk ≤ 100000 ∧ ∃ (ls2 bc2 : Nat) (Tv Sv Av Vv Fv Hv : Nat → Nat), r = nrN (fun k => thrN n b y o P Wt sl k) (ls2 + sk) 24 ∧ kOk b y o n ls2 bc2 1 1 P Wt Tv Sv Av Vv Hv Fv Pk ∧ w = (kwW E K b y o n ls2 bc2 1 1 P Wt Tv Sv Av Vv Hv Fv Pk)) (fun n9 w => n9 = "java/lang/IllegalArgumentException" ∧ ¬ ((∃ j, j < n ∧ x0 = nI j) ∧ (∃ j, j ≤ 100000 ∧ x1 = nI j)) ∧ w = (kwW E K b y o n ls bc tk hk P Wt Tu Sc Ta Wa He Fk Pk)) := by
  refine kTi_of (cc := cX0_near) (maxL := 5) (by decide) (Nat.le_of_ble_eq_true rfl) ?_
  intro G C hE hX hT
  obtain ⟨H1, HP, HW, Hb, Hy, Ho, Htk, Hhk, Hls, HTa, HWa, HHe, HFk, HPk, HK, HH⟩ := id HO
  refine kx_aload_n C dX0_near_0 rfl 0 rfl ?_
  refine kx_iload_n C dX0_near_1 rfl 1 rfl ?_
  refine kx_callVR (rest := []) (wr := []) C (c_requireSlice E K b y o n ls bc tk hk P Wt Tu Sc Ta Wa He Fk Pk x0 HX H1) g0_68 1 rfl (by decide +kernel) ⟨Nat.le_of_ble_eq_true rfl, Nat.le_of_ble_eq_true rfl⟩ ⟨Nat.le_of_ble_eq_true rfl, Nat.le_of_ble_eq_true rfl⟩ [0, 1, 2, 3, 4, 5, 6, 7, 8, 9] [] rfl rfl (by decide) (by decide) (by decide) 0 rfl rfl rfl (Nat.le_of_ble_eq_true rfl) dX0_near_2 (fun n9 q1 => ?_) (fun q1 => ?_)
  · skip
    exact hX (Nat.le_of_ble_eq_true rfl) (Nat.le_of_ble_eq_true rfl) ⟨q1.1, (fun z => q1.2 z.1), rfl⟩
  obtain ⟨sl, esl, rfl⟩ := q1
  refine kx_iload_n C dX0_near_5 rfl 2 rfl ?_
  refine kx_iconst (v := nI 0) C dX0_near_6 (by decide +kernel) ?_
  refine kx_ldc (v := nI 100000) C kc0_117 dX0_near_7 ?_
  refine kx_callSR (rest := []) (wr := (kwW E K b y o n ls bc tk hk P Wt Tu Sc Ta Wa He Fk Pk)) C (c_requireWithin E x1 (nI 0) (nI 100000) HX) g0_45 3 rfl (by decide +kernel) ⟨Nat.le_of_ble_eq_true rfl, Nat.le_of_ble_eq_true rfl⟩ ⟨Nat.le_of_ble_eq_true rfl, Nat.le_of_ble_eq_true rfl⟩ [] [0, 1, 2, 3, 4, 5, 6, 7, 8, 9] rfl rfl (by decide) (by decide) (by decide) rfl (Nat.le_of_ble_eq_true rfl) dX0_near_9 (fun n9 q2 => ?_) (fun q2 => ?_)
  · skip
    exact hX (Nat.le_of_ble_eq_true rfl) (Nat.le_of_ble_eq_true rfl) ⟨q2.1, (fun z => (kIn2 (by decide) q2.2) z.2), (List.append_nil _)⟩
  obtain ⟨sk, esk, rfl⟩ := kIn1 (by decide) q2.1 q2.2
  refine kx_aload_n C dX0_near_12 rfl 0 rfl ?_
  refine kx_callVv (rest := []) (wr := []) C (c_knowHeads E K b y o n ls bc tk hk P Wt Tu Sc Ta Wa He Fk Pk HO) g0_111 0 rfl (by decide +kernel) ⟨Nat.le_of_ble_eq_true rfl, Nat.le_of_ble_eq_true rfl⟩ ⟨Nat.le_of_ble_eq_true rfl, Nat.le_of_ble_eq_true rfl⟩ [0, 1, 2, 3, 4, 5, 6, 7, 8, 9] [] rfl rfl (by decide) (by decide) (by decide) 0 rfl rfl rfl (Nat.le_of_ble_eq_true rfl) dX0_near_13 (fun w q3 => ?_)
  obtain ⟨ls2, bc2, Tv, Sv, Av, Vv, Fv, Hv, HO2, rfl⟩ := q3
  refine kx_eqw (ws2 := (kwW E K b y o n ls2 bc2 1 1 P Wt Tv Sv Av Vv Hv Fv Pk)) rfl ?_
  obtain ⟨G1, GP, GW, Gb, Gy, Go, Gtk, Ghk, Gls, GTa, GWa, GHe, GFk, GPk, GK, GH⟩ := id HO2
  obtain ⟨GT, GR, G0, Gn, GF⟩ := GK (by decide)
  have GHd := (GH (by decide)).2
  have GTh := kThr_eq GR GHd
  have lp21 : ∀ (N_lp21 : Nat) (i : Nat), (i ≤ 24) → (24 < i + N_lp21) → kx E (rk 10 1) G 5 0 0 (kwW E K b y o n ls2 bc2 1 1 P Wt Tv Sv Av Vv Hv Fv Pk) [(0, .ref (K 0)), (1, .int (nI (sl))), (2, .int (nI (sk))), (3, .int (nrN (fun k => Hv (sl * 24 + k) + Av (sl * 24 + k) - Sv (sl * 24 + k)) (ls2 + sk) i)), (4, .int (nI (i)))] 21 [] := by
    intro N_lp21
    induction N_lp21 with
    | zero =>
      intro i h0_lp21 hm_lp21
      exact absurd hm_lp21 (by omega)
    | succ N_lp21 ih_lp21 =>
      intro i h0_lp21 hm_lp21
      refine kx_iload C dX0_near_21 4 rfl ?_
      refine kx_bipush (v := nI 24) C dX0_near_23 (by decide +kernel) ?_
      refine kx_icmp_ge (tgt := 57) C (by omega) (by omega) dX0_near_25 (by decide) (fun c4 => ?_) (fun c4 => ?_)
      · skip
        obtain rfl : 24 = i := by omega
        refine kx_iload_n C dX0_near_57 rfl 3 rfl ?_
        exact hE (Nat.le_of_ble_eq_true rfl) (Nat.le_of_ble_eq_true rfl) dX0_near_58 ⟨sl, sk, rfl, esl, rfl, esk, ls2, bc2, Tv, Sv, Av, Vv, Fv, Hv, nrN_congr (fun k hk9 => (GTh sl esl k hk9).2), HO2, rfl⟩
      · skip
        refine kx_aload_n C dX0_near_28 rfl 0 rfl ?_
        refine kx_iload_n C dX0_near_29 rfl 1 rfl ?_
        refine kx_iload C dX0_near_30 4 rfl ?_
        refine kx_callVi (rest := []) (wr := []) C (c_leastThrough E K b y o n ls2 bc2 1 1 P Wt Tv Sv Av Vv Hv Fv Pk sl i (by omega) (by omega) (GTh sl esl i (by omega)).1) g0_114 2 rfl (by decide +kernel) ⟨Nat.le_of_ble_eq_true rfl, Nat.le_of_ble_eq_true rfl⟩ ⟨Nat.le_of_ble_eq_true rfl, Nat.le_of_ble_eq_true rfl⟩ [0, 1, 2, 3, 4, 5, 6, 7, 8, 9] [] rfl rfl (by decide) (by decide) (by decide) 0 rfl rfl rfl (Nat.le_of_ble_eq_true rfl) dX0_near_32 (fun v w q5 => ?_)
        obtain ⟨rfl, rfl⟩ := q5
        refine kx_eqw (ws2 := (kwW E K b y o n ls2 bc2 1 1 P Wt Tv Sv Av Vv Hv Fv Pk)) rfl ?_
        refine kx_aload_n C dX0_near_35 rfl 0 rfl ?_
        refine kx_get (v := .int (nI (ls2))) (ci := 0) C kin0 0 rfl rfl 13 (by decide) fl0_93 rfl rfl dX0_near_36 ?_
        refine kx_iload_n C dX0_near_39 rfl 2 rfl ?_
        refine kx_iadd C dX0_near_40 ?_
        refine kx_icmp_gt (tgt := 51) C (by have := GHe (sl * 24 + i); have := GTa (sl * 24 + i); omega) (by omega) dX0_near_41 (by decide) (fun c6 => ?_) (fun c6 => ?_)
        · skip
          refine kx_iinc (v := nI (i + 1)) (lv2 := [(4, .int (nI (i + 1))), (0, .ref (K 0)), (1, .int (nI (sl))), (2, .int (nI (sk))), (3, .int (nrN (fun k => Hv (sl * 24 + k) + Av (sl * 24 + k) - Sv (sl * 24 + k)) (ls2 + sk) i))]) C dX0_near_51 4 rfl (kI1 _) (by decide) rfl ?_
          refine kx_goto (tgt := 21) C dX0_near_54 (by decide) ?_
          refine kx_lvv (x := .int (nrN (fun k => Hv (sl * 24 + k) + Av (sl * 24 + k) - Sv (sl * 24 + k)) (ls2 + sk) i)) (z := .int (nrN (fun k => Hv (sl * 24 + k) + Av (sl * 24 + k) - Sv (sl * 24 + k)) (ls2 + sk) (i + 1))) (lv2 := [(4, .int (nI (i + 1))), (0, .ref (K 0)), (1, .int (nI (sl))), (2, .int (nI (sk))), (3, .int (nrN (fun k => Hv (sl * 24 + k) + Av (sl * 24 + k) - Sv (sl * 24 + k)) (ls2 + sk) (i + 1)))]) (by simp only [nrN]; rw [if_neg (by omega)]) 4 rfl rfl ?_
          refine kx_lv (lv2 := [(0, .ref (K 0)), (1, .int (nI (sl))), (2, .int (nI (sk))), (3, .int (nrN (fun k => Hv (sl * 24 + k) + Av (sl * 24 + k) - Sv (sl * 24 + k)) (ls2 + sk) (i + 1))), (4, .int (nI (i + 1)))]) [1, 2, 3, 4, 0] rfl ?_
          refine kx_eqw (ws2 := (kwW E K b y o n ls2 bc2 1 1 P Wt Tv Sv Av Vv Hv Fv Pk)) rfl ?_
          exact ih_lp21 (i + 1) (by omega) (by omega)
        · skip
          refine kx_iload_n C dX0_near_44 rfl 3 rfl ?_
          refine kx_iconst (v := nI 1) C dX0_near_45 (by decide +kernel) ?_
          refine kx_iload C dX0_near_46 4 rfl ?_
          refine kx_ishlR C dX0_near_48 ?_
          refine kx_iorR C dX0_near_49 ?_
          refine kx_istore_n (lv2 := [(3, .int ((nrN (fun k => Hv (sl * 24 + k) + Av (sl * 24 + k) - Sv (sl * 24 + k)) (ls2 + sk) i) ||| ((nI (1)) <<< ((nI (i)) &&& 31)))), (0, .ref (K 0)), (1, .int (nI (sl))), (2, .int (nI (sk))), (4, .int (nI (i)))]) C dX0_near_50 rfl (by decide) rfl ?_
          refine kx_iinc (v := nI (i + 1)) (lv2 := [(4, .int (nI (i + 1))), (3, .int ((nrN (fun k => Hv (sl * 24 + k) + Av (sl * 24 + k) - Sv (sl * 24 + k)) (ls2 + sk) i) ||| ((nI (1)) <<< ((nI (i)) &&& 31)))), (0, .ref (K 0)), (1, .int (nI (sl))), (2, .int (nI (sk)))]) C dX0_near_51 4 rfl (kI1 _) (by decide) rfl ?_
          refine kx_goto (tgt := 21) C dX0_near_54 (by decide) ?_
          refine kx_lvv (x := .int ((nrN (fun k => Hv (sl * 24 + k) + Av (sl * 24 + k) - Sv (sl * 24 + k)) (ls2 + sk) i) ||| ((nI (1)) <<< ((nI (i)) &&& 31)))) (z := .int (nrN (fun k => Hv (sl * 24 + k) + Av (sl * 24 + k) - Sv (sl * 24 + k)) (ls2 + sk) (i + 1))) (lv2 := [(4, .int (nI (i + 1))), (3, .int (nrN (fun k => Hv (sl * 24 + k) + Av (sl * 24 + k) - Sv (sl * 24 + k)) (ls2 + sk) (i + 1))), (0, .ref (K 0)), (1, .int (nI (sl))), (2, .int (nI (sk)))]) (by simp only [nrN]; rw [if_pos c6]) 1 rfl rfl ?_
          refine kx_lv (lv2 := [(0, .ref (K 0)), (1, .int (nI (sl))), (2, .int (nI (sk))), (3, .int (nrN (fun k => Hv (sl * 24 + k) + Av (sl * 24 + k) - Sv (sl * 24 + k)) (ls2 + sk) (i + 1))), (4, .int (nI (i + 1)))]) [2, 3, 4, 1, 0] rfl ?_
          refine kx_eqw (ws2 := (kwW E K b y o n ls2 bc2 1 1 P Wt Tv Sv Av Vv Hv Fv Pk)) rfl ?_
          exact ih_lp21 (i + 1) (by omega) (by omega)
  refine kx_iconst (v := nI 0) C dX0_near_16 (by decide +kernel) ?_
  refine kx_istore_n (lv2 := [(3, .int (nI (0))), (0, .ref (K 0)), (1, .int (nI (sl))), (2, .int (nI (sk)))]) C dX0_near_17 rfl (by decide) rfl ?_
  refine kx_iconst (v := nI 0) C dX0_near_18 (by decide +kernel) ?_
  refine kx_istore (lv2 := [(4, .int (nI (0))), (3, .int (nI (0))), (0, .ref (K 0)), (1, .int (nI (sl))), (2, .int (nI (sk)))]) C dX0_near_19 (by decide) rfl ?_
  refine kx_lv (lv2 := [(0, .ref (K 0)), (1, .int (nI (sl))), (2, .int (nI (sk))), (3, .int (nrN (fun k => Hv (sl * 24 + k) + Av (sl * 24 + k) - Sv (sl * 24 + k)) (ls2 + sk) 0)), (4, .int (nI (0)))]) [2, 3, 4, 1, 0] rfl ?_
  refine kx_eqw (ws2 := (kwW E K b y o n ls2 bc2 1 1 P Wt Tv Sv Av Vv Hv Fv Pk)) rfl ?_
  exact lp21 25 0 (by omega) (by omega)

set_option maxHeartbeats 4000000 in
set_option maxRecDepth 100000 in
theorem c_sure (E : KE) (K : Nat → Nat) (b y o n ls bc tk hk : Nat) (P Wt Tu Sc Ta Wa He Fk Pk : Nat → Nat) (x0 : Int32) (HX : E.1.stackTraces = false) (HO : kOk b y o n ls bc tk hk P Wt Tu Sc Ta Wa He Fk Pk) : kTi E yX0_sure cX0_sure 3 (rk 10 1) [.ref (K 0), .int (x0)] (kwW E K b y o n ls bc tk hk P Wt Tu Sc Ta Wa He Fk Pk) (fun r w => ∃ sl, x0 = nI sl ∧ sl < n ∧ ∃ (ls2 bc2 : Nat) (Tv Sv Av Vv Fv Hv : Nat → Nat), nxN n b y o P Wt (Fv sl) sl ≠ 0 ∧ r = nI (100 * (nxN n b y o P Wt (Fv sl) sl - ls2) / nxN n b y o P Wt (Fv sl) sl) ∧ kOk b y o n ls2 bc2 1 1 P Wt Tv Sv Av Vv Hv Fv Pk ∧ w = (kwW E K b y o n ls2 bc2 1 1 P Wt Tv Sv Av Vv Hv Fv Pk)) (fun n9 w => (n9 = "java/lang/IllegalArgumentException" ∧ ¬ (∃ j, j < n ∧ x0 = nI j) ∧ w = (kwW E K b y o n ls bc tk hk P Wt Tu Sc Ta Wa He Fk Pk)) ∨ (n9 = "java/lang/ArithmeticException" ∧ ∃ sl, x0 = nI sl ∧ sl < n ∧ ∃ (ls2 bc2 : Nat) (Tv Sv Av Vv Fv Hv : Nat → Nat), nxN n b y o P Wt (Fv sl) sl = 0 ∧ kOk b y o n ls2 bc2 1 1 P Wt Tv Sv Av Vv Hv Fv Pk ∧ w = (kwW E K b y o n ls2 bc2 1 1 P Wt Tv Sv Av Vv Hv Fv Pk))) := by
  refine kTi_of (cc := cX0_sure) (maxL := 3) (by decide) (Nat.le_of_ble_eq_true rfl) ?_
  intro G C hE hX hT
  obtain ⟨H1, HP, HW, Hb, Hy, Ho, Htk, Hhk, Hls, HTa, HWa, HHe, HFk, HPk, HK, HH⟩ := id HO
  refine kx_aload_n C dX0_sure_0 rfl 0 rfl ?_
  refine kx_iload_n C dX0_sure_1 rfl 1 rfl ?_
  refine kx_callVR (rest := []) (wr := []) C (c_requireSlice E K b y o n ls bc tk hk P Wt Tu Sc Ta Wa He Fk Pk x0 HX H1) g0_68 1 rfl (by decide +kernel) ⟨Nat.le_of_ble_eq_true rfl, Nat.le_of_ble_eq_true rfl⟩ ⟨Nat.le_of_ble_eq_true rfl, Nat.le_of_ble_eq_true rfl⟩ [0, 1, 2, 3, 4, 5, 6, 7, 8, 9] [] rfl rfl (by decide) (by decide) (by decide) 0 rfl rfl rfl (Nat.le_of_ble_eq_true rfl) dX0_sure_2 (fun n9 q1 => ?_) (fun q1 => ?_)
  · skip
    exact hX (Nat.le_of_ble_eq_true rfl) (Nat.le_of_ble_eq_true rfl) (Or.inl ⟨q1.1, q1.2, rfl⟩)
  obtain ⟨sl, esl, rfl⟩ := q1
  refine kx_aload_n C dX0_sure_5 rfl 0 rfl ?_
  refine kx_callVv (rest := []) (wr := []) C (c_knowHeads E K b y o n ls bc tk hk P Wt Tu Sc Ta Wa He Fk Pk HO) g0_111 0 rfl (by decide +kernel) ⟨Nat.le_of_ble_eq_true rfl, Nat.le_of_ble_eq_true rfl⟩ ⟨Nat.le_of_ble_eq_true rfl, Nat.le_of_ble_eq_true rfl⟩ [0, 1, 2, 3, 4, 5, 6, 7, 8, 9] [] rfl rfl (by decide) (by decide) (by decide) 0 rfl rfl rfl (Nat.le_of_ble_eq_true rfl) dX0_sure_6 (fun w q2 => ?_)
  obtain ⟨ls2, bc2, Tv, Sv, Av, Vv, Fv, Hv, HO2, rfl⟩ := q2
  refine kx_eqw (ws2 := (kwW E K b y o n ls2 bc2 1 1 P Wt Tv Sv Av Vv Hv Fv Pk)) rfl ?_
  obtain ⟨G1, GP, GW, Gb, Gy, Go, Gtk, Ghk, Gls, GTa, GWa, GHe, GFk, GPk, GK, GH⟩ := id HO2
  obtain ⟨GT, GR, G0, Gn, GF⟩ := GK (by decide)
  have GHd := (GH (by decide)).2
  have GTh := kThr_eq GR GHd
  refine kx_aload_n C dX0_sure_9 rfl 0 rfl ?_
  refine kx_iload_n C dX0_sure_10 rfl 1 rfl ?_
  refine kx_callVi (rest := []) (wr := []) C (c_nextCost E K b y o n ls2 bc2 1 1 P Wt Tv Sv Av Vv Hv Fv Pk sl (by omega) GTa GHe GFk (fun k hk9 => (GTh sl esl k hk9).1)) g0_118 1 rfl (by decide +kernel) ⟨Nat.le_of_ble_eq_true rfl, Nat.le_of_ble_eq_true rfl⟩ ⟨Nat.le_of_ble_eq_true rfl, Nat.le_of_ble_eq_true rfl⟩ [0, 1, 2, 3, 4, 5, 6, 7, 8, 9] [] rfl rfl (by decide) (by decide) (by decide) 0 rfl rfl rfl (Nat.le_of_ble_eq_true rfl) dX0_sure_11 (fun v w q3 => ?_)
  obtain ⟨rfl, rfl⟩ := q3
  refine kx_eqw (ws2 := (kwW E K b y o n ls2 bc2 1 1 P Wt Tv Sv Av Vv Hv Fv Pk)) rfl ?_
  refine kx_topn (b := nxN n b y o P Wt (Fv sl) sl) (minN_congr fun k hk9 => by rw [(GTh sl esl k hk9).2]) ?_
  have hln : ls2 ≤ nxN n b y o P Wt (Fv sl) sl := by rw [(Gn (by omega)).1]; exact minN_geB (minN_leM 24) (fun k hk9 => by show _ ≤ (if k = Fv sl then kBIG else thrN n b y o P Wt sl k); split; exact minN_leM 24; exact least_le_thr H1 HP HW Hb Hy Ho esl hk9)
  have hnb : nxN n b y o P Wt (Fv sl) sl ≤ 20000000 := kNx_le H1 HP HW Hb Hy Ho esl
  refine kx_istore_n (lv2 := [(2, .int (nI (nxN n b y o P Wt (Fv sl) sl))), (0, .ref (K 0)), (1, .int (nI (sl)))]) C dX0_sure_14 rfl (by decide) rfl ?_
  refine kx_iload_n C dX0_sure_15 rfl 0 rfl ?_
  refine kx_if_ne (tgt := 29) C (by omega) dX0_sure_16 (by decide) (fun c4 => ?_) (fun c4 => ?_)
  · skip
    refine kx_bipush (v := nI 100) C dX0_sure_29 (by decide +kernel) ?_
    refine kx_iload_n C dX0_sure_31 rfl 0 rfl ?_
    refine kx_aload_n C dX0_sure_32 rfl 1 rfl ?_
    refine kx_get (v := .int (nI (ls2))) (ci := 0) C kin0 0 rfl rfl 13 (by decide) fl0_93 rfl rfl dX0_sure_33 ?_
    refine kx_isub C (by omega) dX0_sure_36 ?_
    refine kx_imul C dX0_sure_37 ?_
    refine kx_iload_n C dX0_sure_38 rfl 0 rfl ?_
    refine kx_idiv C (by omega) (Nat.pos_of_ne_zero c4) (by omega) dX0_sure_39 ?_
    exact hE (Nat.le_of_ble_eq_true rfl) (Nat.le_of_ble_eq_true rfl) dX0_sure_40 ⟨sl, rfl, esl, ls2, bc2, Tv, Sv, Av, Vv, Fv, Hv, c4, rfl, HO2, rfl⟩
  · skip
    exact hT (kthr_sure_19 E HX) (Nat.le_of_ble_eq_true rfl) (Nat.le_of_ble_eq_true rfl) (Or.inr ⟨rfl, sl, rfl, esl, ls2, bc2, Tv, Sv, Av, Vv, Fv, Hv, c4, HO2, rfl⟩)

set_option maxHeartbeats 4000000 in
set_option maxRecDepth 100000 in
theorem c_pick (E : KE) (K : Nat → Nat) (b y o n ls bc tk hk : Nat) (P Wt Tu Sc Ta Wa He Fk Pk : Nat → Nat) (x0 : Int64) (x1 : Int32) (HX : E.1.stackTraces = false) (HO : kOk b y o n ls bc tk hk P Wt Tu Sc Ta Wa He Fk Pk) : kTi E yX0_pick cX0_pick 4 (rk 10 1) [.ref (K 0), .long (x0), .int (x1)] (kwW E K b y o n ls bc tk hk P Wt Tu Sc Ta Wa He Fk Pk) (fun r w => ∃ i0 sl, x0 = lN i0 ∧ i0 < 1000000000000000000 ∧ x1 = nI sl ∧ sl < n ∧ ∃ (ls2 bc2 : Nat) (Tv Sv Av Vv Fv Rv : Nat → Nat), r = kO (kFs n b y o P Wt ls2 i0 (sl + 1)).1 ∧ kOk b y o n ls2 bc2 1 hk P Wt Tv Sv Av Vv He Fv Rv ∧ w = (kwW E K b y o n ls2 bc2 1 hk P Wt Tv Sv Av Vv He Fv Rv)) (fun n9 w => n9 = "java/lang/IllegalArgumentException" ∧ ¬ ((∃ j, j < 1000000000000000000 ∧ x0 = lN j) ∧ (∃ j, j < n ∧ x1 = nI j)) ∧ w = (kwW E K b y o n ls bc tk hk P Wt Tu Sc Ta Wa He Fk Pk)) := by
  refine kTi_of (cc := cX0_pick) (maxL := 4) (by decide) (Nat.le_of_ble_eq_true rfl) ?_
  intro G C hE hX hT
  obtain ⟨H1, HP, HW, Hb, Hy, Ho, Htk, Hhk, Hls, HTa, HWa, HHe, HFk, HPk, HK, HH⟩ := id HO
  refine kx_lload_n C dX0_pick_0 rfl 1 rfl ?_
  refine kx_lconst (v := lN 0) C dX0_pick_1 (by decide +kernel) ?_
  refine kx_lcmp_ltR (tgt := 14) C dX0_pick_2 dX0_pick_3 (by decide) (fun c1 => ?_) (fun c1 => ?_)
  · skip
    exact hT (kthr_pick_14 E HX) (Nat.le_of_ble_eq_true rfl) (Nat.le_of_ble_eq_true rfl) ⟨rfl, (fun z => kPk1 c1 z.1), rfl⟩
  · skip
    refine kx_lload_n C dX0_pick_6 rfl 1 rfl ?_
    refine kx_ldc2 (v := lN 1000000000000000000) C kc0_100 dX0_pick_7 ?_
    refine kx_lcmp_ltR (tgt := 24) C dX0_pick_10 dX0_pick_11 (by decide) (fun c2 => ?_) (fun c2 => ?_)
    · skip
      obtain ⟨i0, ei0, rfl⟩ := pk_long (by decide) c1 c2
      refine kx_aload_n C dX0_pick_24 rfl 0 rfl ?_
      refine kx_iload_n C dX0_pick_25 rfl 2 rfl ?_
      refine kx_callVR (rest := []) (wr := []) C (c_requireSlice E K b y o n ls bc tk hk P Wt Tu Sc Ta Wa He Fk Pk x1 HX H1) g0_68 1 rfl (by decide +kernel) ⟨Nat.le_of_ble_eq_true rfl, Nat.le_of_ble_eq_true rfl⟩ ⟨Nat.le_of_ble_eq_true rfl, Nat.le_of_ble_eq_true rfl⟩ [0, 1, 2, 3, 4, 5, 6, 7, 8, 9] [] rfl rfl (by decide) (by decide) (by decide) 0 rfl rfl rfl (Nat.le_of_ble_eq_true rfl) dX0_pick_26 (fun n9 q3 => ?_) (fun q3 => ?_)
      · skip
        exact hX (Nat.le_of_ble_eq_true rfl) (Nat.le_of_ble_eq_true rfl) ⟨q3.1, (fun z => q3.2 z.2), rfl⟩
      obtain ⟨sl, esl, rfl⟩ := q3
      refine kx_aload_n C dX0_pick_29 rfl 0 rfl ?_
      refine kx_callVv (rest := []) (wr := []) C (c_knowTails E K b y o n ls bc tk hk P Wt Tu Sc Ta Wa He Fk Pk HO) g0_90 0 rfl (by decide +kernel) ⟨Nat.le_of_ble_eq_true rfl, Nat.le_of_ble_eq_true rfl⟩ ⟨Nat.le_of_ble_eq_true rfl, Nat.le_of_ble_eq_true rfl⟩ [0, 1, 2, 3, 4, 5, 6, 7, 8, 9] [] rfl rfl (by decide) (by decide) (by decide) 0 rfl rfl rfl (Nat.le_of_ble_eq_true rfl) dX0_pick_30 (fun w q4 => ?_)
      obtain ⟨ls2, bc2, Tv, Sv, Av, Vv, Fv, HO2, rfl⟩ := q4
      refine kx_eqw (ws2 := (kwW E K b y o n ls2 bc2 1 hk P Wt Tv Sv Av Vv He Fv Pk)) rfl ?_
      obtain ⟨G1, GP, GW, Gb, Gy, Go, Gtk, Ghk, Gls, GTa, GWa, GHe, GFk, GPk, GK, GH⟩ := id HO2
      obtain ⟨GT, GR, G0, Gn, GF⟩ := GK (by decide)
      refine kx_aload_n C dX0_pick_33 rfl 0 rfl ?_
      refine kx_lload_n C dX0_pick_34 rfl 1 rfl ?_
      refine kx_iload_n C dX0_pick_35 rfl 2 rfl ?_
      refine kx_aload_n C dX0_pick_36 rfl 0 rfl ?_
      refine kx_get (v := .ref (K 9)) (ci := 0) C kin0 0 rfl rfl 12 (by decide) fl0_35 rfl rfl dX0_pick_37 ?_
      refine kx_callVi (rest := []) (wr := []) C (c_followBest9 E K b y o n ls2 bc2 1 hk P Wt Tv Sv Av Vv He Fv Pk i0 sl (by omega) (by omega) Gls (GT.le Gb Gy Go) GTa GWa (fun j hj => GR.st j (by omega)) GPk) g0_107 3 rfl (by decide +kernel) ⟨Nat.le_of_ble_eq_true rfl, Nat.le_of_ble_eq_true rfl⟩ ⟨Nat.le_of_ble_eq_true rfl, Nat.le_of_ble_eq_true rfl⟩ [0, 1, 2, 3, 4, 5, 6, 7, 8, 9] [] rfl rfl (by decide) (by decide) (by decide) 0 rfl rfl rfl (Nat.le_of_ble_eq_true rfl) dX0_pick_40 (fun v w q5 => ?_)
      obtain ⟨rfl, Rv, -, hRb, rfl⟩ := q5
      refine kx_eqw (ws2 := (kwW E K b y o n ls2 bc2 1 hk P Wt Tv Sv Av Vv He Fv Rv)) rfl ?_
      exact hE (Nat.le_of_ble_eq_true rfl) (Nat.le_of_ble_eq_true rfl) dX0_pick_43 ⟨i0, sl, rfl, ei0, rfl, esl, ls2, bc2, Tv, Sv, Av, Vv, Fv, Rv, congrArg (fun z => kO z.1) (pth_fs GT GR (sl + 1) (by omega)), ⟨G1, GP, GW, Gb, Gy, Go, Gtk, Ghk, Gls, GTa, GWa, GHe, GFk, hRb, GK, GH⟩, rfl⟩
    · skip
      exact hT (kthr_pick_14 E HX) (Nat.le_of_ble_eq_true rfl) (Nat.le_of_ble_eq_true rfl) ⟨rfl, (fun z => kPk2 c2 z.1), rfl⟩

set_option maxHeartbeats 4000000 in
set_option maxRecDepth 100000 in
theorem c_change (E : KE) (K : Nat → Nat) (b y o n ls bc tk hk : Nat) (P Wt Tu Sc Ta Wa He Fk Pk : Nat → Nat) (x0 : Int32) (HX : E.1.stackTraces = false) (HO : kOk b y o n ls bc tk hk P Wt Tu Sc Ta Wa He Fk Pk) : kTi E yX0_change cX0_change 4 (rk 10 1) [.ref (K 0), .int (x0)] (kwW E K b y o n ls bc tk hk P Wt Tu Sc Ta Wa He Fk Pk) (fun r w => ∃ q, x0 = nI q ∧ q < 2 ^ 31 ∧ ∃ (ls2 bc2 : Nat) (Tv Sv Av Vv Fv : Nat → Nat), ((∃ s, 1 ≤ s ∧ s < n ∧ Fv s ≠ Fv (s - 1) ∧ chN Fv s = q ∧ r = nI s) ∨ (chN Fv n ≤ q ∧ r = -1)) ∧ kOk b y o n ls2 bc2 1 hk P Wt Tv Sv Av Vv He Fv Pk ∧ w = (kwW E K b y o n ls2 bc2 1 hk P Wt Tv Sv Av Vv He Fv Pk)) (fun n9 w => n9 = "java/lang/IllegalArgumentException" ∧ x0 < 0 ∧ w = (kwW E K b y o n ls bc tk hk P Wt Tu Sc Ta Wa He Fk Pk)) := by
  refine kTi_of (cc := cX0_change) (maxL := 4) (by decide) (Nat.le_of_ble_eq_true rfl) ?_
  intro G C hE hX hT
  obtain ⟨H1, HP, HW, Hb, Hy, Ho, Htk, Hhk, Hls, HTa, HWa, HHe, HFk, HPk, HK, HH⟩ := id HO
  refine kx_iload_n C dX0_change_0 rfl 1 rfl ?_
  refine kx_if_geR (tgt := 14) C dX0_change_1 (by decide) (fun c1 => ?_) (fun c1 => ?_)
  · skip
    obtain ⟨q, eq9, rfl⟩ := nI_of (x := x0) (Int32.not_lt.mpr c1)
    refine kx_aload_n C dX0_change_14 rfl 0 rfl ?_
    refine kx_callVv (rest := []) (wr := []) C (c_knowTails E K b y o n ls bc tk hk P Wt Tu Sc Ta Wa He Fk Pk HO) g0_90 0 rfl (by decide +kernel) ⟨Nat.le_of_ble_eq_true rfl, Nat.le_of_ble_eq_true rfl⟩ ⟨Nat.le_of_ble_eq_true rfl, Nat.le_of_ble_eq_true rfl⟩ [0, 1, 2, 3, 4, 5, 6, 7, 8, 9] [] rfl rfl (by decide) (by decide) (by decide) 0 rfl rfl rfl (Nat.le_of_ble_eq_true rfl) dX0_change_15 (fun w q2 => ?_)
    obtain ⟨ls2, bc2, Tv, Sv, Av, Vv, Fv, HO2, rfl⟩ := q2
    refine kx_eqw (ws2 := (kwW E K b y o n ls2 bc2 1 hk P Wt Tv Sv Av Vv He Fv Pk)) rfl ?_
    obtain ⟨G1, GP, GW, Gb, Gy, Go, Gtk, Ghk, Gls, GTa, GWa, GHe, GFk, GPk, GK, GH⟩ := id HO2
    obtain ⟨GT, GR, G0, Gn, GF⟩ := GK (by decide)
    have lp22 : ∀ (N_lp22 : Nat) (i : Nat), (1 ≤ i) → (i ≤ n ∨ i = 1) → (chN Fv i ≤ q) → (n + 1 < i + N_lp22) → kx E (rk 10 1) G 4 0 0 (kwW E K b y o n ls2 bc2 1 hk P Wt Tv Sv Av Vv He Fv Pk) [(0, .ref (K 0)), (1, .int (nI (q))), (2, .int (nI (chN Fv i))), (3, .int (nI (i)))] 22 [] := by
      intro N_lp22
      induction N_lp22 with
      | zero =>
        intro i h0_lp22 h1_lp22 h2_lp22 hm_lp22
        exact absurd hm_lp22 (by omega)
      | succ N_lp22 ih_lp22 =>
        intro i h0_lp22 h1_lp22 h2_lp22 hm_lp22
        refine kx_iload_n C dX0_change_22 rfl 3 rfl ?_
        refine kx_aload_n C dX0_change_23 rfl 0 rfl ?_
        refine kx_get (v := .int (nI (n))) (ci := 0) C kin0 0 rfl rfl 5 (by decide) fl0_41 rfl rfl dX0_change_24 ?_
        refine kx_icmp_ge (tgt := 54) C (by omega) (by omega) dX0_change_27 (by decide) (fun c3 => ?_) (fun c3 => ?_)
        · skip
          have hcz : chN Fv i = chN Fv n := chN_end (by omega) (by omega)
          refine kx_iconst (v := (-1)) C dX0_change_54 (by decide +kernel) ?_
          exact hE (Nat.le_of_ble_eq_true rfl) (Nat.le_of_ble_eq_true rfl) dX0_change_55 ⟨q, rfl, eq9, ls2, bc2, Tv, Sv, Av, Vv, Fv, Or.inr ⟨by rw [← hcz]; exact h2_lp22, rfl⟩, HO2, rfl⟩
        · skip
          refine kx_aload_n C dX0_change_30 rfl 0 rfl ?_
          refine kx_iload_n C dX0_change_31 rfl 3 rfl ?_
          refine kx_callVz (rest := []) (wr := []) C (c_changesAt E K b y o n ls2 bc2 1 hk P Wt Tv Sv Av Vv He Fv Pk i (by omega) (by omega) GFk) g0_128 1 rfl (by decide +kernel) ⟨Nat.le_of_ble_eq_true rfl, Nat.le_of_ble_eq_true rfl⟩ ⟨Nat.le_of_ble_eq_true rfl, Nat.le_of_ble_eq_true rfl⟩ [0, 1, 2, 3, 4, 5, 6, 7, 8, 9] [] rfl rfl (by decide) (by decide) (by decide) 0 rfl rfl rfl (Nat.le_of_ble_eq_true rfl) dX0_change_32 (fun v w q4 => ?_)
          obtain ⟨rfl, rfl⟩ := q4
          refine kx_eqw (ws2 := (kwW E K b y o n ls2 bc2 1 hk P Wt Tv Sv Av Vv He Fv Pk)) rfl ?_
          refine kx_if_eq (tgt := 48) C (by split <;> omega) dX0_change_35 (by decide) (fun c5 => ?_) (fun c5 => ?_)
          · skip
            have hch : Fv i = Fv (i - 1) := by by_cases z : Fv i = Fv (i - 1); exact z; rw [if_neg z] at c5; exact absurd c5 (by decide)
            refine kx_iinc (v := nI (i + 1)) (lv2 := [(3, .int (nI (i + 1))), (0, .ref (K 0)), (1, .int (nI (q))), (2, .int (nI (chN Fv i)))]) C dX0_change_48 3 rfl (kI1 _) (by decide) rfl ?_
            refine kx_goto (tgt := 22) C dX0_change_51 (by decide) ?_
            refine kx_lvn (a := chN Fv i) (b := chN Fv (i + 1)) (lv2 := [(3, .int (nI (i + 1))), (0, .ref (K 0)), (1, .int (nI (q))), (2, .int (nI (chN Fv (i + 1))))]) (by rw [chN_at (by omega), if_pos hch, Nat.add_zero]) 3 rfl rfl ?_
            refine kx_lv (lv2 := [(0, .ref (K 0)), (1, .int (nI (q))), (2, .int (nI (chN Fv (i + 1)))), (3, .int (nI (i + 1)))]) [1, 2, 3, 0] rfl ?_
            refine kx_eqw (ws2 := (kwW E K b y o n ls2 bc2 1 hk P Wt Tv Sv Av Vv He Fv Pk)) rfl ?_
            exact ih_lp22 (i + 1) (by omega) (by omega) (by rw [chN_at (by omega), if_pos hch]; omega) (by omega)
          · skip
            have hch : Fv i ≠ Fv (i - 1) := fun z => c5 (if_pos z)
            refine kx_iload_n C dX0_change_38 rfl 2 rfl ?_
            refine kx_iload_n C dX0_change_39 rfl 1 rfl ?_
            refine kx_icmp_ne (tgt := 45) C (by have := chN_le Fv i; omega) (by omega) dX0_change_40 (by decide) (fun c6 => ?_) (fun c6 => ?_)
            · skip
              refine kx_iinc (v := nI (chN Fv i + 1)) (lv2 := [(2, .int (nI (chN Fv i + 1))), (0, .ref (K 0)), (1, .int (nI (q))), (3, .int (nI (i)))]) C dX0_change_45 2 rfl (kI1 _) (by decide) rfl ?_
              refine kx_iinc (v := nI (i + 1)) (lv2 := [(3, .int (nI (i + 1))), (2, .int (nI (chN Fv i + 1))), (0, .ref (K 0)), (1, .int (nI (q)))]) C dX0_change_48 3 rfl (kI1 _) (by decide) rfl ?_
              refine kx_goto (tgt := 22) C dX0_change_51 (by decide) ?_
              refine kx_lvn (a := chN Fv i + 1) (b := chN Fv (i + 1)) (lv2 := [(3, .int (nI (i + 1))), (2, .int (nI (chN Fv (i + 1)))), (0, .ref (K 0)), (1, .int (nI (q)))]) (by rw [chN_at (by omega), if_neg hch]) 1 rfl rfl ?_
              refine kx_lv (lv2 := [(0, .ref (K 0)), (1, .int (nI (q))), (2, .int (nI (chN Fv (i + 1)))), (3, .int (nI (i + 1)))]) [2, 3, 1, 0] rfl ?_
              refine kx_eqw (ws2 := (kwW E K b y o n ls2 bc2 1 hk P Wt Tv Sv Av Vv He Fv Pk)) rfl ?_
              exact ih_lp22 (i + 1) (by omega) (by omega) (by rw [chN_at (by omega), if_neg hch]; omega) (by omega)
            · skip
              refine kx_iload_n C dX0_change_43 rfl 3 rfl ?_
              exact hE (Nat.le_of_ble_eq_true rfl) (Nat.le_of_ble_eq_true rfl) dX0_change_44 ⟨q, rfl, eq9, ls2, bc2, Tv, Sv, Av, Vv, Fv, Or.inl ⟨i, by omega, by omega, hch, c6, rfl⟩, HO2, rfl⟩
    refine kx_iconst (v := nI 0) C dX0_change_18 (by decide +kernel) ?_
    refine kx_istore_n (lv2 := [(2, .int (nI (0))), (0, .ref (K 0)), (1, .int (nI (q)))]) C dX0_change_19 rfl (by decide) rfl ?_
    refine kx_iconst (v := nI 1) C dX0_change_20 (by decide +kernel) ?_
    refine kx_istore_n (lv2 := [(3, .int (nI (1))), (2, .int (nI (0))), (0, .ref (K 0)), (1, .int (nI (q)))]) C dX0_change_21 rfl (by decide) rfl ?_
    refine kx_lv (lv2 := [(0, .ref (K 0)), (1, .int (nI (q))), (2, .int (nI (chN Fv 1))), (3, .int (nI (1)))]) [2, 3, 1, 0] rfl ?_
    refine kx_eqw (ws2 := (kwW E K b y o n ls2 bc2 1 hk P Wt Tv Sv Av Vv He Fv Pk)) rfl ?_
    exact lp22 42 1 (by omega) (by omega) (Nat.zero_le _) (by omega)
  · skip
    exact hT (kthr_change_4 E HX) (Nat.le_of_ble_eq_true rfl) (Nat.le_of_ble_eq_true rfl) ⟨rfl, Int32.not_le.mp c1, rfl⟩

set_option maxHeartbeats 4000000 in
set_option maxRecDepth 100000 in
theorem c_pivot (E : KE) (K : Nat → Nat) (b y o n ls bc tk hk : Nat) (P Wt Tu Sc Ta Wa He Fk Pk : Nat → Nat) (x0 x1 x2 : Int32) (HX : E.1.stackTraces = false) (HO : kOk b y o n ls bc tk hk P Wt Tu Sc Ta Wa He Fk Pk) : kTz E yX0_pivot cX0_pivot 6 (rk 10 1) [.ref (K 0), .int (x0), .int (x1), .int (x2)] (kwW E K b y o n ls bc tk hk P Wt Tu Sc Ta Wa He Fk Pk) (fun r w => ∃ sl k1 k2, x0 = nI sl ∧ sl < n ∧ x1 = nI k1 ∧ k1 ≤ 23 ∧ x2 = nI k2 ∧ k2 ≤ 23 ∧ (((∀ p, p < 12 → 0 < Wt (sl * 12 + p) → P (numX p k1) ≠ 0 ∧ P (numX p k2) ≠ 0) ∧ r = nI 1) ∨ (¬ (∀ p, p < 12 → 0 < Wt (sl * 12 + p) → P (numX p k1) ≠ 0 ∧ P (numX p k2) ≠ 0) ∧ r = nI 0)) ∧ w = (kwW E K b y o n ls bc tk hk P Wt Tu Sc Ta Wa He Fk Pk)) (fun n9 w => n9 = "java/lang/IllegalArgumentException" ∧ ¬ ((∃ j, j < n ∧ x0 = nI j) ∧ (∃ j, j ≤ 23 ∧ x1 = nI j) ∧ (∃ j, j ≤ 23 ∧ x2 = nI j)) ∧ w = (kwW E K b y o n ls bc tk hk P Wt Tu Sc Ta Wa He Fk Pk)) := by
  refine kTz_of (cc := cX0_pivot) (maxL := 6) (by decide) (Nat.le_of_ble_eq_true rfl) ?_
  intro G C hE hX hT
  obtain ⟨H1, HP, HW, Hb, Hy, Ho, Htk, Hhk, Hls, HTa, HWa, HHe, HFk, HPk, HK, HH⟩ := id HO
  refine kx_aload_n C dX0_pivot_0 rfl 0 rfl ?_
  refine kx_iload_n C dX0_pivot_1 rfl 1 rfl ?_
  refine kx_callVR (rest := []) (wr := []) C (c_requireSlice E K b y o n ls bc tk hk P Wt Tu Sc Ta Wa He Fk Pk x0 HX H1) g0_68 1 rfl (by decide +kernel) ⟨Nat.le_of_ble_eq_true rfl, Nat.le_of_ble_eq_true rfl⟩ ⟨Nat.le_of_ble_eq_true rfl, Nat.le_of_ble_eq_true rfl⟩ [0, 1, 2, 3, 4, 5, 6, 7, 8, 9] [] rfl rfl (by decide) (by decide) (by decide) 0 rfl rfl rfl (Nat.le_of_ble_eq_true rfl) dX0_pivot_2 (fun n9 q1 => ?_) (fun q1 => ?_)
  · skip
    exact hX (Nat.le_of_ble_eq_true rfl) (Nat.le_of_ble_eq_true rfl) ⟨q1.1, (fun z => q1.2 z.1), rfl⟩
  obtain ⟨sl, esl, rfl⟩ := q1
  refine kx_iload_n C dX0_pivot_5 rfl 2 rfl ?_
  refine kx_callSR (rest := []) (wr := (kwW E K b y o n ls bc tk hk P Wt Tu Sc Ta Wa He Fk Pk)) C (c_requireKey E x1 HX) g0_76 1 rfl (by decide +kernel) ⟨Nat.le_of_ble_eq_true rfl, Nat.le_of_ble_eq_true rfl⟩ ⟨Nat.le_of_ble_eq_true rfl, Nat.le_of_ble_eq_true rfl⟩ [] [0, 1, 2, 3, 4, 5, 6, 7, 8, 9] rfl rfl (by decide) (by decide) (by decide) rfl (Nat.le_of_ble_eq_true rfl) dX0_pivot_6 (fun n9 q2 => ?_) (fun q2 => ?_)
  · skip
    exact hX (Nat.le_of_ble_eq_true rfl) (Nat.le_of_ble_eq_true rfl) ⟨q2.1, (fun z => q2.2 z.2.1), (List.append_nil _)⟩
  obtain ⟨k1, ek1, rfl⟩ := q2
  refine kx_iload_n C dX0_pivot_9 rfl 3 rfl ?_
  refine kx_callSR (rest := []) (wr := (kwW E K b y o n ls bc tk hk P Wt Tu Sc Ta Wa He Fk Pk)) C (c_requireKey E x2 HX) g0_76 1 rfl (by decide +kernel) ⟨Nat.le_of_ble_eq_true rfl, Nat.le_of_ble_eq_true rfl⟩ ⟨Nat.le_of_ble_eq_true rfl, Nat.le_of_ble_eq_true rfl⟩ [] [0, 1, 2, 3, 4, 5, 6, 7, 8, 9] rfl rfl (by decide) (by decide) (by decide) rfl (Nat.le_of_ble_eq_true rfl) dX0_pivot_10 (fun n9 q3 => ?_) (fun q3 => ?_)
  · skip
    exact hX (Nat.le_of_ble_eq_true rfl) (Nat.le_of_ble_eq_true rfl) ⟨q3.1, (fun z => q3.2 z.2.2), (List.append_nil _)⟩
  obtain ⟨k2, ek2, rfl⟩ := q3
  have lp16 : ∀ (N_lp16 : Nat) (i : Nat), (i ≤ 12) → ((∀ p, p < i → 0 < Wt (sl * 12 + p) → P (numX p k1) ≠ 0 ∧ P (numX p k2) ≠ 0)) → (12 < i + N_lp16) → kx E (rk 10 1) G 6 0 0 (kwW E K b y o n ls bc tk hk P Wt Tu Sc Ta Wa He Fk Pk) [(0, .ref (K 0)), (1, .int (nI (sl))), (2, .int (nI (k1))), (3, .int (nI (k2))), (4, .int (nI (i)))] 16 [] := by
    intro N_lp16
    induction N_lp16 with
    | zero =>
      intro i h0_lp16 h1_lp16 hm_lp16
      exact absurd hm_lp16 (by omega)
    | succ N_lp16 ih_lp16 =>
      intro i h0_lp16 h1_lp16 hm_lp16
      refine kx_iload C dX0_pivot_16 4 rfl ?_
      refine kx_bipush (v := nI 12) C dX0_pivot_18 (by decide +kernel) ?_
      refine kx_icmp_ge (tgt := 78) C (by omega) (by omega) dX0_pivot_20 (by decide) (fun c4 => ?_) (fun c4 => ?_)
      · skip
        obtain rfl : 12 = i := by omega
        refine kx_iconst (v := nI 1) C dX0_pivot_78 (by decide +kernel) ?_
        exact hE (Nat.le_of_ble_eq_true rfl) (Nat.le_of_ble_eq_true rfl) dX0_pivot_79 (by decide +kernel) ⟨sl, k1, k2, rfl, esl, rfl, ek1, rfl, ek2, Or.inl ⟨h1_lp16, rfl⟩, rfl⟩
      · skip
        refine kx_aload_n C dX0_pivot_23 rfl 0 rfl ?_
        refine kx_get (v := .ref (K 2)) (ci := 0) C kin0 0 rfl rfl 1 (by decide) fl0_13 rfl rfl dX0_pivot_24 ?_
        refine kx_iload_n C dX0_pivot_27 rfl 1 rfl ?_
        refine kx_bipush (v := nI 12) C dX0_pivot_28 (by decide +kernel) ?_
        refine kx_imul C dX0_pivot_30 ?_
        refine kx_iload C dX0_pivot_31 4 rfl ?_
        refine kx_iadd C dX0_pivot_33 ?_
        refine kx_iald C 2 rfl (j := ((sl) * (12)) + (i)) (by omega) (by decide) dX0_pivot_34 ?_
        refine kx_if_le (tgt := 42) C (by have := HW (sl * 12 + i); omega) dX0_pivot_35 (by decide) (fun c5 => ?_) (fun c5 => ?_)
        · skip
          have hso : Wt (sl * 12 + i) = 0 := c5
          refine kx_iconst (v := nI 0) C dX0_pivot_42 (by decide +kernel) ?_
          refine kx_istore (lv2 := [(5, .int (nI (0))), (0, .ref (K 0)), (1, .int (nI (sl))), (2, .int (nI (k1))), (3, .int (nI (k2))), (4, .int (nI (i)))]) C dX0_pivot_43 (by decide) rfl ?_
          refine kx_iload C dX0_pivot_45 0 rfl ?_
          refine kx_if_eq (tgt := 72) C (by omega) dX0_pivot_47 (by decide) (fun c6 => ?_) (fun c6 => ?_)
          · skip
            refine kx_iinc (v := nI (i + 1)) (lv2 := [(4, .int (nI (i + 1))), (5, .int (nI (0))), (0, .ref (K 0)), (1, .int (nI (sl))), (2, .int (nI (k1))), (3, .int (nI (k2)))]) C dX0_pivot_72 5 rfl (kI1 _) (by decide) rfl ?_
            refine kx_goto (tgt := 16) C dX0_pivot_75 (by decide) ?_
            refine kx_lv (lv2 := [(0, .ref (K 0)), (1, .int (nI (sl))), (2, .int (nI (k1))), (3, .int (nI (k2))), (4, .int (nI (i + 1)))]) [2, 3, 4, 5, 0] rfl ?_
            refine kx_eqw (ws2 := (kwW E K b y o n ls bc tk hk P Wt Tu Sc Ta Wa He Fk Pk)) rfl ?_
            exact ih_lp16 (i + 1) (by omega) (kPvS h1_lp16 (fun z => absurd z (by omega))) (by omega)
          · skip
            exact absurd c6 (by decide)
        · skip
          have hso : 0 < Wt (sl * 12 + i) := c5
          refine kx_iconst (v := nI 1) C dX0_pivot_38 (by decide +kernel) ?_
          refine kx_goto (tgt := 43) C dX0_pivot_39 (by decide) ?_
          refine kx_istore (lv2 := [(5, .int (nI (1))), (0, .ref (K 0)), (1, .int (nI (sl))), (2, .int (nI (k1))), (3, .int (nI (k2))), (4, .int (nI (i)))]) C dX0_pivot_43 (by decide) rfl ?_
          refine kx_iload C dX0_pivot_45 0 rfl ?_
          refine kx_if_eq (tgt := 72) C (by omega) dX0_pivot_47 (by decide) (fun c7 => ?_) (fun c7 => ?_)
          · skip
            exact absurd c7 (by decide)
          · skip
            refine kx_aload_n C dX0_pivot_50 rfl 1 rfl ?_
            refine kx_iload C dX0_pivot_51 5 rfl ?_
            refine kx_iload_n C dX0_pivot_53 rfl 3 rfl ?_
            refine kx_callVi (rest := []) (wr := []) C (c_numberOf E K b y o n ls bc tk hk P Wt Tu Sc Ta Wa He Fk Pk i k1 (by omega) (by omega)) g0_132 2 rfl (by decide +kernel) ⟨Nat.le_of_ble_eq_true rfl, Nat.le_of_ble_eq_true rfl⟩ ⟨Nat.le_of_ble_eq_true rfl, Nat.le_of_ble_eq_true rfl⟩ [0, 1, 2, 3, 4, 5, 6, 7, 8, 9] [] rfl rfl (by decide) (by decide) (by decide) 0 rfl rfl rfl (Nat.le_of_ble_eq_true rfl) dX0_pivot_54 (fun v w q8 => ?_)
            obtain ⟨rfl, rfl⟩ := q8
            refine kx_eqw (ws2 := (kwW E K b y o n ls bc tk hk P Wt Tu Sc Ta Wa He Fk Pk)) rfl ?_
            refine kx_if_eq (tgt := 70) C (by have := HP (numX i k1); omega) dX0_pivot_57 (by decide) (fun c9 => ?_) (fun c9 => ?_)
            · skip
              refine kx_iconst (v := nI 0) C dX0_pivot_70 (by decide +kernel) ?_
              exact hE (Nat.le_of_ble_eq_true rfl) (Nat.le_of_ble_eq_true rfl) dX0_pivot_71 (by decide +kernel) ⟨sl, k1, k2, rfl, esl, rfl, ek1, rfl, ek2, Or.inr ⟨fun z => absurd (z i (by omega) hso) (fun z => z.1 c9), rfl⟩, rfl⟩
            · skip
              have hn1 := c9
              refine kx_aload_n C dX0_pivot_60 rfl 1 rfl ?_
              refine kx_iload C dX0_pivot_61 5 rfl ?_
              refine kx_iload_n C dX0_pivot_63 rfl 4 rfl ?_
              refine kx_callVi (rest := []) (wr := []) C (c_numberOf E K b y o n ls bc tk hk P Wt Tu Sc Ta Wa He Fk Pk i k2 (by omega) (by omega)) g0_132 2 rfl (by decide +kernel) ⟨Nat.le_of_ble_eq_true rfl, Nat.le_of_ble_eq_true rfl⟩ ⟨Nat.le_of_ble_eq_true rfl, Nat.le_of_ble_eq_true rfl⟩ [0, 1, 2, 3, 4, 5, 6, 7, 8, 9] [] rfl rfl (by decide) (by decide) (by decide) 0 rfl rfl rfl (Nat.le_of_ble_eq_true rfl) dX0_pivot_64 (fun v w q10 => ?_)
              obtain ⟨rfl, rfl⟩ := q10
              refine kx_eqw (ws2 := (kwW E K b y o n ls bc tk hk P Wt Tu Sc Ta Wa He Fk Pk)) rfl ?_
              refine kx_if_ne (tgt := 72) C (by have := HP (numX i k2); omega) dX0_pivot_67 (by decide) (fun c11 => ?_) (fun c11 => ?_)
              · skip
                refine kx_iinc (v := nI (i + 1)) (lv2 := [(4, .int (nI (i + 1))), (5, .int (nI (1))), (0, .ref (K 0)), (1, .int (nI (sl))), (2, .int (nI (k1))), (3, .int (nI (k2)))]) C dX0_pivot_72 5 rfl (kI1 _) (by decide) rfl ?_
                refine kx_goto (tgt := 16) C dX0_pivot_75 (by decide) ?_
                refine kx_lv (lv2 := [(0, .ref (K 0)), (1, .int (nI (sl))), (2, .int (nI (k1))), (3, .int (nI (k2))), (4, .int (nI (i + 1)))]) [2, 3, 4, 5, 0] rfl ?_
                refine kx_eqw (ws2 := (kwW E K b y o n ls bc tk hk P Wt Tu Sc Ta Wa He Fk Pk)) rfl ?_
                exact ih_lp16 (i + 1) (by omega) (kPvS h1_lp16 (fun _ => ⟨hn1, c11⟩)) (by omega)
              · skip
                refine kx_iconst (v := nI 0) C dX0_pivot_70 (by decide +kernel) ?_
                exact hE (Nat.le_of_ble_eq_true rfl) (Nat.le_of_ble_eq_true rfl) dX0_pivot_71 (by decide +kernel) ⟨sl, k1, k2, rfl, esl, rfl, ek1, rfl, ek2, Or.inr ⟨fun z => absurd (z i (by omega) hso) (fun z => z.2 c11), rfl⟩, rfl⟩
  refine kx_iconst (v := nI 0) C dX0_pivot_13 (by decide +kernel) ?_
  refine kx_istore (lv2 := [(4, .int (nI (0))), (0, .ref (K 0)), (1, .int (nI (sl))), (2, .int (nI (k1))), (3, .int (nI (k2)))]) C dX0_pivot_14 (by decide) rfl ?_
  refine kx_lv (lv2 := [(0, .ref (K 0)), (1, .int (nI (sl))), (2, .int (nI (k1))), (3, .int (nI (k2))), (4, .int (nI (0)))]) [1, 2, 3, 4, 0] rfl ?_
  refine kx_eqw (ws2 := (kwW E K b y o n ls bc tk hk P Wt Tu Sc Ta Wa He Fk Pk)) rfl ?_
  exact lp16 13 0 (by omega) (fun p hp => absurd hp (by omega)) (by omega)

set_option maxHeartbeats 4000000 in
set_option maxRecDepth 100000 in
theorem c_whole (E : KE) (K : Nat → Nat) (b y o n ls bc tk hk : Nat) (P Wt Tu Sc Ta Wa He Fk Pk : Nat → Nat) (x0 x1 : Int32) (HX : E.1.stackTraces = false) (HO : kOk b y o n ls bc tk hk P Wt Tu Sc Ta Wa He Fk Pk) : kTi E yX0_whole cX0_whole 7 (rk 10 1) [.ref (K 0), .int (x0), .int (x1)] (kwW E K b y o n ls bc tk hk P Wt Tu Sc Ta Wa He Fk Pk) (fun r w => ∃ fi la, x0 = nI fi ∧ x1 = nI la ∧ fi ≤ la ∧ la < n ∧ r = nI (whN (fun k => sumN (fun t => fitN P Wt (fi + t) k) (la + 1 - fi)) 23).1 ∧ w = (kwW E K b y o n ls bc tk hk P Wt Tu Sc Ta Wa He Fk Pk)) (fun n9 w => n9 = "java/lang/IllegalArgumentException" ∧ ¬ (∃ i j, x0 = nI i ∧ x1 = nI j ∧ i ≤ j ∧ j < n) ∧ w = (kwW E K b y o n ls bc tk hk P Wt Tu Sc Ta Wa He Fk Pk)) := by
  refine kTi_of (cc := cX0_whole) (maxL := 7) (by decide) (Nat.le_of_ble_eq_true rfl) ?_
  intro G C hE hX hT
  obtain ⟨H1, HP, HW, Hb, Hy, Ho, Htk, Hhk, Hls, HTa, HWa, HHe, HFk, HPk, HK, HH⟩ := id HO
  refine kx_aload_n C dX0_whole_0 rfl 0 rfl ?_
  refine kx_iload_n C dX0_whole_1 rfl 1 rfl ?_
  refine kx_callVR (rest := []) (wr := []) C (c_requireSlice E K b y o n ls bc tk hk P Wt Tu Sc Ta Wa He Fk Pk x0 HX H1) g0_68 1 rfl (by decide +kernel) ⟨Nat.le_of_ble_eq_true rfl, Nat.le_of_ble_eq_true rfl⟩ ⟨Nat.le_of_ble_eq_true rfl, Nat.le_of_ble_eq_true rfl⟩ [0, 1, 2, 3, 4, 5, 6, 7, 8, 9] [] rfl rfl (by decide) (by decide) (by decide) 0 rfl rfl rfl (Nat.le_of_ble_eq_true rfl) dX0_whole_2 (fun n9 q1 => ?_) (fun q1 => ?_)
  · skip
    exact hX (Nat.le_of_ble_eq_true rfl) (Nat.le_of_ble_eq_true rfl) ⟨q1.1, (fun z => kNW1 q1.2 z), rfl⟩
  obtain ⟨fi, efi, rfl⟩ := q1
  refine kx_aload_n C dX0_whole_5 rfl 0 rfl ?_
  refine kx_iload_n C dX0_whole_6 rfl 2 rfl ?_
  refine kx_callVR (rest := []) (wr := []) C (c_requireSlice E K b y o n ls bc tk hk P Wt Tu Sc Ta Wa He Fk Pk x1 HX H1) g0_68 1 rfl (by decide +kernel) ⟨Nat.le_of_ble_eq_true rfl, Nat.le_of_ble_eq_true rfl⟩ ⟨Nat.le_of_ble_eq_true rfl, Nat.le_of_ble_eq_true rfl⟩ [0, 1, 2, 3, 4, 5, 6, 7, 8, 9] [] rfl rfl (by decide) (by decide) (by decide) 0 rfl rfl rfl (Nat.le_of_ble_eq_true rfl) dX0_whole_7 (fun n9 q2 => ?_) (fun q2 => ?_)
  · skip
    exact hX (Nat.le_of_ble_eq_true rfl) (Nat.le_of_ble_eq_true rfl) ⟨q2.1, (fun z => kNW2 q2.2 z), rfl⟩
  obtain ⟨la, ela, rfl⟩ := q2
  refine kx_iload_n C dX0_whole_10 rfl 1 rfl ?_
  refine kx_iload_n C dX0_whole_11 rfl 2 rfl ?_
  refine kx_icmp_le (tgt := 25) C (by omega) (by omega) dX0_whole_12 (by decide) (fun c3 => ?_) (fun c3 => ?_)
  · skip
    have HFL : fi ≤ la := c3
    have ela9 : la < 40 := by omega
    have hFb : ∀ k, (fun k => sumN (fun t => fitN P Wt (fi + t) k) (la + 1 - fi)) k ≤ 9504000 := fun k => by have h1 := sumN_le (f := fun t => fitN P Wt (fi + t) k) (B := 237600) (fun t => fitN_le HP HW _ _) (la + 1 - fi); have h2 : (la + 1 - fi) * 237600 ≤ 40 * 237600 := Nat.mul_le_mul_right _ (by omega); exact Nat.le_trans h1 h2
    refine kx_iconst (v := nI 0) C dX0_whole_25 (by decide +kernel) ?_
    refine kx_istore_n (lv2 := [(3, .int (nI (0))), (0, .ref (K 0)), (1, .int (nI (fi))), (2, .int (nI (la)))]) C dX0_whole_26 rfl (by decide) rfl ?_
    refine kx_aload_n C dX0_whole_27 rfl 1 rfl ?_
    refine kx_iload_n C dX0_whole_28 rfl 2 rfl ?_
    refine kx_iload_n C dX0_whole_29 rfl 3 rfl ?_
    refine kx_iconst (v := nI 0) C dX0_whole_30 (by decide +kernel) ?_
    refine kx_callVi (rest := []) (wr := []) C (c_fitTogether E K b y o n ls bc tk hk P Wt Tu Sc Ta Wa He Fk Pk fi la 0 HFL ela9 (by omega)) g0_137 3 rfl (by decide +kernel) ⟨Nat.le_of_ble_eq_true rfl, Nat.le_of_ble_eq_true rfl⟩ ⟨Nat.le_of_ble_eq_true rfl, Nat.le_of_ble_eq_true rfl⟩ [0, 1, 2, 3, 4, 5, 6, 7, 8, 9] [] rfl rfl (by decide) (by decide) (by decide) 0 rfl rfl rfl (Nat.le_of_ble_eq_true rfl) dX0_whole_31 (fun v w q4 => ?_)
    obtain ⟨rfl, rfl⟩ := q4
    refine kx_eqw (ws2 := (kwW E K b y o n ls bc tk hk P Wt Tu Sc Ta Wa He Fk Pk)) rfl ?_
    refine kx_istore (lv2 := [(4, .int (nI (sumN (fun t => fitN P Wt (fi + t) 0) (la + 1 - fi)))), (3, .int (nI (0))), (0, .ref (K 0)), (1, .int (nI (fi))), (2, .int (nI (la)))]) C dX0_whole_34 (by decide) rfl ?_
    have lp39 : ∀ (N_lp39 : Nat) (j : Nat), (j ≤ 23) → (23 < j + N_lp39) → kx E (rk 10 1) G 7 0 0 (kwW E K b y o n ls bc tk hk P Wt Tu Sc Ta Wa He Fk Pk) [(0, .ref (K 0)), (1, .int (nI (fi))), (2, .int (nI (la))), (3, .int (nI ((whN (fun k => sumN (fun t => fitN P Wt (fi + t) k) (la + 1 - fi)) j).1))), (4, .int (nI ((whN (fun k => sumN (fun t => fitN P Wt (fi + t) k) (la + 1 - fi)) j).2))), (5, .int (nI (j + 1)))] 39 [] := by
      intro N_lp39
      induction N_lp39 with
      | zero =>
        intro j h0_lp39 hm_lp39
        exact absurd hm_lp39 (by omega)
      | succ N_lp39 ih_lp39 =>
        intro j h0_lp39 hm_lp39
        refine kx_iload C dX0_whole_39 5 rfl ?_
        refine kx_bipush (v := nI 24) C dX0_whole_41 (by decide +kernel) ?_
        refine kx_icmp_ge (tgt := 76) C (by omega) (by omega) dX0_whole_43 (by decide) (fun c5 => ?_) (fun c5 => ?_)
        · skip
          obtain rfl : 23 = j := by omega
          refine kx_iload_n C dX0_whole_76 rfl 3 rfl ?_
          exact hE (Nat.le_of_ble_eq_true rfl) (Nat.le_of_ble_eq_true rfl) dX0_whole_77 ⟨fi, la, rfl, rfl, HFL, ela, rfl, rfl⟩
        · skip
          refine kx_aload_n C dX0_whole_46 rfl 0 rfl ?_
          refine kx_iload_n C dX0_whole_47 rfl 1 rfl ?_
          refine kx_iload_n C dX0_whole_48 rfl 2 rfl ?_
          refine kx_iload C dX0_whole_49 5 rfl ?_
          refine kx_callVi (rest := []) (wr := []) C (c_fitTogether E K b y o n ls bc tk hk P Wt Tu Sc Ta Wa He Fk Pk fi la (j + 1) HFL ela9 (by omega)) g0_137 3 rfl (by decide +kernel) ⟨Nat.le_of_ble_eq_true rfl, Nat.le_of_ble_eq_true rfl⟩ ⟨Nat.le_of_ble_eq_true rfl, Nat.le_of_ble_eq_true rfl⟩ [0, 1, 2, 3, 4, 5, 6, 7, 8, 9] [] rfl rfl (by decide) (by decide) (by decide) 0 rfl rfl rfl (Nat.le_of_ble_eq_true rfl) dX0_whole_51 (fun v w q6 => ?_)
          obtain ⟨rfl, rfl⟩ := q6
          refine kx_eqw (ws2 := (kwW E K b y o n ls bc tk hk P Wt Tu Sc Ta Wa He Fk Pk)) rfl ?_
          refine kx_istore (lv2 := [(6, .int (nI (sumN (fun t => fitN P Wt (fi + t) (j + 1)) (la + 1 - fi)))), (0, .ref (K 0)), (1, .int (nI (fi))), (2, .int (nI (la))), (3, .int (nI ((whN (fun k => sumN (fun t => fitN P Wt (fi + t) k) (la + 1 - fi)) j).1))), (4, .int (nI ((whN (fun k => sumN (fun t => fitN P Wt (fi + t) k) (la + 1 - fi)) j).2))), (5, .int (nI (j + 1)))]) C dX0_whole_54 (by decide) rfl ?_
          refine kx_iload C dX0_whole_56 0 rfl ?_
          refine kx_iload C dX0_whole_58 5 rfl ?_
          refine kx_icmp_le (tgt := 70) C (Nat.lt_of_le_of_lt (hFb (j + 1)) (by decide)) (Nat.lt_of_le_of_lt (whN_le hFb j) (by decide)) dX0_whole_60 (by decide) (fun c7 => ?_) (fun c7 => ?_)
          · skip
            refine kx_iinc (v := nI (j + 1 + 1)) (lv2 := [(5, .int (nI (j + 1 + 1))), (6, .int (nI (sumN (fun t => fitN P Wt (fi + t) (j + 1)) (la + 1 - fi)))), (0, .ref (K 0)), (1, .int (nI (fi))), (2, .int (nI (la))), (3, .int (nI ((whN (fun k => sumN (fun t => fitN P Wt (fi + t) k) (la + 1 - fi)) j).1))), (4, .int (nI ((whN (fun k => sumN (fun t => fitN P Wt (fi + t) k) (la + 1 - fi)) j).2)))]) C dX0_whole_70 6 rfl (kI1 _) (by decide) rfl ?_
            refine kx_goto (tgt := 39) C dX0_whole_73 (by decide) ?_
            have e9 : whN (fun k => sumN (fun t => fitN P Wt (fi + t) k) (la + 1 - fi)) (j + 1) = whN (fun k => sumN (fun t => fitN P Wt (fi + t) k) (la + 1 - fi)) j := by rw [whN, if_neg (Nat.not_lt.mpr c7)]
            refine kx_lvn (a := (whN (fun k => sumN (fun t => fitN P Wt (fi + t) k) (la + 1 - fi)) j).1) (b := (whN (fun k => sumN (fun t => fitN P Wt (fi + t) k) (la + 1 - fi)) (j + 1)).1) (lv2 := [(5, .int (nI (j + 1 + 1))), (6, .int (nI (sumN (fun t => fitN P Wt (fi + t) (j + 1)) (la + 1 - fi)))), (0, .ref (K 0)), (1, .int (nI (fi))), (2, .int (nI (la))), (3, .int (nI ((whN (fun k => sumN (fun t => fitN P Wt (fi + t) k) (la + 1 - fi)) (j + 1)).1))), (4, .int (nI ((whN (fun k => sumN (fun t => fitN P Wt (fi + t) k) (la + 1 - fi)) j).2)))]) (by rw [e9]) 5 rfl rfl ?_
            refine kx_lvn (a := (whN (fun k => sumN (fun t => fitN P Wt (fi + t) k) (la + 1 - fi)) j).2) (b := (whN (fun k => sumN (fun t => fitN P Wt (fi + t) k) (la + 1 - fi)) (j + 1)).2) (lv2 := [(5, .int (nI (j + 1 + 1))), (6, .int (nI (sumN (fun t => fitN P Wt (fi + t) (j + 1)) (la + 1 - fi)))), (0, .ref (K 0)), (1, .int (nI (fi))), (2, .int (nI (la))), (3, .int (nI ((whN (fun k => sumN (fun t => fitN P Wt (fi + t) k) (la + 1 - fi)) (j + 1)).1))), (4, .int (nI ((whN (fun k => sumN (fun t => fitN P Wt (fi + t) k) (la + 1 - fi)) (j + 1)).2)))]) (by rw [e9]) 6 rfl rfl ?_
            refine kx_lv (lv2 := [(0, .ref (K 0)), (1, .int (nI (fi))), (2, .int (nI (la))), (3, .int (nI ((whN (fun k => sumN (fun t => fitN P Wt (fi + t) k) (la + 1 - fi)) (j + 1)).1))), (4, .int (nI ((whN (fun k => sumN (fun t => fitN P Wt (fi + t) k) (la + 1 - fi)) (j + 1)).2))), (5, .int (nI ((j + 1) + 1)))]) [2, 3, 4, 5, 6, 0] rfl ?_
            refine kx_eqw (ws2 := (kwW E K b y o n ls bc tk hk P Wt Tu Sc Ta Wa He Fk Pk)) rfl ?_
            exact ih_lp39 (j + 1) (by omega) (by omega)
          · skip
            refine kx_iload C dX0_whole_63 0 rfl ?_
            refine kx_istore (lv2 := [(4, .int (nI (sumN (fun t => fitN P Wt (fi + t) (j + 1)) (la + 1 - fi)))), (6, .int (nI (sumN (fun t => fitN P Wt (fi + t) (j + 1)) (la + 1 - fi)))), (0, .ref (K 0)), (1, .int (nI (fi))), (2, .int (nI (la))), (3, .int (nI ((whN (fun k => sumN (fun t => fitN P Wt (fi + t) k) (la + 1 - fi)) j).1))), (5, .int (nI (j + 1)))]) C dX0_whole_65 (by decide) rfl ?_
            refine kx_iload C dX0_whole_67 6 rfl ?_
            refine kx_istore_n (lv2 := [(3, .int (nI (j + 1))), (4, .int (nI (sumN (fun t => fitN P Wt (fi + t) (j + 1)) (la + 1 - fi)))), (6, .int (nI (sumN (fun t => fitN P Wt (fi + t) (j + 1)) (la + 1 - fi)))), (0, .ref (K 0)), (1, .int (nI (fi))), (2, .int (nI (la))), (5, .int (nI (j + 1)))]) C dX0_whole_69 rfl (by decide) rfl ?_
            refine kx_iinc (v := nI (j + 1 + 1)) (lv2 := [(5, .int (nI (j + 1 + 1))), (3, .int (nI (j + 1))), (4, .int (nI (sumN (fun t => fitN P Wt (fi + t) (j + 1)) (la + 1 - fi)))), (6, .int (nI (sumN (fun t => fitN P Wt (fi + t) (j + 1)) (la + 1 - fi)))), (0, .ref (K 0)), (1, .int (nI (fi))), (2, .int (nI (la)))]) C dX0_whole_70 6 rfl (kI1 _) (by decide) rfl ?_
            refine kx_goto (tgt := 39) C dX0_whole_73 (by decide) ?_
            have e9 : whN (fun k => sumN (fun t => fitN P Wt (fi + t) k) (la + 1 - fi)) (j + 1) = (j + 1, (fun k => sumN (fun t => fitN P Wt (fi + t) k) (la + 1 - fi)) (j + 1)) := by rw [whN, if_pos c7]
            refine kx_lvn (a := j + 1) (b := (whN (fun k => sumN (fun t => fitN P Wt (fi + t) k) (la + 1 - fi)) (j + 1)).1) (lv2 := [(5, .int (nI (j + 1 + 1))), (3, .int (nI ((whN (fun k => sumN (fun t => fitN P Wt (fi + t) k) (la + 1 - fi)) (j + 1)).1))), (4, .int (nI (sumN (fun t => fitN P Wt (fi + t) (j + 1)) (la + 1 - fi)))), (6, .int (nI (sumN (fun t => fitN P Wt (fi + t) (j + 1)) (la + 1 - fi)))), (0, .ref (K 0)), (1, .int (nI (fi))), (2, .int (nI (la)))]) (by rw [e9]) 1 rfl rfl ?_
            refine kx_lvn (a := sumN (fun t => fitN P Wt (fi + t) (j + 1)) (la + 1 - fi)) (b := (whN (fun k => sumN (fun t => fitN P Wt (fi + t) k) (la + 1 - fi)) (j + 1)).2) (lv2 := [(5, .int (nI (j + 1 + 1))), (3, .int (nI ((whN (fun k => sumN (fun t => fitN P Wt (fi + t) k) (la + 1 - fi)) (j + 1)).1))), (4, .int (nI ((whN (fun k => sumN (fun t => fitN P Wt (fi + t) k) (la + 1 - fi)) (j + 1)).2))), (6, .int (nI (sumN (fun t => fitN P Wt (fi + t) (j + 1)) (la + 1 - fi)))), (0, .ref (K 0)), (1, .int (nI (fi))), (2, .int (nI (la)))]) (by rw [e9]) 2 rfl rfl ?_
            refine kx_lv (lv2 := [(0, .ref (K 0)), (1, .int (nI (fi))), (2, .int (nI (la))), (3, .int (nI ((whN (fun k => sumN (fun t => fitN P Wt (fi + t) k) (la + 1 - fi)) (j + 1)).1))), (4, .int (nI ((whN (fun k => sumN (fun t => fitN P Wt (fi + t) k) (la + 1 - fi)) (j + 1)).2))), (5, .int (nI ((j + 1) + 1)))]) [4, 5, 6, 1, 2, 0] rfl ?_
            refine kx_eqw (ws2 := (kwW E K b y o n ls bc tk hk P Wt Tu Sc Ta Wa He Fk Pk)) rfl ?_
            exact ih_lp39 (j + 1) (by omega) (by omega)
    refine kx_iconst (v := nI 1) C dX0_whole_36 (by decide +kernel) ?_
    refine kx_istore (lv2 := [(5, .int (nI (1))), (4, .int (nI (sumN (fun t => fitN P Wt (fi + t) 0) (la + 1 - fi)))), (3, .int (nI (0))), (0, .ref (K 0)), (1, .int (nI (fi))), (2, .int (nI (la)))]) C dX0_whole_37 (by decide) rfl ?_
    refine kx_lv (lv2 := [(0, .ref (K 0)), (1, .int (nI (fi))), (2, .int (nI (la))), (3, .int (nI ((whN (fun k => sumN (fun t => fitN P Wt (fi + t) k) (la + 1 - fi)) 0).1))), (4, .int (nI ((whN (fun k => sumN (fun t => fitN P Wt (fi + t) k) (la + 1 - fi)) 0).2))), (5, .int (nI (0 + 1)))]) [3, 4, 5, 2, 1, 0] rfl ?_
    refine kx_eqw (ws2 := (kwW E K b y o n ls bc tk hk P Wt Tu Sc Ta Wa He Fk Pk)) rfl ?_
    exact lp39 24 0 (by omega) (by omega)
  · skip
    exact hT (kthr_whole_15 E HX) (Nat.le_of_ble_eq_true rfl) (Nat.le_of_ble_eq_true rfl) ⟨rfl, (fun z => kNW3 H1 efi ela c3 z), rfl⟩
