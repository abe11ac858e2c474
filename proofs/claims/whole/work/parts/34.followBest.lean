theorem c_restAfter (E : KE) (K : Nat → Nat) (b y o n ls bc tk hk : Nat) (P Wt Tu Sc Ta Wa He Fk Pk : Nat → Nat) (s bf : Nat) (H0 : s ≤ 40) (H1 : bf ≤ 24) (H2 : s = 0 → bf = 24) (H3 : s ≠ 0 → bf < 24 ∧ Sc ((s - 1) * 24 + bf) ≤ Ta ((s - 1) * 24 + bf)) : kMi E yX0_restAfter cX0_restAfter 3 (rk 0 0) [.ref (K 0), .int (nI s - nI 1), .int (kO bf)] (kwW E K b y o n ls bc tk hk P Wt Tu Sc Ta Wa He Fk Pk) (fun r w => r = nI (rstV ls Sc Ta s bf) ∧ w = (kwW E K b y o n ls bc tk hk P Wt Tu Sc Ta Wa He Fk Pk)) := by
  by_cases e : s = 0
  · subst e
    obtain rfl := H2 rfl
    exact c_restAfter0 E K b y o n ls bc tk hk P Wt Tu Sc Ta Wa He Fk Pk (kO 24)
  · obtain ⟨h1, h2⟩ := H3 e
    rw [pk_sub (by omega), kO_lt h1]
    have h3 := c_restAfter1 E K b y o n ls bc tk hk P Wt Tu Sc Ta Wa He Fk Pk (s - 1) bf (by omega) h1 h2
    unfold rstV
    rw [if_neg (by omega)]
    exact h3
theorem c_turnInto (E : KE) (K : Nat → Nat) (b y o n ls bc tk hk : Nat) (P Wt Tu Sc Ta Wa He Fk Pk : Nat → Nat) (bf k : Nat) (H0 : bf ≤ 24) (H1 : k < 24) : kMi E yX0_turnInto cX0_turnInto 3 (rk 0 0) [.ref (K 0), .int (kO bf), .int (nI k)] (kwW E K b y o n ls bc tk hk P Wt Tu Sc Ta Wa He Fk Pk) (fun r w => r = nI (tinV Tu bf k) ∧ w = (kwW E K b y o n ls bc tk hk P Wt Tu Sc Ta Wa He Fk Pk)) := by
  by_cases e : bf = 24
  · subst e
    exact c_turnInto0 E K b y o n ls bc tk hk P Wt Tu Sc Ta Wa He Fk Pk k
  · rw [kO_lt (by omega)]
    unfold tinV
    rw [if_neg e]
    exact c_turnInto1 E K b y o n ls bc tk hk P Wt Tu Sc Ta Wa He Fk Pk bf k (by omega) H1

theorem kRow {Rv Q : Nat → Nat} {s v : Nat} (h : ∀ j, j < s → Rv j = Q j) (hv : v = Q s) : ∀ j, j < s + 1 → va_up Rv s v j = Q j := by
  intro j hj
  by_cases e : j = s
  · subst e; rw [va_up_self]; exact hv
  · rw [va_up_ne _ _ e]; exact h j (by omega)

set_option maxHeartbeats 4000000 in
set_option maxRecDepth 100000 in
theorem c_followBest8 (E : KE) (K : Nat → Nat) (b y o n ls bc tk hk : Nat) (P Wt Tu Sc Ta Wa He Fk Pk : Nat → Nat) (i0 la : Nat) (H0 : la < 40) (H1 : i0 ≤ 1000000000000000000) (Hls : ls ≤ 10000000) (HTu : ∀ j, j < 576 → Tu j ≤ 8000) (HTa : ∀ j, Ta j ≤ 10000000) (HWa : ∀ j, Wa j ≤ 1000000000000000000) (HST : ∀ j, j < (la + 1) * 24 → Sc j ≤ Ta j) (HRw : ∀ j, Fk j ≤ 24) : kMi E yX0_followBest cX0_followBest 13 (rk 1 0) [.ref (K 0), .long (lN (i0)), .int (nI (la)), .ref (K 8)] (kwW E K b y o n ls bc tk hk P Wt Tu Sc Ta Wa He Fk Pk) (fun r w => r = kO (pthV ls Tu Sc Ta Wa i0 (la + 1)).1 ∧ ∃ Rv : Nat → Nat, (∀ j, j ≤ la → (pthV ls Tu Sc Ta Wa i0 (j + 1)).1 ≠ 24 → Rv j = (pthV ls Tu Sc Ta Wa i0 (j + 1)).1) ∧ (∀ j, Rv j ≤ 24) ∧ w = (kwW E K b y o n ls bc tk hk P Wt Tu Sc Ta Wa He Rv Pk)) := by
  refine kMi_of (cc := cX0_followBest) (maxL := 13) (by decide) (Nat.le_of_ble_eq_true rfl) ?_
  intro G C hE
  have lp9 : ∀ (N_lp9 : Nat) (s : Nat) (Rv : Nat → Nat), (s ≤ la + 1) → (s ≠ 0 → (pthV ls Tu Sc Ta Wa i0 s).1 < 24) → (∀ j, j < s → Rv j = (pthV ls Tu Sc Ta Wa i0 (j + 1)).1) → (∀ j, Rv j ≤ 24) → (la + 1 < s + N_lp9) → kx E (rk 1 0) G 13 0 0 (kwW E K b y o n ls bc tk hk P Wt Tu Sc Ta Wa He Rv Pk) [(0, .ref (K 0)), (1, .long (lN (i0))), (3, .int (nI (la))), (4, .ref (K 8)), (5, .long (lN ((pthV ls Tu Sc Ta Wa i0 s).2))), (7, .int (kO (pthV ls Tu Sc Ta Wa i0 s).1)), (8, .int (nI (s)))] 9 [] := by
    intro N_lp9
    induction N_lp9 with
    | zero =>
      intro s Rv h0_lp9 h1_lp9 h2_lp9 h3_lp9 hm_lp9
      exact absurd hm_lp9 (by omega)
    | succ N_lp9 ih_lp9 =>
      intro s Rv h0_lp9 h1_lp9 h2_lp9 h3_lp9 hm_lp9
      have hz0 : s = 0 → (pthV ls Tu Sc Ta Wa i0 s).1 = 24 := fun z => by subst z; rfl
      have hz1 : s ≠ 0 → (pthV ls Tu Sc Ta Wa i0 s).1 < 24 ∧ Sc ((s - 1) * 24 + (pthV ls Tu Sc Ta Wa i0 s).1) ≤ Ta ((s - 1) * 24 + (pthV ls Tu Sc Ta Wa i0 s).1) := fun z => ⟨h1_lp9 z, HST _ (by have := h1_lp9 z; omega)⟩
      have hps : (pthV ls Tu Sc Ta Wa i0 (s + 1)) = (selS ls Tu Sc Ta Wa s (pthV ls Tu Sc Ta Wa i0 s).1 (pthV ls Tu Sc Ta Wa i0 s).2 24) := by rw [pthV, if_neg (fun z => absurd z.2 (Nat.ne_of_lt (h1_lp9 z.1)))]
      have hrb : rstV ls Sc Ta s (pthV ls Tu Sc Ta Wa i0 s).1 ≤ 10000000 := by unfold rstV; split; exact Hls; exact Nat.le_trans (Nat.sub_le _ _) (HTa _)
      have htb : ∀ i, i < 24 → tinV Tu (pthV ls Tu Sc Ta Wa i0 s).1 i ≤ 8000 := fun i hi => by unfold tinV; split; exact Nat.zero_le _; exact HTu _ (by have := pthV_le (ls := ls) (Tu := Tu) (Sc := Sc) (Ta := Ta) (Wa := Wa) (i := i0) s; omega)
      have h115 : s ≤ la → kx E (rk 1 0) G 13 0 0 (kwW E K b y o n ls bc tk hk P Wt Tu Sc Ta Wa He Rv Pk) [(0, .ref (K 0)), (1, .long (lN (i0))), (3, .int (nI (la))), (4, .ref (K 8)), (5, .long (lN ((selS ls Tu Sc Ta Wa s (pthV ls Tu Sc Ta Wa i0 s).1 (pthV ls Tu Sc Ta Wa i0 s).2 24).2))), (7, .int (kO (pthV ls Tu Sc Ta Wa i0 s).1)), (8, .int (nI (s))), (10, .int (kO (selS ls Tu Sc Ta Wa s (pthV ls Tu Sc Ta Wa i0 s).1 (pthV ls Tu Sc Ta Wa i0 s).2 24).1))] 115 [] := by
        intro hsla
        refine kx_iload C dX0_followBest_115 7 rfl ?_
        refine kx_iconst (v := (-1)) C dX0_followBest_117 (by decide +kernel) ?_
        refine kx_icmp_neR (tgt := 123) C dX0_followBest_118 (by decide) (fun c1 => ?_) (fun c1 => ?_)
        · skip
          have e24 : (selS ls Tu Sc Ta Wa s (pthV ls Tu Sc Ta Wa i0 s).1 (pthV ls Tu Sc Ta Wa i0 s).2 24).1 < 24 := by have hle : (selS ls Tu Sc Ta Wa s (pthV ls Tu Sc Ta Wa i0 s).1 (pthV ls Tu Sc Ta Wa i0 s).2 24).1 ≤ 24 := selN_le (Nat.le_refl _); refine Nat.lt_of_le_of_ne hle fun z => c1 ?_; rw [z]; rfl
          refine kx_lvv (x := .int (kO (selS ls Tu Sc Ta Wa s (pthV ls Tu Sc Ta Wa i0 s).1 (pthV ls Tu Sc Ta Wa i0 s).2 24).1)) (z := .int (nI ((selS ls Tu Sc Ta Wa s (pthV ls Tu Sc Ta Wa i0 s).1 (pthV ls Tu Sc Ta Wa i0 s).2 24).1))) (lv2 := [(0, .ref (K 0)), (1, .long (lN (i0))), (3, .int (nI (la))), (4, .ref (K 8)), (5, .long (lN ((selS ls Tu Sc Ta Wa s (pthV ls Tu Sc Ta Wa i0 s).1 (pthV ls Tu Sc Ta Wa i0 s).2 24).2))), (7, .int (kO (pthV ls Tu Sc Ta Wa i0 s).1)), (8, .int (nI (s))), (10, .int (nI ((selS ls Tu Sc Ta Wa s (pthV ls Tu Sc Ta Wa i0 s).1 (pthV ls Tu Sc Ta Wa i0 s).2 24).1)))]) (by rw [kO_lt e24]) 7 rfl rfl ?_
          refine kx_aload C dX0_followBest_123 3 rfl ?_
          refine kx_iload C dX0_followBest_125 6 rfl ?_
          refine kx_iload C dX0_followBest_127 7 rfl ?_
          refine kx_iast (ws2 := (kwW E K b y o n ls bc tk hk P Wt Tu Sc Ta Wa He (va_up Rv (s) ((selS ls Tu Sc Ta Wa s (pthV ls Tu Sc Ta Wa i0 s).1 (pthV ls Tu Sc Ta Wa i0 s).2 24).1)) Pk)) C 8 rfl (j := s) (v := (selS ls Tu Sc Ta Wa s (pthV ls Tu Sc Ta Wa i0 s).1 (pthV ls Tu Sc Ta Wa i0 s).2 24).1) (by omega) (by decide) rfl dX0_followBest_129 ?_
          refine kx_iload C dX0_followBest_130 7 rfl ?_
          refine kx_istore (lv2 := [(7, .int (nI ((selS ls Tu Sc Ta Wa s (pthV ls Tu Sc Ta Wa i0 s).1 (pthV ls Tu Sc Ta Wa i0 s).2 24).1))), (0, .ref (K 0)), (1, .long (lN (i0))), (3, .int (nI (la))), (4, .ref (K 8)), (5, .long (lN ((selS ls Tu Sc Ta Wa s (pthV ls Tu Sc Ta Wa i0 s).1 (pthV ls Tu Sc Ta Wa i0 s).2 24).2))), (8, .int (nI (s))), (10, .int (nI ((selS ls Tu Sc Ta Wa s (pthV ls Tu Sc Ta Wa i0 s).1 (pthV ls Tu Sc Ta Wa i0 s).2 24).1)))]) C dX0_followBest_132 (by decide) rfl ?_
          refine kx_iinc (v := nI (s + 1)) (lv2 := [(8, .int (nI (s + 1))), (7, .int (nI ((selS ls Tu Sc Ta Wa s (pthV ls Tu Sc Ta Wa i0 s).1 (pthV ls Tu Sc Ta Wa i0 s).2 24).1))), (0, .ref (K 0)), (1, .long (lN (i0))), (3, .int (nI (la))), (4, .ref (K 8)), (5, .long (lN ((selS ls Tu Sc Ta Wa s (pthV ls Tu Sc Ta Wa i0 s).1 (pthV ls Tu Sc Ta Wa i0 s).2 24).2))), (10, .int (nI ((selS ls Tu Sc Ta Wa s (pthV ls Tu Sc Ta Wa i0 s).1 (pthV ls Tu Sc Ta Wa i0 s).2 24).1)))]) C dX0_followBest_134 6 rfl (kI1 _) (by decide) rfl ?_
          refine kx_goto (tgt := 9) C dX0_followBest_137 (by decide) ?_
          refine kx_lvL (a := (selS ls Tu Sc Ta Wa s (pthV ls Tu Sc Ta Wa i0 s).1 (pthV ls Tu Sc Ta Wa i0 s).2 24).2) (b := (pthV ls Tu Sc Ta Wa i0 (s + 1)).2) (lv2 := [(8, .int (nI (s + 1))), (7, .int (nI ((selS ls Tu Sc Ta Wa s (pthV ls Tu Sc Ta Wa i0 s).1 (pthV ls Tu Sc Ta Wa i0 s).2 24).1))), (0, .ref (K 0)), (1, .long (lN (i0))), (3, .int (nI (la))), (4, .ref (K 8)), (5, .long (lN ((pthV ls Tu Sc Ta Wa i0 (s + 1)).2))), (10, .int (nI ((selS ls Tu Sc Ta Wa s (pthV ls Tu Sc Ta Wa i0 s).1 (pthV ls Tu Sc Ta Wa i0 s).2 24).1)))]) (by rw [hps]) 6 rfl rfl ?_
          refine kx_lvv (x := .int (nI ((selS ls Tu Sc Ta Wa s (pthV ls Tu Sc Ta Wa i0 s).1 (pthV ls Tu Sc Ta Wa i0 s).2 24).1))) (z := .int (kO (pthV ls Tu Sc Ta Wa i0 (s + 1)).1)) (lv2 := [(8, .int (nI (s + 1))), (7, .int (kO (pthV ls Tu Sc Ta Wa i0 (s + 1)).1)), (0, .ref (K 0)), (1, .long (lN (i0))), (3, .int (nI (la))), (4, .ref (K 8)), (5, .long (lN ((pthV ls Tu Sc Ta Wa i0 (s + 1)).2))), (10, .int (nI ((selS ls Tu Sc Ta Wa s (pthV ls Tu Sc Ta Wa i0 s).1 (pthV ls Tu Sc Ta Wa i0 s).2 24).1)))]) (by rw [hps, kO_lt e24]) 1 rfl rfl ?_
          refine kx_lv (lv2 := [(0, .ref (K 0)), (1, .long (lN (i0))), (3, .int (nI (la))), (4, .ref (K 8)), (5, .long (lN ((pthV ls Tu Sc Ta Wa i0 (s + 1)).2))), (7, .int (kO (pthV ls Tu Sc Ta Wa i0 (s + 1)).1)), (8, .int (nI (s + 1)))]) [2, 3, 4, 5, 6, 1, 0] rfl ?_
          refine kx_eqw (ws2 := (kwW E K b y o n ls bc tk hk P Wt Tu Sc Ta Wa He (va_up Rv (s) ((selS ls Tu Sc Ta Wa s (pthV ls Tu Sc Ta Wa i0 s).1 (pthV ls Tu Sc Ta Wa i0 s).2 24).1)) Pk)) rfl ?_
          exact ih_lp9 (s + 1) (va_up Rv (s) ((selS ls Tu Sc Ta Wa s (pthV ls Tu Sc Ta Wa i0 s).1 (pthV ls Tu Sc Ta Wa i0 s).2 24).1)) (by omega) (fun _ => by rw [hps]; exact e24) (kRow h2_lp9 (by rw [hps])) (up_le h3_lp9 (Nat.le_of_lt e24)) (by omega)
        · skip
          have e24 : (selS ls Tu Sc Ta Wa s (pthV ls Tu Sc Ta Wa i0 s).1 (pthV ls Tu Sc Ta Wa i0 s).2 24).1 = 24 := by have hle : (selS ls Tu Sc Ta Wa s (pthV ls Tu Sc Ta Wa i0 s).1 (pthV ls Tu Sc Ta Wa i0 s).2 24).1 ≤ 24 := selN_le (Nat.le_refl _); refine Nat.le_antisymm hle (Nat.not_lt.mp fun z => k_nIm1 (x := (selS ls Tu Sc Ta Wa s (pthV ls Tu Sc Ta Wa i0 s).1 (pthV ls Tu Sc Ta Wa i0 s).2 24).1) (by omega) ?_); rw [← kO_lt z]; exact c1
          have hfail : ∀ m, s ≤ m → (pthV ls Tu Sc Ta Wa i0 (m + 1)).1 = 24 := fun m hm => by have := pthV_stick (s := s) (by rw [hps]; exact e24) (m - s); rw [show s + 1 + (m - s) = m + 1 by omega] at this; exact this
          have hrow9 : ∀ j, j ≤ la → (pthV ls Tu Sc Ta Wa i0 (j + 1)).1 ≠ 24 → Rv j = (pthV ls Tu Sc Ta Wa i0 (j + 1)).1 := fun j hj hne => h2_lp9 j (Nat.not_le.mp fun z => hne (hfail j z))
          refine kx_iconst (v := (-1)) C dX0_followBest_121 (by decide +kernel) ?_
          exact hE (Nat.le_of_ble_eq_true rfl) (Nat.le_of_ble_eq_true rfl) dX0_followBest_122 ⟨(kO_24.symm.trans (congrArg kO (hfail la (by omega)).symm)), Rv, hrow9, h3_lp9, rfl⟩
      have lp33 : ∀ (N_lp33 : Nat) (i : Nat), (i ≤ 24) → (s ≤ la) → (24 < i + N_lp33) → kx E (rk 1 0) G 13 0 0 (kwW E K b y o n ls bc tk hk P Wt Tu Sc Ta Wa He Rv Pk) [(0, .ref (K 0)), (1, .long (lN (i0))), (3, .int (nI (la))), (4, .ref (K 8)), (5, .long (lN ((selS ls Tu Sc Ta Wa s (pthV ls Tu Sc Ta Wa i0 s).1 (pthV ls Tu Sc Ta Wa i0 s).2 i).2))), (7, .int (kO (pthV ls Tu Sc Ta Wa i0 s).1)), (8, .int (nI (s))), (9, .int (nI (rstV ls Sc Ta s (pthV ls Tu Sc Ta Wa i0 s).1))), (10, .int (kO (selS ls Tu Sc Ta Wa s (pthV ls Tu Sc Ta Wa i0 s).1 (pthV ls Tu Sc Ta Wa i0 s).2 i).1)), (11, .int (nI (i)))] 33 [] := by
        intro N_lp33
        induction N_lp33 with
        | zero =>
          intro i h0_lp33 h1_lp33 hm_lp33
          exact absurd hm_lp33 (by omega)
        | succ N_lp33 ih_lp33 =>
          intro i h0_lp33 h1_lp33 hm_lp33
          refine kx_iload C dX0_followBest_33 9 rfl ?_
          refine kx_bipush (v := nI 24) C dX0_followBest_35 (by decide +kernel) ?_
          refine kx_icmp_ge (tgt := 115) C (by omega) (by omega) dX0_followBest_37 (by decide) (fun c2 => ?_) (fun c2 => ?_)
          · skip
            obtain rfl : 24 = i := by omega
            refine kx_lv (lv2 := [(0, .ref (K 0)), (1, .long (lN (i0))), (3, .int (nI (la))), (4, .ref (K 8)), (5, .long (lN ((selS ls Tu Sc Ta Wa s (pthV ls Tu Sc Ta Wa i0 s).1 (pthV ls Tu Sc Ta Wa i0 s).2 24).2))), (7, .int (kO (pthV ls Tu Sc Ta Wa i0 s).1)), (8, .int (nI (s))), (10, .int (kO (selS ls Tu Sc Ta Wa s (pthV ls Tu Sc Ta Wa i0 s).1 (pthV ls Tu Sc Ta Wa i0 s).2 24).1))]) [0, 1, 2, 3, 4, 5, 6, 8] rfl ?_
            exact h115 (by omega)
          · skip
            refine kx_iload C dX0_followBest_40 8 rfl ?_
            refine kx_iconst (v := (-1)) C dX0_followBest_42 (by decide +kernel) ?_
            refine kx_icmp_neR (tgt := 115) C dX0_followBest_43 (by decide) (fun c3 => ?_) (fun c3 => ?_)
            · skip
              have e25 : (selS ls Tu Sc Ta Wa s (pthV ls Tu Sc Ta Wa i0 s).1 (pthV ls Tu Sc Ta Wa i0 s).2 24) = (selS ls Tu Sc Ta Wa s (pthV ls Tu Sc Ta Wa i0 s).1 (pthV ls Tu Sc Ta Wa i0 s).2 i) := by have hne : (selS ls Tu Sc Ta Wa s (pthV ls Tu Sc Ta Wa i0 s).1 (pthV ls Tu Sc Ta Wa i0 s).2 i).1 ≠ 24 := fun z => c3 (by rw [z]; rfl); have := selN_stay hne (24 - i); rw [show i + (24 - i) = 24 by omega] at this; exact this
              refine kx_lvL (a := (selS ls Tu Sc Ta Wa s (pthV ls Tu Sc Ta Wa i0 s).1 (pthV ls Tu Sc Ta Wa i0 s).2 i).2) (b := (selS ls Tu Sc Ta Wa s (pthV ls Tu Sc Ta Wa i0 s).1 (pthV ls Tu Sc Ta Wa i0 s).2 24).2) (lv2 := [(0, .ref (K 0)), (1, .long (lN (i0))), (3, .int (nI (la))), (4, .ref (K 8)), (5, .long (lN ((selS ls Tu Sc Ta Wa s (pthV ls Tu Sc Ta Wa i0 s).1 (pthV ls Tu Sc Ta Wa i0 s).2 24).2))), (7, .int (kO (pthV ls Tu Sc Ta Wa i0 s).1)), (8, .int (nI (s))), (9, .int (nI (rstV ls Sc Ta s (pthV ls Tu Sc Ta Wa i0 s).1))), (10, .int (kO (selS ls Tu Sc Ta Wa s (pthV ls Tu Sc Ta Wa i0 s).1 (pthV ls Tu Sc Ta Wa i0 s).2 i).1)), (11, .int (nI (i)))]) (by rw [e25]) 4 rfl rfl ?_
              refine kx_lvv (x := .int (kO (selS ls Tu Sc Ta Wa s (pthV ls Tu Sc Ta Wa i0 s).1 (pthV ls Tu Sc Ta Wa i0 s).2 i).1)) (z := .int (kO (selS ls Tu Sc Ta Wa s (pthV ls Tu Sc Ta Wa i0 s).1 (pthV ls Tu Sc Ta Wa i0 s).2 24).1)) (lv2 := [(0, .ref (K 0)), (1, .long (lN (i0))), (3, .int (nI (la))), (4, .ref (K 8)), (5, .long (lN ((selS ls Tu Sc Ta Wa s (pthV ls Tu Sc Ta Wa i0 s).1 (pthV ls Tu Sc Ta Wa i0 s).2 24).2))), (7, .int (kO (pthV ls Tu Sc Ta Wa i0 s).1)), (8, .int (nI (s))), (9, .int (nI (rstV ls Sc Ta s (pthV ls Tu Sc Ta Wa i0 s).1))), (10, .int (kO (selS ls Tu Sc Ta Wa s (pthV ls Tu Sc Ta Wa i0 s).1 (pthV ls Tu Sc Ta Wa i0 s).2 24).1)), (11, .int (nI (i)))]) (by rw [e25]) 8 rfl rfl ?_
              refine kx_lv (lv2 := [(0, .ref (K 0)), (1, .long (lN (i0))), (3, .int (nI (la))), (4, .ref (K 8)), (5, .long (lN ((selS ls Tu Sc Ta Wa s (pthV ls Tu Sc Ta Wa i0 s).1 (pthV ls Tu Sc Ta Wa i0 s).2 24).2))), (7, .int (kO (pthV ls Tu Sc Ta Wa i0 s).1)), (8, .int (nI (s))), (10, .int (kO (selS ls Tu Sc Ta Wa s (pthV ls Tu Sc Ta Wa i0 s).1 (pthV ls Tu Sc Ta Wa i0 s).2 24).1))]) [0, 1, 2, 3, 4, 5, 6, 8] rfl ?_
              exact h115 (by omega)
            · skip
              have e26 : (selS ls Tu Sc Ta Wa s (pthV ls Tu Sc Ta Wa i0 s).1 (pthV ls Tu Sc Ta Wa i0 s).2 i).1 = 24 := by have hle : (selS ls Tu Sc Ta Wa s (pthV ls Tu Sc Ta Wa i0 s).1 (pthV ls Tu Sc Ta Wa i0 s).2 i).1 ≤ 24 := selN_le h0_lp33; refine Nat.le_antisymm hle (Nat.not_lt.mp fun z => k_nIm1 (x := (selS ls Tu Sc Ta Wa s (pthV ls Tu Sc Ta Wa i0 s).1 (pthV ls Tu Sc Ta Wa i0 s).2 i).1) (by omega) ?_); rw [← kO_lt z]; exact c3
              refine kx_iload C dX0_followBest_46 6 rfl ?_
              refine kx_bipush (v := nI 24) C dX0_followBest_48 (by decide +kernel) ?_
              refine kx_imul C dX0_followBest_50 ?_
              refine kx_iload C dX0_followBest_51 9 rfl ?_
              refine kx_iadd C dX0_followBest_53 ?_
              refine kx_istore (lv2 := [(12, .int (nI (((s) * (24)) + (i)))), (0, .ref (K 0)), (1, .long (lN (i0))), (3, .int (nI (la))), (4, .ref (K 8)), (5, .long (lN ((selS ls Tu Sc Ta Wa s (pthV ls Tu Sc Ta Wa i0 s).1 (pthV ls Tu Sc Ta Wa i0 s).2 i).2))), (7, .int (kO (pthV ls Tu Sc Ta Wa i0 s).1)), (8, .int (nI (s))), (9, .int (nI (rstV ls Sc Ta s (pthV ls Tu Sc Ta Wa i0 s).1))), (10, .int (kO (selS ls Tu Sc Ta Wa s (pthV ls Tu Sc Ta Wa i0 s).1 (pthV ls Tu Sc Ta Wa i0 s).2 i).1)), (11, .int (nI (i)))]) C dX0_followBest_54 (by decide) rfl ?_
              refine kx_aload_n C dX0_followBest_56 rfl 1 rfl ?_
              refine kx_iload C dX0_followBest_57 6 rfl ?_
              refine kx_iload C dX0_followBest_59 10 rfl ?_
              refine kx_callVi (rest := []) (wr := []) C (c_turnInto E K b y o n ls bc tk hk P Wt Tu Sc Ta Wa He Rv Pk (pthV ls Tu Sc Ta Wa i0 s).1 i (pthV_le s) (by omega)) g0_208 2 rfl (by decide +kernel) ⟨Nat.le_of_ble_eq_true rfl, Nat.le_of_ble_eq_true rfl⟩ ⟨Nat.le_of_ble_eq_true rfl, Nat.le_of_ble_eq_true rfl⟩ [0, 1, 2, 3, 4, 5, 6, 7, 8, 9] [] rfl rfl (by decide) (by decide) (by decide) 0 rfl rfl rfl (Nat.le_of_ble_eq_true rfl) dX0_followBest_61 (fun v w q4 => ?_)
              obtain ⟨rfl, rfl⟩ := q4
              refine kx_eqw (ws2 := (kwW E K b y o n ls bc tk hk P Wt Tu Sc Ta Wa He Rv Pk)) rfl ?_
              refine kx_aload_n C dX0_followBest_64 rfl 1 rfl ?_
              refine kx_get (v := .ref (K 5)) (ci := 0) C kin0 0 rfl rfl 8 (by decide) fl0_22 rfl rfl dX0_followBest_65 ?_
              refine kx_iload C dX0_followBest_68 0 rfl ?_
              refine kx_iald C 5 rfl (j := ((s) * (24)) + (i)) (by omega) (by decide) dX0_followBest_70 ?_
              refine kx_iadd C dX0_followBest_71 ?_
              refine kx_iload C dX0_followBest_72 8 rfl ?_
              refine kx_icmp_ne (tgt := 109) C (by have := htb i (by omega); have := HTa (s * 24 + i); omega) (by omega) dX0_followBest_74 (by decide) (fun c5 => ?_) (fun c5 => ?_)
              · skip
                refine kx_iinc (v := nI (i + 1)) (lv2 := [(11, .int (nI (i + 1))), (12, .int (nI (((s) * (24)) + (i)))), (0, .ref (K 0)), (1, .long (lN (i0))), (3, .int (nI (la))), (4, .ref (K 8)), (5, .long (lN ((selS ls Tu Sc Ta Wa s (pthV ls Tu Sc Ta Wa i0 s).1 (pthV ls Tu Sc Ta Wa i0 s).2 i).2))), (7, .int (kO (pthV ls Tu Sc Ta Wa i0 s).1)), (8, .int (nI (s))), (9, .int (nI (rstV ls Sc Ta s (pthV ls Tu Sc Ta Wa i0 s).1))), (10, .int (kO (selS ls Tu Sc Ta Wa s (pthV ls Tu Sc Ta Wa i0 s).1 (pthV ls Tu Sc Ta Wa i0 s).2 i).1))]) C dX0_followBest_109 10 rfl (kI1 _) (by decide) rfl ?_
                refine kx_goto (tgt := 33) C dX0_followBest_112 (by decide) ?_
                have e27 : (selS ls Tu Sc Ta Wa s (pthV ls Tu Sc Ta Wa i0 s).1 (pthV ls Tu Sc Ta Wa i0 s).2 (i + 1)) = (24, (selS ls Tu Sc Ta Wa s (pthV ls Tu Sc Ta Wa i0 s).1 (pthV ls Tu Sc Ta Wa i0 s).2 i).2) := selN_ne (f := fun k => tinV Tu (pthV ls Tu Sc Ta Wa i0 s).1 k + Ta (s * 24 + k)) (g := fun k => Wa (s * 24 + k)) e26 c5
                refine kx_lvv (x := .int (kO (selS ls Tu Sc Ta Wa s (pthV ls Tu Sc Ta Wa i0 s).1 (pthV ls Tu Sc Ta Wa i0 s).2 i).1)) (z := .int (kO (selS ls Tu Sc Ta Wa s (pthV ls Tu Sc Ta Wa i0 s).1 (pthV ls Tu Sc Ta Wa i0 s).2 (i + 1)).1)) (lv2 := [(11, .int (nI (i + 1))), (12, .int (nI (((s) * (24)) + (i)))), (0, .ref (K 0)), (1, .long (lN (i0))), (3, .int (nI (la))), (4, .ref (K 8)), (5, .long (lN ((selS ls Tu Sc Ta Wa s (pthV ls Tu Sc Ta Wa i0 s).1 (pthV ls Tu Sc Ta Wa i0 s).2 i).2))), (7, .int (kO (pthV ls Tu Sc Ta Wa i0 s).1)), (8, .int (nI (s))), (9, .int (nI (rstV ls Sc Ta s (pthV ls Tu Sc Ta Wa i0 s).1))), (10, .int (kO (selS ls Tu Sc Ta Wa s (pthV ls Tu Sc Ta Wa i0 s).1 (pthV ls Tu Sc Ta Wa i0 s).2 (i + 1)).1))]) (by rw [e27, e26]) 10 rfl rfl ?_
                refine kx_lvL (a := (selS ls Tu Sc Ta Wa s (pthV ls Tu Sc Ta Wa i0 s).1 (pthV ls Tu Sc Ta Wa i0 s).2 i).2) (b := (selS ls Tu Sc Ta Wa s (pthV ls Tu Sc Ta Wa i0 s).1 (pthV ls Tu Sc Ta Wa i0 s).2 (i + 1)).2) (lv2 := [(11, .int (nI (i + 1))), (12, .int (nI (((s) * (24)) + (i)))), (0, .ref (K 0)), (1, .long (lN (i0))), (3, .int (nI (la))), (4, .ref (K 8)), (5, .long (lN ((selS ls Tu Sc Ta Wa s (pthV ls Tu Sc Ta Wa i0 s).1 (pthV ls Tu Sc Ta Wa i0 s).2 (i + 1)).2))), (7, .int (kO (pthV ls Tu Sc Ta Wa i0 s).1)), (8, .int (nI (s))), (9, .int (nI (rstV ls Sc Ta s (pthV ls Tu Sc Ta Wa i0 s).1))), (10, .int (kO (selS ls Tu Sc Ta Wa s (pthV ls Tu Sc Ta Wa i0 s).1 (pthV ls Tu Sc Ta Wa i0 s).2 (i + 1)).1))]) (by rw [e27]) 6 rfl rfl ?_
                refine kx_lv (lv2 := [(0, .ref (K 0)), (1, .long (lN (i0))), (3, .int (nI (la))), (4, .ref (K 8)), (5, .long (lN ((selS ls Tu Sc Ta Wa s (pthV ls Tu Sc Ta Wa i0 s).1 (pthV ls Tu Sc Ta Wa i0 s).2 (i + 1)).2))), (7, .int (kO (pthV ls Tu Sc Ta Wa i0 s).1)), (8, .int (nI (s))), (9, .int (nI (rstV ls Sc Ta s (pthV ls Tu Sc Ta Wa i0 s).1))), (10, .int (kO (selS ls Tu Sc Ta Wa s (pthV ls Tu Sc Ta Wa i0 s).1 (pthV ls Tu Sc Ta Wa i0 s).2 (i + 1)).1)), (11, .int (nI (i + 1)))]) [2, 3, 4, 5, 6, 7, 8, 9, 10, 0] rfl ?_
                refine kx_eqw (ws2 := (kwW E K b y o n ls bc tk hk P Wt Tu Sc Ta Wa He Rv Pk)) rfl ?_
                exact ih_lp33 (i + 1) (by omega) h1_lp33 (by omega)
              · skip
                refine kx_lload C dX0_followBest_77 5 rfl ?_
                refine kx_aload_n C dX0_followBest_79 rfl 1 rfl ?_
                refine kx_get (v := .ref (K 6)) (ci := 0) C kin0 0 rfl rfl 9 (by decide) fl0_25 rfl rfl dX0_followBest_80 ?_
                refine kx_iload C dX0_followBest_83 0 rfl ?_
                refine kx_lald C 6 rfl (j := ((s) * (24)) + (i)) (by omega) (by decide) dX0_followBest_85 ?_
                refine kx_lcmp_ge (tgt := 97) C (Nat.lt_of_le_of_lt (Nat.le_trans (selN_left _) (pthV_left s)) (by omega)) (by have := HWa (s * 24 + i); omega) dX0_followBest_86 dX0_followBest_87 (by decide) (fun c6 => ?_) (fun c6 => ?_)
                · skip
                  refine kx_lload C dX0_followBest_97 5 rfl ?_
                  refine kx_aload_n C dX0_followBest_99 rfl 1 rfl ?_
                  refine kx_get (v := .ref (K 6)) (ci := 0) C kin0 0 rfl rfl 9 (by decide) fl0_25 rfl rfl dX0_followBest_100 ?_
                  refine kx_iload C dX0_followBest_103 0 rfl ?_
                  refine kx_lald C 6 rfl (j := ((s) * (24)) + (i)) (by omega) (by decide) dX0_followBest_105 ?_
                  refine kx_lsub C (by omega) dX0_followBest_106 ?_
                  refine kx_lstore (lv2 := [(5, .long (lN (((selS ls Tu Sc Ta Wa s (pthV ls Tu Sc Ta Wa i0 s).1 (pthV ls Tu Sc Ta Wa i0 s).2 i).2) - (Wa (((s) * (24)) + (i)))))), (12, .int (nI (((s) * (24)) + (i)))), (0, .ref (K 0)), (1, .long (lN (i0))), (3, .int (nI (la))), (4, .ref (K 8)), (7, .int (kO (pthV ls Tu Sc Ta Wa i0 s).1)), (8, .int (nI (s))), (9, .int (nI (rstV ls Sc Ta s (pthV ls Tu Sc Ta Wa i0 s).1))), (10, .int (kO (selS ls Tu Sc Ta Wa s (pthV ls Tu Sc Ta Wa i0 s).1 (pthV ls Tu Sc Ta Wa i0 s).2 i).1)), (11, .int (nI (i)))]) C dX0_followBest_107 (by decide) rfl ?_
                  refine kx_iinc (v := nI (i + 1)) (lv2 := [(11, .int (nI (i + 1))), (5, .long (lN (((selS ls Tu Sc Ta Wa s (pthV ls Tu Sc Ta Wa i0 s).1 (pthV ls Tu Sc Ta Wa i0 s).2 i).2) - (Wa (((s) * (24)) + (i)))))), (12, .int (nI (((s) * (24)) + (i)))), (0, .ref (K 0)), (1, .long (lN (i0))), (3, .int (nI (la))), (4, .ref (K 8)), (7, .int (kO (pthV ls Tu Sc Ta Wa i0 s).1)), (8, .int (nI (s))), (9, .int (nI (rstV ls Sc Ta s (pthV ls Tu Sc Ta Wa i0 s).1))), (10, .int (kO (selS ls Tu Sc Ta Wa s (pthV ls Tu Sc Ta Wa i0 s).1 (pthV ls Tu Sc Ta Wa i0 s).2 i).1))]) C dX0_followBest_109 10 rfl (kI1 _) (by decide) rfl ?_
                  refine kx_goto (tgt := 33) C dX0_followBest_112 (by decide) ?_
                  have e27 : (selS ls Tu Sc Ta Wa s (pthV ls Tu Sc Ta Wa i0 s).1 (pthV ls Tu Sc Ta Wa i0 s).2 (i + 1)) = (24, (selS ls Tu Sc Ta Wa s (pthV ls Tu Sc Ta Wa i0 s).1 (pthV ls Tu Sc Ta Wa i0 s).2 i).2 - Wa (s * 24 + i)) := selN_sub (f := fun k => tinV Tu (pthV ls Tu Sc Ta Wa i0 s).1 k + Ta (s * 24 + k)) (g := fun k => Wa (s * 24 + k)) e26 c5 c6
                  refine kx_lvv (x := .int (kO (selS ls Tu Sc Ta Wa s (pthV ls Tu Sc Ta Wa i0 s).1 (pthV ls Tu Sc Ta Wa i0 s).2 i).1)) (z := .int (kO (selS ls Tu Sc Ta Wa s (pthV ls Tu Sc Ta Wa i0 s).1 (pthV ls Tu Sc Ta Wa i0 s).2 (i + 1)).1)) (lv2 := [(11, .int (nI (i + 1))), (5, .long (lN (((selS ls Tu Sc Ta Wa s (pthV ls Tu Sc Ta Wa i0 s).1 (pthV ls Tu Sc Ta Wa i0 s).2 i).2) - (Wa (((s) * (24)) + (i)))))), (12, .int (nI (((s) * (24)) + (i)))), (0, .ref (K 0)), (1, .long (lN (i0))), (3, .int (nI (la))), (4, .ref (K 8)), (7, .int (kO (pthV ls Tu Sc Ta Wa i0 s).1)), (8, .int (nI (s))), (9, .int (nI (rstV ls Sc Ta s (pthV ls Tu Sc Ta Wa i0 s).1))), (10, .int (kO (selS ls Tu Sc Ta Wa s (pthV ls Tu Sc Ta Wa i0 s).1 (pthV ls Tu Sc Ta Wa i0 s).2 (i + 1)).1))]) (by rw [e27, e26]) 10 rfl rfl ?_
                  refine kx_lvL (a := ((selS ls Tu Sc Ta Wa s (pthV ls Tu Sc Ta Wa i0 s).1 (pthV ls Tu Sc Ta Wa i0 s).2 i).2) - (Wa (((s) * (24)) + (i)))) (b := (selS ls Tu Sc Ta Wa s (pthV ls Tu Sc Ta Wa i0 s).1 (pthV ls Tu Sc Ta Wa i0 s).2 (i + 1)).2) (lv2 := [(11, .int (nI (i + 1))), (5, .long (lN ((selS ls Tu Sc Ta Wa s (pthV ls Tu Sc Ta Wa i0 s).1 (pthV ls Tu Sc Ta Wa i0 s).2 (i + 1)).2))), (12, .int (nI (((s) * (24)) + (i)))), (0, .ref (K 0)), (1, .long (lN (i0))), (3, .int (nI (la))), (4, .ref (K 8)), (7, .int (kO (pthV ls Tu Sc Ta Wa i0 s).1)), (8, .int (nI (s))), (9, .int (nI (rstV ls Sc Ta s (pthV ls Tu Sc Ta Wa i0 s).1))), (10, .int (kO (selS ls Tu Sc Ta Wa s (pthV ls Tu Sc Ta Wa i0 s).1 (pthV ls Tu Sc Ta Wa i0 s).2 (i + 1)).1))]) (by rw [e27]) 1 rfl rfl ?_
                  refine kx_lv (lv2 := [(0, .ref (K 0)), (1, .long (lN (i0))), (3, .int (nI (la))), (4, .ref (K 8)), (5, .long (lN ((selS ls Tu Sc Ta Wa s (pthV ls Tu Sc Ta Wa i0 s).1 (pthV ls Tu Sc Ta Wa i0 s).2 (i + 1)).2))), (7, .int (kO (pthV ls Tu Sc Ta Wa i0 s).1)), (8, .int (nI (s))), (9, .int (nI (rstV ls Sc Ta s (pthV ls Tu Sc Ta Wa i0 s).1))), (10, .int (kO (selS ls Tu Sc Ta Wa s (pthV ls Tu Sc Ta Wa i0 s).1 (pthV ls Tu Sc Ta Wa i0 s).2 (i + 1)).1)), (11, .int (nI (i + 1)))]) [3, 4, 5, 6, 1, 7, 8, 9, 10, 0] rfl ?_
                  refine kx_eqw (ws2 := (kwW E K b y o n ls bc tk hk P Wt Tu Sc Ta Wa He Rv Pk)) rfl ?_
                  exact ih_lp33 (i + 1) (by omega) h1_lp33 (by omega)
                · skip
                  refine kx_iload C dX0_followBest_90 10 rfl ?_
                  refine kx_istore (lv2 := [(10, .int (nI (i))), (12, .int (nI (((s) * (24)) + (i)))), (0, .ref (K 0)), (1, .long (lN (i0))), (3, .int (nI (la))), (4, .ref (K 8)), (5, .long (lN ((selS ls Tu Sc Ta Wa s (pthV ls Tu Sc Ta Wa i0 s).1 (pthV ls Tu Sc Ta Wa i0 s).2 i).2))), (7, .int (kO (pthV ls Tu Sc Ta Wa i0 s).1)), (8, .int (nI (s))), (9, .int (nI (rstV ls Sc Ta s (pthV ls Tu Sc Ta Wa i0 s).1))), (11, .int (nI (i)))]) C dX0_followBest_92 (by decide) rfl ?_
                  refine kx_goto (tgt := 109) C dX0_followBest_94 (by decide) ?_
                  refine kx_iinc (v := nI (i + 1)) (lv2 := [(11, .int (nI (i + 1))), (10, .int (nI (i))), (12, .int (nI (((s) * (24)) + (i)))), (0, .ref (K 0)), (1, .long (lN (i0))), (3, .int (nI (la))), (4, .ref (K 8)), (5, .long (lN ((selS ls Tu Sc Ta Wa s (pthV ls Tu Sc Ta Wa i0 s).1 (pthV ls Tu Sc Ta Wa i0 s).2 i).2))), (7, .int (kO (pthV ls Tu Sc Ta Wa i0 s).1)), (8, .int (nI (s))), (9, .int (nI (rstV ls Sc Ta s (pthV ls Tu Sc Ta Wa i0 s).1)))]) C dX0_followBest_109 10 rfl (kI1 _) (by decide) rfl ?_
                  refine kx_goto (tgt := 33) C dX0_followBest_112 (by decide) ?_
                  have e27 : (selS ls Tu Sc Ta Wa s (pthV ls Tu Sc Ta Wa i0 s).1 (pthV ls Tu Sc Ta Wa i0 s).2 (i + 1)) = (i, (selS ls Tu Sc Ta Wa s (pthV ls Tu Sc Ta Wa i0 s).1 (pthV ls Tu Sc Ta Wa i0 s).2 i).2) := selN_hit (f := fun k => tinV Tu (pthV ls Tu Sc Ta Wa i0 s).1 k + Ta (s * 24 + k)) (g := fun k => Wa (s * 24 + k)) e26 c5 c6
                  refine kx_lvv (x := .int (nI (i))) (z := .int (kO (selS ls Tu Sc Ta Wa s (pthV ls Tu Sc Ta Wa i0 s).1 (pthV ls Tu Sc Ta Wa i0 s).2 (i + 1)).1)) (lv2 := [(11, .int (nI (i + 1))), (10, .int (kO (selS ls Tu Sc Ta Wa s (pthV ls Tu Sc Ta Wa i0 s).1 (pthV ls Tu Sc Ta Wa i0 s).2 (i + 1)).1)), (12, .int (nI (((s) * (24)) + (i)))), (0, .ref (K 0)), (1, .long (lN (i0))), (3, .int (nI (la))), (4, .ref (K 8)), (5, .long (lN ((selS ls Tu Sc Ta Wa s (pthV ls Tu Sc Ta Wa i0 s).1 (pthV ls Tu Sc Ta Wa i0 s).2 i).2))), (7, .int (kO (pthV ls Tu Sc Ta Wa i0 s).1)), (8, .int (nI (s))), (9, .int (nI (rstV ls Sc Ta s (pthV ls Tu Sc Ta Wa i0 s).1)))]) (by rw [e27, kO_lt (by omega)]) 1 rfl rfl ?_
                  refine kx_lvL (a := (selS ls Tu Sc Ta Wa s (pthV ls Tu Sc Ta Wa i0 s).1 (pthV ls Tu Sc Ta Wa i0 s).2 i).2) (b := (selS ls Tu Sc Ta Wa s (pthV ls Tu Sc Ta Wa i0 s).1 (pthV ls Tu Sc Ta Wa i0 s).2 (i + 1)).2) (lv2 := [(11, .int (nI (i + 1))), (10, .int (kO (selS ls Tu Sc Ta Wa s (pthV ls Tu Sc Ta Wa i0 s).1 (pthV ls Tu Sc Ta Wa i0 s).2 (i + 1)).1)), (12, .int (nI (((s) * (24)) + (i)))), (0, .ref (K 0)), (1, .long (lN (i0))), (3, .int (nI (la))), (4, .ref (K 8)), (5, .long (lN ((selS ls Tu Sc Ta Wa s (pthV ls Tu Sc Ta Wa i0 s).1 (pthV ls Tu Sc Ta Wa i0 s).2 (i + 1)).2))), (7, .int (kO (pthV ls Tu Sc Ta Wa i0 s).1)), (8, .int (nI (s))), (9, .int (nI (rstV ls Sc Ta s (pthV ls Tu Sc Ta Wa i0 s).1)))]) (by rw [e27]) 7 rfl rfl ?_
                  refine kx_lv (lv2 := [(0, .ref (K 0)), (1, .long (lN (i0))), (3, .int (nI (la))), (4, .ref (K 8)), (5, .long (lN ((selS ls Tu Sc Ta Wa s (pthV ls Tu Sc Ta Wa i0 s).1 (pthV ls Tu Sc Ta Wa i0 s).2 (i + 1)).2))), (7, .int (kO (pthV ls Tu Sc Ta Wa i0 s).1)), (8, .int (nI (s))), (9, .int (nI (rstV ls Sc Ta s (pthV ls Tu Sc Ta Wa i0 s).1))), (10, .int (kO (selS ls Tu Sc Ta Wa s (pthV ls Tu Sc Ta Wa i0 s).1 (pthV ls Tu Sc Ta Wa i0 s).2 (i + 1)).1)), (11, .int (nI (i + 1)))]) [3, 4, 5, 6, 7, 8, 9, 10, 1, 0] rfl ?_
                  refine kx_eqw (ws2 := (kwW E K b y o n ls bc tk hk P Wt Tu Sc Ta Wa He Rv Pk)) rfl ?_
                  exact ih_lp33 (i + 1) (by omega) h1_lp33 (by omega)
      refine kx_iload C dX0_followBest_9 6 rfl ?_
      refine kx_iload_n C dX0_followBest_11 rfl 2 rfl ?_
      refine kx_icmp_gt (tgt := 140) C (by omega) (by omega) dX0_followBest_12 (by decide) (fun c7 => ?_) (fun c7 => ?_)
      · skip
        obtain rfl : la + 1 = s := by omega
        refine kx_iload C dX0_followBest_140 5 rfl ?_
        exact hE (Nat.le_of_ble_eq_true rfl) (Nat.le_of_ble_eq_true rfl) dX0_followBest_142 ⟨rfl, Rv, fun j hj _ => h2_lp9 j (by omega), h3_lp9, rfl⟩
      · skip
        refine kx_aload_n C dX0_followBest_15 rfl 0 rfl ?_
        refine kx_iload C dX0_followBest_16 6 rfl ?_
        refine kx_iconst (v := nI 1) C dX0_followBest_18 (by decide +kernel) ?_
        refine kx_isubR C dX0_followBest_19 ?_
        refine kx_iload C dX0_followBest_20 5 rfl ?_
        refine kx_callVi (rest := []) (wr := []) C (c_restAfter E K b y o n ls bc tk hk P Wt Tu Sc Ta Wa He Rv Pk s (pthV ls Tu Sc Ta Wa i0 s).1 (by omega) (pthV_le s) hz0 hz1) g0_205 2 rfl (by decide +kernel) ⟨Nat.le_of_ble_eq_true rfl, Nat.le_of_ble_eq_true rfl⟩ ⟨Nat.le_of_ble_eq_true rfl, Nat.le_of_ble_eq_true rfl⟩ [0, 1, 2, 3, 4, 5, 6, 7, 8, 9] [] rfl rfl (by decide) (by decide) (by decide) 0 rfl rfl rfl (Nat.le_of_ble_eq_true rfl) dX0_followBest_22 (fun v w q8 => ?_)
        obtain ⟨rfl, rfl⟩ := q8
        refine kx_eqw (ws2 := (kwW E K b y o n ls bc tk hk P Wt Tu Sc Ta Wa He Rv Pk)) rfl ?_
        refine kx_istore (lv2 := [(9, .int (nI (rstV ls Sc Ta s (pthV ls Tu Sc Ta Wa i0 s).1))), (0, .ref (K 0)), (1, .long (lN (i0))), (3, .int (nI (la))), (4, .ref (K 8)), (5, .long (lN ((pthV ls Tu Sc Ta Wa i0 s).2))), (7, .int (kO (pthV ls Tu Sc Ta Wa i0 s).1)), (8, .int (nI (s)))]) C dX0_followBest_25 (by decide) rfl ?_
        refine kx_iconst (v := (-1)) C dX0_followBest_27 (by decide +kernel) ?_
        refine kx_istore (lv2 := [(10, .int ((-1))), (9, .int (nI (rstV ls Sc Ta s (pthV ls Tu Sc Ta Wa i0 s).1))), (0, .ref (K 0)), (1, .long (lN (i0))), (3, .int (nI (la))), (4, .ref (K 8)), (5, .long (lN ((pthV ls Tu Sc Ta Wa i0 s).2))), (7, .int (kO (pthV ls Tu Sc Ta Wa i0 s).1)), (8, .int (nI (s)))]) C dX0_followBest_28 (by decide) rfl ?_
        refine kx_iconst (v := nI 0) C dX0_followBest_30 (by decide +kernel) ?_
        refine kx_istore (lv2 := [(11, .int (nI (0))), (10, .int ((-1))), (9, .int (nI (rstV ls Sc Ta s (pthV ls Tu Sc Ta Wa i0 s).1))), (0, .ref (K 0)), (1, .long (lN (i0))), (3, .int (nI (la))), (4, .ref (K 8)), (5, .long (lN ((pthV ls Tu Sc Ta Wa i0 s).2))), (7, .int (kO (pthV ls Tu Sc Ta Wa i0 s).1)), (8, .int (nI (s)))]) C dX0_followBest_31 (by decide) rfl ?_
        refine kx_lv (lv2 := [(0, .ref (K 0)), (1, .long (lN (i0))), (3, .int (nI (la))), (4, .ref (K 8)), (5, .long (lN ((selS ls Tu Sc Ta Wa s (pthV ls Tu Sc Ta Wa i0 s).1 (pthV ls Tu Sc Ta Wa i0 s).2 0).2))), (7, .int (kO (pthV ls Tu Sc Ta Wa i0 s).1)), (8, .int (nI (s))), (9, .int (nI (rstV ls Sc Ta s (pthV ls Tu Sc Ta Wa i0 s).1))), (10, .int (kO (selS ls Tu Sc Ta Wa s (pthV ls Tu Sc Ta Wa i0 s).1 (pthV ls Tu Sc Ta Wa i0 s).2 0).1)), (11, .int (nI (0)))]) [3, 4, 5, 6, 7, 8, 9, 2, 1, 0] rfl ?_
        refine kx_eqw (ws2 := (kwW E K b y o n ls bc tk hk P Wt Tu Sc Ta Wa He Rv Pk)) rfl ?_
        exact lp33 25 0 (by omega) (by omega) (by omega)
  refine kx_lload_n C dX0_followBest_0 rfl 1 rfl ?_
  refine kx_lstore (lv2 := [(5, .long (lN (i0))), (0, .ref (K 0)), (1, .long (lN (i0))), (3, .int (nI (la))), (4, .ref (K 8))]) C dX0_followBest_1 (by decide) rfl ?_
  refine kx_iconst (v := (-1)) C dX0_followBest_3 (by decide +kernel) ?_
  refine kx_istore (lv2 := [(7, .int ((-1))), (5, .long (lN (i0))), (0, .ref (K 0)), (1, .long (lN (i0))), (3, .int (nI (la))), (4, .ref (K 8))]) C dX0_followBest_4 (by decide) rfl ?_
  refine kx_iconst (v := nI 0) C dX0_followBest_6 (by decide +kernel) ?_
  refine kx_istore (lv2 := [(8, .int (nI (0))), (7, .int ((-1))), (5, .long (lN (i0))), (0, .ref (K 0)), (1, .long (lN (i0))), (3, .int (nI (la))), (4, .ref (K 8))]) C dX0_followBest_7 (by decide) rfl ?_
  refine kx_lv (lv2 := [(0, .ref (K 0)), (1, .long (lN (i0))), (3, .int (nI (la))), (4, .ref (K 8)), (5, .long (lN ((pthV ls Tu Sc Ta Wa i0 0).2))), (7, .int (kO (pthV ls Tu Sc Ta Wa i0 0).1)), (8, .int (nI (0)))]) [3, 4, 5, 6, 2, 1, 0] rfl ?_
  refine kx_eqw (ws2 := (kwW E K b y o n ls bc tk hk P Wt Tu Sc Ta Wa He Fk Pk)) rfl ?_
  exact lp9 42 0 Fk (by omega) (fun z => absurd rfl z) (fun j hj => absurd hj (by omega)) HRw (by omega)

set_option maxHeartbeats 4000000 in
set_option maxRecDepth 100000 in
theorem c_followBest9 (E : KE) (K : Nat → Nat) (b y o n ls bc tk hk : Nat) (P Wt Tu Sc Ta Wa He Fk Pk : Nat → Nat) (i0 la : Nat) (H0 : la < 40) (H1 : i0 ≤ 1000000000000000000) (Hls : ls ≤ 10000000) (HTu : ∀ j, j < 576 → Tu j ≤ 8000) (HTa : ∀ j, Ta j ≤ 10000000) (HWa : ∀ j, Wa j ≤ 1000000000000000000) (HST : ∀ j, j < (la + 1) * 24 → Sc j ≤ Ta j) (HRw : ∀ j, Pk j ≤ 24) : kMi E yX0_followBest cX0_followBest 13 (rk 1 0) [.ref (K 0), .long (lN (i0)), .int (nI (la)), .ref (K 9)] (kwW E K b y o n ls bc tk hk P Wt Tu Sc Ta Wa He Fk Pk) (fun r w => r = kO (pthV ls Tu Sc Ta Wa i0 (la + 1)).1 ∧ ∃ Rv : Nat → Nat, (∀ j, j ≤ la → (pthV ls Tu Sc Ta Wa i0 (j + 1)).1 ≠ 24 → Rv j = (pthV ls Tu Sc Ta Wa i0 (j + 1)).1) ∧ (∀ j, Rv j ≤ 24) ∧ w = (kwW E K b y o n ls bc tk hk P Wt Tu Sc Ta Wa He Fk Rv)) := by
  refine kMi_of (cc := cX0_followBest) (maxL := 13) (by decide) (Nat.le_of_ble_eq_true rfl) ?_
  intro G C hE
  have lp9 : ∀ (N_lp9 : Nat) (s : Nat) (Rv : Nat → Nat), (s ≤ la + 1) → (s ≠ 0 → (pthV ls Tu Sc Ta Wa i0 s).1 < 24) → (∀ j, j < s → Rv j = (pthV ls Tu Sc Ta Wa i0 (j + 1)).1) → (∀ j, Rv j ≤ 24) → (la + 1 < s + N_lp9) → kx E (rk 1 0) G 13 0 0 (kwW E K b y o n ls bc tk hk P Wt Tu Sc Ta Wa He Fk Rv) [(0, .ref (K 0)), (1, .long (lN (i0))), (3, .int (nI (la))), (4, .ref (K 9)), (5, .long (lN ((pthV ls Tu Sc Ta Wa i0 s).2))), (7, .int (kO (pthV ls Tu Sc Ta Wa i0 s).1)), (8, .int (nI (s)))] 9 [] := by
    intro N_lp9
    induction N_lp9 with
    | zero =>
      intro s Rv h0_lp9 h1_lp9 h2_lp9 h3_lp9 hm_lp9
      exact absurd hm_lp9 (by omega)
    | succ N_lp9 ih_lp9 =>
      intro s Rv h0_lp9 h1_lp9 h2_lp9 h3_lp9 hm_lp9
      have hz0 : s = 0 → (pthV ls Tu Sc Ta Wa i0 s).1 = 24 := fun z => by subst z; rfl
      have hz1 : s ≠ 0 → (pthV ls Tu Sc Ta Wa i0 s).1 < 24 ∧ Sc ((s - 1) * 24 + (pthV ls Tu Sc Ta Wa i0 s).1) ≤ Ta ((s - 1) * 24 + (pthV ls Tu Sc Ta Wa i0 s).1) := fun z => ⟨h1_lp9 z, HST _ (by have := h1_lp9 z; omega)⟩
      have hps : (pthV ls Tu Sc Ta Wa i0 (s + 1)) = (selS ls Tu Sc Ta Wa s (pthV ls Tu Sc Ta Wa i0 s).1 (pthV ls Tu Sc Ta Wa i0 s).2 24) := by rw [pthV, if_neg (fun z => absurd z.2 (Nat.ne_of_lt (h1_lp9 z.1)))]
      have hrb : rstV ls Sc Ta s (pthV ls Tu Sc Ta Wa i0 s).1 ≤ 10000000 := by unfold rstV; split; exact Hls; exact Nat.le_trans (Nat.sub_le _ _) (HTa _)
      have htb : ∀ i, i < 24 → tinV Tu (pthV ls Tu Sc Ta Wa i0 s).1 i ≤ 8000 := fun i hi => by unfold tinV; split; exact Nat.zero_le _; exact HTu _ (by have := pthV_le (ls := ls) (Tu := Tu) (Sc := Sc) (Ta := Ta) (Wa := Wa) (i := i0) s; omega)
      have h115 : s ≤ la → kx E (rk 1 0) G 13 0 0 (kwW E K b y o n ls bc tk hk P Wt Tu Sc Ta Wa He Fk Rv) [(0, .ref (K 0)), (1, .long (lN (i0))), (3, .int (nI (la))), (4, .ref (K 9)), (5, .long (lN ((selS ls Tu Sc Ta Wa s (pthV ls Tu Sc Ta Wa i0 s).1 (pthV ls Tu Sc Ta Wa i0 s).2 24).2))), (7, .int (kO (pthV ls Tu Sc Ta Wa i0 s).1)), (8, .int (nI (s))), (10, .int (kO (selS ls Tu Sc Ta Wa s (pthV ls Tu Sc Ta Wa i0 s).1 (pthV ls Tu Sc Ta Wa i0 s).2 24).1))] 115 [] := by
        intro hsla
        refine kx_iload C dX0_followBest_115 7 rfl ?_
        refine kx_iconst (v := (-1)) C dX0_followBest_117 (by decide +kernel) ?_
        refine kx_icmp_neR (tgt := 123) C dX0_followBest_118 (by decide) (fun c1 => ?_) (fun c1 => ?_)
        · skip
          have e24 : (selS ls Tu Sc Ta Wa s (pthV ls Tu Sc Ta Wa i0 s).1 (pthV ls Tu Sc Ta Wa i0 s).2 24).1 < 24 := by have hle : (selS ls Tu Sc Ta Wa s (pthV ls Tu Sc Ta Wa i0 s).1 (pthV ls Tu Sc Ta Wa i0 s).2 24).1 ≤ 24 := selN_le (Nat.le_refl _); refine Nat.lt_of_le_of_ne hle fun z => c1 ?_; rw [z]; rfl
          refine kx_lvv (x := .int (kO (selS ls Tu Sc Ta Wa s (pthV ls Tu Sc Ta Wa i0 s).1 (pthV ls Tu Sc Ta Wa i0 s).2 24).1)) (z := .int (nI ((selS ls Tu Sc Ta Wa s (pthV ls Tu Sc Ta Wa i0 s).1 (pthV ls Tu Sc Ta Wa i0 s).2 24).1))) (lv2 := [(0, .ref (K 0)), (1, .long (lN (i0))), (3, .int (nI (la))), (4, .ref (K 9)), (5, .long (lN ((selS ls Tu Sc Ta Wa s (pthV ls Tu Sc Ta Wa i0 s).1 (pthV ls Tu Sc Ta Wa i0 s).2 24).2))), (7, .int (kO (pthV ls Tu Sc Ta Wa i0 s).1)), (8, .int (nI (s))), (10, .int (nI ((selS ls Tu Sc Ta Wa s (pthV ls Tu Sc Ta Wa i0 s).1 (pthV ls Tu Sc Ta Wa i0 s).2 24).1)))]) (by rw [kO_lt e24]) 7 rfl rfl ?_
          refine kx_aload C dX0_followBest_123 3 rfl ?_
          refine kx_iload C dX0_followBest_125 6 rfl ?_
          refine kx_iload C dX0_followBest_127 7 rfl ?_
          refine kx_iast (ws2 := (kwW E K b y o n ls bc tk hk P Wt Tu Sc Ta Wa He Fk (va_up Rv (s) ((selS ls Tu Sc Ta Wa s (pthV ls Tu Sc Ta Wa i0 s).1 (pthV ls Tu Sc Ta Wa i0 s).2 24).1)))) C 9 rfl (j := s) (v := (selS ls Tu Sc Ta Wa s (pthV ls Tu Sc Ta Wa i0 s).1 (pthV ls Tu Sc Ta Wa i0 s).2 24).1) (by omega) (by decide) rfl dX0_followBest_129 ?_
          refine kx_iload C dX0_followBest_130 7 rfl ?_
          refine kx_istore (lv2 := [(7, .int (nI ((selS ls Tu Sc Ta Wa s (pthV ls Tu Sc Ta Wa i0 s).1 (pthV ls Tu Sc Ta Wa i0 s).2 24).1))), (0, .ref (K 0)), (1, .long (lN (i0))), (3, .int (nI (la))), (4, .ref (K 9)), (5, .long (lN ((selS ls Tu Sc Ta Wa s (pthV ls Tu Sc Ta Wa i0 s).1 (pthV ls Tu Sc Ta Wa i0 s).2 24).2))), (8, .int (nI (s))), (10, .int (nI ((selS ls Tu Sc Ta Wa s (pthV ls Tu Sc Ta Wa i0 s).1 (pthV ls Tu Sc Ta Wa i0 s).2 24).1)))]) C dX0_followBest_132 (by decide) rfl ?_
          refine kx_iinc (v := nI (s + 1)) (lv2 := [(8, .int (nI (s + 1))), (7, .int (nI ((selS ls Tu Sc Ta Wa s (pthV ls Tu Sc Ta Wa i0 s).1 (pthV ls Tu Sc Ta Wa i0 s).2 24).1))), (0, .ref (K 0)), (1, .long (lN (i0))), (3, .int (nI (la))), (4, .ref (K 9)), (5, .long (lN ((selS ls Tu Sc Ta Wa s (pthV ls Tu Sc Ta Wa i0 s).1 (pthV ls Tu Sc Ta Wa i0 s).2 24).2))), (10, .int (nI ((selS ls Tu Sc Ta Wa s (pthV ls Tu Sc Ta Wa i0 s).1 (pthV ls Tu Sc Ta Wa i0 s).2 24).1)))]) C dX0_followBest_134 6 rfl (kI1 _) (by decide) rfl ?_
          refine kx_goto (tgt := 9) C dX0_followBest_137 (by decide) ?_
          refine kx_lvL (a := (selS ls Tu Sc Ta Wa s (pthV ls Tu Sc Ta Wa i0 s).1 (pthV ls Tu Sc Ta Wa i0 s).2 24).2) (b := (pthV ls Tu Sc Ta Wa i0 (s + 1)).2) (lv2 := [(8, .int (nI (s + 1))), (7, .int (nI ((selS ls Tu Sc Ta Wa s (pthV ls Tu Sc Ta Wa i0 s).1 (pthV ls Tu Sc Ta Wa i0 s).2 24).1))), (0, .ref (K 0)), (1, .long (lN (i0))), (3, .int (nI (la))), (4, .ref (K 9)), (5, .long (lN ((pthV ls Tu Sc Ta Wa i0 (s + 1)).2))), (10, .int (nI ((selS ls Tu Sc Ta Wa s (pthV ls Tu Sc Ta Wa i0 s).1 (pthV ls Tu Sc Ta Wa i0 s).2 24).1)))]) (by rw [hps]) 6 rfl rfl ?_
          refine kx_lvv (x := .int (nI ((selS ls Tu Sc Ta Wa s (pthV ls Tu Sc Ta Wa i0 s).1 (pthV ls Tu Sc Ta Wa i0 s).2 24).1))) (z := .int (kO (pthV ls Tu Sc Ta Wa i0 (s + 1)).1)) (lv2 := [(8, .int (nI (s + 1))), (7, .int (kO (pthV ls Tu Sc Ta Wa i0 (s + 1)).1)), (0, .ref (K 0)), (1, .long (lN (i0))), (3, .int (nI (la))), (4, .ref (K 9)), (5, .long (lN ((pthV ls Tu Sc Ta Wa i0 (s + 1)).2))), (10, .int (nI ((selS ls Tu Sc Ta Wa s (pthV ls Tu Sc Ta Wa i0 s).1 (pthV ls Tu Sc Ta Wa i0 s).2 24).1)))]) (by rw [hps, kO_lt e24]) 1 rfl rfl ?_
          refine kx_lv (lv2 := [(0, .ref (K 0)), (1, .long (lN (i0))), (3, .int (nI (la))), (4, .ref (K 9)), (5, .long (lN ((pthV ls Tu Sc Ta Wa i0 (s + 1)).2))), (7, .int (kO (pthV ls Tu Sc Ta Wa i0 (s + 1)).1)), (8, .int (nI (s + 1)))]) [2, 3, 4, 5, 6, 1, 0] rfl ?_
          refine kx_eqw (ws2 := (kwW E K b y o n ls bc tk hk P Wt Tu Sc Ta Wa He Fk (va_up Rv (s) ((selS ls Tu Sc Ta Wa s (pthV ls Tu Sc Ta Wa i0 s).1 (pthV ls Tu Sc Ta Wa i0 s).2 24).1)))) rfl ?_
          exact ih_lp9 (s + 1) (va_up Rv (s) ((selS ls Tu Sc Ta Wa s (pthV ls Tu Sc Ta Wa i0 s).1 (pthV ls Tu Sc Ta Wa i0 s).2 24).1)) (by omega) (fun _ => by rw [hps]; exact e24) (kRow h2_lp9 (by rw [hps])) (up_le h3_lp9 (Nat.le_of_lt e24)) (by omega)
        · skip
          have e24 : (selS ls Tu Sc Ta Wa s (pthV ls Tu Sc Ta Wa i0 s).1 (pthV ls Tu Sc Ta Wa i0 s).2 24).1 = 24 := by have hle : (selS ls Tu Sc Ta Wa s (pthV ls Tu Sc Ta Wa i0 s).1 (pthV ls Tu Sc Ta Wa i0 s).2 24).1 ≤ 24 := selN_le (Nat.le_refl _); refine Nat.le_antisymm hle (Nat.not_lt.mp fun z => k_nIm1 (x := (selS ls Tu Sc Ta Wa s (pthV ls Tu Sc Ta Wa i0 s).1 (pthV ls Tu Sc Ta Wa i0 s).2 24).1) (by omega) ?_); rw [← kO_lt z]; exact c1
          have hfail : ∀ m, s ≤ m → (pthV ls Tu Sc Ta Wa i0 (m + 1)).1 = 24 := fun m hm => by have := pthV_stick (s := s) (by rw [hps]; exact e24) (m - s); rw [show s + 1 + (m - s) = m + 1 by omega] at this; exact this
          have hrow9 : ∀ j, j ≤ la → (pthV ls Tu Sc Ta Wa i0 (j + 1)).1 ≠ 24 → Rv j = (pthV ls Tu Sc Ta Wa i0 (j + 1)).1 := fun j hj hne => h2_lp9 j (Nat.not_le.mp fun z => hne (hfail j z))
          refine kx_iconst (v := (-1)) C dX0_followBest_121 (by decide +kernel) ?_
          exact hE (Nat.le_of_ble_eq_true rfl) (Nat.le_of_ble_eq_true rfl) dX0_followBest_122 ⟨(kO_24.symm.trans (congrArg kO (hfail la (by omega)).symm)), Rv, hrow9, h3_lp9, rfl⟩
      have lp33 : ∀ (N_lp33 : Nat) (i : Nat), (i ≤ 24) → (s ≤ la) → (24 < i + N_lp33) → kx E (rk 1 0) G 13 0 0 (kwW E K b y o n ls bc tk hk P Wt Tu Sc Ta Wa He Fk Rv) [(0, .ref (K 0)), (1, .long (lN (i0))), (3, .int (nI (la))), (4, .ref (K 9)), (5, .long (lN ((selS ls Tu Sc Ta Wa s (pthV ls Tu Sc Ta Wa i0 s).1 (pthV ls Tu Sc Ta Wa i0 s).2 i).2))), (7, .int (kO (pthV ls Tu Sc Ta Wa i0 s).1)), (8, .int (nI (s))), (9, .int (nI (rstV ls Sc Ta s (pthV ls Tu Sc Ta Wa i0 s).1))), (10, .int (kO (selS ls Tu Sc Ta Wa s (pthV ls Tu Sc Ta Wa i0 s).1 (pthV ls Tu Sc Ta Wa i0 s).2 i).1)), (11, .int (nI (i)))] 33 [] := by
        intro N_lp33
        induction N_lp33 with
        | zero =>
          intro i h0_lp33 h1_lp33 hm_lp33
          exact absurd hm_lp33 (by omega)
        | succ N_lp33 ih_lp33 =>
          intro i h0_lp33 h1_lp33 hm_lp33
          refine kx_iload C dX0_followBest_33 9 rfl ?_
          refine kx_bipush (v := nI 24) C dX0_followBest_35 (by decide +kernel) ?_
          refine kx_icmp_ge (tgt := 115) C (by omega) (by omega) dX0_followBest_37 (by decide) (fun c2 => ?_) (fun c2 => ?_)
          · skip
            obtain rfl : 24 = i := by omega
            refine kx_lv (lv2 := [(0, .ref (K 0)), (1, .long (lN (i0))), (3, .int (nI (la))), (4, .ref (K 9)), (5, .long (lN ((selS ls Tu Sc Ta Wa s (pthV ls Tu Sc Ta Wa i0 s).1 (pthV ls Tu Sc Ta Wa i0 s).2 24).2))), (7, .int (kO (pthV ls Tu Sc Ta Wa i0 s).1)), (8, .int (nI (s))), (10, .int (kO (selS ls Tu Sc Ta Wa s (pthV ls Tu Sc Ta Wa i0 s).1 (pthV ls Tu Sc Ta Wa i0 s).2 24).1))]) [0, 1, 2, 3, 4, 5, 6, 8] rfl ?_
            exact h115 (by omega)
          · skip
            refine kx_iload C dX0_followBest_40 8 rfl ?_
            refine kx_iconst (v := (-1)) C dX0_followBest_42 (by decide +kernel) ?_
            refine kx_icmp_neR (tgt := 115) C dX0_followBest_43 (by decide) (fun c3 => ?_) (fun c3 => ?_)
            · skip
              have e25 : (selS ls Tu Sc Ta Wa s (pthV ls Tu Sc Ta Wa i0 s).1 (pthV ls Tu Sc Ta Wa i0 s).2 24) = (selS ls Tu Sc Ta Wa s (pthV ls Tu Sc Ta Wa i0 s).1 (pthV ls Tu Sc Ta Wa i0 s).2 i) := by have hne : (selS ls Tu Sc Ta Wa s (pthV ls Tu Sc Ta Wa i0 s).1 (pthV ls Tu Sc Ta Wa i0 s).2 i).1 ≠ 24 := fun z => c3 (by rw [z]; rfl); have := selN_stay hne (24 - i); rw [show i + (24 - i) = 24 by omega] at this; exact this
              refine kx_lvL (a := (selS ls Tu Sc Ta Wa s (pthV ls Tu Sc Ta Wa i0 s).1 (pthV ls Tu Sc Ta Wa i0 s).2 i).2) (b := (selS ls Tu Sc Ta Wa s (pthV ls Tu Sc Ta Wa i0 s).1 (pthV ls Tu Sc Ta Wa i0 s).2 24).2) (lv2 := [(0, .ref (K 0)), (1, .long (lN (i0))), (3, .int (nI (la))), (4, .ref (K 9)), (5, .long (lN ((selS ls Tu Sc Ta Wa s (pthV ls Tu Sc Ta Wa i0 s).1 (pthV ls Tu Sc Ta Wa i0 s).2 24).2))), (7, .int (kO (pthV ls Tu Sc Ta Wa i0 s).1)), (8, .int (nI (s))), (9, .int (nI (rstV ls Sc Ta s (pthV ls Tu Sc Ta Wa i0 s).1))), (10, .int (kO (selS ls Tu Sc Ta Wa s (pthV ls Tu Sc Ta Wa i0 s).1 (pthV ls Tu Sc Ta Wa i0 s).2 i).1)), (11, .int (nI (i)))]) (by rw [e25]) 4 rfl rfl ?_
              refine kx_lvv (x := .int (kO (selS ls Tu Sc Ta Wa s (pthV ls Tu Sc Ta Wa i0 s).1 (pthV ls Tu Sc Ta Wa i0 s).2 i).1)) (z := .int (kO (selS ls Tu Sc Ta Wa s (pthV ls Tu Sc Ta Wa i0 s).1 (pthV ls Tu Sc Ta Wa i0 s).2 24).1)) (lv2 := [(0, .ref (K 0)), (1, .long (lN (i0))), (3, .int (nI (la))), (4, .ref (K 9)), (5, .long (lN ((selS ls Tu Sc Ta Wa s (pthV ls Tu Sc Ta Wa i0 s).1 (pthV ls Tu Sc Ta Wa i0 s).2 24).2))), (7, .int (kO (pthV ls Tu Sc Ta Wa i0 s).1)), (8, .int (nI (s))), (9, .int (nI (rstV ls Sc Ta s (pthV ls Tu Sc Ta Wa i0 s).1))), (10, .int (kO (selS ls Tu Sc Ta Wa s (pthV ls Tu Sc Ta Wa i0 s).1 (pthV ls Tu Sc Ta Wa i0 s).2 24).1)), (11, .int (nI (i)))]) (by rw [e25]) 8 rfl rfl ?_
              refine kx_lv (lv2 := [(0, .ref (K 0)), (1, .long (lN (i0))), (3, .int (nI (la))), (4, .ref (K 9)), (5, .long (lN ((selS ls Tu Sc Ta Wa s (pthV ls Tu Sc Ta Wa i0 s).1 (pthV ls Tu Sc Ta Wa i0 s).2 24).2))), (7, .int (kO (pthV ls Tu Sc Ta Wa i0 s).1)), (8, .int (nI (s))), (10, .int (kO (selS ls Tu Sc Ta Wa s (pthV ls Tu Sc Ta Wa i0 s).1 (pthV ls Tu Sc Ta Wa i0 s).2 24).1))]) [0, 1, 2, 3, 4, 5, 6, 8] rfl ?_
              exact h115 (by omega)
            · skip
              have e26 : (selS ls Tu Sc Ta Wa s (pthV ls Tu Sc Ta Wa i0 s).1 (pthV ls Tu Sc Ta Wa i0 s).2 i).1 = 24 := by have hle : (selS ls Tu Sc Ta Wa s (pthV ls Tu Sc Ta Wa i0 s).1 (pthV ls Tu Sc Ta Wa i0 s).2 i).1 ≤ 24 := selN_le h0_lp33; refine Nat.le_antisymm hle (Nat.not_lt.mp fun z => k_nIm1 (x := (selS ls Tu Sc Ta Wa s (pthV ls Tu Sc Ta Wa i0 s).1 (pthV ls Tu Sc Ta Wa i0 s).2 i).1) (by omega) ?_); rw [← kO_lt z]; exact c3
              refine kx_iload C dX0_followBest_46 6 rfl ?_
              refine kx_bipush (v := nI 24) C dX0_followBest_48 (by decide +kernel) ?_
              refine kx_imul C dX0_followBest_50 ?_
              refine kx_iload C dX0_followBest_51 9 rfl ?_
              refine kx_iadd C dX0_followBest_53 ?_
              refine kx_istore (lv2 := [(12, .int (nI (((s) * (24)) + (i)))), (0, .ref (K 0)), (1, .long (lN (i0))), (3, .int (nI (la))), (4, .ref (K 9)), (5, .long (lN ((selS ls Tu Sc Ta Wa s (pthV ls Tu Sc Ta Wa i0 s).1 (pthV ls Tu Sc Ta Wa i0 s).2 i).2))), (7, .int (kO (pthV ls Tu Sc Ta Wa i0 s).1)), (8, .int (nI (s))), (9, .int (nI (rstV ls Sc Ta s (pthV ls Tu Sc Ta Wa i0 s).1))), (10, .int (kO (selS ls Tu Sc Ta Wa s (pthV ls Tu Sc Ta Wa i0 s).1 (pthV ls Tu Sc Ta Wa i0 s).2 i).1)), (11, .int (nI (i)))]) C dX0_followBest_54 (by decide) rfl ?_
              refine kx_aload_n C dX0_followBest_56 rfl 1 rfl ?_
              refine kx_iload C dX0_followBest_57 6 rfl ?_
              refine kx_iload C dX0_followBest_59 10 rfl ?_
              refine kx_callVi (rest := []) (wr := []) C (c_turnInto E K b y o n ls bc tk hk P Wt Tu Sc Ta Wa He Fk Rv (pthV ls Tu Sc Ta Wa i0 s).1 i (pthV_le s) (by omega)) g0_208 2 rfl (by decide +kernel) ⟨Nat.le_of_ble_eq_true rfl, Nat.le_of_ble_eq_true rfl⟩ ⟨Nat.le_of_ble_eq_true rfl, Nat.le_of_ble_eq_true rfl⟩ [0, 1, 2, 3, 4, 5, 6, 7, 8, 9] [] rfl rfl (by decide) (by decide) (by decide) 0 rfl rfl rfl (Nat.le_of_ble_eq_true rfl) dX0_followBest_61 (fun v w q4 => ?_)
              obtain ⟨rfl, rfl⟩ := q4
              refine kx_eqw (ws2 := (kwW E K b y o n ls bc tk hk P Wt Tu Sc Ta Wa He Fk Rv)) rfl ?_
              refine kx_aload_n C dX0_followBest_64 rfl 1 rfl ?_
              refine kx_get (v := .ref (K 5)) (ci := 0) C kin0 0 rfl rfl 8 (by decide) fl0_22 rfl rfl dX0_followBest_65 ?_
              refine kx_iload C dX0_followBest_68 0 rfl ?_
              refine kx_iald C 5 rfl (j := ((s) * (24)) + (i)) (by omega) (by decide) dX0_followBest_70 ?_
              refine kx_iadd C dX0_followBest_71 ?_
              refine kx_iload C dX0_followBest_72 8 rfl ?_
              refine kx_icmp_ne (tgt := 109) C (by have := htb i (by omega); have := HTa (s * 24 + i); omega) (by omega) dX0_followBest_74 (by decide) (fun c5 => ?_) (fun c5 => ?_)
              · skip
                refine kx_iinc (v := nI (i + 1)) (lv2 := [(11, .int (nI (i + 1))), (12, .int (nI (((s) * (24)) + (i)))), (0, .ref (K 0)), (1, .long (lN (i0))), (3, .int (nI (la))), (4, .ref (K 9)), (5, .long (lN ((selS ls Tu Sc Ta Wa s (pthV ls Tu Sc Ta Wa i0 s).1 (pthV ls Tu Sc Ta Wa i0 s).2 i).2))), (7, .int (kO (pthV ls Tu Sc Ta Wa i0 s).1)), (8, .int (nI (s))), (9, .int (nI (rstV ls Sc Ta s (pthV ls Tu Sc Ta Wa i0 s).1))), (10, .int (kO (selS ls Tu Sc Ta Wa s (pthV ls Tu Sc Ta Wa i0 s).1 (pthV ls Tu Sc Ta Wa i0 s).2 i).1))]) C dX0_followBest_109 10 rfl (kI1 _) (by decide) rfl ?_
                refine kx_goto (tgt := 33) C dX0_followBest_112 (by decide) ?_
                have e27 : (selS ls Tu Sc Ta Wa s (pthV ls Tu Sc Ta Wa i0 s).1 (pthV ls Tu Sc Ta Wa i0 s).2 (i + 1)) = (24, (selS ls Tu Sc Ta Wa s (pthV ls Tu Sc Ta Wa i0 s).1 (pthV ls Tu Sc Ta Wa i0 s).2 i).2) := selN_ne (f := fun k => tinV Tu (pthV ls Tu Sc Ta Wa i0 s).1 k + Ta (s * 24 + k)) (g := fun k => Wa (s * 24 + k)) e26 c5
                refine kx_lvv (x := .int (kO (selS ls Tu Sc Ta Wa s (pthV ls Tu Sc Ta Wa i0 s).1 (pthV ls Tu Sc Ta Wa i0 s).2 i).1)) (z := .int (kO (selS ls Tu Sc Ta Wa s (pthV ls Tu Sc Ta Wa i0 s).1 (pthV ls Tu Sc Ta Wa i0 s).2 (i + 1)).1)) (lv2 := [(11, .int (nI (i + 1))), (12, .int (nI (((s) * (24)) + (i)))), (0, .ref (K 0)), (1, .long (lN (i0))), (3, .int (nI (la))), (4, .ref (K 9)), (5, .long (lN ((selS ls Tu Sc Ta Wa s (pthV ls Tu Sc Ta Wa i0 s).1 (pthV ls Tu Sc Ta Wa i0 s).2 i).2))), (7, .int (kO (pthV ls Tu Sc Ta Wa i0 s).1)), (8, .int (nI (s))), (9, .int (nI (rstV ls Sc Ta s (pthV ls Tu Sc Ta Wa i0 s).1))), (10, .int (kO (selS ls Tu Sc Ta Wa s (pthV ls Tu Sc Ta Wa i0 s).1 (pthV ls Tu Sc Ta Wa i0 s).2 (i + 1)).1))]) (by rw [e27, e26]) 10 rfl rfl ?_
                refine kx_lvL (a := (selS ls Tu Sc Ta Wa s (pthV ls Tu Sc Ta Wa i0 s).1 (pthV ls Tu Sc Ta Wa i0 s).2 i).2) (b := (selS ls Tu Sc Ta Wa s (pthV ls Tu Sc Ta Wa i0 s).1 (pthV ls Tu Sc Ta Wa i0 s).2 (i + 1)).2) (lv2 := [(11, .int (nI (i + 1))), (12, .int (nI (((s) * (24)) + (i)))), (0, .ref (K 0)), (1, .long (lN (i0))), (3, .int (nI (la))), (4, .ref (K 9)), (5, .long (lN ((selS ls Tu Sc Ta Wa s (pthV ls Tu Sc Ta Wa i0 s).1 (pthV ls Tu Sc Ta Wa i0 s).2 (i + 1)).2))), (7, .int (kO (pthV ls Tu Sc Ta Wa i0 s).1)), (8, .int (nI (s))), (9, .int (nI (rstV ls Sc Ta s (pthV ls Tu Sc Ta Wa i0 s).1))), (10, .int (kO (selS ls Tu Sc Ta Wa s (pthV ls Tu Sc Ta Wa i0 s).1 (pthV ls Tu Sc Ta Wa i0 s).2 (i + 1)).1))]) (by rw [e27]) 6 rfl rfl ?_
                refine kx_lv (lv2 := [(0, .ref (K 0)), (1, .long (lN (i0))), (3, .int (nI (la))), (4, .ref (K 9)), (5, .long (lN ((selS ls Tu Sc Ta Wa s (pthV ls Tu Sc Ta Wa i0 s).1 (pthV ls Tu Sc Ta Wa i0 s).2 (i + 1)).2))), (7, .int (kO (pthV ls Tu Sc Ta Wa i0 s).1)), (8, .int (nI (s))), (9, .int (nI (rstV ls Sc Ta s (pthV ls Tu Sc Ta Wa i0 s).1))), (10, .int (kO (selS ls Tu Sc Ta Wa s (pthV ls Tu Sc Ta Wa i0 s).1 (pthV ls Tu Sc Ta Wa i0 s).2 (i + 1)).1)), (11, .int (nI (i + 1)))]) [2, 3, 4, 5, 6, 7, 8, 9, 10, 0] rfl ?_
                refine kx_eqw (ws2 := (kwW E K b y o n ls bc tk hk P Wt Tu Sc Ta Wa He Fk Rv)) rfl ?_
                exact ih_lp33 (i + 1) (by omega) h1_lp33 (by omega)
              · skip
                refine kx_lload C dX0_followBest_77 5 rfl ?_
                refine kx_aload_n C dX0_followBest_79 rfl 1 rfl ?_
                refine kx_get (v := .ref (K 6)) (ci := 0) C kin0 0 rfl rfl 9 (by decide) fl0_25 rfl rfl dX0_followBest_80 ?_
                refine kx_iload C dX0_followBest_83 0 rfl ?_
                refine kx_lald C 6 rfl (j := ((s) * (24)) + (i)) (by omega) (by decide) dX0_followBest_85 ?_
                refine kx_lcmp_ge (tgt := 97) C (Nat.lt_of_le_of_lt (Nat.le_trans (selN_left _) (pthV_left s)) (by omega)) (by have := HWa (s * 24 + i); omega) dX0_followBest_86 dX0_followBest_87 (by decide) (fun c6 => ?_) (fun c6 => ?_)
                · skip
                  refine kx_lload C dX0_followBest_97 5 rfl ?_
                  refine kx_aload_n C dX0_followBest_99 rfl 1 rfl ?_
                  refine kx_get (v := .ref (K 6)) (ci := 0) C kin0 0 rfl rfl 9 (by decide) fl0_25 rfl rfl dX0_followBest_100 ?_
                  refine kx_iload C dX0_followBest_103 0 rfl ?_
                  refine kx_lald C 6 rfl (j := ((s) * (24)) + (i)) (by omega) (by decide) dX0_followBest_105 ?_
                  refine kx_lsub C (by omega) dX0_followBest_106 ?_
                  refine kx_lstore (lv2 := [(5, .long (lN (((selS ls Tu Sc Ta Wa s (pthV ls Tu Sc Ta Wa i0 s).1 (pthV ls Tu Sc Ta Wa i0 s).2 i).2) - (Wa (((s) * (24)) + (i)))))), (12, .int (nI (((s) * (24)) + (i)))), (0, .ref (K 0)), (1, .long (lN (i0))), (3, .int (nI (la))), (4, .ref (K 9)), (7, .int (kO (pthV ls Tu Sc Ta Wa i0 s).1)), (8, .int (nI (s))), (9, .int (nI (rstV ls Sc Ta s (pthV ls Tu Sc Ta Wa i0 s).1))), (10, .int (kO (selS ls Tu Sc Ta Wa s (pthV ls Tu Sc Ta Wa i0 s).1 (pthV ls Tu Sc Ta Wa i0 s).2 i).1)), (11, .int (nI (i)))]) C dX0_followBest_107 (by decide) rfl ?_
                  refine kx_iinc (v := nI (i + 1)) (lv2 := [(11, .int (nI (i + 1))), (5, .long (lN (((selS ls Tu Sc Ta Wa s (pthV ls Tu Sc Ta Wa i0 s).1 (pthV ls Tu Sc Ta Wa i0 s).2 i).2) - (Wa (((s) * (24)) + (i)))))), (12, .int (nI (((s) * (24)) + (i)))), (0, .ref (K 0)), (1, .long (lN (i0))), (3, .int (nI (la))), (4, .ref (K 9)), (7, .int (kO (pthV ls Tu Sc Ta Wa i0 s).1)), (8, .int (nI (s))), (9, .int (nI (rstV ls Sc Ta s (pthV ls Tu Sc Ta Wa i0 s).1))), (10, .int (kO (selS ls Tu Sc Ta Wa s (pthV ls Tu Sc Ta Wa i0 s).1 (pthV ls Tu Sc Ta Wa i0 s).2 i).1))]) C dX0_followBest_109 10 rfl (kI1 _) (by decide) rfl ?_
                  refine kx_goto (tgt := 33) C dX0_followBest_112 (by decide) ?_
                  have e27 : (selS ls Tu Sc Ta Wa s (pthV ls Tu Sc Ta Wa i0 s).1 (pthV ls Tu Sc Ta Wa i0 s).2 (i + 1)) = (24, (selS ls Tu Sc Ta Wa s (pthV ls Tu Sc Ta Wa i0 s).1 (pthV ls Tu Sc Ta Wa i0 s).2 i).2 - Wa (s * 24 + i)) := selN_sub (f := fun k => tinV Tu (pthV ls Tu Sc Ta Wa i0 s).1 k + Ta (s * 24 + k)) (g := fun k => Wa (s * 24 + k)) e26 c5 c6
                  refine kx_lvv (x := .int (kO (selS ls Tu Sc Ta Wa s (pthV ls Tu Sc Ta Wa i0 s).1 (pthV ls Tu Sc Ta Wa i0 s).2 i).1)) (z := .int (kO (selS ls Tu Sc Ta Wa s (pthV ls Tu Sc Ta Wa i0 s).1 (pthV ls Tu Sc Ta Wa i0 s).2 (i + 1)).1)) (lv2 := [(11, .int (nI (i + 1))), (5, .long (lN (((selS ls Tu Sc Ta Wa s (pthV ls Tu Sc Ta Wa i0 s).1 (pthV ls Tu Sc Ta Wa i0 s).2 i).2) - (Wa (((s) * (24)) + (i)))))), (12, .int (nI (((s) * (24)) + (i)))), (0, .ref (K 0)), (1, .long (lN (i0))), (3, .int (nI (la))), (4, .ref (K 9)), (7, .int (kO (pthV ls Tu Sc Ta Wa i0 s).1)), (8, .int (nI (s))), (9, .int (nI (rstV ls Sc Ta s (pthV ls Tu Sc Ta Wa i0 s).1))), (10, .int (kO (selS ls Tu Sc Ta Wa s (pthV ls Tu Sc Ta Wa i0 s).1 (pthV ls Tu Sc Ta Wa i0 s).2 (i + 1)).1))]) (by rw [e27, e26]) 10 rfl rfl ?_
                  refine kx_lvL (a := ((selS ls Tu Sc Ta Wa s (pthV ls Tu Sc Ta Wa i0 s).1 (pthV ls Tu Sc Ta Wa i0 s).2 i).2) - (Wa (((s) * (24)) + (i)))) (b := (selS ls Tu Sc Ta Wa s (pthV ls Tu Sc Ta Wa i0 s).1 (pthV ls Tu Sc Ta Wa i0 s).2 (i + 1)).2) (lv2 := [(11, .int (nI (i + 1))), (5, .long (lN ((selS ls Tu Sc Ta Wa s (pthV ls Tu Sc Ta Wa i0 s).1 (pthV ls Tu Sc Ta Wa i0 s).2 (i + 1)).2))), (12, .int (nI (((s) * (24)) + (i)))), (0, .ref (K 0)), (1, .long (lN (i0))), (3, .int (nI (la))), (4, .ref (K 9)), (7, .int (kO (pthV ls Tu Sc Ta Wa i0 s).1)), (8, .int (nI (s))), (9, .int (nI (rstV ls Sc Ta s (pthV ls Tu Sc Ta Wa i0 s).1))), (10, .int (kO (selS ls Tu Sc Ta Wa s (pthV ls Tu Sc Ta Wa i0 s).1 (pthV ls Tu Sc Ta Wa i0 s).2 (i + 1)).1))]) (by rw [e27]) 1 rfl rfl ?_
                  refine kx_lv (lv2 := [(0, .ref (K 0)), (1, .long (lN (i0))), (3, .int (nI (la))), (4, .ref (K 9)), (5, .long (lN ((selS ls Tu Sc Ta Wa s (pthV ls Tu Sc Ta Wa i0 s).1 (pthV ls Tu Sc Ta Wa i0 s).2 (i + 1)).2))), (7, .int (kO (pthV ls Tu Sc Ta Wa i0 s).1)), (8, .int (nI (s))), (9, .int (nI (rstV ls Sc Ta s (pthV ls Tu Sc Ta Wa i0 s).1))), (10, .int (kO (selS ls Tu Sc Ta Wa s (pthV ls Tu Sc Ta Wa i0 s).1 (pthV ls Tu Sc Ta Wa i0 s).2 (i + 1)).1)), (11, .int (nI (i + 1)))]) [3, 4, 5, 6, 1, 7, 8, 9, 10, 0] rfl ?_
                  refine kx_eqw (ws2 := (kwW E K b y o n ls bc tk hk P Wt Tu Sc Ta Wa He Fk Rv)) rfl ?_
                  exact ih_lp33 (i + 1) (by omega) h1_lp33 (by omega)
                · skip
                  refine kx_iload C dX0_followBest_90 10 rfl ?_
                  refine kx_istore (lv2 := [(10, .int (nI (i))), (12, .int (nI (((s) * (24)) + (i)))), (0, .ref (K 0)), (1, .long (lN (i0))), (3, .int (nI (la))), (4, .ref (K 9)), (5, .long (lN ((selS ls Tu Sc Ta Wa s (pthV ls Tu Sc Ta Wa i0 s).1 (pthV ls Tu Sc Ta Wa i0 s).2 i).2))), (7, .int (kO (pthV ls Tu Sc Ta Wa i0 s).1)), (8, .int (nI (s))), (9, .int (nI (rstV ls Sc Ta s (pthV ls Tu Sc Ta Wa i0 s).1))), (11, .int (nI (i)))]) C dX0_followBest_92 (by decide) rfl ?_
                  refine kx_goto (tgt := 109) C dX0_followBest_94 (by decide) ?_
                  refine kx_iinc (v := nI (i + 1)) (lv2 := [(11, .int (nI (i + 1))), (10, .int (nI (i))), (12, .int (nI (((s) * (24)) + (i)))), (0, .ref (K 0)), (1, .long (lN (i0))), (3, .int (nI (la))), (4, .ref (K 9)), (5, .long (lN ((selS ls Tu Sc Ta Wa s (pthV ls Tu Sc Ta Wa i0 s).1 (pthV ls Tu Sc Ta Wa i0 s).2 i).2))), (7, .int (kO (pthV ls Tu Sc Ta Wa i0 s).1)), (8, .int (nI (s))), (9, .int (nI (rstV ls Sc Ta s (pthV ls Tu Sc Ta Wa i0 s).1)))]) C dX0_followBest_109 10 rfl (kI1 _) (by decide) rfl ?_
                  refine kx_goto (tgt := 33) C dX0_followBest_112 (by decide) ?_
                  have e27 : (selS ls Tu Sc Ta Wa s (pthV ls Tu Sc Ta Wa i0 s).1 (pthV ls Tu Sc Ta Wa i0 s).2 (i + 1)) = (i, (selS ls Tu Sc Ta Wa s (pthV ls Tu Sc Ta Wa i0 s).1 (pthV ls Tu Sc Ta Wa i0 s).2 i).2) := selN_hit (f := fun k => tinV Tu (pthV ls Tu Sc Ta Wa i0 s).1 k + Ta (s * 24 + k)) (g := fun k => Wa (s * 24 + k)) e26 c5 c6
                  refine kx_lvv (x := .int (nI (i))) (z := .int (kO (selS ls Tu Sc Ta Wa s (pthV ls Tu Sc Ta Wa i0 s).1 (pthV ls Tu Sc Ta Wa i0 s).2 (i + 1)).1)) (lv2 := [(11, .int (nI (i + 1))), (10, .int (kO (selS ls Tu Sc Ta Wa s (pthV ls Tu Sc Ta Wa i0 s).1 (pthV ls Tu Sc Ta Wa i0 s).2 (i + 1)).1)), (12, .int (nI (((s) * (24)) + (i)))), (0, .ref (K 0)), (1, .long (lN (i0))), (3, .int (nI (la))), (4, .ref (K 9)), (5, .long (lN ((selS ls Tu Sc Ta Wa s (pthV ls Tu Sc Ta Wa i0 s).1 (pthV ls Tu Sc Ta Wa i0 s).2 i).2))), (7, .int (kO (pthV ls Tu Sc Ta Wa i0 s).1)), (8, .int (nI (s))), (9, .int (nI (rstV ls Sc Ta s (pthV ls Tu Sc Ta Wa i0 s).1)))]) (by rw [e27, kO_lt (by omega)]) 1 rfl rfl ?_
                  refine kx_lvL (a := (selS ls Tu Sc Ta Wa s (pthV ls Tu Sc Ta Wa i0 s).1 (pthV ls Tu Sc Ta Wa i0 s).2 i).2) (b := (selS ls Tu Sc Ta Wa s (pthV ls Tu Sc Ta Wa i0 s).1 (pthV ls Tu Sc Ta Wa i0 s).2 (i + 1)).2) (lv2 := [(11, .int (nI (i + 1))), (10, .int (kO (selS ls Tu Sc Ta Wa s (pthV ls Tu Sc Ta Wa i0 s).1 (pthV ls Tu Sc Ta Wa i0 s).2 (i + 1)).1)), (12, .int (nI (((s) * (24)) + (i)))), (0, .ref (K 0)), (1, .long (lN (i0))), (3, .int (nI (la))), (4, .ref (K 9)), (5, .long (lN ((selS ls Tu Sc Ta Wa s (pthV ls Tu Sc Ta Wa i0 s).1 (pthV ls Tu Sc Ta Wa i0 s).2 (i + 1)).2))), (7, .int (kO (pthV ls Tu Sc Ta Wa i0 s).1)), (8, .int (nI (s))), (9, .int (nI (rstV ls Sc Ta s (pthV ls Tu Sc Ta Wa i0 s).1)))]) (by rw [e27]) 7 rfl rfl ?_
                  refine kx_lv (lv2 := [(0, .ref (K 0)), (1, .long (lN (i0))), (3, .int (nI (la))), (4, .ref (K 9)), (5, .long (lN ((selS ls Tu Sc Ta Wa s (pthV ls Tu Sc Ta Wa i0 s).1 (pthV ls Tu Sc Ta Wa i0 s).2 (i + 1)).2))), (7, .int (kO (pthV ls Tu Sc Ta Wa i0 s).1)), (8, .int (nI (s))), (9, .int (nI (rstV ls Sc Ta s (pthV ls Tu Sc Ta Wa i0 s).1))), (10, .int (kO (selS ls Tu Sc Ta Wa s (pthV ls Tu Sc Ta Wa i0 s).1 (pthV ls Tu Sc Ta Wa i0 s).2 (i + 1)).1)), (11, .int (nI (i + 1)))]) [3, 4, 5, 6, 7, 8, 9, 10, 1, 0] rfl ?_
                  refine kx_eqw (ws2 := (kwW E K b y o n ls bc tk hk P Wt Tu Sc Ta Wa He Fk Rv)) rfl ?_
                  exact ih_lp33 (i + 1) (by omega) h1_lp33 (by omega)
      refine kx_iload C dX0_followBest_9 6 rfl ?_
      refine kx_iload_n C dX0_followBest_11 rfl 2 rfl ?_
      refine kx_icmp_gt (tgt := 140) C (by omega) (by omega) dX0_followBest_12 (by decide) (fun c7 => ?_) (fun c7 => ?_)
      · skip
        obtain rfl : la + 1 = s := by omega
        refine kx_iload C dX0_followBest_140 5 rfl ?_
        exact hE (Nat.le_of_ble_eq_true rfl) (Nat.le_of_ble_eq_true rfl) dX0_followBest_142 ⟨rfl, Rv, fun j hj _ => h2_lp9 j (by omega), h3_lp9, rfl⟩
      · skip
        refine kx_aload_n C dX0_followBest_15 rfl 0 rfl ?_
        refine kx_iload C dX0_followBest_16 6 rfl ?_
        refine kx_iconst (v := nI 1) C dX0_followBest_18 (by decide +kernel) ?_
        refine kx_isubR C dX0_followBest_19 ?_
        refine kx_iload C dX0_followBest_20 5 rfl ?_
        refine kx_callVi (rest := []) (wr := []) C (c_restAfter E K b y o n ls bc tk hk P Wt Tu Sc Ta Wa He Fk Rv s (pthV ls Tu Sc Ta Wa i0 s).1 (by omega) (pthV_le s) hz0 hz1) g0_205 2 rfl (by decide +kernel) ⟨Nat.le_of_ble_eq_true rfl, Nat.le_of_ble_eq_true rfl⟩ ⟨Nat.le_of_ble_eq_true rfl, Nat.le_of_ble_eq_true rfl⟩ [0, 1, 2, 3, 4, 5, 6, 7, 8, 9] [] rfl rfl (by decide) (by decide) (by decide) 0 rfl rfl rfl (Nat.le_of_ble_eq_true rfl) dX0_followBest_22 (fun v w q8 => ?_)
        obtain ⟨rfl, rfl⟩ := q8
        refine kx_eqw (ws2 := (kwW E K b y o n ls bc tk hk P Wt Tu Sc Ta Wa He Fk Rv)) rfl ?_
        refine kx_istore (lv2 := [(9, .int (nI (rstV ls Sc Ta s (pthV ls Tu Sc Ta Wa i0 s).1))), (0, .ref (K 0)), (1, .long (lN (i0))), (3, .int (nI (la))), (4, .ref (K 9)), (5, .long (lN ((pthV ls Tu Sc Ta Wa i0 s).2))), (7, .int (kO (pthV ls Tu Sc Ta Wa i0 s).1)), (8, .int (nI (s)))]) C dX0_followBest_25 (by decide) rfl ?_
        refine kx_iconst (v := (-1)) C dX0_followBest_27 (by decide +kernel) ?_
        refine kx_istore (lv2 := [(10, .int ((-1))), (9, .int (nI (rstV ls Sc Ta s (pthV ls Tu Sc Ta Wa i0 s).1))), (0, .ref (K 0)), (1, .long (lN (i0))), (3, .int (nI (la))), (4, .ref (K 9)), (5, .long (lN ((pthV ls Tu Sc Ta Wa i0 s).2))), (7, .int (kO (pthV ls Tu Sc Ta Wa i0 s).1)), (8, .int (nI (s)))]) C dX0_followBest_28 (by decide) rfl ?_
        refine kx_iconst (v := nI 0) C dX0_followBest_30 (by decide +kernel) ?_
        refine kx_istore (lv2 := [(11, .int (nI (0))), (10, .int ((-1))), (9, .int (nI (rstV ls Sc Ta s (pthV ls Tu Sc Ta Wa i0 s).1))), (0, .ref (K 0)), (1, .long (lN (i0))), (3, .int (nI (la))), (4, .ref (K 9)), (5, .long (lN ((pthV ls Tu Sc Ta Wa i0 s).2))), (7, .int (kO (pthV ls Tu Sc Ta Wa i0 s).1)), (8, .int (nI (s)))]) C dX0_followBest_31 (by decide) rfl ?_
        refine kx_lv (lv2 := [(0, .ref (K 0)), (1, .long (lN (i0))), (3, .int (nI (la))), (4, .ref (K 9)), (5, .long (lN ((selS ls Tu Sc Ta Wa s (pthV ls Tu Sc Ta Wa i0 s).1 (pthV ls Tu Sc Ta Wa i0 s).2 0).2))), (7, .int (kO (pthV ls Tu Sc Ta Wa i0 s).1)), (8, .int (nI (s))), (9, .int (nI (rstV ls Sc Ta s (pthV ls Tu Sc Ta Wa i0 s).1))), (10, .int (kO (selS ls Tu Sc Ta Wa s (pthV ls Tu Sc Ta Wa i0 s).1 (pthV ls Tu Sc Ta Wa i0 s).2 0).1)), (11, .int (nI (0)))]) [3, 4, 5, 6, 7, 8, 9, 2, 1, 0] rfl ?_
        refine kx_eqw (ws2 := (kwW E K b y o n ls bc tk hk P Wt Tu Sc Ta Wa He Fk Rv)) rfl ?_
        exact lp33 25 0 (by omega) (by omega) (by omega)
  refine kx_lload_n C dX0_followBest_0 rfl 1 rfl ?_
  refine kx_lstore (lv2 := [(5, .long (lN (i0))), (0, .ref (K 0)), (1, .long (lN (i0))), (3, .int (nI (la))), (4, .ref (K 9))]) C dX0_followBest_1 (by decide) rfl ?_
  refine kx_iconst (v := (-1)) C dX0_followBest_3 (by decide +kernel) ?_
  refine kx_istore (lv2 := [(7, .int ((-1))), (5, .long (lN (i0))), (0, .ref (K 0)), (1, .long (lN (i0))), (3, .int (nI (la))), (4, .ref (K 9))]) C dX0_followBest_4 (by decide) rfl ?_
  refine kx_iconst (v := nI 0) C dX0_followBest_6 (by decide +kernel) ?_
  refine kx_istore (lv2 := [(8, .int (nI (0))), (7, .int ((-1))), (5, .long (lN (i0))), (0, .ref (K 0)), (1, .long (lN (i0))), (3, .int (nI (la))), (4, .ref (K 9))]) C dX0_followBest_7 (by decide) rfl ?_
  refine kx_lv (lv2 := [(0, .ref (K 0)), (1, .long (lN (i0))), (3, .int (nI (la))), (4, .ref (K 9)), (5, .long (lN ((pthV ls Tu Sc Ta Wa i0 0).2))), (7, .int (kO (pthV ls Tu Sc Ta Wa i0 0).1)), (8, .int (nI (0)))]) [3, 4, 5, 6, 2, 1, 0] rfl ?_
  refine kx_eqw (ws2 := (kwW E K b y o n ls bc tk hk P Wt Tu Sc Ta Wa He Fk Pk)) rfl ?_
  exact lp9 42 0 Pk (by omega) (fun z => absurd rfl z) (fun j hj => absurd hj (by omega)) HRw (by omega)
