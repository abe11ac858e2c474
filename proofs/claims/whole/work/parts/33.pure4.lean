/-! what the rows of tails hold when they are known -/
def tlS (n b y o : Nat) (P Wt : Nat → Nat) (s k : Nat) : Nat := tlN (costN P Wt) (turnN b y o) (n - 1 - s) s k
def wyS (n b y o : Nat) (P Wt : Nat → Nat) (s k : Nat) : Nat := wyN (costN P Wt) (turnN b y o) (n - 1 - s) s k
/-- the rows at and behind slice m -/
def kRows (n b y o : Nat) (P Wt Sc Ta Wa : Nat → Nat) (m : Nat) : Prop := ∀ s, m ≤ s → s < n → ∀ k, k < 24 → Sc (s * 24 + k) = costN P Wt s k ∧ Ta (s * 24 + k) = tlS n b y o P Wt s k ∧ Wa (s * 24 + k) = wyS n b y o P Wt s k
def kTuOk (b y o : Nat) (Tu : Nat → Nat) : Prop := ∀ j, j < 576 → Tu j = turnN b y o (j / 24) (j % 24)
theorem kTuOk.at {b y o : Nat} {Tu : Nat → Nat} (h : kTuOk b y o Tu) {f t : Nat} (hf : f < 24) (ht : t < 24) : Tu (f * 24 + t) = turnN b y o f t := by
  rw [h _ (by omega), show (f * 24 + t) / 24 = f by omega, show (f * 24 + t) % 24 = t by omega]
theorem kTuOk.le {b y o : Nat} {Tu : Nat → Nat} (h : kTuOk b y o Tu) (hb : b ≤ 1000) (hy : y ≤ 1000) (ho : o ≤ 1000) : ∀ j, j < 576 → Tu j ≤ 8000 := fun j hj => by rw [h j hj]; exact turnN_le hb hy ho _ _
theorem tail_val {n b y o : Nat} {P Wt Tu Sc Ta Wa : Nat → Nat} {sl k : Nat} (hT : kTuOk b y o Tu) (hn : sl < n) (hk : k < 24) (hS : Sc (sl * 24 + k) = costN P Wt sl k) (hR : kRows n b y o P Wt Sc Ta Wa (sl + 1)) : tailV n Tu Sc Ta sl k = tlS n b y o P Wt sl k ∧ wayV n Tu Ta Wa sl k = wyS n b y o P Wt sl k := by
  unfold tailV wayV tlS wyS
  by_cases e : sl = n - 1
  · rw [if_pos e, if_pos e, show n - 1 - sl = 0 by omega]
    exact ⟨hS, rfl⟩
  · rw [if_neg e, if_neg e]
    obtain ⟨m, hm⟩ : ∃ m, n - 1 - sl = m + 1 := ⟨n - 1 - sl - 1, by omega⟩
    have hm2 : n - 1 - (sl + 1) = m := by omega
    have hF : ∀ to, to < 24 → Tu (k * 24 + to) + Ta ((sl + 1) * 24 + to) = turnN b y o k to + tlN (costN P Wt) (turnN b y o) m (sl + 1) to := fun to ht => by
      rw [hT.at hk ht, (hR (sl + 1) (Nat.le_refl _) (by omega) to ht).2.1]
      unfold tlS
      rw [hm2]
    have hmin : minN (fun to => Tu (k * 24 + to) + Ta ((sl + 1) * 24 + to)) kBIG 24 = minN (fun to => turnN b y o k to + tlN (costN P Wt) (turnN b y o) m (sl + 1) to) kBIG 24 := minN_congr hF
    rw [hm]
    refine ⟨?_, ?_⟩
    · rw [tlN, hS, hmin]
    · rw [wyN, cntN, hmin]
      refine congrArg (min kCAP) (sumN_congr fun to ht => ?_)
      rw [hF to ht]
      have hw := (hR (sl + 1) (Nat.le_refl _) (by omega) to ht).2.2
      unfold wyS at hw
      rw [hm2] at hw
      rw [hw]
theorem tlS_le {n b y o : Nat} {P Wt : Nat → Nat} (hn : n ≤ 40) (hP : ∀ j, P j ≤ 99) (hW : ∀ j, Wt j ≤ 200) (hb : b ≤ 1000) (hy : y ≤ 1000) (ho : o ≤ 1000) {s : Nat} (hs : s < n) (k : Nat) : tlS n b y o P Wt s k ≤ 10000000 := by
  have h := tlN_le (costN_le hP hW) (turnN_le hb hy ho) (n - 1 - s) s k
  have h2 : (n - 1 - s + 1) * 245600 ≤ 40 * 245600 := Nat.mul_le_mul_right _ (by omega)
  unfold tlS
  omega
theorem wyS_le (n b y o : Nat) (P Wt : Nat → Nat) (s k : Nat) : wyS n b y o P Wt s k ≤ 1000000000000000000 := wyN_le _ _ _ _ _
theorem cost_le_tl {c t : Nat → Nat → Nat} : ∀ (m s k : Nat), c s k ≤ tlN c t m s k
  | 0, _, _ => Nat.le_refl _
  | m + 1, s, k => by simp only [tlN]; omega
/-- one more row is filled -/
theorem kRows.put {n b y o : Nat} {P Wt Sc Ta Wa : Nat → Nat} {m k v x : Nat} (hR : kRows n b y o P Wt Sc Ta Wa (m + 1)) (hk : k < 24) : kRows n b y o P Wt Sc (va_up Ta (m * 24 + k) v) (va_up Wa (m * 24 + k) x) (m + 1) := by
  intro s h1 h2 q hq
  rw [va_up_ne _ _ (by omega), va_up_ne _ _ (by omega)]
  exact hR s h1 h2 q hq
theorem kRows.sc {n b y o : Nat} {P Wt Sc Sv Ta Wa : Nat → Nat} {m : Nat} (hR : kRows n b y o P Wt Sc Ta Wa (m + 1)) (h : ∀ j, j < m * 24 ∨ m * 24 + 24 ≤ j → Sv j = Sc j) : kRows n b y o P Wt Sv Ta Wa (m + 1) := by
  intro s h1 h2 q hq
  rw [h _ (by omega)]
  exact hR s h1 h2 q hq
/-- the keys of the first best walk, by the tails -/
def kFs (n b y o : Nat) (P Wt : Nat → Nat) (ls i : Nat) : Nat → Nat × Nat
  | 0 => (24, i)
  | s + 1 => if s ≠ 0 ∧ (kFs n b y o P Wt ls i s).1 = 24 then (24, 0) else
      selN (fun k => (if (kFs n b y o P Wt ls i s).1 = 24 then 0 else turnN b y o (kFs n b y o P Wt ls i s).1 k) + tlS n b y o P Wt s k) (fun k => wyS n b y o P Wt s k)
        (if (kFs n b y o P Wt ls i s).1 = 24 then ls else tlS n b y o P Wt (s - 1) (kFs n b y o P Wt ls i s).1 - costN P Wt (s - 1) (kFs n b y o P Wt ls i s).1) (kFs n b y o P Wt ls i s).2 24
theorem selN_congr {f f2 g g2 : Nat → Nat} {rest left : Nat} : ∀ {m : Nat}, (∀ k, k < m → f k = f2 k ∧ g k = g2 k) → selN f g rest left m = selN f2 g2 rest left m
  | 0, _ => rfl
  | m + 1, h => by
    simp only [selN]
    rw [selN_congr (m := m) (fun k hk => h k (by omega)), (h m (by omega)).1, (h m (by omega)).2]
theorem pth_fs {n b y o : Nat} {P Wt Tu Sc Ta Wa : Nat → Nat} {ls i : Nat} (hT : kTuOk b y o Tu) (hR : kRows n b y o P Wt Sc Ta Wa 0) : ∀ s, s ≤ n → pthV ls Tu Sc Ta Wa i s = kFs n b y o P Wt ls i s
  | 0, _ => rfl
  | s + 1, hs => by
    have ih := pth_fs (ls := ls) (i := i) hT hR s (by omega)
    have hle : (kFs n b y o P Wt ls i s).1 ≤ 24 := by rw [← ih]; exact pthV_le s
    rw [pthV, kFs, ih]
    by_cases e : s ≠ 0 ∧ (kFs n b y o P Wt ls i s).1 = 24
    · rw [if_pos e, if_pos e]
    · rw [if_neg e, if_neg e]
      unfold selS
      have er : rstV ls Sc Ta s (kFs n b y o P Wt ls i s).1 = (if (kFs n b y o P Wt ls i s).1 = 24 then ls else tlS n b y o P Wt (s - 1) (kFs n b y o P Wt ls i s).1 - costN P Wt (s - 1) (kFs n b y o P Wt ls i s).1) := by
        unfold rstV
        by_cases e2 : (kFs n b y o P Wt ls i s).1 = 24
        · rw [if_pos e2, if_pos e2]
        · rw [if_neg e2, if_neg e2]
          obtain ⟨q1, q2, -⟩ := hR (s - 1) (Nat.zero_le _) (by omega) (kFs n b y o P Wt ls i s).1 (by omega)
          rw [q1, q2]
      rw [er]
      refine selN_congr fun k hk => ⟨?_, (hR s (Nat.zero_le _) (by omega) k hk).2.2⟩
      rw [(hR s (Nat.zero_le _) (by omega) k hk).2.1]
      unfold tinV
      by_cases e2 : (kFs n b y o P Wt ls i s).1 = 24
      · rw [if_pos e2, if_pos e2]
      · rw [if_neg e2, if_neg e2, hT.at (by omega) hk]
/-- what is known when the tails are -/
def kTails (n b y o : Nat) (P Wt : Nat → Nat) (ls bc : Nat) (Tu Sc Ta Wa Fk : Nat → Nat) : Prop :=
  kTuOk b y o Tu ∧ kRows n b y o P Wt Sc Ta Wa 0 ∧ (n = 0 → ls = 0 ∧ bc = 1) ∧ (n ≠ 0 → ls = minN (fun k => tlS n b y o P Wt 0 k) kBIG 24 ∧ bc = min kCAP (sumN (fun k => if tlS n b y o P Wt 0 k = minN (fun k => tlS n b y o P Wt 0 k) kBIG 24 then wyS n b y o P Wt 0 k else 0) 24)) ∧
  ∀ s, s < n → (kFs n b y o P Wt ls 0 (s + 1)).1 ≠ 24 → Fk s = (kFs n b y o P Wt ls 0 (s + 1)).1
def kHeads (n b y o : Nat) (P Wt He : Nat → Nat) : Prop := ∀ s, s < n → ∀ k, k < 24 → He (s * 24 + k) = hdN (costN P Wt) (turnN b y o) s k
/-- an object as it may be: what was told is within its bounds, what is kept is known or may be anything -/
def kOk (b y o n ls bc tk hk : Nat) (P Wt Tu Sc Ta Wa He Fk Pk : Nat → Nat) : Prop :=
  n ≤ 40 ∧ (∀ j, P j ≤ 99) ∧ (∀ j, Wt j ≤ 200) ∧ b ≤ 1000 ∧ y ≤ 1000 ∧ o ≤ 1000 ∧ tk ≤ 1 ∧ hk ≤ 1 ∧ ls ≤ 10000000 ∧ (∀ j, Ta j ≤ 10000000) ∧ (∀ j, Wa j ≤ 1000000000000000000) ∧ (∀ j, He j ≤ 10000000) ∧ (∀ j, Fk j ≤ 24) ∧ (∀ j, Pk j ≤ 24) ∧
  (tk ≠ 0 → kTails n b y o P Wt ls bc Tu Sc Ta Wa Fk) ∧ (hk ≠ 0 → tk ≠ 0 ∧ kHeads n b y o P Wt He)
theorem kRows.row {n b y o : Nat} {P Wt Sc Ta Wa : Nat → Nat} {m : Nat} (hR : kRows n b y o P Wt Sc Ta Wa (m + 1)) (hS : ∀ k, k < 24 → Sc (m * 24 + k) = costN P Wt m k) (hA : ∀ k, k < 24 → Ta (m * 24 + k) = tlS n b y o P Wt m k ∧ Wa (m * 24 + k) = wyS n b y o P Wt m k) : kRows n b y o P Wt Sc Ta Wa m := by
  intro s h1 h2 k hk
  by_cases e : s = m
  · subst e; exact ⟨hS k hk, (hA k hk).1, (hA k hk).2⟩
  · exact hR s (by omega) h2 k hk
theorem kRows.st {n b y o : Nat} {P Wt Sc Ta Wa : Nat → Nat} (hR : kRows n b y o P Wt Sc Ta Wa 0) : ∀ j, j < n * 24 → Sc j ≤ Ta j := by
  intro j hj
  have h := hR (j / 24) (Nat.zero_le _) (by omega) (j % 24) (Nat.mod_lt _ (by decide))
  rw [show j / 24 * 24 + j % 24 = j by omega] at h
  rw [h.1, h.2.1]
  exact cost_le_tl _ _ _
theorem kRowS {F Q : Nat → Nat} {m q v : Nat} (h : ∀ k, k < q → F (m * 24 + k) = Q k) (hv : v = Q q) : ∀ k, k < q + 1 → va_up F (m * 24 + q) v (m * 24 + k) = Q k := by
  intro k hk
  by_cases e : k = q
  · subst e; rw [va_up_self]; exact hv
  · rw [va_up_ne _ _ (by omega)]; exact h k (by omega)
theorem kTails_mk {n b y o : Nat} {P Wt Tu Sc Ta Wa Fk : Nat → Nat} (hn : n ≠ 0) (hT : kTuOk b y o Tu) (hR : kRows n b y o P Wt Sc Ta Wa 0)
    (hF : ∀ j, j ≤ n - 1 → (pthV (minN Ta kBIG 24) Tu Sc Ta Wa 0 (j + 1)).1 ≠ 24 → Fk j = (pthV (minN Ta kBIG 24) Tu Sc Ta Wa 0 (j + 1)).1) : kTails n b y o P Wt (minN Ta kBIG 24) (cntN Ta Wa 24) Tu Sc Ta Wa Fk := by
  have h0 : ∀ k, k < 24 → Ta k = tlS n b y o P Wt 0 k ∧ Wa k = wyS n b y o P Wt 0 k := fun k hk => by
    have h := (hR 0 (Nat.le_refl _) (by omega) k hk).2
    rw [Nat.zero_mul, Nat.zero_add] at h
    exact h
  have hm : minN Ta kBIG 24 = minN (fun k => tlS n b y o P Wt 0 k) kBIG 24 := minN_congr fun k hk => (h0 k hk).1
  refine ⟨hT, hR, fun z => absurd z hn, fun _ => ⟨hm, ?_⟩, fun s hs hne => ?_⟩
  · unfold cntN
    refine congrArg (min kCAP) (sumN_congr fun k hk => ?_)
    rw [(h0 k hk).1, (h0 k hk).2, hm]
  · rw [← pth_fs hT hR (s + 1) (by omega)] at hne ⊢
    exact hF s (by omega) hne
