/-! the reference's weighing: with no slice held it is the class's; with one held it is THROUGH, or THE NEXT -/
theorem rsN_tl {c t : Nat → Nat → Nat} {may : Nat → Nat → Bool} {n l : Nat} (h : ∀ s, l ≤ s → s < n → ∀ k, k < 24 → may s k = true) : ∀ m s k, l ≤ s → s + m < n → k < 24 → rsN c t may m s k = tlN c t m s k
  | 0, s, k, hl, hs, hk => by
    simp only [rsN, tlN]
    rw [h s hl (by omega) k hk, if_pos rfl, Nat.zero_add]
  | m + 1, s, k, hl, hs, hk => by
    simp only [rsN, tlN]
    rw [h s hl (by omega) k hk, if_pos rfl, minN_congr (g := fun to => t k to + tlN c t m (s + 1) to) (fun to ht => by rw [rsN_tl h m (s + 1) to (by omega) (by omega) ht]), Nat.add_comm]
theorem ysN_wy {c t : Nat → Nat → Nat} {may : Nat → Nat → Bool} {n : Nat} (h : ∀ s, 0 ≤ s → s < n → ∀ k, k < 24 → may s k = true) : ∀ m s k, s + m < n → k < 24 → ysN c t may m s k = wyN c t m s k
  | 0, s, k, hs, hk => by
    simp only [ysN, wyN]
    rw [h s (Nat.zero_le _) (by omega) k hk, if_pos rfl]
  | m + 1, s, k, hs, hk => by
    simp only [ysN, wyN]
    rw [h s (Nat.zero_le _) (by omega) k hk, if_pos rfl, cntN_congr (F2 := fun to => t k to + tlN c t m (s + 1) to) (G2 := fun to => wyN c t m (s + 1) to) (fun to ht => ⟨by rw [rsN_tl h m (s + 1) to (Nat.zero_le _) (by omega) ht], ysN_wy h m (s + 1) to (by omega) ht⟩)]
    rfl
/-- the least cost of a walk, and how many have it -/
def lsN (n b y o : Nat) (P Wt : Nat → Nat) : Nat := if n = 0 then 0 else minN (fun k => tlS n b y o P Wt 0 k) kBIG 24
def bcF (n b y o : Nat) (P Wt : Nat → Nat) (k : Nat) : Nat := if tlS n b y o P Wt 0 k = lsN n b y o P Wt then wyS n b y o P Wt 0 k else 0
def bcN (n b y o : Nat) (P Wt : Nat → Nat) : Nat := if n = 0 then 1 else min kCAP (sumN (bcF n b y o P Wt) 24)
def kR0 (n b y o : Nat) (P Wt Rv Yv : Nat → Nat) : Prop := ∀ s, s < n → ∀ k, k < 24 → Rv (s * 24 + k) = tlS n b y o P Wt s k ∧ Yv (s * 24 + k) = wyS n b y o P Wt s k
theorem may_none {n : Nat} (hn : n ≤ 40) {y9 : Int32} : ∀ s, 0 ≤ s → s < n → ∀ k, k < 24 → mayB (-1) y9 s k = true := fun s _ hs k _ => may_t (k_nIm1 (by omega))
theorem kR0_of {n b y o : Nat} {P Wt Rv Yv : Nat → Nat} {y9 : Int32} (hn : n ≤ 40) (h : kRs n b y o P Wt (mayB (-1) y9) Rv Yv 0) : kR0 n b y o P Wt Rv Yv := by
  intro s hs k hk
  obtain ⟨h1, h2⟩ := h s (Nat.zero_le _) hs k hk
  rw [h1, h2]
  exact ⟨rsN_tl (may_none hn) _ _ _ (Nat.zero_le _) (by omega) hk, ysN_wy (may_none hn) _ _ _ (by omega) hk⟩
theorem ls_of {n b y o : Nat} {P Wt : Nat → Nat} {y9 : Int32} (hn : n ≤ 40) : (if n = 0 then 0 else minN (fun k => rsS n b y o P Wt (mayB (-1) y9) 0 k) kBIG 24) = lsN n b y o P Wt := by
  unfold lsN
  by_cases e : n = 0
  · rw [if_pos e, if_pos e]
  · rw [if_neg e, if_neg e]
    exact minN_congr fun k hk => rsN_tl (may_none hn) _ _ _ (Nat.zero_le _) (by omega) hk
theorem lsN_le {n b y o : Nat} {P Wt : Nat → Nat} (hn : n ≤ 40) (hP : ∀ j, P j ≤ 99) (hW : ∀ j, Wt j ≤ 200) (hb : b ≤ 1000) (hy : y ≤ 1000) (ho : o ≤ 1000) : lsN n b y o P Wt ≤ 10000000 := by
  unfold lsN
  split
  · exact Nat.zero_le _
  · next e => exact Nat.le_trans (minN_le (f := fun k => tlS n b y o P Wt 0 k) (j := 0) (by decide)) (tlS_le hn hP hW hb hy ho (by omega) 0)
theorem cost_le_tlS {n b y o : Nat} {P Wt : Nat → Nat} {s k : Nat} : costN P Wt s k ≤ tlS n b y o P Wt s k := cost_le_tl _ _ _
theorem minN_iff {f : Nat → Nat} {M v : Nat} (hv : v < M) : ∀ {n : Nat}, minN f M n ≤ v ↔ ∃ j, j < n ∧ f j ≤ v
  | 0 => ⟨fun h => absurd h (by simp only [minN]; omega), fun ⟨j, hj, _⟩ => absurd hj (by omega)⟩
  | n + 1 => by
    have ih := minN_iff (f := f) hv (n := n)
    simp only [minN]
    constructor
    · intro h
      by_cases e : f n ≤ v
      · exact ⟨n, by omega, e⟩
      · obtain ⟨j, h1, h2⟩ := ih.mp (by omega)
        exact ⟨j, by omega, h2⟩
    · rintro ⟨j, h1, h2⟩
      by_cases e : j = n
      · subst e; omega
      · have := ih.mpr ⟨j, by omega, h2⟩
        omega
theorem eq_iff {a b M : Nat} (ha : a ≤ M) (hb : b ≤ M) (h : ∀ v, v < M → (a ≤ v ↔ b ≤ v)) : a = b := by
  rcases Nat.lt_trichotomy a b with z | z | z
  · have := (h a (by omega)).mp (Nat.le_refl _)
    omega
  · exact z
  · have := (h b (by omega)).mpr (Nat.le_refl _)
    omega
theorem minN_congrM {f g : Nat → Nat} {M : Nat} : ∀ {n : Nat}, (∀ j, j < n → min (f j) M = min (g j) M) → minN f M n = minN g M n
  | 0, _ => rfl
  | n + 1, h => by
    have h1 := minN_congrM (f := f) (g := g) (M := M) (n := n) (fun j hj => h j (by omega))
    have h2 := h n (by omega)
    have h3 := minN_leM (f := g) (M := M) n
    simp only [minN]
    rw [h1]
    omega
theorem cost_le_hd {c t : Nat → Nat → Nat} : ∀ s k, c s k ≤ hdN c t s k
  | 0, _ => Nat.le_refl _
  | s + 1, k => by simp only [hdN]; omega
/-- the least over the walks, told at slice s -/
def dN (c t : Nat → Nat → Nat) (may : Nat → Nat → Bool) (n s : Nat) : Nat := minN (fun k => hdN c t s k - c s k + rsN c t may (n - 1 - s) s k) kBIG 24
theorem dN_step {c t : Nat → Nat → Nat} {may : Nat → Nat → Bool} {n sl s : Nat} (h : ∀ s, s < n → s ≠ sl → ∀ k, k < 24 → may s k = true) (hs : s < sl) (hl : sl < n) : dN c t may n s = dN c t may n (s + 1) := by
  refine eq_iff (minN_leM 24) (minN_leM 24) (fun v hv => ?_)
  unfold dN
  rw [minN_iff hv, minN_iff hv]
  have e : n - 1 - s = (n - 1 - (s + 1)) + 1 := by omega
  have hrs : ∀ k, k < 24 → rsN c t may (n - 1 - s) s k = minN (fun to => t k to + rsN c t may (n - 1 - (s + 1)) (s + 1) to) kBIG 24 + c s k := fun k hk => by
    rw [e, rsN, h s (by omega) (by omega) k hk, if_pos rfl]
  have hhd : ∀ to, hdN c t (s + 1) to - c (s + 1) to = minN (fun fr => hdN c t s fr + t fr to) kBIG 24 := fun to => by
    rw [hdN]
    omega
  constructor
  · rintro ⟨k, hk, hle⟩
    have hc := cost_le_hd (c := c) (t := t) s k
    have hle2 : hdN c t s k - c s k + rsN c t may (n - 1 - s) s k ≤ v := hle
    rw [hrs k hk] at hle2
    obtain ⟨to, ht, h2⟩ := (minN_iff (f := fun to => t k to + rsN c t may (n - 1 - (s + 1)) (s + 1) to) (M := kBIG) (v := v - hdN c t s k) (n := 24) (by omega)).mp (by omega)
    have h2' : t k to + rsN c t may (n - 1 - (s + 1)) (s + 1) to ≤ v - hdN c t s k := h2
    refine ⟨to, ht, ?_⟩
    show hdN c t (s + 1) to - c (s + 1) to + rsN c t may (n - 1 - (s + 1)) (s + 1) to ≤ v
    rw [hhd to]
    have h3 : minN (fun fr => hdN c t s fr + t fr to) kBIG 24 ≤ hdN c t s k + t k to := minN_le (f := fun fr => hdN c t s fr + t fr to) hk
    omega
  · rintro ⟨to, ht, hle⟩
    have hle2 : hdN c t (s + 1) to - c (s + 1) to + rsN c t may (n - 1 - (s + 1)) (s + 1) to ≤ v := hle
    rw [hhd to] at hle2
    obtain ⟨k, hk, h2⟩ := (minN_iff (f := fun fr => hdN c t s fr + t fr to) (M := kBIG) (v := v - rsN c t may (n - 1 - (s + 1)) (s + 1) to) (n := 24) (by omega)).mp (by omega)
    have h2' : hdN c t s k + t k to ≤ v - rsN c t may (n - 1 - (s + 1)) (s + 1) to := h2
    refine ⟨k, hk, ?_⟩
    show hdN c t s k - c s k + rsN c t may (n - 1 - s) s k ≤ v
    rw [hrs k hk]
    have h3 : minN (fun to => t k to + rsN c t may (n - 1 - (s + 1)) (s + 1) to) kBIG 24 ≤ t k to + rsN c t may (n - 1 - (s + 1)) (s + 1) to := minN_le (f := fun to => t k to + rsN c t may (n - 1 - (s + 1)) (s + 1) to) ht
    have hc := cost_le_hd (c := c) (t := t) s k
    omega
theorem dN_all {c t : Nat → Nat → Nat} {may : Nat → Nat → Bool} {n sl : Nat} (h : ∀ s, s < n → s ≠ sl → ∀ k, k < 24 → may s k = true) (hl : sl < n) : ∀ s, s ≤ sl → dN c t may n 0 = dN c t may n s
  | 0, _ => rfl
  | s + 1, hs => (dN_all h hl s (by omega)).trans (dN_step h (by omega) hl)
theorem weigh_bar {n b y o sl : Nat} {P Wt : Nat → Nat} {may : Nat → Nat → Bool} (h : ∀ s, s < n → s ≠ sl → ∀ k, k < 24 → may s k = true) (hl : sl < n) : (if n = 0 then 0 else minN (fun k => rsS n b y o P Wt may 0 k) kBIG 24) = minN (fun k => if may sl k then thrN n b y o P Wt sl k else kBIG) kBIG 24 := by
  rw [if_neg (by omega)]
  have h0 : minN (fun k => rsS n b y o P Wt may 0 k) kBIG 24 = dN (costN P Wt) (turnN b y o) may n 0 := by
    unfold dN
    refine minN_congr fun k _ => ?_
    show rsN (costN P Wt) (turnN b y o) may (n - 1 - 0) 0 k = hdN (costN P Wt) (turnN b y o) 0 k - costN P Wt 0 k + rsN (costN P Wt) (turnN b y o) may (n - 1 - 0) 0 k
    rw [hdN]
    omega
  rw [h0, dN_all h hl sl (Nat.le_refl _)]
  unfold dN
  refine minN_congrM fun k hk => ?_
  by_cases e : may sl k = true
  · rw [if_pos e]
    refine congrArg (min · kBIG) ?_
    have h9 : ∀ s, sl + 1 ≤ s → s < n → ∀ k, k < 24 → may s k = true := fun s h1 h2 => h s h2 (by omega)
    have hr : rsN (costN P Wt) (turnN b y o) may (n - 1 - sl) sl k = tlN (costN P Wt) (turnN b y o) (n - 1 - sl) sl k := by
      cases hm : n - 1 - sl with
      | zero =>
        simp only [rsN, tlN]
        rw [e, if_pos rfl, Nat.zero_add]
      | succ m =>
        simp only [rsN, tlN]
        rw [e, if_pos rfl, minN_congr (g := fun to => turnN b y o k to + tlN (costN P Wt) (turnN b y o) m (sl + 1) to) (fun to ht => by rw [rsN_tl h9 m (sl + 1) to (Nat.le_refl _) (by omega) ht]), Nat.add_comm]
    rw [hr]
    have h1 := cost_le_hd (c := costN P Wt) (t := turnN b y o) sl k
    unfold thrN tlS
    omega
  · rw [if_neg e]
    have hr : rsN (costN P Wt) (turnN b y o) may (n - 1 - sl) sl k = kBIG := by
      cases hm : n - 1 - sl with
      | zero =>
        simp only [rsN]
        rw [if_neg e]
      | succ m =>
        simp only [rsN]
        rw [if_neg e]
    rw [hr]
    omega
theorem bit_one : ∀ q, q < 24 → ∀ k, k < 24 → (((((nI 1) <<< ((nI q) &&& 31)) >>> (nI k &&& 31)) &&& nI 1 = nI 1) ↔ k = q) := by decide +kernel
theorem bit_not : ∀ q, q < 24 → ∀ k, k < 24 → ((((((nI 1) <<< ((nI q) &&& 31)) ^^^ (-1)) >>> (nI k &&& 31)) &&& nI 1 = nI 1) ↔ ¬ k = q) := by decide +kernel
theorem may_other {n sl : Nat} {y9 : Int32} (hn : n ≤ 40) (hl : sl < n) : ∀ s, s < n → s ≠ sl → ∀ k, k < 24 → mayB (nI sl) y9 s k = true := fun s hs hne k _ => may_t (fun z => hne ((nI_eq (by omega) (by omega)).mp z))
theorem may_at {sl k : Nat} {y9 : Int32} : mayB (nI sl) y9 sl k = decide ((y9 >>> (nI k &&& 31)) &&& nI 1 = nI 1) := by unfold mayB; simp
theorem minN_only {x M q : Nat} (hx : x ≤ M) : ∀ {n : Nat}, minN (fun k => if k = q then x else M) M n = if q < n then x else M
  | 0 => by simp [minN]
  | n + 1 => by
    have ih := minN_only (q := q) hx (n := n)
    simp only [minN]
    rw [ih]
    by_cases e : q < n
    · rw [if_pos e, if_neg (by omega), if_pos (by omega)]; omega
    · rw [if_neg e]
      by_cases e2 : n = q
      · rw [if_pos e2, if_pos (by omega)]; omega
      · rw [if_neg e2, if_neg (by omega)]; omega
theorem weigh_thr {n b y o sl q : Nat} {P Wt : Nat → Nat} (hn : n ≤ 40) (hP : ∀ j, P j ≤ 99) (hW : ∀ j, Wt j ≤ 200) (hb : b ≤ 1000) (hy : y ≤ 1000) (ho : o ≤ 1000) (hl : sl < n) (hq : q < 24) : (if n = 0 then 0 else minN (fun k => rsS n b y o P Wt (mayB (nI sl) ((nI 1) <<< ((nI q) &&& 31))) 0 k) kBIG 24) = thrN n b y o P Wt sl q := by
  rw [weigh_bar (may_other hn hl) hl]
  have hle := kThr_le hn hP hW hb hy ho hl q
  have h9 : kBIG = 1000000000 := rfl
  rw [minN_congr (g := fun k => if k = q then thrN n b y o P Wt sl q else kBIG) (fun k hk => ?_), minN_only (by omega), if_pos hq]
  rw [may_at]
  by_cases e : k = q
  · rw [if_pos e, if_pos (by rw [decide_eq_true_eq]; exact (bit_one q hq k hk).mpr e), e]
  · rw [if_neg e, if_neg (by rw [decide_eq_true_eq]; exact fun z => e ((bit_one q hq k hk).mp z))]
theorem weigh_nxt {n b y o sl q : Nat} {P Wt : Nat → Nat} (hn : n ≤ 40) (hl : sl < n) (hq : q < 24) : (if n = 0 then 0 else minN (fun k => rsS n b y o P Wt (mayB (nI sl) (((nI 1) <<< ((nI q) &&& 31)) ^^^ (-1))) 0 k) kBIG 24) = nxN n b y o P Wt q sl := by
  rw [weigh_bar (may_other hn hl) hl]
  unfold nxN
  refine minN_congr fun k hk => ?_
  rw [may_at]
  by_cases e : k = q
  · rw [if_pos e, if_neg (by rw [decide_eq_true_eq]; exact fun z => (bit_not q hq k hk).mp z e)]
  · rw [if_neg e, if_pos (by rw [decide_eq_true_eq]; exact (bit_not q hq k hk).mpr e)]
/-! a walk that is begun can be ended -/
theorem le_sumN {f : Nat → Nat} : ∀ {n j : Nat}, j < n → f j ≤ sumN f n
  | 0, j, h => absurd h (Nat.not_lt_zero j)
  | n + 1, j, h => by
    simp only [sumN]
    by_cases e : j = n
    · subst e; omega
    · have := le_sumN (f := f) (n := n) (j := j) (by omega)
      omega
theorem selN_none {f g : Nat → Nat} {rest left : Nat} : ∀ {m : Nat}, m ≤ 24 → (selN f g rest left m).1 = 24 → sumN (fun k => if f k = rest then g k else 0) m + (selN f g rest left m).2 = left
  | 0, _, _ => by simp [sumN, selN]
  | m + 1, hm, h => by
    by_cases e : (selN f g rest left m).1 = 24
    · have ih := selN_none (m := m) (by omega) e
      simp only [sumN]
      by_cases e1 : f m = rest
      · by_cases e2 : (selN f g rest left m).2 < g m
        · rw [selN_hit e e1 e2] at h
          have : m = 24 := h
          omega
        · rw [selN_sub e e1 (by omega), if_pos e1]
          show _ + ((selN f g rest left m).2 - g m) = left
          omega
      · rw [selN_ne e e1, if_neg e1]
        show _ + (selN f g rest left m).2 = left
        omega
    · rw [selN_stay e 1] at h
      exact absurd h e
theorem selN_some {f g : Nat → Nat} {rest left : Nat} : ∀ {m : Nat}, (selN f g rest left m).1 ≠ 24 → (selN f g rest left m).1 < m ∧ f (selN f g rest left m).1 = rest ∧ (selN f g rest left m).2 < g (selN f g rest left m).1
  | 0, h => absurd rfl h
  | m + 1, h => by
    by_cases e : (selN f g rest left m).1 = 24
    · by_cases e1 : f m = rest
      · by_cases e2 : (selN f g rest left m).2 < g m
        · rw [selN_hit e e1 e2]
          exact ⟨Nat.lt_succ_self _, e1, e2⟩
        · rw [selN_sub e e1 (by omega)] at h
          exact absurd rfl h
      · rw [selN_ne e e1] at h
        exact absurd rfl h
    · have ih := selN_some (m := m) e
      rw [selN_stay e 1]
      exact ⟨by omega, ih.2⟩
theorem wyN_pos {c t : Nat → Nat → Nat} (hc : ∀ s k, c s k ≤ 237600) (ht : ∀ a b, t a b ≤ 8000) : ∀ m s k, m < 40 → 1 ≤ wyN c t m s k
  | 0, _, _, _ => Nat.le_refl _
  | m + 1, s, k, hm => by
    have hb : minN (fun to => t k to + tlN c t m (s + 1) to) kBIG 24 < kBIG := by
      have h1 := minN_le (f := fun to => t k to + tlN c t m (s + 1) to) (M := kBIG) (n := 24) (j := 0) (by decide)
      have h2 := tlN_le hc ht m (s + 1) 0
      have h3 := ht k 0
      have h4 : (m + 1) * 245600 ≤ 40 * 245600 := Nat.mul_le_mul_right _ (by omega)
      have h5 : kBIG = 1000000000 := rfl
      omega
    obtain ⟨to, h1, h2⟩ := minN_at hb
    have h3 := le_sumN (f := fun to => if t k to + tlN c t m (s + 1) to = minN (fun to => t k to + tlN c t m (s + 1) to) kBIG 24 then wyN c t m (s + 1) to else 0) h1
    have h4 := wyN_pos hc ht m (s + 1) to (by omega)
    have h5 : (if t k to + tlN c t m (s + 1) to = minN (fun to => t k to + tlN c t m (s + 1) to) kBIG 24 then wyN c t m (s + 1) to else 0) = wyN c t m (s + 1) to := if_pos h2.symm
    have h6 : kCAP = 1000000000000000000 := rfl
    simp only [wyN]
    rw [h5] at h3
    omega
theorem kFs_le {n b y o : Nat} {P Wt : Nat → Nat} {ls i : Nat} : ∀ s, (kFs n b y o P Wt ls i s).1 ≤ 24
  | 0 => Nat.le_refl _
  | s + 1 => by
    rw [kFs]
    split
    · exact Nat.le_refl _
    · exact selN_le (Nat.le_refl _)
theorem kFs_left {n b y o : Nat} {P Wt : Nat → Nat} {ls i : Nat} : ∀ s, (kFs n b y o P Wt ls i s).2 ≤ i
  | 0 => Nat.le_refl _
  | s + 1 => by
    have ih := kFs_left (n := n) (b := b) (y := y) (o := o) (P := P) (Wt := Wt) (ls := ls) (i := i) s
    rw [kFs]
    split
    · exact Nat.zero_le _
    · exact Nat.le_trans (selN_left _) ih
theorem kFs_no {n b y o : Nat} {P Wt : Nat → Nat} {ls i s : Nat} (h : (kFs n b y o P Wt ls i (s + 1)).1 = 24) : ∀ m, (kFs n b y o P Wt ls i (s + 1 + m)).1 = 24
  | 0 => h
  | m + 1 => by
    have ih := kFs_no h m
    show (kFs n b y o P Wt ls i (s + 1 + m + 1)).1 = 24
    rw [kFs, if_pos ⟨by omega, ih⟩]
/-- what is left is below the number of ways -/
theorem kFs_ways {n b y o : Nat} {P Wt : Nat → Nat} {ls i s : Nat} (h : (kFs n b y o P Wt ls i (s + 1)).1 ≠ 24) : (kFs n b y o P Wt ls i (s + 1)).2 < wyS n b y o P Wt s (kFs n b y o P Wt ls i (s + 1)).1 := by
  rw [kFs] at h ⊢
  by_cases e : s ≠ 0 ∧ (kFs n b y o P Wt ls i s).1 = 24
  · rw [if_pos e] at h
    exact absurd rfl h
  · rw [if_neg e] at h ⊢
    exact (selN_some h).2.2
theorem kFs_more {n b y o : Nat} {P Wt : Nat → Nat} {ls i s : Nat} (hs : s + 1 < n) (h : (kFs n b y o P Wt ls i (s + 1)).1 ≠ 24) : (kFs n b y o P Wt ls i (s + 1 + 1)).1 ≠ 24 := by
  have hw := kFs_ways h
  have hk : (kFs n b y o P Wt ls i (s + 1)).1 < 24 := Nat.lt_of_le_of_ne (kFs_le _) h
  rw [kFs, if_neg (fun z => h z.2)]
  generalize hq : (kFs n b y o P Wt ls i (s + 1)).1 = q at h hw hk
  generalize hf : (kFs n b y o P Wt ls i (s + 1)).2 = f at hw
  intro z
  rw [if_neg h] at z
  have hN := selN_none (Nat.le_refl _) z
  obtain ⟨m, hm⟩ : ∃ m, n - 1 - s = m + 1 := ⟨n - 1 - s - 1, by omega⟩
  have hm2 : n - 1 - (s + 1) = m := by omega
  have hr : tlS n b y o P Wt (s + 1 - 1) q - costN P Wt (s + 1 - 1) q = minN (fun to => turnN b y o q to + tlN (costN P Wt) (turnN b y o) m (s + 1) to) kBIG 24 := by
    rw [Nat.add_sub_cancel]
    unfold tlS
    rw [hm, tlN]
    omega
  have hwy : wyS n b y o P Wt s q ≤ sumN (fun k => if (if q = 24 then 0 else turnN b y o q k) + tlS n b y o P Wt (s + 1) k = tlS n b y o P Wt (s + 1 - 1) q - costN P Wt (s + 1 - 1) q then wyS n b y o P Wt (s + 1) k else 0) 24 := by
    rw [hr]
    unfold wyS
    rw [hm, wyN]
    refine Nat.le_trans (Nat.min_le_right _ _) (Nat.le_of_eq (sumN_congr fun k _ => ?_))
    unfold tlS
    rw [hm2, if_neg h]
  have : f < f := by
    refine Nat.lt_of_lt_of_le hw (Nat.le_trans hwy ?_)
    omega
  exact absurd this (Nat.lt_irrefl _)
theorem kFs_all {n b y o : Nat} {P Wt : Nat → Nat} {ls i : Nat} (h : (kFs n b y o P Wt ls i 1).1 ≠ 24) : ∀ s, s < n → (kFs n b y o P Wt ls i (s + 1)).1 ≠ 24
  | 0, _ => h
  | s + 1, hs => kFs_more hs (kFs_all h s (by omega))
theorem kFs_one {n b y o : Nat} {P Wt : Nat → Nat} (hn : n ≤ 40) (hP : ∀ j, P j ≤ 99) (hW : ∀ j, Wt j ≤ 200) (hb : b ≤ 1000) (hy : y ≤ 1000) (ho : o ≤ 1000) (h0 : n ≠ 0) : (kFs n b y o P Wt (lsN n b y o P Wt) 0 1).1 ≠ 24 := by
  intro z
  rw [kFs, if_neg (fun q => q.1 rfl)] at z
  have hN := selN_none (Nat.le_refl _) z
  have hl : lsN n b y o P Wt < kBIG := by
    have := lsN_le hn hP hW hb hy ho
    have h5 : kBIG = 1000000000 := rfl
    omega
  have e9 : lsN n b y o P Wt = minN (fun k => tlS n b y o P Wt 0 k) kBIG 24 := by unfold lsN; rw [if_neg h0]
  rw [e9] at hl
  obtain ⟨k, h1, h2⟩ := minN_at hl
  rw [← e9] at h2
  have h3 := le_sumN (f := fun k => if (if (kFs n b y o P Wt (lsN n b y o P Wt) 0 0).1 = 24 then 0 else turnN b y o (kFs n b y o P Wt (lsN n b y o P Wt) 0 0).1 k) + tlS n b y o P Wt 0 k = (if (kFs n b y o P Wt (lsN n b y o P Wt) 0 0).1 = 24 then lsN n b y o P Wt else tlS n b y o P Wt (0 - 1) (kFs n b y o P Wt (lsN n b y o P Wt) 0 0).1 - costN P Wt (0 - 1) (kFs n b y o P Wt (lsN n b y o P Wt) 0 0).1) then wyS n b y o P Wt 0 k else 0) h1
  have hf0 : (kFs n b y o P Wt (lsN n b y o P Wt) 0 0).1 = 24 := rfl
  have hf1 : (kFs n b y o P Wt (lsN n b y o P Wt) 0 0).2 = 0 := rfl
  simp only [hf0, hf1, if_true, Nat.zero_add] at h3 hN
  rw [if_pos h2.symm] at h3
  have h4 : 1 ≤ wyS n b y o P Wt 0 k := wyN_pos (costN_le hP hW) (turnN_le hb hy ho) _ _ _ (by omega)
  omega
/-- the first best walk's key -/
def fsN (n b y o : Nat) (P Wt : Nat → Nat) (s : Nat) : Nat := (kFs n b y o P Wt (lsN n b y o P Wt) 0 (s + 1)).1
theorem fsN_ne {n b y o : Nat} {P Wt : Nat → Nat} (hn : n ≤ 40) (hP : ∀ j, P j ≤ 99) (hW : ∀ j, Wt j ≤ 200) (hb : b ≤ 1000) (hy : y ≤ 1000) (ho : o ≤ 1000) {s : Nat} (hs : s < n) : fsN n b y o P Wt s ≠ 24 := kFs_all (kFs_one hn hP hW hb hy ho (by omega)) s hs
/-- the reference's object as it may be -/
def kMo (n b y o : Nat) (Wm Pm Rm Ym Km : Nat → Nat) : Prop := n ≤ 40 ∧ b ≤ 1000 ∧ y ≤ 1000 ∧ o ≤ 1000 ∧ (∀ j, Pm j ≤ 99) ∧ (∀ j, Wm j ≤ 200) ∧ (∀ j, Rm j ≤ 1000237600) ∧ (∀ j, Ym j ≤ 1000000000000000000) ∧ (∀ j, Km j ≤ 23)
