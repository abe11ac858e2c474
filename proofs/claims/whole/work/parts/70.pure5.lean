/-! the reference's weighing: a row of slices in which one may be held to some keys -/
def rsN (c t : Nat → Nat → Nat) (may : Nat → Nat → Bool) : Nat → Nat → Nat → Nat
  | 0, s, k => if may s k then 0 + c s k else kBIG
  | m + 1, s, k => if may s k then minN (fun to => t k to + rsN c t may m (s + 1) to) kBIG 24 + c s k else kBIG
def ysN (c t : Nat → Nat → Nat) (may : Nat → Nat → Bool) : Nat → Nat → Nat → Nat
  | 0, s, k => if may s k then 1 else 0
  | m + 1, s, k => if may s k then cntN (fun to => t k to + rsN c t may m (s + 1) to) (fun to => ysN c t may m (s + 1) to) 24 else 0
def mayB (x y9 : Int32) (s k : Nat) : Bool := decide (¬ nI s = x) || decide ((y9 >>> (nI k &&& 31)) &&& nI 1 = nI 1)
def rsS (n b y o : Nat) (P Wt : Nat → Nat) (may : Nat → Nat → Bool) (s k : Nat) : Nat := rsN (costN P Wt) (turnN b y o) may (n - 1 - s) s k
def ysS (n b y o : Nat) (P Wt : Nat → Nat) (may : Nat → Nat → Bool) (s k : Nat) : Nat := ysN (costN P Wt) (turnN b y o) may (n - 1 - s) s k
def kRs (n b y o : Nat) (P Wt : Nat → Nat) (may : Nat → Nat → Bool) (Rv Yv : Nat → Nat) (m : Nat) : Prop := ∀ s, m ≤ s → s < n → ∀ k, k < 24 → Rv (s * 24 + k) = rsS n b y o P Wt may s k ∧ Yv (s * 24 + k) = ysS n b y o P Wt may s k
theorem rsN_le {c t : Nat → Nat → Nat} {may : Nat → Nat → Bool} (hc : ∀ s k, c s k ≤ 237600) : ∀ m s k, rsN c t may m s k ≤ 1000237600
  | 0, s, k => by
    have := hc s k
    have h9 : kBIG = 1000000000 := rfl
    simp only [rsN]
    split <;> omega
  | m + 1, s, k => by
    have h1 := hc s k
    have h2 := minN_leM (f := fun to => t k to + rsN c t may m (s + 1) to) (M := kBIG) 24
    have h9 : kBIG = 1000000000 := rfl
    simp only [rsN]
    split <;> omega
theorem ysN_le {c t : Nat → Nat → Nat} {may : Nat → Nat → Bool} : ∀ m s k, ysN c t may m s k ≤ kCAP
  | 0, s, k => by
    simp only [ysN]
    split <;> decide
  | m + 1, s, k => by
    simp only [ysN]
    split
    · exact cntN_le _ _ _
    · exact Nat.zero_le _
theorem cntN_congr {F F2 G G2 : Nat → Nat} {m : Nat} (h : ∀ j, j < m → F j = F2 j ∧ G j = G2 j) : cntN F G m = cntN F2 G2 m := by
  unfold cntN
  rw [minN_congr (fun j hj => (h j hj).1)]
  refine congrArg (min kCAP) (sumN_congr fun j hj => ?_)
  rw [(h j hj).1, (h j hj).2]
/-- the last slice -/
theorem rs_last {n b y o : Nat} {P Wt : Nat → Nat} {may : Nat → Nat → Bool} {s k : Nat} (h : s = n - 1) : rsS n b y o P Wt may s k = (if may s k then 0 + costN P Wt s k else kBIG) ∧ ysS n b y o P Wt may s k = (if may s k then 1 else 0) := by
  unfold rsS ysS
  rw [show n - 1 - s = 0 by omega]
  exact ⟨rfl, rfl⟩
/-- another one -/
theorem rs_more {n b y o : Nat} {P Wt Tm Rw Yw : Nat → Nat} {may : Nat → Nat → Bool} {s k : Nat} (hT : kTuOk b y o Tm) (hs : s < n) (h : s ≠ n - 1) (hk : k < 24) (hR : kRs n b y o P Wt may Rw Yw (s + 1)) :
    rsS n b y o P Wt may s k = (if may s k then minN (fun to => Tm (k * 24 + to) + Rw ((s + 1) * 24 + to)) kBIG 24 + costN P Wt s k else kBIG) ∧ ysS n b y o P Wt may s k = (if may s k then cntN (fun to => Tm (k * 24 + to) + Rw ((s + 1) * 24 + to)) (fun to => Yw ((s + 1) * 24 + to)) 24 else 0) := by
  obtain ⟨m, hm⟩ : ∃ m, n - 1 - s = m + 1 := ⟨n - 1 - s - 1, by omega⟩
  have hm2 : n - 1 - (s + 1) = m := by omega
  have hF : ∀ to, to < 24 → Tm (k * 24 + to) + Rw ((s + 1) * 24 + to) = turnN b y o k to + rsN (costN P Wt) (turnN b y o) may m (s + 1) to := fun to ht => by
    rw [hT.at hk ht, (hR (s + 1) (Nat.le_refl _) (by omega) to ht).1]
    unfold rsS
    rw [hm2]
  have hG : ∀ to, to < 24 → Yw ((s + 1) * 24 + to) = ysN (costN P Wt) (turnN b y o) may m (s + 1) to := fun to ht => by
    rw [(hR (s + 1) (Nat.le_refl _) (by omega) to ht).2]
    unfold ysS
    rw [hm2]
  unfold rsS ysS
  rw [hm, rsN, ysN, minN_congr hF, cntN_congr (fun j hj => ⟨hF j hj, hG j hj⟩)]
  exact ⟨rfl, rfl⟩
theorem kRs.put {n b y o : Nat} {P Wt : Nat → Nat} {may : Nat → Nat → Bool} {Rw Yw : Nat → Nat} {m k v x : Nat} (hR : kRs n b y o P Wt may Rw Yw (m + 1)) (hk : k < 24) : kRs n b y o P Wt may (va_up Rw (m * 24 + k) v) (va_up Yw (m * 24 + k) x) (m + 1) := by
  intro s h1 h2 q hq
  rw [va_up_ne _ _ (by omega), va_up_ne _ _ (by omega)]
  exact hR s h1 h2 q hq
theorem kRs.row {n b y o : Nat} {P Wt : Nat → Nat} {may : Nat → Nat → Bool} {Rw Yw : Nat → Nat} {m : Nat} (hR : kRs n b y o P Wt may Rw Yw (m + 1)) (h1 : ∀ k, k < 24 → Rw (m * 24 + k) = rsS n b y o P Wt may m k) (h2 : ∀ k, k < 24 → Yw (m * 24 + k) = ysS n b y o P Wt may m k) : kRs n b y o P Wt may Rw Yw m := by
  intro s g1 g2 k hk
  by_cases e : s = m
  · subst e; exact ⟨h1 k hk, h2 k hk⟩
  · exact hR s (by omega) g2 k hk
theorem rsS_le {n b y o : Nat} {P Wt : Nat → Nat} {may : Nat → Nat → Bool} (hP : ∀ j, P j ≤ 99) (hW : ∀ j, Wt j ≤ 200) (s k : Nat) : rsS n b y o P Wt may s k ≤ 1000237600 := rsN_le (costN_le hP hW) _ _ _
theorem ysS_le (n b y o : Nat) (P Wt : Nat → Nat) (may : Nat → Nat → Bool) (s k : Nat) : ysS n b y o P Wt may s k ≤ 1000000000000000000 := ysN_le _ _ _
theorem kPrev {Cv : Nat → Nat} {F2 : Nat → Nat → Nat} {s i v : Nat} (h : ∀ z, z < s → ∀ k, k < 24 → Cv (z * 24 + k) = F2 z k) (hi : i < 24) : ∀ z, z < s → ∀ k, k < 24 → va_up Cv (s * 24 + i) v (z * 24 + k) = F2 z k := by
  intro z hz k hk
  rw [va_up_ne _ _ (by omega)]
  exact h z hz k hk
theorem kPrevS {Cv : Nat → Nat} {F2 : Nat → Nat → Nat} {s : Nat} (h : ∀ z, z < s → ∀ k, k < 24 → Cv (z * 24 + k) = F2 z k) (h2 : ∀ k, k < 24 → Cv (s * 24 + k) = F2 s k) : ∀ z, z < s + 1 → ∀ k, k < 24 → Cv (z * 24 + k) = F2 z k := by
  intro z hz k hk
  by_cases e : z = s
  · subst e; exact h2 k hk
  · exact h z (by omega) k hk
theorem kTuS2 {b y o : Nat} {Tv : Nat → Nat} {i : Nat} (h : ∀ j, j < i → Tv j = turnN b y o (j / 24) (j % 24)) : ∀ j, j < i + 1 → va_up Tv i (turnN b y o (i / 24) (i % 24)) j = turnN b y o (j / 24) (j % 24) := by
  intro j hj
  by_cases e : j = i
  · subst e; rw [va_up_self]
  · rw [va_up_ne _ _ e]; exact h j (by omega)
theorem cnt_cap {F G : Nat → Nat} {m : Nat} (h : F m = minN F kBIG m) (hc : 1000000000000000000 < cntN F G m + G m) : 1000000000000000000 = cntN F G (m + 1) := by
  rw [← cnt_eq (F := F) (G := G) h]
  have : kCAP = 1000000000000000000 := rfl
  omega
theorem cnt_sum {F G : Nat → Nat} {m : Nat} (h : F m = minN F kBIG m) (hc : cntN F G m + G m ≤ 1000000000000000000) : cntN F G m + G m = cntN F G (m + 1) := by
  rw [← cnt_eq (F := F) (G := G) h]
  have : kCAP = 1000000000000000000 := rfl
  omega
theorem may_t {x y9 : Int32} {s k : Nat} (h : ¬ nI s = x) : mayB x y9 s k = true := by unfold mayB; simp [h]
theorem may_b {x y9 : Int32} {s k : Nat} (h : (y9 >>> (nI k &&& 31)) &&& nI 1 = nI 1) : mayB x y9 s k = true := by unfold mayB; simp [h]
theorem may_f {x y9 : Int32} {s k : Nat} (h : nI s = x) (h2 : ¬ (y9 >>> (nI k &&& 31)) &&& nI 1 = nI 1) : mayB x y9 s k = false := by unfold mayB; simp [h, h2]
