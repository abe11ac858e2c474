/-! steps of the loops that fill rows -/
theorem kSc1 {P Wt Sv : Nat → Nat} {sl i : Nat} (h : ∀ j, j < i → Sv (sl * 24 + j) = fitN P Wt sl j) : ∀ j, j < i + 1 → va_up Sv (sl * 24 + i) (fitN P Wt sl i) (sl * 24 + j) = fitN P Wt sl j := by
  intro j hj
  by_cases e : j = i
  · subst e; rw [va_up_self]
  · rw [va_up_ne _ _ (by omega)]
    exact h j (by omega)
theorem kSc2 {Sv Sc : Nat → Nat} {sl i v : Nat} (h : ∀ j, j < sl * 24 ∨ sl * 24 + 24 ≤ j → Sv j = Sc j) (hi : i < 24) : ∀ j, j < sl * 24 ∨ sl * 24 + 24 ≤ j → va_up Sv (sl * 24 + i) v j = Sc j := by
  intro j hj
  rw [va_up_ne _ _ (by omega)]
  exact h j hj
theorem kSc3 {P Wt Sv : Nat → Nat} {sl i : Nat} (h : ∀ j, j < i → Sv (sl * 24 + j) = costN P Wt sl j) (h2 : Sv (sl * 24 + i) = fitN P Wt sl i) : ∀ j, j < i + 1 → va_up Sv (sl * 24 + i) (gfit P Wt sl - Sv (sl * 24 + i)) (sl * 24 + j) = costN P Wt sl j := by
  intro j hj
  by_cases e : j = i
  · subst e; rw [va_up_self, h2]; rfl
  · rw [va_up_ne _ _ (by omega)]
    exact h j (by omega)
theorem kSc4 {P Wt Sv : Nat → Nat} {sl i v : Nat} (h : ∀ j, i ≤ j → j < 24 → Sv (sl * 24 + j) = fitN P Wt sl j) : ∀ j, i + 1 ≤ j → j < 24 → va_up Sv (sl * 24 + i) v (sl * 24 + j) = fitN P Wt sl j := by
  intro j h1 h2
  rw [va_up_ne _ _ (by omega)]
  exact h j (by omega) h2
/-- how many of the first m have the least of the first m, kCAP at most -/
def cntN (F G : Nat → Nat) (m : Nat) : Nat := min kCAP (sumN (fun j => if F j = minN F kBIG m then G j else 0) m)
theorem sumN_zero {f : Nat → Nat} : ∀ {n : Nat}, (∀ j, j < n → f j = 0) → sumN f n = 0
  | 0, _ => rfl
  | n + 1, h => by
    simp only [sumN]
    rw [sumN_zero (n := n) (fun j hj => h j (by omega)), h n (by omega)]
theorem cnt_lt {F G : Nat → Nat} {m : Nat} (h : F m < minN F kBIG m) (hG : G m ≤ kCAP) : G m = cntN F G (m + 1) := by
  have e : minN F kBIG (m + 1) = F m := by simp only [minN]; omega
  unfold cntN
  rw [e]
  simp only [sumN]
  rw [sumN_zero (n := m) (fun j hj => by
    have := minN_le (f := F) (M := kBIG) hj
    exact if_neg (by omega))]
  simp only [if_true]
  omega
theorem cnt_eq {F G : Nat → Nat} {m : Nat} (h : F m = minN F kBIG m) : min (cntN F G m + G m) kCAP = cntN F G (m + 1) := by
  have e : minN F kBIG (m + 1) = minN F kBIG m := by simp only [minN]; omega
  unfold cntN
  rw [e]
  simp only [sumN]
  rw [if_pos h]
  omega
theorem cnt_gt {F G : Nat → Nat} {m : Nat} (h : minN F kBIG m < F m) : cntN F G m = cntN F G (m + 1) := by
  have e : minN F kBIG (m + 1) = minN F kBIG m := by simp only [minN]; omega
  unfold cntN
  rw [e]
  simp only [sumN]
  rw [if_neg (by omega)]
  rfl
theorem min_lt {F : Nat → Nat} {m : Nat} (h : F m < minN F kBIG m) : F m = minN F kBIG (m + 1) := by simp only [minN]; omega
theorem min_ge {F : Nat → Nat} {m : Nat} (h : minN F kBIG m ≤ F m) : minN F kBIG m = minN F kBIG (m + 1) := by simp only [minN]; omega
theorem cntN_le (F G : Nat → Nat) (m : Nat) : cntN F G m ≤ kCAP := Nat.min_le_left _ _
theorem minN_lt31 (F : Nat → Nat) (m : Nat) : minN F kBIG m < 2 ^ 31 := Nat.lt_of_le_of_lt (minN_leM m) (by decide)
