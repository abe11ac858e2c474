/-! a walk told by its place among the best ones -/
def selN (f g : Nat → Nat) (rest left : Nat) : Nat → Nat × Nat
  | 0 => (24, left)
  | k + 1 => if (selN f g rest left k).1 = 24 then (if f k = rest then (if (selN f g rest left k).2 < g k then (k, (selN f g rest left k).2) else (24, (selN f g rest left k).2 - g k)) else (24, (selN f g rest left k).2)) else selN f g rest left k
theorem selN_le {f g : Nat → Nat} {rest left : Nat} : ∀ {k : Nat}, k ≤ 24 → (selN f g rest left k).1 ≤ 24
  | 0, _ => Nat.le_refl _
  | k + 1, h => by
    have ih := selN_le (f := f) (g := g) (rest := rest) (left := left) (k := k) (by omega)
    simp only [selN]
    split
    · split
      · split
        · show k ≤ 24; omega
        · exact Nat.le_refl _
      · exact Nat.le_refl _
    · exact ih
theorem selN_left {f g : Nat → Nat} {rest left : Nat} : ∀ (k : Nat), (selN f g rest left k).2 ≤ left
  | 0 => Nat.le_refl _
  | k + 1 => by
    have ih := selN_left (f := f) (g := g) (rest := rest) (left := left) k
    simp only [selN]
    split
    · split
      · split
        · exact ih
        · exact Nat.le_trans (Nat.sub_le _ _) ih
      · exact ih
    · exact ih
theorem selN_ne {f g : Nat → Nat} {rest left k : Nat} (h : (selN f g rest left k).1 = 24) (h1 : f k ≠ rest) : selN f g rest left (k + 1) = (24, (selN f g rest left k).2) := by
  simp only [selN]
  rw [if_pos h, if_neg h1]
theorem selN_hit {f g : Nat → Nat} {rest left k : Nat} (h : (selN f g rest left k).1 = 24) (h1 : f k = rest) (h2 : (selN f g rest left k).2 < g k) : selN f g rest left (k + 1) = (k, (selN f g rest left k).2) := by
  simp only [selN]
  rw [if_pos h, if_pos h1, if_pos h2]
theorem selN_sub {f g : Nat → Nat} {rest left k : Nat} (h : (selN f g rest left k).1 = 24) (h1 : f k = rest) (h2 : g k ≤ (selN f g rest left k).2) : selN f g rest left (k + 1) = (24, (selN f g rest left k).2 - g k) := by
  simp only [selN]
  rw [if_pos h, if_pos h1, if_neg (by omega)]
theorem selN_stay {f g : Nat → Nat} {rest left k : Nat} (h : (selN f g rest left k).1 ≠ 24) : ∀ m : Nat, selN f g rest left (k + m) = selN f g rest left k
  | 0 => rfl
  | m + 1 => by
    have ih := selN_stay h m
    show selN f g rest left (k + m + 1) = _
    rw [selN, ih, if_neg h]
def rstV (ls : Nat) (Sc Ta : Nat → Nat) (s bf : Nat) : Nat := if bf = 24 then ls else Ta ((s - 1) * 24 + bf) - Sc ((s - 1) * 24 + bf)
def tinV (Tu : Nat → Nat) (bf k : Nat) : Nat := if bf = 24 then 0 else Tu (bf * 24 + k)
def selS (ls : Nat) (Tu Sc Ta Wa : Nat → Nat) (s bf lf : Nat) (k : Nat) : Nat × Nat := selN (fun k => tinV Tu bf k + Ta (s * 24 + k)) (fun k => Wa (s * 24 + k)) (rstV ls Sc Ta s bf) lf k
def pthV (ls : Nat) (Tu Sc Ta Wa : Nat → Nat) (i : Nat) : Nat → Nat × Nat
  | 0 => (24, i)
  | s + 1 => if s ≠ 0 ∧ (pthV ls Tu Sc Ta Wa i s).1 = 24 then (24, 0) else selS ls Tu Sc Ta Wa s (pthV ls Tu Sc Ta Wa i s).1 (pthV ls Tu Sc Ta Wa i s).2 24
theorem pthV_le {ls : Nat} {Tu Sc Ta Wa : Nat → Nat} {i : Nat} : ∀ s : Nat, (pthV ls Tu Sc Ta Wa i s).1 ≤ 24
  | 0 => Nat.le_refl _
  | s + 1 => by
    simp only [pthV]
    split
    · exact Nat.le_refl _
    · exact selN_le (Nat.le_refl _)
theorem pthV_left {ls : Nat} {Tu Sc Ta Wa : Nat → Nat} {i : Nat} : ∀ s : Nat, (pthV ls Tu Sc Ta Wa i s).2 ≤ i
  | 0 => Nat.le_refl _
  | s + 1 => by
    have ih := pthV_left (ls := ls) (Tu := Tu) (Sc := Sc) (Ta := Ta) (Wa := Wa) (i := i) s
    simp only [pthV]
    split
    · exact Nat.zero_le _
    · exact Nat.le_trans (selN_left _) ih
theorem pthV_stick {ls : Nat} {Tu Sc Ta Wa : Nat → Nat} {i s : Nat} (h : (pthV ls Tu Sc Ta Wa i (s + 1)).1 = 24) : ∀ m : Nat, (pthV ls Tu Sc Ta Wa i (s + 1 + m)).1 = 24
  | 0 => h
  | m + 1 => by
    have ih := pthV_stick h m
    show (pthV ls Tu Sc Ta Wa i (s + 1 + m + 1)).1 = 24
    rw [pthV, if_pos ⟨by omega, ih⟩]
theorem up_le {F : Nat → Nat} {B k v : Nat} (h : ∀ j, F j ≤ B) (hv : v ≤ B) : ∀ j, va_up F k v j ≤ B := fun j => by
  by_cases e : j = k
  · rw [e, va_up_self]; exact hv
  · rw [va_up_ne _ _ e]; exact h j
theorem kD_neg {m : Nat} (h : m ≤ 1000) : nI m - nI 1 < 0 ↔ m = 0 := by
  by_cases e : m = 0
  · subst e
    exact ⟨fun _ => rfl, fun _ => by decide +kernel⟩
  · rw [pk_sub (by omega)]
    exact ⟨fun z => absurd z (nI_pos (by omega)), fun z => absurd z e⟩
theorem kID (a : Nat) : nI a + Int32.ofInt (-1) = nI a - nI 1 := by
  rw [Int32.sub_eq_add_neg]
  rfl
