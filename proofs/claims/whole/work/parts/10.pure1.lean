/-! what the document's words mean, in Nat: sums, fits, costs, places, turns, tails, ways, heads -/
def sumN (f : Nat → Nat) : Nat → Nat
  | 0 => 0
  | n + 1 => sumN f n + f n
def maxN (f : Nat → Nat) : Nat → Nat
  | 0 => 0
  | n + 1 => max (maxN f n) (f n)
def minN (f : Nat → Nat) (M : Nat) : Nat → Nat
  | 0 => M
  | n + 1 => min (minN f M n) (f n)
def numX (p k : Nat) : Nat := k / 12 * 12 + (p + 12 - k % 12) % 12
def fitN (P Wt : Nat → Nat) (s k : Nat) : Nat := sumN (fun p => Wt (s * 12 + p) * P (numX p k)) 12
def gfit (P Wt : Nat → Nat) (s : Nat) : Nat := maxN (fun k => fitN P Wt s k) 24
def costN (P Wt : Nat → Nat) (s k : Nat) : Nat := gfit P Wt s - fitN P Wt s k
def plc (k : Nat) : Nat := 7 * (if k / 12 = 0 then k % 12 else k % 12 + 3) % 12
def dst (a b : Nat) : Nat := if b ≤ a then a - b else b - a
def apt (f t : Nat) : Nat := min (dst (plc f) (plc t)) (12 - dst (plc f) (plc t))
def turnN (b y o f t : Nat) : Nat := if f = t then 0 else b + y * apt f t + (if f / 12 = t / 12 then 0 else o)
/-- the number above all costs that the class uses -/
def kBIG : Nat := 1000000000
def kCAP : Nat := 1000000000000000000
def tlN (c t : Nat → Nat → Nat) : Nat → Nat → Nat → Nat
  | 0, s, k => c s k
  | m + 1, s, k => c s k + minN (fun to => t k to + tlN c t m (s + 1) to) kBIG 24
def wyN (c t : Nat → Nat → Nat) : Nat → Nat → Nat → Nat
  | 0, _, _ => 1
  | m + 1, s, k => min kCAP (sumN (fun to => if t k to + tlN c t m (s + 1) to = minN (fun to => t k to + tlN c t m (s + 1) to) kBIG 24 then wyN c t m (s + 1) to else 0) 24)
def hdN (c t : Nat → Nat → Nat) : Nat → Nat → Nat
  | 0, k => c 0 k
  | s + 1, k => c (s + 1) k + minN (fun fr => hdN c t s fr + t fr k) kBIG 24
theorem sumN_le {f : Nat → Nat} {B : Nat} (h : ∀ j, f j ≤ B) : ∀ n, sumN f n ≤ n * B
  | 0 => by simp [sumN]
  | n + 1 => by
    have h1 := sumN_le h n
    have h2 := h n
    simp only [sumN, Nat.succ_mul]
    omega
theorem maxN_le {f : Nat → Nat} {B : Nat} (h : ∀ j, f j ≤ B) : ∀ n, maxN f n ≤ B
  | 0 => by simp [maxN]
  | n + 1 => by
    have h1 := maxN_le h n
    have h2 := h n
    simp only [maxN]
    omega
theorem le_maxN {f : Nat → Nat} : ∀ {n j : Nat}, j < n → f j ≤ maxN f n
  | 0, j, h => absurd h (Nat.not_lt_zero j)
  | n + 1, j, h => by
    simp only [maxN]
    by_cases e : j = n
    · subst e; omega
    · have := le_maxN (f := f) (n := n) (j := j) (by omega)
      omega
theorem minN_le {f : Nat → Nat} {M : Nat} : ∀ {n j : Nat}, j < n → minN f M n ≤ f j
  | 0, j, h => absurd h (Nat.not_lt_zero j)
  | n + 1, j, h => by
    simp only [minN]
    by_cases e : j = n
    · subst e; omega
    · have := minN_le (f := f) (M := M) (n := n) (j := j) (by omega)
      omega
theorem minN_leM {f : Nat → Nat} {M : Nat} : ∀ n : Nat, minN f M n ≤ M
  | 0 => Nat.le_refl _
  | n + 1 => by
    have := minN_leM (f := f) (M := M) n
    simp only [minN]
    omega
theorem minN_at {f : Nat → Nat} {M : Nat} : ∀ {n : Nat}, minN f M n < M → ∃ j, j < n ∧ minN f M n = f j
  | 0, h => absurd h (Nat.lt_irrefl _)
  | n + 1, h => by
    simp only [minN] at h ⊢
    by_cases e : minN f M n ≤ f n
    · have e1 : min (minN f M n) (f n) = minN f M n := Nat.min_eq_left e
      rw [e1] at h ⊢
      obtain ⟨j, hj, he⟩ := minN_at h
      exact ⟨j, by omega, he⟩
    · exact ⟨n, by omega, by omega⟩
theorem minN_congr {f g : Nat → Nat} {M : Nat} : ∀ {n : Nat}, (∀ j, j < n → f j = g j) → minN f M n = minN g M n
  | 0, _ => rfl
  | n + 1, h => by
    simp only [minN]
    rw [minN_congr (n := n) (fun j hj => h j (by omega)), h n (by omega)]
theorem sumN_congr {f g : Nat → Nat} : ∀ {n : Nat}, (∀ j, j < n → f j = g j) → sumN f n = sumN g n
  | 0, _ => rfl
  | n + 1, h => by
    simp only [sumN]
    rw [sumN_congr (n := n) (fun j hj => h j (by omega)), h n (by omega)]
theorem maxN_congr {f g : Nat → Nat} : ∀ {n : Nat}, (∀ j, j < n → f j = g j) → maxN f n = maxN g n
  | 0, _ => rfl
  | n + 1, h => by
    simp only [maxN]
    rw [maxN_congr (n := n) (fun j hj => h j (by omega)), h n (by omega)]
theorem fitN_le {P Wt : Nat → Nat} (hP : ∀ j, P j ≤ 99) (hW : ∀ j, Wt j ≤ 200) (s k : Nat) : fitN P Wt s k ≤ 237600 := by
  have h := sumN_le (f := fun p => Wt (s * 12 + p) * P (numX p k)) (B := 200 * 99) (fun j => Nat.mul_le_mul (hW _) (hP _)) 12
  unfold fitN
  omega
theorem gfit_le {P Wt : Nat → Nat} (hP : ∀ j, P j ≤ 99) (hW : ∀ j, Wt j ≤ 200) (s : Nat) : gfit P Wt s ≤ 237600 := maxN_le (fun k => fitN_le hP hW s k) 24
theorem costN_le {P Wt : Nat → Nat} (hP : ∀ j, P j ≤ 99) (hW : ∀ j, Wt j ≤ 200) (s k : Nat) : costN P Wt s k ≤ 237600 := Nat.le_trans (Nat.sub_le _ _) (gfit_le hP hW s)
theorem plc_lt (k : Nat) : plc k < 12 := Nat.mod_lt _ (by decide)
theorem apt_le (f t : Nat) : apt f t ≤ 6 := by
  have h1 := plc_lt f
  have h2 := plc_lt t
  unfold apt dst
  split <;> omega
theorem turnN_le {b y o : Nat} (hb : b ≤ 1000) (hy : y ≤ 1000) (ho : o ≤ 1000) (f t : Nat) : turnN b y o f t ≤ 8000 := by
  have h := Nat.mul_le_mul hy (apt_le f t)
  unfold turnN
  split
  · omega
  · split <;> omega
theorem numX_lt {p k : Nat} (hk : k < 24) : numX p k < 24 := by
  unfold numX
  omega
theorem tlN_le {c t : Nat → Nat → Nat} (hc : ∀ s k, c s k ≤ 237600) (ht : ∀ a b, t a b ≤ 8000) : ∀ (m s k : Nat), tlN c t m s k ≤ (m + 1) * 245600
  | 0, s, k => by
    have := hc s k
    simp only [tlN]
    omega
  | m + 1, s, k => by
    have h1 := hc s k
    have h2 := ht k 0
    have h3 := tlN_le hc ht m (s + 1) 0
    have h4 := minN_le (f := fun to => t k to + tlN c t m (s + 1) to) (M := kBIG) (n := 24) (j := 0) (by decide)
    simp only [tlN]
    omega
theorem hdN_le {c t : Nat → Nat → Nat} (hc : ∀ s k, c s k ≤ 237600) (ht : ∀ a b, t a b ≤ 8000) : ∀ (s k : Nat), hdN c t s k ≤ (s + 1) * 245600
  | 0, k => by
    have := hc 0 k
    simp only [hdN]
    omega
  | s + 1, k => by
    have h1 := hc (s + 1) k
    have h2 := ht 0 k
    have h3 := hdN_le hc ht s 0
    have h4 := minN_le (f := fun fr => hdN c t s fr + t fr k) (M := kBIG) (n := 24) (j := 0) (by decide)
    simp only [hdN]
    omega
theorem wyN_le (c t : Nat → Nat → Nat) : ∀ (m s k : Nat), wyN c t m s k ≤ kCAP
  | 0, s, k => by simp only [wyN]; decide
  | m + 1, s, k => Nat.min_le_left _ _
