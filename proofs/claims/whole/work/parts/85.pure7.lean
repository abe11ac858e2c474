/-! the class's answers are the reference's -/
theorem k_and31 (x : Int32) : ∃ j, j < 32 ∧ x &&& nI 31 = nI j := by
  refine ⟨(x.toBitVec &&& 31#32).toNat, ?_, ?_⟩
  · rw [BitVec.toNat_and]
    exact Nat.lt_of_le_of_lt Nat.and_le_right (by decide)
  · refine Int32.toBitVec_inj.mp ?_
    rw [Int32.toBitVec_and]
    show x.toBitVec &&& 31#32 = BitVec.ofNat 32 (x.toBitVec &&& 31#32).toNat
    rw [BitVec.ofNat_toNat, BitVec.setWidth_eq]
theorem nJ {a b : Nat} (e : nI a = nI b) (ha : a ≤ 1000000) (hb : b ≤ 1000000) : a = b := (nI_eq (by omega) (by omega)).mp e
theorem ok_tails {b y o n ls bc hk : Nat} {P Wt Tu Sc Ta Wa He Fk Pk : Nat → Nat} (h : kOk b y o n ls bc 1 hk P Wt Tu Sc Ta Wa He Fk Pk) : kTails n b y o P Wt ls bc Tu Sc Ta Wa Fk := by
  obtain ⟨H1, HP, HW, Hb, Hy, Ho, Htk, Hhk, Hls, HTa, HWa, HHe, HFk, HPk, HK, HH⟩ := h
  exact HK (by decide)
theorem ok_ls {b y o n ls bc hk : Nat} {P Wt Tu Sc Ta Wa He Fk Pk : Nat → Nat} (h : kOk b y o n ls bc 1 hk P Wt Tu Sc Ta Wa He Fk Pk) : ls = lsN n b y o P Wt := by
  obtain ⟨-, -, h0, h1, -⟩ := ok_tails h
  unfold lsN
  by_cases e : n = 0
  · rw [if_pos e]; exact (h0 e).1
  · rw [if_neg e]; exact (h1 e).1
theorem ok_bc {b y o n ls bc hk : Nat} {P Wt Tu Sc Ta Wa He Fk Pk : Nat → Nat} (h : kOk b y o n ls bc 1 hk P Wt Tu Sc Ta Wa He Fk Pk) : bc = bcN n b y o P Wt := by
  have hl := ok_ls h
  obtain ⟨-, -, h0, h1, -⟩ := ok_tails h
  unfold bcN
  by_cases e : n = 0
  · rw [if_pos e]; exact (h0 e).2
  · rw [if_neg e, (h1 e).2]
    refine congrArg (min kCAP) (sumN_congr fun k _ => ?_)
    unfold bcF
    rw [← hl, (h1 e).1]
theorem ok_fk {b y o n ls bc hk : Nat} {P Wt Tu Sc Ta Wa He Fk Pk : Nat → Nat} (h : kOk b y o n ls bc 1 hk P Wt Tu Sc Ta Wa He Fk Pk) : ∀ s, s < n → Fk s = fsN n b y o P Wt s := by
  have hl := ok_ls h
  have ht := ok_tails h
  obtain ⟨H1, HP, HW, Hb, Hy, Ho, -⟩ := h
  intro s hs
  have h5 := ht.2.2.2.2 s hs
  rw [hl] at h5
  exact h5 (fsN_ne H1 HP HW Hb Hy Ho hs)
theorem chN_congr {F F2 : Nat → Nat} : ∀ {m : Nat}, (∀ j, j < m → F j = F2 j) → chN F m = chN F2 m
  | 0, _ => rfl
  | m + 1, h => by
    by_cases e : m = 0
    · subst e; rfl
    · rw [chN_at e, chN_at e, chN_congr (m := m) (fun j hj => h j (by omega)), h m (by omega), h (m - 1) (by omega)]
theorem chN_up {F : Nat → Nat} {a : Nat} : ∀ d, chN F a ≤ chN F (a + d)
  | 0 => Nat.le_refl _
  | d + 1 => by
    have ih := chN_up (F := F) (a := a) d
    by_cases e : a + d = 0
    · have e1 : a = 0 := by omega
      have e2 : d = 0 := by omega
      subst e1; subst e2
      exact Nat.zero_le _
    · show chN F a ≤ chN F (a + d + 1)
      rw [chN_at e]
      omega
theorem chN_lt {F : Nat → Nat} {s m : Nat} (h1 : 1 ≤ s) (hs : s < m) (hc : F s ≠ F (s - 1)) : chN F s < chN F m := by
  have h2 := chN_up (F := F) (a := s + 1) (m - (s + 1))
  rw [show s + 1 + (m - (s + 1)) = m by omega, chN_at (by omega), if_neg hc] at h2
  omega
theorem ch_agree {F Kv : Nat → Nat} {n q : Nat} {r1 r2 : Int32} (hFK : ∀ j, j < n → F j = Kv j) (h1 : (∃ s, 1 ≤ s ∧ s < n ∧ F s ≠ F (s - 1) ∧ chN F s = q ∧ r1 = nI s) ∨ (chN F n ≤ q ∧ r1 = -1)) (h2 : (∃ s, 1 ≤ s ∧ s < n ∧ Kv s ≠ Kv (s - 1) ∧ chN Kv s = q ∧ r2 = nI s) ∨ (chN Kv n ≤ q ∧ r2 = -1)) : r1 = r2 := by
  rcases h1 with ⟨s, a1, a2, a3, a4, rfl⟩ | ⟨a1, rfl⟩
  · rw [hFK s a2, hFK (s - 1) (by omega)] at a3
    rw [chN_congr (F2 := Kv) (fun j hj => hFK j (by omega))] at a4
    rcases h2 with ⟨s2, b1, b2, b3, b4, rfl⟩ | ⟨b1, rfl⟩
    · rcases Nat.lt_trichotomy s s2 with z | z | z
      · have := chN_lt a1 z a3
        omega
      · rw [z]
      · have := chN_lt b1 z b3
        omega
    · have := chN_lt a1 a2 a3
      omega
  · rw [chN_congr (F2 := Kv) (fun j hj => hFK j hj)] at a1
    rcases h2 with ⟨s2, b1, b2, b3, b4, rfl⟩ | ⟨b1, rfl⟩
    · have := chN_lt b1 b2 b3
      omega
    · rfl
theorem w_agree {W1 W2 W0 : Nat → Nat} {n : Nat} (a1 : ∀ j, j < 12 → W1 (n * 12 + j) = 0) (a2 : ∀ j, j < n * 12 ∨ n * 12 + 12 ≤ j → W1 j = W0 j) (b1 : ∀ j, j < 12 → W2 (n * 12 + j) = 0) (b2 : ∀ j, j < n * 12 ∨ n * 12 + 12 ≤ j → W2 j = W0 j) : W2 = W1 := by
  funext j
  by_cases e : j < n * 12 ∨ n * 12 + 12 ≤ j
  · rw [a2 j e, b2 j e]
  · have h1 := a1 (j - n * 12) (by omega)
    have h2 := b1 (j - n * 12) (by omega)
    rw [show n * 12 + (j - n * 12) = j by omega] at h1 h2
    rw [h1, h2]
theorem cpy_agree {P Pz : Nat → Nat} (h : ∀ j, j < 24 → Pz j = kFP j) : ∀ j, j < 24 → Pz j = va_cpy kFP P 0 0 24 j := by
  intro j hj
  rw [h j hj]
  unfold va_cpy
  rw [if_pos (by omega), Nat.zero_add, Nat.sub_zero]
theorem k_gt4 {t L : Nat} (hL : L ≤ 2048) (ht : 4 * t ≤ 2052) : nI L - nI 4 < nI (4 * t) ↔ L < 4 * t + 4 := by
  by_cases e : 4 ≤ L
  · rw [pk_sub e, nI_ltI (by omega) (by omega)]
    omega
  · have hz : ∀ L, L < 4 → (nI L - nI 4).toInt < 0 := by decide +kernel
    have h1 := hz L (by omega)
    refine ⟨fun _ => by omega, fun _ => Int32.lt_iff_toInt_lt.mpr ?_⟩
    rw [nI_toInt (by omega)]
    omega
theorem ifc (a b : Nat) : (if a = b then (0 : Nat) else 1) = (if b = a then 0 else 1) := by
  by_cases e : a = b
  · rw [if_pos e, if_pos e.symm]
  · rw [if_neg e, if_neg (fun z => e z.symm)]
theorem lJ {a b : Nat} (e : lN a = lN b) (ha : a < 1000000000000000000) (hb : b < 1000000000000000000) : a = b := (pk_lEQ (by omega) (by omega)).mp e
