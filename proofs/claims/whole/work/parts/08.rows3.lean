theorem k_max {a b : Nat} (ha : a < 2 ^ 31) (hb : b < 2 ^ 31) : (if nI a < nI b then nI b else nI a) = nI (max a b) := by
  by_cases h : a < b
  · rw [if_pos ((nI_ltI ha hb).mpr h), Nat.max_eq_right (Nat.le_of_lt h)]
  · rw [if_neg (fun z => h ((nI_ltI ha hb).mp z)), Nat.max_eq_left (Nat.not_lt.mp h)]
theorem k_min {a b : Nat} (ha : a < 2 ^ 31) (hb : b < 2 ^ 31) : (if nI b < nI a then nI b else nI a) = nI (min a b) := by
  by_cases h : b < a
  · rw [if_pos ((nI_ltI hb ha).mpr h), Nat.min_eq_right (Nat.le_of_lt h)]
  · rw [if_neg (fun z => h ((nI_ltI hb ha).mp z)), Nat.min_eq_left (Nat.not_lt.mp h)]
theorem k_minL {a b : Nat} (ha : a < 2 ^ 63) (hb : b < 2 ^ 63) : (if lN b < lN a then lN b else lN a) = lN (min a b) := by
  by_cases h : b < a
  · rw [if_pos ((pk_lLT hb ha).mpr h), Nat.min_eq_right (Nat.le_of_lt h)]
  · rw [if_neg (fun z => h ((pk_lLT hb ha).mp z)), Nat.min_eq_left (Nat.not_lt.mp h)]
theorem k_abs {a b : Nat} (ha : a < 2 ^ 30) (hb : b < 2 ^ 30) : (if 0 ≤ nI a - nI b then nI a - nI b else 0 - (nI a - nI b)) = nI (if b ≤ a then a - b else b - a) := by
  by_cases h : b ≤ a
  · rw [if_pos h, pk_sub h, if_pos (nI_pos' (by omega))]
  · have h1 : nI a - nI b < 0 := pk_sneg hb (by omega)
    have h2 : ¬ (0 : Int32) ≤ nI a - nI b := fun z => by
      have z1 := Int32.le_iff_toInt_le.mp z
      have z2 := Int32.lt_iff_toInt_lt.mp h1
      omega
    rw [if_neg h, if_neg h2, ← pk_sub (a := b) (b := a) (by omega)]
    have e : (0 : Int32) - (nI a - nI b) = nI b - nI a := by
      first
        | (rw [Int32.zero_sub, Int32.neg_sub]; done)
        | grind
        | (apply Int32.toBitVec_inj.mp; simp only [Int32.toBitVec_sub]; apply BitVec.eq_of_toNat_eq; simp [BitVec.toNat_sub]; omega)
    exact e
section KR4
variable {E : KE} {R : Room} {G : KG} {cc : ByteArray} {nL : Nat} {own : String} {cells slots : Nat} {ws : va_W} {lv : List (Nat × Value)} {pc : Nat} {st : List Value}
theorem kx_mmax (C : kc E G cc nL own) {a b index : Nat} (ha : a < 2 ^ 31) (hb2 : b < 2 ^ 31) (h1 : Cond.methodLink own index Lib.Math.max.name ∈ kTb) (h2 : Cond.static Lib.Math.max.name ∈ kTb) (h3 : Cond.initialized "java/lang/Math" ∈ kTb) (h4 : Cond.code Lib.Math.max.name Lib.Math.max.code 2 (some .int) ∈ kTb) (hfr : 1 ≤ R.frames) (hlo : (st.map fun v => v.category).sum + 13 ≤ R.locals) (hc : cells ≤ R.cells) (hs : slots ≤ R.slots) (hd : decode cc pc = .ok (.invokestatic index, 3)) (kk : kx E R G nL cells slots ws lv (pc + 3) (.int (nI (max a b)) :: st)) : kx E R G nL cells slots ws lv (pc) (.int (nI b) :: .int (nI a) :: st) := by
  obtain ⟨p, e, s, m, args, below, meth, c, A, Q⟩ := G
  obtain ⟨hx, hb, hml, hown, hts, hK, hA, hN, ham, hNs, hlk⟩ := C
  intro H locs ls hP hD hS hl
  refine va_mmax hx hb (hml.trans hl.1.symm) hown (hts _ h1) (hts _ h2) (hts _ h3) (hts _ h4) hfr hlo hc hs hd ?_
  rw [k_max ha hb2]
  exact (kk H locs ls hP hD hS hl)
theorem kx_mmin (C : kc E G cc nL own) {a b index : Nat} (ha : a < 2 ^ 31) (hb2 : b < 2 ^ 31) (h1 : Cond.methodLink own index Lib.Math.min.name ∈ kTb) (h2 : Cond.static Lib.Math.min.name ∈ kTb) (h3 : Cond.initialized "java/lang/Math" ∈ kTb) (h4 : Cond.code Lib.Math.min.name Lib.Math.min.code 2 (some .int) ∈ kTb) (hfr : 1 ≤ R.frames) (hlo : (st.map fun v => v.category).sum + 13 ≤ R.locals) (hc : cells ≤ R.cells) (hs : slots ≤ R.slots) (hd : decode cc pc = .ok (.invokestatic index, 3)) (kk : kx E R G nL cells slots ws lv (pc + 3) (.int (nI (min a b)) :: st)) : kx E R G nL cells slots ws lv (pc) (.int (nI b) :: .int (nI a) :: st) := by
  obtain ⟨p, e, s, m, args, below, meth, c, A, Q⟩ := G
  obtain ⟨hx, hb, hml, hown, hts, hK, hA, hN, ham, hNs, hlk⟩ := C
  intro H locs ls hP hD hS hl
  refine va_mmin hx hb (hml.trans hl.1.symm) hown (hts _ h1) (hts _ h2) (hts _ h3) (hts _ h4) hfr hlo hc hs hd ?_
  rw [k_min ha hb2]
  exact (kk H locs ls hP hD hS hl)
theorem kx_mabs (C : kc E G cc nL own) {a b index : Nat} (ha : a < 2 ^ 30) (hb2 : b < 2 ^ 30) (h1 : Cond.methodLink own index Lib.Math.abs.name ∈ kTb) (h2 : Cond.static Lib.Math.abs.name ∈ kTb) (h3 : Cond.initialized "java/lang/Math" ∈ kTb) (h4 : Cond.code Lib.Math.abs.name Lib.Math.abs.code 1 (some .int) ∈ kTb) (hfr : 1 ≤ R.frames) (hlo : (st.map fun v => v.category).sum + 13 ≤ R.locals) (hc : cells ≤ R.cells) (hs : slots ≤ R.slots) (hd : decode cc pc = .ok (.invokestatic index, 3)) (kk : kx E R G nL cells slots ws lv (pc + 3) (.int (nI (if b ≤ a then a - b else b - a)) :: st)) : kx E R G nL cells slots ws lv (pc) (.int (nI a - nI b) :: st) := by
  obtain ⟨p, e, s, m, args, below, meth, c, A, Q⟩ := G
  obtain ⟨hx, hb, hml, hown, hts, hK, hA, hN, ham, hNs, hlk⟩ := C
  intro H locs ls hP hD hS hl
  refine va_mabs hx hb (hml.trans hl.1.symm) hown (hts _ h1) (hts _ h2) (hts _ h3) (hts _ h4) hfr hlo hc hs hd ?_
  rw [k_abs ha hb2]
  exact (kk H locs ls hP hD hS hl)
theorem kx_mminL (C : kc E G cc nL own) {a b index : Nat} (ha : a < 2 ^ 63) (hb2 : b < 2 ^ 63) (h1 : Cond.methodLink own index Lib.MathLoose.min_long.x ∈ kTb) (h2 : Cond.static Lib.MathLoose.min_long.x ∈ kTb) (h3 : Cond.initialized "java/lang/Math" ∈ kTb) (h4 : Cond.code Lib.MathLoose.min_long.x Lib.MathLoose.min_long.code 4 (some .long) ∈ kTb) (hfr : 1 ≤ R.frames) (hlo : (st.map fun v => v.category).sum + 15 ≤ R.locals) (hc : cells ≤ R.cells) (hs : slots ≤ R.slots) (hd : decode cc pc = .ok (.invokestatic index, 3)) (kk : kx E R G nL cells slots ws lv (pc + 3) (.long (lN (min a b)) :: st)) : kx E R G nL cells slots ws lv (pc) (.long (lN b) :: .long (lN a) :: st) := by
  obtain ⟨p, e, s, m, args, below, meth, c, A, Q⟩ := G
  obtain ⟨hx, hb, hml, hown, hts, hK, hA, hN, ham, hNs, hlk⟩ := C
  intro H locs ls hP hD hS hl
  refine va_mmin_long hx hb (hml.trans hl.1.symm) hown (hts _ h1) (hts _ h2) (hts _ h3) (hts _ h4) hfr hlo hc hs hd ?_
  rw [k_minL ha hb2]
  exact (kk H locs ls hP hD hS hl)
end KR4
