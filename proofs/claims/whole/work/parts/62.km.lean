/-! the world of an object of KeyWalksModel -/
def kmW (E : KE) (J : Nat → Nat) (cd n b y o : Nat) (Wm Pm Rm Ym Tm Cm Km : Nat → Nat) : va_W :=
  [(J 0, .inr (1, [.int (nI cd), .int (nI n), .ref (J 1), .ref (J 2), .int (nI b), .int (nI y), .int (nI o), .ref (J 3), .ref (J 4), .ref (J 5), .ref (J 6), .ref (J 7)])),
   (J 1, .inl (kI E, 480, .inl (nF Wm))), (J 2, .inl (kI E, 24, .inl (nF Pm))), (J 3, .inl (kI E, 960, .inl (nF Rm))), (J 4, .inl (kL E, 960, .inr (.inl (lF Ym)))), (J 5, .inl (kI E, 576, .inl (nF Tm))), (J 6, .inl (kI E, 960, .inl (nF Cm))), (J 7, .inl (kI E, 40, .inl (nF Km)))]
theorem k_add3 (x y z : Int32) : x - y + z = x + z - y := by grind
theorem kNum {a b c : Nat} (h : b ≤ a + c) : nI a - nI b + nI c = nI (a + c - b) := by
  rw [k_add3, nI_add, pk_sub h]
theorem k_l0 {x : Int32} : x.toInt64 < lN 0 ↔ x < 0 := by
  rw [Int64.lt_iff_toInt_lt, Int32.lt_iff_toInt_lt, Int32.toInt_toInt64]
  rfl
theorem k_lm {x : Int32} {m : Nat} (hm : m < 2 ^ 31) : lN m < x.toInt64 ↔ nI m < x := by
  rw [Int64.lt_iff_toInt_lt, Int32.lt_iff_toInt_lt, Int32.toInt_toInt64, lN_toInt hm, nI_toInt hm]
theorem k_lx {x y : Int32} : y.toInt64 < x.toInt64 ↔ y < x := by
  rw [Int64.lt_iff_toInt_lt, Int32.lt_iff_toInt_lt, Int32.toInt_toInt64, Int32.toInt_toInt64]
theorem k_l1 {x : Int32} {m : Nat} (hm : m < 2 ^ 31) : x.toInt64 < lN m ↔ x < nI m := by
  rw [Int64.lt_iff_toInt_lt, Int32.lt_iff_toInt_lt, Int32.toInt_toInt64, lN_toInt hm, nI_toInt hm]
