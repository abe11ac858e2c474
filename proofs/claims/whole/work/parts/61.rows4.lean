section KR6
variable {E : KE} {R : Room} {G : KG} {cc : ByteArray} {nL : Nat} {own : String} {cells slots : Nat} {ws : va_W} {lv : List (Nat × Value)} {pc : Nat} {st : List Value}
theorem kx_lcmp_gtR (C : kc E G cc nL own) {x y : Int64} {off : Int} {tgt : Nat} (hd : decode cc pc = .ok (.lcmp, 1)) (hd2 : decode cc (pc + 1) = .ok (.ifCond .gt off, 3)) (ht : ((pc + 1 : Nat) : Int) + off = (tgt : Int)) (kt : y < x → kx E R G nL cells slots ws lv (tgt) (st)) (kf : ¬ y < x → kx E R G nL cells slots ws lv (pc + 1 + 3) (st)) : kx E R G nL cells slots ws lv (pc) (.long y :: .long x :: st) := by
  obtain ⟨p, e, s, m, args, below, meth, c, A, Q⟩ := G
  obtain ⟨hx, hb, hml, hown, hts, hK, hA, hN, ham, hNs, hlk⟩ := C
  intro H locs ls hP hD hS hl
  refine W.lcmp hx hb hd ?_
  exact lv_if_gt hx hb hd2 ht (fun h => kt ((lg_cmp_gt x y).mp h) H locs ls hP hD hS hl) (fun h => kf (fun z => h ((lg_cmp_gt x y).mpr z)) H locs ls hP hD hS hl)
theorem kx_lcmp_gt (C : kc E G cc nL own) {a b : Nat} {off : Int} {tgt : Nat} (ha : a < 2 ^ 63) (hb2 : b < 2 ^ 63) (hd : decode cc pc = .ok (.lcmp, 1)) (hd2 : decode cc (pc + 1) = .ok (.ifCond .gt off, 3)) (ht : ((pc + 1 : Nat) : Int) + off = (tgt : Int)) (kt : b < a → kx E R G nL cells slots ws lv (tgt) (st)) (kf : a ≤ b → kx E R G nL cells slots ws lv (pc + 1 + 3) (st)) : kx E R G nL cells slots ws lv (pc) (.long (lN b) :: .long (lN a) :: st) := by
  obtain ⟨p, e, s, m, args, below, meth, c, A, Q⟩ := G
  obtain ⟨hx, hb, hml, hown, hts, hK, hA, hN, ham, hNs, hlk⟩ := C
  intro H locs ls hP hD hS hl
  refine W.lcmp hx hb hd ?_
  exact lv_if_gt hx hb hd2 ht (fun h => kt ((pk_lLT hb2 ha).mp ((lg_cmp_gt _ _).mp h)) H locs ls hP hD hS hl) (fun h => kf (Nat.not_lt.mp fun z => h ((lg_cmp_gt _ _).mpr ((pk_lLT hb2 ha).mpr z))) H locs ls hP hD hS hl)
theorem kx_lcmp_leR (C : kc E G cc nL own) {x y : Int64} {off : Int} {tgt : Nat} (hd : decode cc pc = .ok (.lcmp, 1)) (hd2 : decode cc (pc + 1) = .ok (.ifCond .le off, 3)) (ht : ((pc + 1 : Nat) : Int) + off = (tgt : Int)) (kt : x ≤ y → kx E R G nL cells slots ws lv (tgt) (st)) (kf : ¬ x ≤ y → kx E R G nL cells slots ws lv (pc + 1 + 3) (st)) : kx E R G nL cells slots ws lv (pc) (.long y :: .long x :: st) := by
  obtain ⟨p, e, s, m, args, below, meth, c, A, Q⟩ := G
  obtain ⟨hx, hb, hml, hown, hts, hK, hA, hN, ham, hNs, hlk⟩ := C
  intro H locs ls hP hD hS hl
  refine W.lcmp hx hb hd ?_
  exact lv_if_le hx hb hd2 ht (fun h => kt ((lg_cmp_le x y).mp h) H locs ls hP hD hS hl) (fun h => kf (fun z => h ((lg_cmp_le x y).mpr z)) H locs ls hP hD hS hl)
theorem kx_lcmp_le (C : kc E G cc nL own) {a b : Nat} {off : Int} {tgt : Nat} (ha : a < 2 ^ 63) (hb2 : b < 2 ^ 63) (hd : decode cc pc = .ok (.lcmp, 1)) (hd2 : decode cc (pc + 1) = .ok (.ifCond .le off, 3)) (ht : ((pc + 1 : Nat) : Int) + off = (tgt : Int)) (kt : a ≤ b → kx E R G nL cells slots ws lv (tgt) (st)) (kf : b < a → kx E R G nL cells slots ws lv (pc + 1 + 3) (st)) : kx E R G nL cells slots ws lv (pc) (.long (lN b) :: .long (lN a) :: st) := by
  obtain ⟨p, e, s, m, args, below, meth, c, A, Q⟩ := G
  obtain ⟨hx, hb, hml, hown, hts, hK, hA, hN, ham, hNs, hlk⟩ := C
  intro H locs ls hP hD hS hl
  refine W.lcmp hx hb hd ?_
  exact lv_if_le hx hb hd2 ht (fun h => kt ((pk_lLE ha hb2).mp ((lg_cmp_le _ _).mp h)) H locs ls hP hD hS hl) (fun h => kf (Nat.not_le.mp fun z => h ((lg_cmp_le _ _).mpr ((pk_lLE ha hb2).mpr z))) H locs ls hP hD hS hl)
theorem kx_lcmp_eqR (C : kc E G cc nL own) {x y : Int64} {off : Int} {tgt : Nat} (hd : decode cc pc = .ok (.lcmp, 1)) (hd2 : decode cc (pc + 1) = .ok (.ifCond .eq off, 3)) (ht : ((pc + 1 : Nat) : Int) + off = (tgt : Int)) (kt : x = y → kx E R G nL cells slots ws lv (tgt) (st)) (kf : ¬ x = y → kx E R G nL cells slots ws lv (pc + 1 + 3) (st)) : kx E R G nL cells slots ws lv (pc) (.long y :: .long x :: st) := by
  obtain ⟨p, e, s, m, args, below, meth, c, A, Q⟩ := G
  obtain ⟨hx, hb, hml, hown, hts, hK, hA, hN, ham, hNs, hlk⟩ := C
  intro H locs ls hP hD hS hl
  refine W.lcmp hx hb hd ?_
  exact lv_if_eq hx hb hd2 ht (fun h => kt ((lg_cmp_eq x y).mp h) H locs ls hP hD hS hl) (fun h => kf (fun z => h ((lg_cmp_eq x y).mpr z)) H locs ls hP hD hS hl)
theorem kx_lcmp_eq (C : kc E G cc nL own) {a b : Nat} {off : Int} {tgt : Nat} (ha : a < 2 ^ 63) (hb2 : b < 2 ^ 63) (hd : decode cc pc = .ok (.lcmp, 1)) (hd2 : decode cc (pc + 1) = .ok (.ifCond .eq off, 3)) (ht : ((pc + 1 : Nat) : Int) + off = (tgt : Int)) (kt : a = b → kx E R G nL cells slots ws lv (tgt) (st)) (kf : a ≠ b → kx E R G nL cells slots ws lv (pc + 1 + 3) (st)) : kx E R G nL cells slots ws lv (pc) (.long (lN b) :: .long (lN a) :: st) := by
  obtain ⟨p, e, s, m, args, below, meth, c, A, Q⟩ := G
  obtain ⟨hx, hb, hml, hown, hts, hK, hA, hN, ham, hNs, hlk⟩ := C
  intro H locs ls hP hD hS hl
  refine W.lcmp hx hb hd ?_
  exact lv_if_eq hx hb hd2 ht (fun h => kt ((pk_lEQ ha hb2).mp ((lg_cmp_eq _ _).mp h)) H locs ls hP hD hS hl) (fun h => kf ( fun z => h ((lg_cmp_eq _ _).mpr ((pk_lEQ ha hb2).mpr z))) H locs ls hP hD hS hl)
theorem kx_lcmp_neR (C : kc E G cc nL own) {x y : Int64} {off : Int} {tgt : Nat} (hd : decode cc pc = .ok (.lcmp, 1)) (hd2 : decode cc (pc + 1) = .ok (.ifCond .ne off, 3)) (ht : ((pc + 1 : Nat) : Int) + off = (tgt : Int)) (kt : ¬ x = y → kx E R G nL cells slots ws lv (tgt) (st)) (kf : x = y → kx E R G nL cells slots ws lv (pc + 1 + 3) (st)) : kx E R G nL cells slots ws lv (pc) (.long y :: .long x :: st) := by
  obtain ⟨p, e, s, m, args, below, meth, c, A, Q⟩ := G
  obtain ⟨hx, hb, hml, hown, hts, hK, hA, hN, ham, hNs, hlk⟩ := C
  intro H locs ls hP hD hS hl
  refine W.lcmp hx hb hd ?_
  exact lv_if_ne hx hb hd2 ht (fun h => kt (fun z => h ((lg_cmp_eq x y).mpr z)) H locs ls hP hD hS hl) (fun h => kf ((lg_cmp_eq x y).mp h) H locs ls hP hD hS hl)
theorem kx_ixorR (C : kc E G cc nL own) {x y : Int32} (hd : decode cc pc = .ok (.ixor, 1)) (kk : kx E R G nL cells slots ws lv (pc + 1) (.int (x ^^^ y) :: st)) : kx E R G nL cells slots ws lv (pc) (.int y :: .int x :: st) := by
  obtain ⟨p, e, s, m, args, below, meth, c, A, Q⟩ := G
  obtain ⟨hx, hb, hml, hown, hts, hK, hA, hN, ham, hNs, hlk⟩ := C
  intro H locs ls hP hD hS hl
  exact lv_ixor hx hb hd (kk H locs ls hP hD hS hl)
theorem kx_ishrR (C : kc E G cc nL own) {x y : Int32} (hd : decode cc pc = .ok (.ishr, 1)) (kk : kx E R G nL cells slots ws lv (pc + 1) (.int (x >>> (y &&& 31)) :: st)) : kx E R G nL cells slots ws lv (pc) (.int y :: .int x :: st) := by
  obtain ⟨p, e, s, m, args, below, meth, c, A, Q⟩ := G
  obtain ⟨hx, hb, hml, hown, hts, hK, hA, hN, ham, hNs, hlk⟩ := C
  intro H locs ls hP hD hS hl
  exact lv_ishr hx hb hd (kk H locs ls hP hD hS hl)
theorem kx_lmul (C : kc E G cc nL own) {a b : Nat} (hd : decode cc pc = .ok (.lmul, 1)) (kk : kx E R G nL cells slots ws lv (pc + 1) (.long (lN (a * b)) :: st)) : kx E R G nL cells slots ws lv (pc) (.long (lN b) :: .long (lN a) :: st) := by
  obtain ⟨p, e, s, m, args, below, meth, c, A, Q⟩ := G
  obtain ⟨hx, hb, hml, hown, hts, hK, hA, hN, ham, hNs, hlk⟩ := C
  intro H locs ls hP hD hS hl
  refine lv_lmul hx hb hd ?_
  rw [lN_mul]
  exact (kk H locs ls hP hD hS hl)
theorem kx_ldiv (C : kc E G cc nL own) {a b : Nat} (ha : a < 2 ^ 63) (h0 : 0 < b) (hb2 : b < 2 ^ 63) (hd : decode cc pc = .ok (.ldiv, 1)) (kk : kx E R G nL cells slots ws lv (pc + 1) (.long (lN (a / b)) :: st)) : kx E R G nL cells slots ws lv (pc) (.long (lN b) :: .long (lN a) :: st) := by
  obtain ⟨p, e, s, m, args, below, meth, c, A, Q⟩ := G
  obtain ⟨hx, hb, hml, hown, hts, hK, hA, hN, ham, hNs, hlk⟩ := C
  intro H locs ls hP hD hS hl
  have hz : ¬ lN b = 0 := fun z => by
    have h9 := (pk_lEQ (a := b) (b := 0) hb2 (by decide)).mp z
    omega
  refine lv_ldiv hx hb hd hz ?_
  rw [pk_lDiv ha h0 hb2]
  exact (kk H locs ls hP hD hS hl)
theorem kx_l2i (C : kc E G cc nL own) {a : Nat} (hd : decode cc pc = .ok (.l2i, 1)) (kk : kx E R G nL cells slots ws lv (pc + 1) (.int (nI a) :: st)) : kx E R G nL cells slots ws lv (pc) (.long (lN a) :: st) := by
  obtain ⟨p, e, s, m, args, below, meth, c, A, Q⟩ := G
  obtain ⟨hx, hb, hml, hown, hts, hK, hA, hN, ham, hNs, hlk⟩ := C
  intro H locs ls hP hD hS hl
  exact lv_l2i hx hb hd (lN_i a) (kk H locs ls hP hD hS hl)
end KR6
