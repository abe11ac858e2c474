/-! the table of first profiles: reading its static, copying it -/
def kFPat (G : KG) (t : Nat) : Prop :=
  match G with
  | (_, _, s, _, _, _, _, _, A, _) => va_T .int t 24 (fun j => .int (nI (kFP j))) A s s.heap
theorem nF_cpy (f P : Nat → Nat) (n : Nat) : va_cpy (fun j => nI (f j)) (nF P) 0 0 n = nF (va_cpy f P 0 0 n) := by
  funext j
  by_cases h : 0 ≤ j ∧ j < 0 + n
  · simp only [va_cpy, nF, if_pos h]
  · simp only [va_cpy, nF, if_neg h]
section KFP
variable {E : KE} {R : Room} {G : KG} {cc : ByteArray} {nL : Nat} {own : String} {cells slots : Nat} {ws : va_W} {lv : List (Nat × Value)} {pc : Nat} {st : List Value}
theorem kx_getFP (C : kc E G cc nL own) {index : Nat} (hlink : Cond.fieldLink own index "KeyWalks" "FIRST_PROFILES" "[I" ∈ kTb) (hd : decode cc pc = .ok (.getstatic index, 3)) (kk : ∀ t : Nat, kFPat G t → kx E R G nL cells slots ws lv (pc + 3) (.ref t :: st)) : kx E R G nL cells slots ws lv pc st := by
  obtain ⟨p, e, s, m, args, below, meth, c, A, Q⟩ := G
  obtain ⟨hx, hb, hml, hown, hts, hK, hA, hN, ham, hNs, hlk⟩ := C
  obtain ⟨⟨t, h1, h2⟩, -⟩ := ham
  intro H locs ls hP hD hS hl
  exact va_gets hx hb (h1.narrow hN) hS hown (hts _ hlink) (fun _ h => h) hd (kk t (h2.narrow hN) H locs ls hP hD hS hl)
theorem kx_copyFP (C : kc E G cc nL own) {t index : Nat} (ht : kFPat G t) (w1 : Cond.methodLink own index arraycopyName ∈ kTb) (w2 : Cond.native arraycopyName ∈ kTb) (w3 : Cond.static arraycopyName ∈ kTb) (w4 : Cond.initialized "java/lang/System" ∈ kTb) (q1 : Nat) {a n : Nat} {P : Nat → Nat} (hw : ws[q1]? = some (a, .inl (kI E, n, .inl (nF P)))) (hn : 24 ≤ n) (hfr : 1 ≤ R.frames) (hlo : (st.map fun v => v.category).sum + (nativeFrameWords "java/lang/System" "arraycopy" 5 + 11) ≤ R.locals) {ws2 : va_W} (h2 : ws.set q1 (a, .inl (kI E, n, .inl (nF (va_cpy kFP P 0 0 24)))) = ws2) (hd : decode cc pc = .ok (.invokestatic index, 3)) (kk : kx E R G nL cells slots ws2 lv (pc + 3) st) : kx E R G nL cells slots ws lv pc (.int (nI 24) :: .int (nI 0) :: .ref a :: .int (nI 0) :: .ref t :: st) := by
  obtain ⟨p, e, s, m, args, below, meth, c, A, Q⟩ := G
  obtain ⟨hx, hb, hml, hown, hts, hK, hA, hN, ham, hNs, hlk⟩ := C
  obtain ⟨cell, t1, ⟨hso, ks, hks, cm0, hkk0⟩, t3, t4, t5, t6, t7⟩ := ht
  intro H locs ls hP hD hS hl
  have z0 : (nI 0).toNatClampNeg = 0 := by decide +kernel
  have z24 : (nI 24).toNatClampNeg = 24 := by decide +kernel
  have i0 : (nI 0).toInt = 0 := by decide +kernel
  have i24 : (nI 24).toInt = 24 := by decide +kernel
  have hct : H[t]? = some cell := by rw [hS.2.1 t (Array.getElem?_eq_some_iff.mp t1).1 t7]; exact t1
  have hc1 : H[a]? = some (vp_cell (kI E) (n, .inl (nF P))) := hP q1 _ hw
  obtain ⟨-, k1, hk1, cm1, hkk1⟩ := (hK.2 0 _ rfl).1 n (fun j => .int (nF P j))
  intro T hT X
  obtain ⟨vm', X', step⟩ := X.arraycopy hx hown (hts _ w1) (hts _ w2) (hts _ w3) (hts _ w4) (src := t) (dst := a) (cs := cell) (cd := vp_cell (kI E) (n, .inl (nF P))) (srcPos := nI 0) (destPos := nI 0) (n := nI 24) (by rw [hT]; exact hct) (by rw [hT]; exact hc1)
    hso (fun _ h => by cases h) t3 (fun h => by cases h) hks hk1 hkk0 hkk1 (by rfl) (by decide +kernel) (by decide +kernel) (by decide +kernel)
    (by rw [i0, i24]; omega)
    (by rw [i0, i24]; show ¬ _ > ((arrV (kI E) n (fun j => .int (nF P j))).slots.size : Int); rw [arrV_size]; omega)
    (fun vm₁ _ i hi => by
      rw [z24] at hi
      have e9 : cell.slots.getD ((nI 0).toNatClampNeg + i) .null = .int (nI (kFP i)) := by
        rw [z0, Nat.zero_add, Array.getD_eq_getD_getElem?, t6 i hi]
        rfl
      rw [e9]
      exact ⟨rfl, trivial⟩)
    (g := F0 m pc ls (.int (nI 24) :: .int (nI 0) :: .ref a :: .int (nI 0) :: .ref t :: st)) rfl (by show ls.size = _; rw [hl.1, hml]) (rest := st) rfl (by rw [hb]; exact hd) hfr (by show 2 * 0 + _ + _ ≤ _; omega)
  have e1 : copied cell (vp_cell (kI E) (n, .inl (nF P))) (nI 0) (nI 0) (nI 24) = vp_cell (kI E) (n, .inl (nF (va_cpy kFP P 0 0 24))) := by
    have e2 := va_copiedX (fun z => Value.int z) cell (kI E) (n0 := 24) (n1 := n) (sp := 0) (dp := 0) (n := 24) (fun j => nI (kFP j)) (nF P) (fun j hj => t6 j hj) (by decide)
    rw [nF_cpy] at e2
    show (vp_cell (kI E) (n, .inl (nF P))).storeRun (nI 0).toNatClampNeg (cell.stretch (nI 0).toNatClampNeg (nI 24).toNatClampNeg) = _
    rw [z0, z24]
    exact e2
  rw [e1] at X' step
  have hlt : a < H.size := (Array.getElem?_eq_some_iff.mp hc1).1
  have hheap : ((T.setVm vm').setCell a (vp_cell (kI E) (n, .inl (nF (va_cpy kFP P 0 0 24))))).heap = H.setIfInBounds a (vp_cell (kI E) (n, .inl (nF (va_cpy kFP P 0 0 24)))) := by rw [← hT]; rfl
  have oq : ∀ q : Nat, q ≠ a → (H.setIfInBounds a (vp_cell (kI E) (n, .inl (nF (va_cpy kFP P 0 0 24)))))[q]? = H[q]? := fun q hq => by simp [Array.getElem?_setIfInBounds, Ne.symm hq]
  have hP2 := hP.set hD hw (show va_at E.2.1 kCl (a, .inl (kI E, n, .inl (nF (va_cpy kFP P 0 0 24)))) (H.setIfInBounds a (vp_cell (kI E) (n, .inl (nF (va_cpy kFP P 0 0 24))))) from by show (H.setIfInBounds a _)[a]? = some _; simp [Array.getElem?_setIfInBounds, hlt]) oq
  have hD2 := hD.set (e := .inl (kI E, n, .inl (nF (va_cpy kFP P 0 0 24)))) hw
  rw [h2] at hP2 hD2
  obtain ⟨t2, a1, b1⟩ := kk _ _ ls hP2 hD2 ⟨by simp; exact hS.1, fun q g1 g2 => by
      rw [oq q (fun e => g2 (by rw [e]; exact hD.2 q1 _ hw))]
      exact hS.2.1 q g1 g2, fun q hq => by
      rcases List.mem_append.mp hq with h | h
      · exact hS.2.2 q h
      · obtain ⟨z, -, hz⟩ := List.mem_map.mp h
        rw [← hz]
        exact hD.2 q1 _ hw⟩ hl _ hheap X'
  exact ⟨t2, step t2 a1, b1⟩
end KFP
theorem k_acn : Cond.native arraycopyName ∈ kTb := kTb_in (by decide +kernel) rfl
theorem k_acs : Cond.static arraycopyName ∈ kTb := kTb_in (by decide +kernel) rfl
section KSW
variable {E : KE} {R : Room} {G : KG} {cc : ByteArray} {nL : Nat} {own : String} {cells slots : Nat} {ws : va_W} {lv : List (Nat × Value)} {pc : Nat} {st : List Value}
theorem kx_tsIn (C : kc E G cc nL own) {dflt lo hi : Int} {offs : Array Int} {len : Nat} {x : Int32} {off : Int} {tgt : Nat} (hd : decode cc pc = .ok (.tableswitch dflt lo hi offs, len)) (h1 : ¬ x.toInt < lo) (h2 : ¬ hi < x.toInt) (ho : offs[(x.toInt - lo).toNat]? = some off) (ht : (pc : Int) + off = (tgt : Int)) (kk : kx E R G nL cells slots ws lv tgt st) : kx E R G nL cells slots ws lv pc (.int x :: st) := by
  obtain ⟨p, e, s, m, args, below, meth, c, A, Q⟩ := G
  obtain ⟨hx, hb, hml, hown, hts, hK, hA, hN, ham, hNs, hlk⟩ := C
  intro H locs ls hP hD hS hl
  exact lv_tableIn hx hb hd h1 h2 ho ht (kk H locs ls hP hD hS hl)
theorem kx_tsOut (C : kc E G cc nL own) {dflt lo hi : Int} {offs : Array Int} {len : Nat} {x : Int32} {tgt : Nat} (hd : decode cc pc = .ok (.tableswitch dflt lo hi offs, len)) (h : x.toInt < lo ∨ hi < x.toInt) (ht : (pc : Int) + dflt = (tgt : Int)) (kk : kx E R G nL cells slots ws lv tgt st) : kx E R G nL cells slots ws lv pc (.int x :: st) := by
  obtain ⟨p, e, s, m, args, below, meth, c, A, Q⟩ := G
  obtain ⟨hx, hb, hml, hown, hts, hK, hA, hN, ham, hNs, hlk⟩ := C
  intro H locs ls hP hD hS hl
  exact lv_tableOut hx hb hd h ht (kk H locs ls hP hD hS hl)
end KSW
