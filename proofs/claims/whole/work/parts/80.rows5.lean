/-! rows for constructors, for methods with handlers, for the law's own body -/
theorem k_arrI : Cond.arrayClass .int ∈ kTb := kTb_in (List.mem_append_right _ (List.mem_of_getElem? (i := 84) (by decide +kernel))) rfl
theorem k_arrL : Cond.arrayClass .long ∈ kTb := kTb_in (List.mem_append_right _ (List.mem_of_getElem? (i := 85) (by decide +kernel))) rfl
theorem k_oiI : Cond.instanceMethod objectInit ∈ kTb := kTb_in (List.mem_append_right _ (List.mem_of_getElem? (i := 17) (by decide +kernel))) rfl
theorem k_oiC : Cond.code objectInit ⟨#[0xb1]⟩ 1 none ∈ kTb := kTb_in (List.mem_append_right _ (List.mem_of_getElem? (i := 18) (by decide +kernel))) rfl
theorem k_oi0 : Cond.methodLink RX0 1 objectInit ∈ kTb := kTb_in (List.mem_append_right _ (List.mem_of_getElem? (i := 16) (by decide +kernel))) rfl
theorem k_oi1 : Cond.methodLink RX1 1 objectInit ∈ kTb := kTb_in (List.mem_append_right _ (List.mem_of_getElem? (i := 444) (by decide +kernel))) rfl
theorem k_clL8 : Cond.classLink RL 8 RX0 ∈ kTb := kTb_in (List.mem_append_right _ (List.mem_of_getElem? (i := 11) (by decide +kernel))) rfl
theorem k_clL73 : Cond.classLink RL 73 RX1 ∈ kTb := kTb_in (List.mem_append_right _ (List.mem_of_getElem? (i := 439) (by decide +kernel))) rfl
theorem k_ins0 : Cond.instantiable RX0 17 ∈ kTb := kTb_in (List.mem_append_right _ (List.mem_of_getElem? (i := 12) (by decide +kernel))) rfl
theorem k_ins1 : Cond.instantiable RX1 12 ∈ kTb := kTb_in (List.mem_append_right _ (List.mem_of_getElem? (i := 440) (by decide +kernel))) rfl
abbrev kIAE : String := "java/lang/IllegalArgumentException"
abbrev kISE : String := "java/lang/IllegalStateException"
abbrev kARE : String := "java/lang/ArithmeticException"
theorem k_cl13 : Cond.classLink RL 13 kIAE ∈ kTb := kTb_in (List.mem_append_right _ (List.mem_of_getElem? (i := 171) (by decide +kernel))) rfl
theorem k_cl22 : Cond.classLink RL 22 kISE ∈ kTb := kTb_in (List.mem_append_right _ (List.mem_of_getElem? (i := 257) (by decide +kernel))) rfl
theorem k_cl57 : Cond.classLink RL 57 kARE ∈ kTb := kTb_in (List.mem_append_right _ (List.mem_of_getElem? (i := 371) (by decide +kernel))) rfl
theorem k_ca13 : Cond.castable kIAE kIAE ∈ kFa := List.mem_filter.mpr ⟨List.mem_append_right _ (List.mem_of_getElem? (i := 181) (by decide +kernel)), rfl⟩
theorem k_ca22 : Cond.castable kISE kISE ∈ kFa := List.mem_filter.mpr ⟨List.mem_append_right _ (List.mem_of_getElem? (i := 264) (by decide +kernel)), rfl⟩
theorem k_ca57 : Cond.castable kARE kARE ∈ kFa := List.mem_filter.mpr ⟨List.mem_append_right _ (List.mem_of_getElem? (i := 382) (by decide +kernel)), rfl⟩
/-- which exceptions aren't caught by the row for IllegalArgumentException -/
def kHP (U : State) : Prop := va_Nc kISE kIAE U ∧ va_Nc kARE kIAE U
theorem kHP.moved {u U : State} (hvm : u.vm.Alike U.vm) (h : kHP u) : kHP U := ⟨h.1.moved hvm, h.2.moved hvm⟩
def kGs (G : KG) : State := G.2.2.1
def kGm (G : KG) : Method := G.2.2.2.2.2.2.1
def kGc (G : KG) : Code := G.2.2.2.2.2.2.2.1
def kGA (G : KG) : Nat → Prop := G.2.2.2.2.2.2.2.2.1
section KLW
variable {E : KE} {R : Room} {G : KG} {cc : ByteArray} {nL : Nat} {own : String} {cells slots : Nat} {ws : va_W} {lv : List (Nat × Value)} {pc : Nat} {st : List Value} {y : MethodName} {rm : Room} {bytes : ByteArray} {maxL index : Nat} {Cn : String} {ci : Nat} {T : u_T} {N : Nat} {b : Nat} {fs : List Value} {As rest : List Value} {wc wr : va_W}
theorem kx_newI (C : kc E G cc nL own) {N : Nat} (hN : N < 2 ^ 20) (hc : cells + 1 ≤ R.cells) (hs : slots + N ≤ R.slots) (hd : decode cc pc = .ok (.newarray .int, 2)) (kk : ∀ q : Nat, kx E R G nL (cells + 1) (slots + N) (ws ++ [(q, .inl (kI E, N, .inl (nF (fun _ => 0))))]) lv (pc + 2) (.ref q :: st)) : kx E R G nL cells slots ws lv pc (.int (nI N) :: st) := by
  obtain ⟨p, e, s, m, args, below, meth, c, A, Q⟩ := G
  obtain ⟨hx, hb, hml, hown, hts, hK, hA, hN9, ham, hNs, hlk⟩ := C
  intro H locs ls hP hD hS hl
  refine va_newa (a0 := (N, .inl (nF fun _ => 0))) (N' := N) (atype := .int) (ty := .int) hx hb (hts _ k_arrI) rfl hK hP hD hS hA (fun cA => by show arrV cA N (fun j => .int (nI 0)) = arrV cA N (fun _ => .int 0); rw [nI_0]) (nI_pos (by omega)) (nI_clamp (by omega)) (by show N * 4 ≤ _; omega) hc hs hd (fun q cA H1 hK1 hP1 hD1 hS1 => ?_)
  have e9 : cA = kI E := by
    have h1 := (hK1.2 2 (cA, .int) rfl).2
    have h2 := (hK.2 0 (kI E, .int) rfl).2
    exact Option.some.inj (h1.symm.trans h2)
  rw [e9] at hP1 hD1
  exact kk q H1 locs ls hP1 hD1 hS1 hl
theorem kx_newL (C : kc E G cc nL own) {N : Nat} (hN : N < 2 ^ 20) (hc : cells + 1 ≤ R.cells) (hs : slots + N ≤ R.slots) (hd : decode cc pc = .ok (.newarray .long, 2)) (kk : ∀ q : Nat, kx E R G nL (cells + 1) (slots + N) (ws ++ [(q, .inl (kL E, N, .inr (.inl (lF (fun _ => 0)))))]) lv (pc + 2) (.ref q :: st)) : kx E R G nL cells slots ws lv pc (.int (nI N) :: st) := by
  obtain ⟨p, e, s, m, args, below, meth, c, A, Q⟩ := G
  obtain ⟨hx, hb, hml, hown, hts, hK, hA, hN9, ham, hNs, hlk⟩ := C
  intro H locs ls hP hD hS hl
  refine va_newa (a0 := (N, .inr (.inl (lF fun _ => 0)))) (N' := N) (atype := .long) (ty := .long) hx hb (hts _ k_arrL) rfl hK hP hD hS hA (fun cA => by show arrV cA N (fun j => .long (lN 0)) = arrV cA N (fun _ => .long 0); rfl) (nI_pos (by omega)) (nI_clamp (by omega)) (by show N * 8 ≤ _; omega) hc hs hd (fun q cA H1 hK1 hP1 hD1 hS1 => ?_)
  have e9 : cA = kL E := by
    have h1 := (hK1.2 2 (cA, .long) rfl).2
    have h2 := (hK.2 1 (kL E, .long) rfl).2
    exact Option.some.inj (h1.symm.trans h2)
  rw [e9] at hP1 hD1
  exact kk q H1 locs ls hP1 hD1 hS1 hl
theorem kx_new (C : kc E G cc nL own) (hin : ∀ w ∈ u_ws Cn T N, w ∈ kTb) {ty : Nat → FieldType} (hty : ∀ k, k < N → parseFieldDescriptor (T k).2.2.1 = some (ty k)) (hcl : Cond.classLink own index Cn ∈ kTb) (hins : Cond.instantiable Cn N ∈ kTb) (hini : Cond.initialized Cn ∈ kTb) (hc : kCl[ci]? = some (Cn, T, N)) (hfs : ∀ j, j < N → defaultValue (ty j) = vp_V fs j) (hce : cells + 1 ≤ R.cells) (hsl : slots + N ≤ R.slots) (hd : decode cc pc = .ok (.new index, 3)) (kk : ∀ q : Nat, kx E R G nL (cells + 1) (slots + N) (ws ++ [(q, .inr (ci, fs))]) lv (pc + 3) (.ref q :: st)) : kx E R G nL cells slots ws lv pc st := by
  obtain ⟨p, e, s, m, args, below, meth, c, A, Q⟩ := G
  obtain ⟨hx, hb, hml, hown, hts, hK, hA, hN9, ham, hNs, hlk⟩ := C
  intro H locs ls hP hD hS hl
  exact va_new hx hb hts hin ty hty hown (hts _ hcl) (hts _ hins) (hts _ hini) hK hP hD hS hA hc hfs hce hsl hd (fun q H1 hP1 hD1 hS1 => kk q H1 locs ls hP1 hD1 hS1 hl)
theorem kx_putF (C : kc E G cc nL own) (hin2 : (kGm G).name = "<init>") {ref : String} {a : Nat} (hin : ∀ w ∈ u_ws Cn T N, w ∈ kTb) {ty0 : Nat → FieldType} (hty : ∀ k, k < N → parseFieldDescriptor (T k).2.2.1 = some (ty0 k)) (hnm : ∀ a, a < N → ∀ b, b < N → a ≠ b → (T a).2.1 ≠ (T b).2.1) (q0 : Nat) (he : ws[q0]? = some (a, .inr (ci, fs))) (hc : kCl[ci]? = some (Cn, T, N)) (k : Nat) (hk : k < N) (hlink : Cond.fieldLink own index ref (T k).2.1 (T k).2.2.1 ∈ kTb) (href : (T k).1 = ref) (hdecl : (T k).1 = own) (hfin : (T k).2.2.2 = true) {v : Value} (hn : narrow (ty0 k) v = v) (hfit : fits (ty0 k) v = true) (hl2 : k < fs.length) {ws2 : va_W} (h2 : ws.set q0 (a, .inr (ci, fs.set k v)) = ws2) (hd : decode cc pc = .ok (.putfield index, 3)) (kk : kx E R G nL cells slots ws2 lv (pc + 3) (st)) : kx E R G nL cells slots ws lv (pc) (v :: .ref a :: st) := by
  obtain ⟨p, e, s, m, args, below, meth, c, A, Q⟩ := G
  obtain ⟨hx, hb, hml, hown, hts, hK, hA, hN9, ham, hNs, hlk⟩ := C
  intro H locs ls hP hD hS hl
  subst href
  subst h2
  exact va_putF hx hb hts hin ty0 hty hnm hown hK hP hD hS q0 he hc k hk (hts _ hlink) (fun _ h9 => h9) hfin hin2 hdecl (hty k hk) hn hfit hl2 hd (fun H1 locs1 hP1 hD1 hS1 => kk H1 locs1 ls hP1 hD1 hS1 hl)
theorem kx_objInit (C : kc E G cc nL own) {a : Nat} (hl1 : Cond.methodLink own index objectInit ∈ kTb) (hfr : 1 ≤ R.frames) (hlo : (st.map fun v => v.category).sum + 12 ≤ R.locals) (hd : decode cc pc = .ok (.invokespecial index, 3)) (kk : kx E R G nL cells slots ws lv (pc + 3) st) : kx E R G nL cells slots ws lv pc (.ref a :: st) := by
  obtain ⟨p, e, s, m, args, below, meth, c, A, Q⟩ := G
  obtain ⟨hx, hb, hml, hown, hts, hK, hA, hN9, ham, hNs, hlk⟩ := C
  intro H locs ls hP hD hS hl
  exact W.objInit hx hb hown (hts _ hl1) (hts _ k_oiI) (hts _ k_oiC) rfl (by rw [hml]; exact hl.1) rfl hd hfr (by show 2 * 0 + _ + _ ≤ _; omega) (kk H locs ls hP hD hS hl)
end KLW
