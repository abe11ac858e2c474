/-! rows of our own: one judgement kx over a world (list of cells) and a list of locals, kept as lists; numbers as Nat where they are none below 0 -/
abbrev KE : Type := Launch × va_G × Nat × Nat × Nat
def kI (E : KE) : Nat := E.2.2.1
def kL (E : KE) : Nat := E.2.2.2.1
def kN (E : KE) : Nat := E.2.2.2.2
def kT (E : KE) : List (ClassId × FieldType) := [(kI E, .int), (kL E, .long)]
abbrev KG : Type := Program × Env × State × MethodId × Array Value × List Frame × Method × Code × (Nat → Prop) × (State → Prop)
/-- what stays through a walk: the machine, the code, the words, the tables, the cells that may change -/
def kc (E : KE) (G : KG) (cc : ByteArray) (nL : Nat) (own : String) : Prop :=
  match G with
  | (p, _, s, m, args, _, meth, c, A, _) => p.tables.exec = Jvm.exec ∧ c.code = cc ∧ c.maxLocals = nL ∧ s.vm.findClass own = some m.cls ∧ (∀ w ∈ kTb, w.before args s = true) ∧ va_K E.2.1 kCl (kT E) s ∧ (∀ q : Nat, s.heap.size ≤ q → A q) ∧ (∀ q : Nat, A q → kN E ≤ q) ∧ amb (kN E) s s.heap ∧ kN E ≤ s.heap.size ∧ meth.locks = false
/-- the walk at pc, with the world ws, the locals lv, the stack st -/
def kx (E : KE) (R : Room) (G : KG) (nL cells slots : Nat) (ws : va_W) (lv : List (Nat × Value)) (pc : Nat) (st : List Value) : Prop :=
  match G with
  | (p, e, s, m, args, below, meth, c, A, Q) => ∀ (H : Heap) (locs : List Loc) (ls : Array Slot), va_P E.2.1 kCl ws H → va_D A ws → va_S A s.heap H locs → lv_has ls nL lv → W p E.1 e R s m args below meth c H locs cells slots Q (F0 m pc ls st)
theorem kI1 (a : Nat) : nI a + Int32.ofInt 1 = nI (a + 1) := nI_1 a
theorem kIm (a : Nat) : nI (a + 1) + Int32.ofInt (-1) = nI a := pk_m1 a
section KR
variable {E : KE} {R : Room} {G : KG} {cc : ByteArray} {nL : Nat} {own : String} {cells slots : Nat} {ws : va_W} {lv : List (Nat × Value)} {pc : Nat} {st : List Value}
theorem kx_iconst (C : kc E G cc nL own) {n : Int} {v : Int32} (hd : decode cc pc = .ok (.iconst n, 1)) (hv : Int32.ofInt n = v) (kk : kx E R G nL cells slots ws lv (pc + 1) (.int v :: st)) : kx E R G nL cells slots ws lv (pc) (st) := by
  obtain ⟨p, e, s, m, args, below, meth, c, A, Q⟩ := G
  obtain ⟨hx, hb, hml, hown, hts, hK, hA, hN, ham, hNs, hlk⟩ := C
  intro H locs ls hP hD hS hl
  exact lv_iconst hx hb hd hv (kk H locs ls hP hD hS hl)
theorem kx_bipush (C : kc E G cc nL own) {n : Int} {v : Int32} (hd : decode cc pc = .ok (.bipush n, 2)) (hv : (Int8.ofInt n).toInt32 = v) (kk : kx E R G nL cells slots ws lv (pc + 2) (.int v :: st)) : kx E R G nL cells slots ws lv (pc) (st) := by
  obtain ⟨p, e, s, m, args, below, meth, c, A, Q⟩ := G
  obtain ⟨hx, hb, hml, hown, hts, hK, hA, hN, ham, hNs, hlk⟩ := C
  intro H locs ls hP hD hS hl
  exact lv_bipush hx hb hd hv (kk H locs ls hP hD hS hl)
theorem kx_sipush (C : kc E G cc nL own) {n : Int} {v : Int32} (hd : decode cc pc = .ok (.sipush n, 3)) (hv : (Int16.ofInt n).toInt32 = v) (kk : kx E R G nL cells slots ws lv (pc + 3) (.int v :: st)) : kx E R G nL cells slots ws lv (pc) (st) := by
  obtain ⟨p, e, s, m, args, below, meth, c, A, Q⟩ := G
  obtain ⟨hx, hb, hml, hown, hts, hK, hA, hN, ham, hNs, hlk⟩ := C
  intro H locs ls hP hD hS hl
  exact lv_sipush hx hb hd hv (kk H locs ls hP hD hS hl)
theorem kx_lconst (C : kc E G cc nL own) {n : Fin 2} {v : Int64} (hd : decode cc pc = .ok (.lconst n, 1)) (hv : Int64.ofNat (n : Nat) = v) (kk : kx E R G nL cells slots ws lv (pc + 1) (.long v :: st)) : kx E R G nL cells slots ws lv (pc) (st) := by
  obtain ⟨p, e, s, m, args, below, meth, c, A, Q⟩ := G
  obtain ⟨hx, hb, hml, hown, hts, hK, hA, hN, ham, hNs, hlk⟩ := C
  intro H locs ls hP hD hS hl
  exact lv_lconst hx hb hd hv (kk H locs ls hP hD hS hl)
theorem kx_ldc (C : kc E G cc nL own) {index : Nat} {v : Int32} (hc : Cond.constant own index v ∈ kTb) (hd : decode cc pc = .ok (.ldc index, 2)) (kk : kx E R G nL cells slots ws lv (pc + 2) (.int v :: st)) : kx E R G nL cells slots ws lv (pc) (st) := by
  obtain ⟨p, e, s, m, args, below, meth, c, A, Q⟩ := G
  obtain ⟨hx, hb, hml, hown, hts, hK, hA, hN, ham, hNs, hlk⟩ := C
  intro H locs ls hP hD hS hl
  exact lv_ldc hx hb hown (hts _ hc) hd (kk H locs ls hP hD hS hl)
theorem kx_ldc2 (C : kc E G cc nL own) {index : Nat} {v : Int64} (hc : Cond.constantLong own index v ∈ kTb) (hd : decode cc pc = .ok (.ldc2_w index, 3)) (kk : kx E R G nL cells slots ws lv (pc + 3) (.long v :: st)) : kx E R G nL cells slots ws lv (pc) (st) := by
  obtain ⟨p, e, s, m, args, below, meth, c, A, Q⟩ := G
  obtain ⟨hx, hb, hml, hown, hts, hK, hA, hN, ham, hNs, hlk⟩ := C
  intro H locs ls hP hD hS hl
  exact lv_ldc2 hx hb hown (hts _ hc) hd (kk H locs ls hP hD hS hl)
theorem kx_iload_n (C : kc E G cc nL own) {f : Fin 4} {i : Nat} {x : Int32} (hd : decode cc pc = .ok (.iload_n f, 1)) (hi : (f : Nat) = i) (k : Nat) (hk : lv[k]? = some (i, .int x)) (kk : kx E R G nL cells slots ws lv (pc + 1) (.int x :: st)) : kx E R G nL cells slots ws lv (pc) (st) := by
  obtain ⟨p, e, s, m, args, below, meth, c, A, Q⟩ := G
  obtain ⟨hx, hb, hml, hown, hts, hK, hA, hN, ham, hNs, hlk⟩ := C
  intro H locs ls hP hD hS hl
  exact lv_iload_n hx hb hd hi (lv_at hl k hk) (kk H locs ls hP hD hS hl)
theorem kx_iload (C : kc E G cc nL own) {i : Nat} {x : Int32} (hd : decode cc pc = .ok (.iload i, 2)) (k : Nat) (hk : lv[k]? = some (i, .int x)) (kk : kx E R G nL cells slots ws lv (pc + 2) (.int x :: st)) : kx E R G nL cells slots ws lv (pc) (st) := by
  obtain ⟨p, e, s, m, args, below, meth, c, A, Q⟩ := G
  obtain ⟨hx, hb, hml, hown, hts, hK, hA, hN, ham, hNs, hlk⟩ := C
  intro H locs ls hP hD hS hl
  exact lv_iload hx hb hd (lv_at hl k hk) (kk H locs ls hP hD hS hl)
theorem kx_istore_n (C : kc E G cc nL own) {f : Fin 4} {i : Nat} {x : Int32} {lv2 : List (Nat × Value)} (hd : decode cc pc = .ok (.istore_n f, 1)) (hi : (f : Nat) = i) (hn : i < nL) (h2 : (i, Value.int x) :: lv.filter (fun q => !(q.1 == i) && !(q.1 + 1 == i && q.2.category == 2)) = lv2) (kk : kx E R G nL cells slots ws lv2 (pc + 1) (st)) : kx E R G nL cells slots ws lv (pc) (.int x :: st) := by
  obtain ⟨p, e, s, m, args, below, meth, c, A, Q⟩ := G
  obtain ⟨hx, hb, hml, hown, hts, hK, hA, hN, ham, hNs, hlk⟩ := C
  intro H locs ls hP hD hS hl
  exact lv_istore_n hx hb hd hi hl hn h2 (fun ls2 hl2 => kk H locs ls2 hP hD hS hl2)
theorem kx_istore (C : kc E G cc nL own) {i : Nat} {x : Int32} {lv2 : List (Nat × Value)} (hd : decode cc pc = .ok (.istore i, 2)) (hn : i < nL) (h2 : (i, Value.int x) :: lv.filter (fun q => !(q.1 == i) && !(q.1 + 1 == i && q.2.category == 2)) = lv2) (kk : kx E R G nL cells slots ws lv2 (pc + 2) (st)) : kx E R G nL cells slots ws lv (pc) (.int x :: st) := by
  obtain ⟨p, e, s, m, args, below, meth, c, A, Q⟩ := G
  obtain ⟨hx, hb, hml, hown, hts, hK, hA, hN, ham, hNs, hlk⟩ := C
  intro H locs ls hP hD hS hl
  exact lv_istore hx hb hd hl hn h2 (fun ls2 hl2 => kk H locs ls2 hP hD hS hl2)
theorem kx_lload_n (C : kc E G cc nL own) {f : Fin 4} {i : Nat} {x : Int64} (hd : decode cc pc = .ok (.lload_n f, 1)) (hi : (f : Nat) = i) (k : Nat) (hk : lv[k]? = some (i, .long x)) (kk : kx E R G nL cells slots ws lv (pc + 1) (.long x :: st)) : kx E R G nL cells slots ws lv (pc) (st) := by
  obtain ⟨p, e, s, m, args, below, meth, c, A, Q⟩ := G
  obtain ⟨hx, hb, hml, hown, hts, hK, hA, hN, ham, hNs, hlk⟩ := C
  intro H locs ls hP hD hS hl
  exact lv_lload_n hx hb hd hi (lv_at hl k hk) (kk H locs ls hP hD hS hl)
theorem kx_lload (C : kc E G cc nL own) {i : Nat} {x : Int64} (hd : decode cc pc = .ok (.lload i, 2)) (k : Nat) (hk : lv[k]? = some (i, .long x)) (kk : kx E R G nL cells slots ws lv (pc + 2) (.long x :: st)) : kx E R G nL cells slots ws lv (pc) (st) := by
  obtain ⟨p, e, s, m, args, below, meth, c, A, Q⟩ := G
  obtain ⟨hx, hb, hml, hown, hts, hK, hA, hN, ham, hNs, hlk⟩ := C
  intro H locs ls hP hD hS hl
  exact lv_lload hx hb hd (lv_at hl k hk) (kk H locs ls hP hD hS hl)
theorem kx_lstore_n (C : kc E G cc nL own) {f : Fin 4} {i : Nat} {x : Int64} {lv2 : List (Nat × Value)} (hd : decode cc pc = .ok (.lstore_n f, 1)) (hi : (f : Nat) = i) (hn : i + 1 < nL) (h2 : (i, Value.long x) :: lv.filter (fun q => !(q.1 == i) && (!(q.1 == i + 1) && !(q.1 + 1 == i && q.2.category == 2))) = lv2) (kk : kx E R G nL cells slots ws lv2 (pc + 1) (st)) : kx E R G nL cells slots ws lv (pc) (.long x :: st) := by
  obtain ⟨p, e, s, m, args, below, meth, c, A, Q⟩ := G
  obtain ⟨hx, hb, hml, hown, hts, hK, hA, hN, ham, hNs, hlk⟩ := C
  intro H locs ls hP hD hS hl
  exact lv_lstore_n hx hb hd hi hl hn h2 (fun ls2 hl2 => kk H locs ls2 hP hD hS hl2)
theorem kx_lstore (C : kc E G cc nL own) {i : Nat} {x : Int64} {lv2 : List (Nat × Value)} (hd : decode cc pc = .ok (.lstore i, 2)) (hn : i + 1 < nL) (h2 : (i, Value.long x) :: lv.filter (fun q => !(q.1 == i) && (!(q.1 == i + 1) && !(q.1 + 1 == i && q.2.category == 2))) = lv2) (kk : kx E R G nL cells slots ws lv2 (pc + 2) (st)) : kx E R G nL cells slots ws lv (pc) (.long x :: st) := by
  obtain ⟨p, e, s, m, args, below, meth, c, A, Q⟩ := G
  obtain ⟨hx, hb, hml, hown, hts, hK, hA, hN, ham, hNs, hlk⟩ := C
  intro H locs ls hP hD hS hl
  exact lv_lstore hx hb hd hl hn h2 (fun ls2 hl2 => kk H locs ls2 hP hD hS hl2)
theorem kx_aload_n (C : kc E G cc nL own) {f : Fin 4} {i : Nat} {x : Nat} (hd : decode cc pc = .ok (.aload_n f, 1)) (hi : (f : Nat) = i) (k : Nat) (hk : lv[k]? = some (i, .ref x)) (kk : kx E R G nL cells slots ws lv (pc + 1) (.ref x :: st)) : kx E R G nL cells slots ws lv (pc) (st) := by
  obtain ⟨p, e, s, m, args, below, meth, c, A, Q⟩ := G
  obtain ⟨hx, hb, hml, hown, hts, hK, hA, hN, ham, hNs, hlk⟩ := C
  intro H locs ls hP hD hS hl
  exact lv_aload_n hx hb hd hi (lv_at hl k hk) (kk H locs ls hP hD hS hl)
theorem kx_aload (C : kc E G cc nL own) {i : Nat} {x : Nat} (hd : decode cc pc = .ok (.aload i, 2)) (k : Nat) (hk : lv[k]? = some (i, .ref x)) (kk : kx E R G nL cells slots ws lv (pc + 2) (.ref x :: st)) : kx E R G nL cells slots ws lv (pc) (st) := by
  obtain ⟨p, e, s, m, args, below, meth, c, A, Q⟩ := G
  obtain ⟨hx, hb, hml, hown, hts, hK, hA, hN, ham, hNs, hlk⟩ := C
  intro H locs ls hP hD hS hl
  exact lv_aload hx hb hd (lv_at hl k hk) (kk H locs ls hP hD hS hl)
theorem kx_astore_n (C : kc E G cc nL own) {f : Fin 4} {i : Nat} {x : Nat} {lv2 : List (Nat × Value)} (hd : decode cc pc = .ok (.astore_n f, 1)) (hi : (f : Nat) = i) (hn : i < nL) (h2 : (i, Value.ref x) :: lv.filter (fun q => !(q.1 == i) && !(q.1 + 1 == i && q.2.category == 2)) = lv2) (kk : kx E R G nL cells slots ws lv2 (pc + 1) (st)) : kx E R G nL cells slots ws lv (pc) (.ref x :: st) := by
  obtain ⟨p, e, s, m, args, below, meth, c, A, Q⟩ := G
  obtain ⟨hx, hb, hml, hown, hts, hK, hA, hN, ham, hNs, hlk⟩ := C
  intro H locs ls hP hD hS hl
  exact lv_astore_n hx hb hd hi hl hn h2 (fun ls2 hl2 => kk H locs ls2 hP hD hS hl2)
theorem kx_astore (C : kc E G cc nL own) {i : Nat} {x : Nat} {lv2 : List (Nat × Value)} (hd : decode cc pc = .ok (.astore i, 2)) (hn : i < nL) (h2 : (i, Value.ref x) :: lv.filter (fun q => !(q.1 == i) && !(q.1 + 1 == i && q.2.category == 2)) = lv2) (kk : kx E R G nL cells slots ws lv2 (pc + 2) (st)) : kx E R G nL cells slots ws lv (pc) (.ref x :: st) := by
  obtain ⟨p, e, s, m, args, below, meth, c, A, Q⟩ := G
  obtain ⟨hx, hb, hml, hown, hts, hK, hA, hN, ham, hNs, hlk⟩ := C
  intro H locs ls hP hD hS hl
  exact lv_astore hx hb hd hl hn h2 (fun ls2 hl2 => kk H locs ls2 hP hD hS hl2)
theorem kx_iinc (C : kc E G cc nL own) {i : Nat} {n : Int} {x v : Int32} {lv2 : List (Nat × Value)} (hd : decode cc pc = .ok (.iinc i n, 3)) (k : Nat) (hk : lv[k]? = some (i, .int x)) (hv : x + Int32.ofInt n = v) (hn : i < nL) (h2 : (i, Value.int v) :: lv.filter (fun q => !(q.1 == i) && !(q.1 + 1 == i && q.2.category == 2)) = lv2) (kk : kx E R G nL cells slots ws lv2 (pc + 3) (st)) : kx E R G nL cells slots ws lv (pc) (st) := by
  obtain ⟨p, e, s, m, args, below, meth, c, A, Q⟩ := G
  obtain ⟨hx, hb, hml, hown, hts, hK, hA, hN, ham, hNs, hlk⟩ := C
  intro H locs ls hP hD hS hl
  exact lv_iinc hx hb hd hl hk hv hn h2 (fun ls2 hl2 => kk H locs ls2 hP hD hS hl2)
theorem kx_lv {lv2 : List (Nat × Value)} (ks : List Nat) (h : lv_pick lv ks = lv2) (kk : kx E R G nL cells slots ws lv2 (pc) (st)) : kx E R G nL cells slots ws lv (pc) (st) := by
  obtain ⟨p, e, s, m, args, below, meth, c, A, Q⟩ := G
  intro H locs ls hP hD hS hl
  exact kk H locs ls hP hD hS (lv_sub hl ks h)
theorem kx_ws {ws2 : va_W} (is : List Nat) (hn : va_nd is = true) (h1 : is.filterMap (fun i => ws[i]?) = ws2) (h2 : is.map (fun i => ws[i]?) = ws2.map some) (kk : kx E R G nL cells slots ws2 lv (pc) (st)) : kx E R G nL cells slots ws lv (pc) (st) := by
  obtain ⟨p, e, s, m, args, below, meth, c, A, Q⟩ := G
  intro H locs ls hP hD hS hl
  exact kk H locs ls (hP.sub is h1) (hD.sub is hn h2) hS hl
theorem kx_eqw {ws2 : va_W} (h : ws = ws2) (kk : kx E R G nL cells slots ws2 lv (pc) (st)) : kx E R G nL cells slots ws lv (pc) (st) := h ▸ kk
theorem kx_eqs {st2 : List Value} (h : st = st2) (kk : kx E R G nL cells slots ws lv (pc) (st2)) : kx E R G nL cells slots ws lv (pc) (st) := h ▸ kk
theorem kx_widen {k n : Nat} (h1 : cells ≤ k) (h2 : slots ≤ n) (kk : kx E R G nL k n ws lv (pc) (st)) : kx E R G nL cells slots ws lv (pc) (st) := by
  obtain ⟨p, e, s, m, args, below, meth, c, A, Q⟩ := G
  intro H locs ls hP hD hS hl
  exact W.widen h1 h2 (kk H locs ls hP hD hS hl)
theorem kx_dup (C : kc E G cc nL own) {va : Value} (hd : decode cc pc = .ok (.dup, 1)) (hva : va.category = 1) (kk : kx E R G nL cells slots ws lv (pc + 1) (va :: va :: st)) : kx E R G nL cells slots ws lv (pc) (va :: st) := by
  obtain ⟨p, e, s, m, args, below, meth, c, A, Q⟩ := G
  obtain ⟨hx, hb, hml, hown, hts, hK, hA, hN, ham, hNs, hlk⟩ := C
  intro H locs ls hP hD hS hl
  exact lv_dup hx hb hd hva (kk H locs ls hP hD hS hl)
theorem kx_dup2 (C : kc E G cc nL own) {va vb : Value} (hd : decode cc pc = .ok (.dup2, 1)) (hva : va.category = 1) (hvb : vb.category = 1) (kk : kx E R G nL cells slots ws lv (pc + 1) (va :: vb :: va :: vb :: st)) : kx E R G nL cells slots ws lv (pc) (va :: vb :: st) := by
  obtain ⟨p, e, s, m, args, below, meth, c, A, Q⟩ := G
  obtain ⟨hx, hb, hml, hown, hts, hK, hA, hN, ham, hNs, hlk⟩ := C
  intro H locs ls hP hD hS hl
  exact lv_dup2_11 hx hb hd hva hvb (kk H locs ls hP hD hS hl)
theorem kx_pop (C : kc E G cc nL own) {va : Value} (hd : decode cc pc = .ok (.pop, 1)) (hva : va.category = 1) (kk : kx E R G nL cells slots ws lv (pc + 1) (st)) : kx E R G nL cells slots ws lv (pc) (va :: st) := by
  obtain ⟨p, e, s, m, args, below, meth, c, A, Q⟩ := G
  obtain ⟨hx, hb, hml, hown, hts, hK, hA, hN, ham, hNs, hlk⟩ := C
  intro H locs ls hP hD hS hl
  exact lv_pop hx hb hd hva (kk H locs ls hP hD hS hl)
theorem kx_goto (C : kc E G cc nL own) {off : Int} {tgt : Nat} (hd : decode cc pc = .ok (.goto off, 3)) (ht : (pc : Int) + off = (tgt : Int)) (kk : kx E R G nL cells slots ws lv (tgt) (st)) : kx E R G nL cells slots ws lv (pc) (st) := by
  obtain ⟨p, e, s, m, args, below, meth, c, A, Q⟩ := G
  obtain ⟨hx, hb, hml, hown, hts, hK, hA, hN, ham, hNs, hlk⟩ := C
  intro H locs ls hP hD hS hl
  exact lv_goto hx hb hd ht (kk H locs ls hP hD hS hl)
theorem kx_iaddR (C : kc E G cc nL own) {x y : Int32} (hd : decode cc pc = .ok (.iadd, 1)) (kk : kx E R G nL cells slots ws lv (pc + 1) (.int (x + y) :: st)) : kx E R G nL cells slots ws lv (pc) (.int y :: .int x :: st) := by
  obtain ⟨p, e, s, m, args, below, meth, c, A, Q⟩ := G
  obtain ⟨hx, hb, hml, hown, hts, hK, hA, hN, ham, hNs, hlk⟩ := C
  intro H locs ls hP hD hS hl
  exact lv_iadd hx hb hd (kk H locs ls hP hD hS hl)
theorem kx_isubR (C : kc E G cc nL own) {x y : Int32} (hd : decode cc pc = .ok (.isub, 1)) (kk : kx E R G nL cells slots ws lv (pc + 1) (.int (x - y) :: st)) : kx E R G nL cells slots ws lv (pc) (.int y :: .int x :: st) := by
  obtain ⟨p, e, s, m, args, below, meth, c, A, Q⟩ := G
  obtain ⟨hx, hb, hml, hown, hts, hK, hA, hN, ham, hNs, hlk⟩ := C
  intro H locs ls hP hD hS hl
  exact lv_isub hx hb hd (kk H locs ls hP hD hS hl)
theorem kx_imulR (C : kc E G cc nL own) {x y : Int32} (hd : decode cc pc = .ok (.imul, 1)) (kk : kx E R G nL cells slots ws lv (pc + 1) (.int (x * y) :: st)) : kx E R G nL cells slots ws lv (pc) (.int y :: .int x :: st) := by
  obtain ⟨p, e, s, m, args, below, meth, c, A, Q⟩ := G
  obtain ⟨hx, hb, hml, hown, hts, hK, hA, hN, ham, hNs, hlk⟩ := C
  intro H locs ls hP hD hS hl
  exact lv_imul hx hb hd (kk H locs ls hP hD hS hl)
theorem kx_iandR (C : kc E G cc nL own) {x y : Int32} (hd : decode cc pc = .ok (.iand, 1)) (kk : kx E R G nL cells slots ws lv (pc + 1) (.int (x &&& y) :: st)) : kx E R G nL cells slots ws lv (pc) (.int y :: .int x :: st) := by
  obtain ⟨p, e, s, m, args, below, meth, c, A, Q⟩ := G
  obtain ⟨hx, hb, hml, hown, hts, hK, hA, hN, ham, hNs, hlk⟩ := C
  intro H locs ls hP hD hS hl
  exact lv_iand hx hb hd (kk H locs ls hP hD hS hl)
theorem kx_iorR (C : kc E G cc nL own) {x y : Int32} (hd : decode cc pc = .ok (.ior, 1)) (kk : kx E R G nL cells slots ws lv (pc + 1) (.int (x ||| y) :: st)) : kx E R G nL cells slots ws lv (pc) (.int y :: .int x :: st) := by
  obtain ⟨p, e, s, m, args, below, meth, c, A, Q⟩ := G
  obtain ⟨hx, hb, hml, hown, hts, hK, hA, hN, ham, hNs, hlk⟩ := C
  intro H locs ls hP hD hS hl
  exact lv_ior hx hb hd (kk H locs ls hP hD hS hl)
theorem kx_ishlR (C : kc E G cc nL own) {x y : Int32} (hd : decode cc pc = .ok (.ishl, 1)) (kk : kx E R G nL cells slots ws lv (pc + 1) (.int (x <<< (y &&& 31)) :: st)) : kx E R G nL cells slots ws lv (pc) (.int y :: .int x :: st) := by
  obtain ⟨p, e, s, m, args, below, meth, c, A, Q⟩ := G
  obtain ⟨hx, hb, hml, hown, hts, hK, hA, hN, ham, hNs, hlk⟩ := C
  intro H locs ls hP hD hS hl
  exact lv_ishl hx hb hd (kk H locs ls hP hD hS hl)
theorem kx_laddR (C : kc E G cc nL own) {x y : Int64} (hd : decode cc pc = .ok (.ladd, 1)) (kk : kx E R G nL cells slots ws lv (pc + 1) (.long (x + y) :: st)) : kx E R G nL cells slots ws lv (pc) (.long y :: .long x :: st) := by
  obtain ⟨p, e, s, m, args, below, meth, c, A, Q⟩ := G
  obtain ⟨hx, hb, hml, hown, hts, hK, hA, hN, ham, hNs, hlk⟩ := C
  intro H locs ls hP hD hS hl
  exact lv_ladd hx hb hd (kk H locs ls hP hD hS hl)
theorem kx_lsubR (C : kc E G cc nL own) {x y : Int64} (hd : decode cc pc = .ok (.lsub, 1)) (kk : kx E R G nL cells slots ws lv (pc + 1) (.long (x - y) :: st)) : kx E R G nL cells slots ws lv (pc) (.long y :: .long x :: st) := by
  obtain ⟨p, e, s, m, args, below, meth, c, A, Q⟩ := G
  obtain ⟨hx, hb, hml, hown, hts, hK, hA, hN, ham, hNs, hlk⟩ := C
  intro H locs ls hP hD hS hl
  exact lv_lsub hx hb hd (kk H locs ls hP hD hS hl)
theorem kx_landR (C : kc E G cc nL own) {x y : Int64} (hd : decode cc pc = .ok (.land, 1)) (kk : kx E R G nL cells slots ws lv (pc + 1) (.long (x &&& y) :: st)) : kx E R G nL cells slots ws lv (pc) (.long y :: .long x :: st) := by
  obtain ⟨p, e, s, m, args, below, meth, c, A, Q⟩ := G
  obtain ⟨hx, hb, hml, hown, hts, hK, hA, hN, ham, hNs, hlk⟩ := C
  intro H locs ls hP hD hS hl
  exact lv_land hx hb hd (kk H locs ls hP hD hS hl)
theorem kx_lorR (C : kc E G cc nL own) {x y : Int64} (hd : decode cc pc = .ok (.lor, 1)) (kk : kx E R G nL cells slots ws lv (pc + 1) (.long (x ||| y) :: st)) : kx E R G nL cells slots ws lv (pc) (.long y :: .long x :: st) := by
  obtain ⟨p, e, s, m, args, below, meth, c, A, Q⟩ := G
  obtain ⟨hx, hb, hml, hown, hts, hK, hA, hN, ham, hNs, hlk⟩ := C
  intro H locs ls hP hD hS hl
  exact lv_lor hx hb hd (kk H locs ls hP hD hS hl)
theorem kx_i2l (C : kc E G cc nL own) {x : Int32} {v : Int64} (hd : decode cc pc = .ok (.i2l, 1)) (hv : x.toInt64 = v) (kk : kx E R G nL cells slots ws lv (pc + 1) (.long v :: st)) : kx E R G nL cells slots ws lv (pc) (.int x :: st) := by
  obtain ⟨p, e, s, m, args, below, meth, c, A, Q⟩ := G
  obtain ⟨hx, hb, hml, hown, hts, hK, hA, hN, ham, hNs, hlk⟩ := C
  intro H locs ls hP hD hS hl
  exact lv_i2l hx hb hd hv (kk H locs ls hP hD hS hl)
theorem kx_lshl (C : kc E G cc nL own) {x : Int64} {y : Int32} {v : Int64} (hd : decode cc pc = .ok (.lshl, 1)) (hv : x <<< (y.toInt64 &&& 63) = v) (kk : kx E R G nL cells slots ws lv (pc + 1) (.long v :: st)) : kx E R G nL cells slots ws lv (pc) (.int y :: .long x :: st) := by
  obtain ⟨p, e, s, m, args, below, meth, c, A, Q⟩ := G
  obtain ⟨hx, hb, hml, hown, hts, hK, hA, hN, ham, hNs, hlk⟩ := C
  intro H locs ls hP hD hS hl
  exact lv_lshl hx hb hd hv (kk H locs ls hP hD hS hl)
theorem kx_iadd (C : kc E G cc nL own) {a b : Nat} (hd : decode cc pc = .ok (.iadd, 1)) (kk : kx E R G nL cells slots ws lv (pc + 1) (.int (nI (a + b)) :: st)) : kx E R G nL cells slots ws lv (pc) (.int (nI b) :: .int (nI a) :: st) := by
  obtain ⟨p, e, s, m, args, below, meth, c, A, Q⟩ := G
  obtain ⟨hx, hb, hml, hown, hts, hK, hA, hN, ham, hNs, hlk⟩ := C
  intro H locs ls hP hD hS hl
  refine lv_iadd hx hb hd ?_
  rw [nI_add]
  exact (kk H locs ls hP hD hS hl)
theorem kx_imul (C : kc E G cc nL own) {a b : Nat} (hd : decode cc pc = .ok (.imul, 1)) (kk : kx E R G nL cells slots ws lv (pc + 1) (.int (nI (a * b)) :: st)) : kx E R G nL cells slots ws lv (pc) (.int (nI b) :: .int (nI a) :: st) := by
  obtain ⟨p, e, s, m, args, below, meth, c, A, Q⟩ := G
  obtain ⟨hx, hb, hml, hown, hts, hK, hA, hN, ham, hNs, hlk⟩ := C
  intro H locs ls hP hD hS hl
  refine lv_imul hx hb hd ?_
  rw [pk_mul]
  exact (kk H locs ls hP hD hS hl)
theorem kx_isub (C : kc E G cc nL own) {a b : Nat} (h : b ≤ a) (hd : decode cc pc = .ok (.isub, 1)) (kk : kx E R G nL cells slots ws lv (pc + 1) (.int (nI (a - b)) :: st)) : kx E R G nL cells slots ws lv (pc) (.int (nI b) :: .int (nI a) :: st) := by
  obtain ⟨p, e, s, m, args, below, meth, c, A, Q⟩ := G
  obtain ⟨hx, hb, hml, hown, hts, hK, hA, hN, ham, hNs, hlk⟩ := C
  intro H locs ls hP hD hS hl
  refine lv_isub hx hb hd ?_
  rw [pk_sub h]
  exact (kk H locs ls hP hD hS hl)
theorem kx_idiv (C : kc E G cc nL own) {a b : Nat} (ha : a < 2 ^ 31) (h0 : 0 < b) (hb2 : b < 2 ^ 31) (hd : decode cc pc = .ok (.idiv, 1)) (kk : kx E R G nL cells slots ws lv (pc + 1) (.int (nI (a / b)) :: st)) : kx E R G nL cells slots ws lv (pc) (.int (nI b) :: .int (nI a) :: st) := by
  obtain ⟨p, e, s, m, args, below, meth, c, A, Q⟩ := G
  obtain ⟨hx, hb, hml, hown, hts, hK, hA, hN, ham, hNs, hlk⟩ := C
  intro H locs ls hP hD hS hl
  refine lv_idiv hx hb hd (nI_ne0 h0 hb2) ?_
  rw [pk_div ha h0 hb2]
  exact (kk H locs ls hP hD hS hl)
theorem kx_irem (C : kc E G cc nL own) {a b : Nat} (ha : a < 2 ^ 31) (h0 : 0 < b) (hb2 : b < 2 ^ 31) (hd : decode cc pc = .ok (.irem, 1)) (kk : kx E R G nL cells slots ws lv (pc + 1) (.int (nI (a % b)) :: st)) : kx E R G nL cells slots ws lv (pc) (.int (nI b) :: .int (nI a) :: st) := by
  obtain ⟨p, e, s, m, args, below, meth, c, A, Q⟩ := G
  obtain ⟨hx, hb, hml, hown, hts, hK, hA, hN, ham, hNs, hlk⟩ := C
  intro H locs ls hP hD hS hl
  refine lv_irem hx hb hd (nI_ne0 h0 hb2) ?_
  rw [pk_rem ha h0 hb2]
  exact (kk H locs ls hP hD hS hl)
theorem kx_ladd (C : kc E G cc nL own) {a b : Nat} (hd : decode cc pc = .ok (.ladd, 1)) (kk : kx E R G nL cells slots ws lv (pc + 1) (.long (lN (a + b)) :: st)) : kx E R G nL cells slots ws lv (pc) (.long (lN b) :: .long (lN a) :: st) := by
  obtain ⟨p, e, s, m, args, below, meth, c, A, Q⟩ := G
  obtain ⟨hx, hb, hml, hown, hts, hK, hA, hN, ham, hNs, hlk⟩ := C
  intro H locs ls hP hD hS hl
  refine lv_ladd hx hb hd ?_
  rw [lN_add]
  exact (kk H locs ls hP hD hS hl)
theorem kx_lsub (C : kc E G cc nL own) {a b : Nat} (h : b ≤ a) (hd : decode cc pc = .ok (.lsub, 1)) (kk : kx E R G nL cells slots ws lv (pc + 1) (.long (lN (a - b)) :: st)) : kx E R G nL cells slots ws lv (pc) (.long (lN b) :: .long (lN a) :: st) := by
  obtain ⟨p, e, s, m, args, below, meth, c, A, Q⟩ := G
  obtain ⟨hx, hb, hml, hown, hts, hK, hA, hN, ham, hNs, hlk⟩ := C
  intro H locs ls hP hD hS hl
  refine lv_lsub hx hb hd ?_
  rw [lN_sub h]
  exact (kk H locs ls hP hD hS hl)
theorem kx_icmp_eqR (C : kc E G cc nL own) {x y : Int32} {off : Int} {tgt : Nat} (hd : decode cc pc = .ok (.if_icmp .eq off, 3)) (ht : (pc : Int) + off = (tgt : Int)) (kt : x = y → kx E R G nL cells slots ws lv (tgt) (st)) (kf : ¬ x = y → kx E R G nL cells slots ws lv (pc + 3) (st)) : kx E R G nL cells slots ws lv (pc) (.int y :: .int x :: st) := by
  obtain ⟨p, e, s, m, args, below, meth, c, A, Q⟩ := G
  obtain ⟨hx, hb, hml, hown, hts, hK, hA, hN, ham, hNs, hlk⟩ := C
  intro H locs ls hP hD hS hl
  exact lv_icmp_eq hx hb hd ht (fun h => kt h H locs ls hP hD hS hl) (fun h => kf h H locs ls hP hD hS hl)
theorem kx_if_eqR (C : kc E G cc nL own) {x : Int32} {off : Int} {tgt : Nat} (hd : decode cc pc = .ok (.ifCond .eq off, 3)) (ht : (pc : Int) + off = (tgt : Int)) (kt : x = 0 → kx E R G nL cells slots ws lv (tgt) (st)) (kf : ¬ x = 0 → kx E R G nL cells slots ws lv (pc + 3) (st)) : kx E R G nL cells slots ws lv (pc) (.int x :: st) := by
  obtain ⟨p, e, s, m, args, below, meth, c, A, Q⟩ := G
  obtain ⟨hx, hb, hml, hown, hts, hK, hA, hN, ham, hNs, hlk⟩ := C
  intro H locs ls hP hD hS hl
  exact lv_if_eq hx hb hd ht (fun h => kt h H locs ls hP hD hS hl) (fun h => kf h H locs ls hP hD hS hl)
theorem kx_icmp_eq (C : kc E G cc nL own) {a b : Nat} {off : Int} {tgt : Nat} (ha : a < 2 ^ 31) (hb2 : b < 2 ^ 31) (hd : decode cc pc = .ok (.if_icmp .eq off, 3)) (ht : (pc : Int) + off = (tgt : Int)) (kt : a = b → kx E R G nL cells slots ws lv (tgt) (st)) (kf : a ≠ b → kx E R G nL cells slots ws lv (pc + 3) (st)) : kx E R G nL cells slots ws lv (pc) (.int (nI b) :: .int (nI a) :: st) := by
  obtain ⟨p, e, s, m, args, below, meth, c, A, Q⟩ := G
  obtain ⟨hx, hb, hml, hown, hts, hK, hA, hN, ham, hNs, hlk⟩ := C
  intro H locs ls hP hD hS hl
  exact lv_icmp_eq hx hb hd ht (fun h => kt ((nI_eq ha hb2).mp h) H locs ls hP hD hS hl) (fun h => kf (fun z => h ((nI_eq ha hb2).mpr z)) H locs ls hP hD hS hl)
theorem kx_icmp_neR (C : kc E G cc nL own) {x y : Int32} {off : Int} {tgt : Nat} (hd : decode cc pc = .ok (.if_icmp .ne off, 3)) (ht : (pc : Int) + off = (tgt : Int)) (kt : ¬ x = y → kx E R G nL cells slots ws lv (tgt) (st)) (kf : x = y → kx E R G nL cells slots ws lv (pc + 3) (st)) : kx E R G nL cells slots ws lv (pc) (.int y :: .int x :: st) := by
  obtain ⟨p, e, s, m, args, below, meth, c, A, Q⟩ := G
  obtain ⟨hx, hb, hml, hown, hts, hK, hA, hN, ham, hNs, hlk⟩ := C
  intro H locs ls hP hD hS hl
  exact lv_icmp_ne hx hb hd ht (fun h => kt h H locs ls hP hD hS hl) (fun h => kf h H locs ls hP hD hS hl)
theorem kx_if_neR (C : kc E G cc nL own) {x : Int32} {off : Int} {tgt : Nat} (hd : decode cc pc = .ok (.ifCond .ne off, 3)) (ht : (pc : Int) + off = (tgt : Int)) (kt : ¬ x = 0 → kx E R G nL cells slots ws lv (tgt) (st)) (kf : x = 0 → kx E R G nL cells slots ws lv (pc + 3) (st)) : kx E R G nL cells slots ws lv (pc) (.int x :: st) := by
  obtain ⟨p, e, s, m, args, below, meth, c, A, Q⟩ := G
  obtain ⟨hx, hb, hml, hown, hts, hK, hA, hN, ham, hNs, hlk⟩ := C
  intro H locs ls hP hD hS hl
  exact lv_if_ne hx hb hd ht (fun h => kt h H locs ls hP hD hS hl) (fun h => kf h H locs ls hP hD hS hl)
theorem kx_icmp_ne (C : kc E G cc nL own) {a b : Nat} {off : Int} {tgt : Nat} (ha : a < 2 ^ 31) (hb2 : b < 2 ^ 31) (hd : decode cc pc = .ok (.if_icmp .ne off, 3)) (ht : (pc : Int) + off = (tgt : Int)) (kt : a ≠ b → kx E R G nL cells slots ws lv (tgt) (st)) (kf : a = b → kx E R G nL cells slots ws lv (pc + 3) (st)) : kx E R G nL cells slots ws lv (pc) (.int (nI b) :: .int (nI a) :: st) := by
  obtain ⟨p, e, s, m, args, below, meth, c, A, Q⟩ := G
  obtain ⟨hx, hb, hml, hown, hts, hK, hA, hN, ham, hNs, hlk⟩ := C
  intro H locs ls hP hD hS hl
  exact lv_icmp_ne hx hb hd ht (fun h => kt (fun z => h ((nI_eq ha hb2).mpr z)) H locs ls hP hD hS hl) (fun h => kf ((nI_eq ha hb2).mp h) H locs ls hP hD hS hl)
theorem kx_icmp_ltR (C : kc E G cc nL own) {x y : Int32} {off : Int} {tgt : Nat} (hd : decode cc pc = .ok (.if_icmp .lt off, 3)) (ht : (pc : Int) + off = (tgt : Int)) (kt : x < y → kx E R G nL cells slots ws lv (tgt) (st)) (kf : ¬ x < y → kx E R G nL cells slots ws lv (pc + 3) (st)) : kx E R G nL cells slots ws lv (pc) (.int y :: .int x :: st) := by
  obtain ⟨p, e, s, m, args, below, meth, c, A, Q⟩ := G
  obtain ⟨hx, hb, hml, hown, hts, hK, hA, hN, ham, hNs, hlk⟩ := C
  intro H locs ls hP hD hS hl
  exact lv_icmp_lt hx hb hd ht (fun h => kt h H locs ls hP hD hS hl) (fun h => kf h H locs ls hP hD hS hl)
theorem kx_if_ltR (C : kc E G cc nL own) {x : Int32} {off : Int} {tgt : Nat} (hd : decode cc pc = .ok (.ifCond .lt off, 3)) (ht : (pc : Int) + off = (tgt : Int)) (kt : x < 0 → kx E R G nL cells slots ws lv (tgt) (st)) (kf : ¬ x < 0 → kx E R G nL cells slots ws lv (pc + 3) (st)) : kx E R G nL cells slots ws lv (pc) (.int x :: st) := by
  obtain ⟨p, e, s, m, args, below, meth, c, A, Q⟩ := G
  obtain ⟨hx, hb, hml, hown, hts, hK, hA, hN, ham, hNs, hlk⟩ := C
  intro H locs ls hP hD hS hl
  exact lv_if_lt hx hb hd ht (fun h => kt h H locs ls hP hD hS hl) (fun h => kf h H locs ls hP hD hS hl)
theorem kx_icmp_lt (C : kc E G cc nL own) {a b : Nat} {off : Int} {tgt : Nat} (ha : a < 2 ^ 31) (hb2 : b < 2 ^ 31) (hd : decode cc pc = .ok (.if_icmp .lt off, 3)) (ht : (pc : Int) + off = (tgt : Int)) (kt : a < b → kx E R G nL cells slots ws lv (tgt) (st)) (kf : b ≤ a → kx E R G nL cells slots ws lv (pc + 3) (st)) : kx E R G nL cells slots ws lv (pc) (.int (nI b) :: .int (nI a) :: st) := by
  obtain ⟨p, e, s, m, args, below, meth, c, A, Q⟩ := G
  obtain ⟨hx, hb, hml, hown, hts, hK, hA, hN, ham, hNs, hlk⟩ := C
  intro H locs ls hP hD hS hl
  exact lv_icmp_lt hx hb hd ht (fun h => kt ((nI_ltI ha hb2).mp h) H locs ls hP hD hS hl) (fun h => kf (Nat.not_lt.mp fun z => h ((nI_ltI ha hb2).mpr z)) H locs ls hP hD hS hl)
theorem kx_icmp_geR (C : kc E G cc nL own) {x y : Int32} {off : Int} {tgt : Nat} (hd : decode cc pc = .ok (.if_icmp .ge off, 3)) (ht : (pc : Int) + off = (tgt : Int)) (kt : y ≤ x → kx E R G nL cells slots ws lv (tgt) (st)) (kf : ¬ y ≤ x → kx E R G nL cells slots ws lv (pc + 3) (st)) : kx E R G nL cells slots ws lv (pc) (.int y :: .int x :: st) := by
  obtain ⟨p, e, s, m, args, below, meth, c, A, Q⟩ := G
  obtain ⟨hx, hb, hml, hown, hts, hK, hA, hN, ham, hNs, hlk⟩ := C
  intro H locs ls hP hD hS hl
  exact lv_icmp_ge hx hb hd ht (fun h => kt h H locs ls hP hD hS hl) (fun h => kf h H locs ls hP hD hS hl)
theorem kx_if_geR (C : kc E G cc nL own) {x : Int32} {off : Int} {tgt : Nat} (hd : decode cc pc = .ok (.ifCond .ge off, 3)) (ht : (pc : Int) + off = (tgt : Int)) (kt : 0 ≤ x → kx E R G nL cells slots ws lv (tgt) (st)) (kf : ¬ 0 ≤ x → kx E R G nL cells slots ws lv (pc + 3) (st)) : kx E R G nL cells slots ws lv (pc) (.int x :: st) := by
  obtain ⟨p, e, s, m, args, below, meth, c, A, Q⟩ := G
  obtain ⟨hx, hb, hml, hown, hts, hK, hA, hN, ham, hNs, hlk⟩ := C
  intro H locs ls hP hD hS hl
  exact lv_if_ge hx hb hd ht (fun h => kt h H locs ls hP hD hS hl) (fun h => kf h H locs ls hP hD hS hl)
theorem kx_icmp_ge (C : kc E G cc nL own) {a b : Nat} {off : Int} {tgt : Nat} (ha : a < 2 ^ 31) (hb2 : b < 2 ^ 31) (hd : decode cc pc = .ok (.if_icmp .ge off, 3)) (ht : (pc : Int) + off = (tgt : Int)) (kt : b ≤ a → kx E R G nL cells slots ws lv (tgt) (st)) (kf : a < b → kx E R G nL cells slots ws lv (pc + 3) (st)) : kx E R G nL cells slots ws lv (pc) (.int (nI b) :: .int (nI a) :: st) := by
  obtain ⟨p, e, s, m, args, below, meth, c, A, Q⟩ := G
  obtain ⟨hx, hb, hml, hown, hts, hK, hA, hN, ham, hNs, hlk⟩ := C
  intro H locs ls hP hD hS hl
  exact lv_icmp_ge hx hb hd ht (fun h => kt ((nI_leI hb2 ha).mp h) H locs ls hP hD hS hl) (fun h => kf (Nat.not_le.mp fun z => h ((nI_leI hb2 ha).mpr z)) H locs ls hP hD hS hl)
theorem kx_icmp_gtR (C : kc E G cc nL own) {x y : Int32} {off : Int} {tgt : Nat} (hd : decode cc pc = .ok (.if_icmp .gt off, 3)) (ht : (pc : Int) + off = (tgt : Int)) (kt : y < x → kx E R G nL cells slots ws lv (tgt) (st)) (kf : ¬ y < x → kx E R G nL cells slots ws lv (pc + 3) (st)) : kx E R G nL cells slots ws lv (pc) (.int y :: .int x :: st) := by
  obtain ⟨p, e, s, m, args, below, meth, c, A, Q⟩ := G
  obtain ⟨hx, hb, hml, hown, hts, hK, hA, hN, ham, hNs, hlk⟩ := C
  intro H locs ls hP hD hS hl
  exact lv_icmp_gt hx hb hd ht (fun h => kt h H locs ls hP hD hS hl) (fun h => kf h H locs ls hP hD hS hl)
theorem kx_if_gtR (C : kc E G cc nL own) {x : Int32} {off : Int} {tgt : Nat} (hd : decode cc pc = .ok (.ifCond .gt off, 3)) (ht : (pc : Int) + off = (tgt : Int)) (kt : 0 < x → kx E R G nL cells slots ws lv (tgt) (st)) (kf : ¬ 0 < x → kx E R G nL cells slots ws lv (pc + 3) (st)) : kx E R G nL cells slots ws lv (pc) (.int x :: st) := by
  obtain ⟨p, e, s, m, args, below, meth, c, A, Q⟩ := G
  obtain ⟨hx, hb, hml, hown, hts, hK, hA, hN, ham, hNs, hlk⟩ := C
  intro H locs ls hP hD hS hl
  exact lv_if_gt hx hb hd ht (fun h => kt h H locs ls hP hD hS hl) (fun h => kf h H locs ls hP hD hS hl)
theorem kx_icmp_gt (C : kc E G cc nL own) {a b : Nat} {off : Int} {tgt : Nat} (ha : a < 2 ^ 31) (hb2 : b < 2 ^ 31) (hd : decode cc pc = .ok (.if_icmp .gt off, 3)) (ht : (pc : Int) + off = (tgt : Int)) (kt : b < a → kx E R G nL cells slots ws lv (tgt) (st)) (kf : a ≤ b → kx E R G nL cells slots ws lv (pc + 3) (st)) : kx E R G nL cells slots ws lv (pc) (.int (nI b) :: .int (nI a) :: st) := by
  obtain ⟨p, e, s, m, args, below, meth, c, A, Q⟩ := G
  obtain ⟨hx, hb, hml, hown, hts, hK, hA, hN, ham, hNs, hlk⟩ := C
  intro H locs ls hP hD hS hl
  exact lv_icmp_gt hx hb hd ht (fun h => kt ((nI_ltI hb2 ha).mp h) H locs ls hP hD hS hl) (fun h => kf (Nat.not_lt.mp fun z => h ((nI_ltI hb2 ha).mpr z)) H locs ls hP hD hS hl)
theorem kx_icmp_leR (C : kc E G cc nL own) {x y : Int32} {off : Int} {tgt : Nat} (hd : decode cc pc = .ok (.if_icmp .le off, 3)) (ht : (pc : Int) + off = (tgt : Int)) (kt : x ≤ y → kx E R G nL cells slots ws lv (tgt) (st)) (kf : ¬ x ≤ y → kx E R G nL cells slots ws lv (pc + 3) (st)) : kx E R G nL cells slots ws lv (pc) (.int y :: .int x :: st) := by
  obtain ⟨p, e, s, m, args, below, meth, c, A, Q⟩ := G
  obtain ⟨hx, hb, hml, hown, hts, hK, hA, hN, ham, hNs, hlk⟩ := C
  intro H locs ls hP hD hS hl
  exact lv_icmp_le hx hb hd ht (fun h => kt h H locs ls hP hD hS hl) (fun h => kf h H locs ls hP hD hS hl)
theorem kx_if_leR (C : kc E G cc nL own) {x : Int32} {off : Int} {tgt : Nat} (hd : decode cc pc = .ok (.ifCond .le off, 3)) (ht : (pc : Int) + off = (tgt : Int)) (kt : x ≤ 0 → kx E R G nL cells slots ws lv (tgt) (st)) (kf : ¬ x ≤ 0 → kx E R G nL cells slots ws lv (pc + 3) (st)) : kx E R G nL cells slots ws lv (pc) (.int x :: st) := by
  obtain ⟨p, e, s, m, args, below, meth, c, A, Q⟩ := G
  obtain ⟨hx, hb, hml, hown, hts, hK, hA, hN, ham, hNs, hlk⟩ := C
  intro H locs ls hP hD hS hl
  exact lv_if_le hx hb hd ht (fun h => kt h H locs ls hP hD hS hl) (fun h => kf h H locs ls hP hD hS hl)
theorem kx_icmp_le (C : kc E G cc nL own) {a b : Nat} {off : Int} {tgt : Nat} (ha : a < 2 ^ 31) (hb2 : b < 2 ^ 31) (hd : decode cc pc = .ok (.if_icmp .le off, 3)) (ht : (pc : Int) + off = (tgt : Int)) (kt : a ≤ b → kx E R G nL cells slots ws lv (tgt) (st)) (kf : b < a → kx E R G nL cells slots ws lv (pc + 3) (st)) : kx E R G nL cells slots ws lv (pc) (.int (nI b) :: .int (nI a) :: st) := by
  obtain ⟨p, e, s, m, args, below, meth, c, A, Q⟩ := G
  obtain ⟨hx, hb, hml, hown, hts, hK, hA, hN, ham, hNs, hlk⟩ := C
  intro H locs ls hP hD hS hl
  exact lv_icmp_le hx hb hd ht (fun h => kt ((nI_leI ha hb2).mp h) H locs ls hP hD hS hl) (fun h => kf (Nat.not_le.mp fun z => h ((nI_leI ha hb2).mpr z)) H locs ls hP hD hS hl)
end KR
theorem k_nI0 {a : Nat} (ha : a < 2 ^ 31) : nI a = 0 ↔ a = 0 := by
  rw [← nI_0]
  exact nI_eq ha (by decide)
theorem k_nIp {a : Nat} (ha : a < 2 ^ 31) : 0 < nI a ↔ 0 < a := by
  rw [← nI_0]
  exact nI_ltI (by decide) ha
theorem k_nIl {a : Nat} (ha : a < 2 ^ 31) : nI a ≤ 0 ↔ a = 0 := by
  rw [← nI_0]
  rw [nI_leI ha (by decide)]
  omega
section KR2
variable {E : KE} {R : Room} {G : KG} {cc : ByteArray} {nL : Nat} {own : String} {cells slots : Nat} {ws : va_W} {lv : List (Nat × Value)} {pc : Nat} {st : List Value}
theorem kx_if_eq (C : kc E G cc nL own) {a : Nat} {off : Int} {tgt : Nat} (ha : a < 2 ^ 31) (hd : decode cc pc = .ok (.ifCond .eq off, 3)) (ht : (pc : Int) + off = (tgt : Int)) (kt : a = 0 → kx E R G nL cells slots ws lv (tgt) (st)) (kf : a ≠ 0 → kx E R G nL cells slots ws lv (pc + 3) (st)) : kx E R G nL cells slots ws lv (pc) (.int (nI a) :: st) := by
  obtain ⟨p, e, s, m, args, below, meth, c, A, Q⟩ := G
  obtain ⟨hx, hb, hml, hown, hts, hK, hA, hN, ham, hNs, hlk⟩ := C
  intro H locs ls hP hD hS hl
  exact lv_if_eq hx hb hd ht (fun h => kt ((k_nI0 ha).mp h) H locs ls hP hD hS hl) (fun h => kf (fun z => h ((k_nI0 ha).mpr z)) H locs ls hP hD hS hl)
theorem kx_if_ne (C : kc E G cc nL own) {a : Nat} {off : Int} {tgt : Nat} (ha : a < 2 ^ 31) (hd : decode cc pc = .ok (.ifCond .ne off, 3)) (ht : (pc : Int) + off = (tgt : Int)) (kt : a ≠ 0 → kx E R G nL cells slots ws lv (tgt) (st)) (kf : a = 0 → kx E R G nL cells slots ws lv (pc + 3) (st)) : kx E R G nL cells slots ws lv (pc) (.int (nI a) :: st) := by
  obtain ⟨p, e, s, m, args, below, meth, c, A, Q⟩ := G
  obtain ⟨hx, hb, hml, hown, hts, hK, hA, hN, ham, hNs, hlk⟩ := C
  intro H locs ls hP hD hS hl
  exact lv_if_ne hx hb hd ht (fun h => kt (fun z => h ((k_nI0 ha).mpr z)) H locs ls hP hD hS hl) (fun h => kf ((k_nI0 ha).mp h) H locs ls hP hD hS hl)
theorem kx_if_gt (C : kc E G cc nL own) {a : Nat} {off : Int} {tgt : Nat} (ha : a < 2 ^ 31) (hd : decode cc pc = .ok (.ifCond .gt off, 3)) (ht : (pc : Int) + off = (tgt : Int)) (kt : 0 < a → kx E R G nL cells slots ws lv (tgt) (st)) (kf : a = 0 → kx E R G nL cells slots ws lv (pc + 3) (st)) : kx E R G nL cells slots ws lv (pc) (.int (nI a) :: st) := by
  obtain ⟨p, e, s, m, args, below, meth, c, A, Q⟩ := G
  obtain ⟨hx, hb, hml, hown, hts, hK, hA, hN, ham, hNs, hlk⟩ := C
  intro H locs ls hP hD hS hl
  exact lv_if_gt hx hb hd ht (fun h => kt ((k_nIp ha).mp h) H locs ls hP hD hS hl) (fun h => kf (Nat.eq_zero_of_not_pos fun z => h ((k_nIp ha).mpr z)) H locs ls hP hD hS hl)
theorem kx_if_le (C : kc E G cc nL own) {a : Nat} {off : Int} {tgt : Nat} (ha : a < 2 ^ 31) (hd : decode cc pc = .ok (.ifCond .le off, 3)) (ht : (pc : Int) + off = (tgt : Int)) (kt : a = 0 → kx E R G nL cells slots ws lv (tgt) (st)) (kf : 0 < a → kx E R G nL cells slots ws lv (pc + 3) (st)) : kx E R G nL cells slots ws lv (pc) (.int (nI a) :: st) := by
  obtain ⟨p, e, s, m, args, below, meth, c, A, Q⟩ := G
  obtain ⟨hx, hb, hml, hown, hts, hK, hA, hN, ham, hNs, hlk⟩ := C
  intro H locs ls hP hD hS hl
  exact lv_if_le hx hb hd ht (fun h => kt ((k_nIl ha).mp h) H locs ls hP hD hS hl) (fun h => kf (Nat.pos_of_ne_zero fun z => h ((k_nIl ha).mpr z)) H locs ls hP hD hS hl)
theorem kx_lcmp_ltR (C : kc E G cc nL own) {x y : Int64} {off : Int} {tgt : Nat} (hd : decode cc pc = .ok (.lcmp, 1)) (hd2 : decode cc (pc + 1) = .ok (.ifCond .lt off, 3)) (ht : ((pc + 1 : Nat) : Int) + off = (tgt : Int)) (kt : x < y → kx E R G nL cells slots ws lv (tgt) (st)) (kf : ¬ x < y → kx E R G nL cells slots ws lv (pc + 1 + 3) (st)) : kx E R G nL cells slots ws lv (pc) (.long y :: .long x :: st) := by
  obtain ⟨p, e, s, m, args, below, meth, c, A, Q⟩ := G
  obtain ⟨hx, hb, hml, hown, hts, hK, hA, hN, ham, hNs, hlk⟩ := C
  intro H locs ls hP hD hS hl
  refine W.lcmp hx hb hd ?_
  exact lv_if_lt hx hb hd2 ht (fun h => kt ((lg_cmp_lt x y).mp h) H locs ls hP hD hS hl) (fun h => kf (fun z => h ((lg_cmp_lt x y).mpr z)) H locs ls hP hD hS hl)
theorem kx_lcmp_lt (C : kc E G cc nL own) {a b : Nat} {off : Int} {tgt : Nat} (ha : a < 2 ^ 63) (hb2 : b < 2 ^ 63) (hd : decode cc pc = .ok (.lcmp, 1)) (hd2 : decode cc (pc + 1) = .ok (.ifCond .lt off, 3)) (ht : ((pc + 1 : Nat) : Int) + off = (tgt : Int)) (kt : a < b → kx E R G nL cells slots ws lv (tgt) (st)) (kf : b ≤ a → kx E R G nL cells slots ws lv (pc + 1 + 3) (st)) : kx E R G nL cells slots ws lv (pc) (.long (lN b) :: .long (lN a) :: st) := by
  obtain ⟨p, e, s, m, args, below, meth, c, A, Q⟩ := G
  obtain ⟨hx, hb, hml, hown, hts, hK, hA, hN, ham, hNs, hlk⟩ := C
  intro H locs ls hP hD hS hl
  refine W.lcmp hx hb hd ?_
  exact lv_if_lt hx hb hd2 ht (fun h => kt ((pk_lLT ha hb2).mp ((lg_cmp_lt _ _).mp h)) H locs ls hP hD hS hl) (fun h => kf (Nat.not_lt.mp fun z => h ((lg_cmp_lt _ _).mpr ((pk_lLT ha hb2).mpr z))) H locs ls hP hD hS hl)
theorem kx_lcmp_geR (C : kc E G cc nL own) {x y : Int64} {off : Int} {tgt : Nat} (hd : decode cc pc = .ok (.lcmp, 1)) (hd2 : decode cc (pc + 1) = .ok (.ifCond .ge off, 3)) (ht : ((pc + 1 : Nat) : Int) + off = (tgt : Int)) (kt : y ≤ x → kx E R G nL cells slots ws lv (tgt) (st)) (kf : ¬ y ≤ x → kx E R G nL cells slots ws lv (pc + 1 + 3) (st)) : kx E R G nL cells slots ws lv (pc) (.long y :: .long x :: st) := by
  obtain ⟨p, e, s, m, args, below, meth, c, A, Q⟩ := G
  obtain ⟨hx, hb, hml, hown, hts, hK, hA, hN, ham, hNs, hlk⟩ := C
  intro H locs ls hP hD hS hl
  refine W.lcmp hx hb hd ?_
  exact lv_if_ge hx hb hd2 ht (fun h => kt ((lg_cmp_ge x y).mp h) H locs ls hP hD hS hl) (fun h => kf (fun z => h ((lg_cmp_ge x y).mpr z)) H locs ls hP hD hS hl)
theorem kx_lcmp_ge (C : kc E G cc nL own) {a b : Nat} {off : Int} {tgt : Nat} (ha : a < 2 ^ 63) (hb2 : b < 2 ^ 63) (hd : decode cc pc = .ok (.lcmp, 1)) (hd2 : decode cc (pc + 1) = .ok (.ifCond .ge off, 3)) (ht : ((pc + 1 : Nat) : Int) + off = (tgt : Int)) (kt : b ≤ a → kx E R G nL cells slots ws lv (tgt) (st)) (kf : a < b → kx E R G nL cells slots ws lv (pc + 1 + 3) (st)) : kx E R G nL cells slots ws lv (pc) (.long (lN b) :: .long (lN a) :: st) := by
  obtain ⟨p, e, s, m, args, below, meth, c, A, Q⟩ := G
  obtain ⟨hx, hb, hml, hown, hts, hK, hA, hN, ham, hNs, hlk⟩ := C
  intro H locs ls hP hD hS hl
  refine W.lcmp hx hb hd ?_
  exact lv_if_ge hx hb hd2 ht (fun h => kt ((pk_lLE hb2 ha).mp ((lg_cmp_ge _ _).mp h)) H locs ls hP hD hS hl) (fun h => kf (Nat.not_le.mp fun z => h ((lg_cmp_ge _ _).mpr ((pk_lLE hb2 ha).mpr z))) H locs ls hP hD hS hl)
end KR2
def nF (P : Nat → Nat) : Nat → Int32 := fun j => nI (P j)
def lF (P : Nat → Nat) : Nat → Int64 := fun j => lN (P j)
theorem nF_up (P : Nat → Nat) (j v : Nat) : upd (nF P) j (nI v) = nF (va_up P j v) := by
  funext q
  by_cases h : q = j
  · simp [upd, nF, va_up, h]
  · simp [upd, nF, va_up, h]
theorem lF_up (P : Nat → Nat) (j v : Nat) : vp_updL (lF P) j (lN v) = lF (va_up P j v) := by
  funext q
  by_cases h : q = j
  · simp [vp_updL, lF, va_up, h]
  · simp [vp_updL, lF, va_up, h]
section KR3
variable {E : KE} {R : Room} {G : KG} {cc : ByteArray} {nL : Nat} {own : String} {cells slots : Nat} {ws : va_W} {lv : List (Nat × Value)} {pc : Nat} {st : List Value}
theorem kx_iald (C : kc E G cc nL own) (q0 : Nat) {a n : Nat} {P : Nat → Nat} (hw : ws[q0]? = some (a, .inl (kI E, n, .inl (nF P)))) {j : Nat} (hj : j < n) (hn : n < 2 ^ 31) (hd : decode cc pc = .ok (.iaload, 1)) (kk : kx E R G nL cells slots ws lv (pc + 1) (.int (nI (P j)) :: st)) : kx E R G nL cells slots ws lv (pc) (.int (nI j) :: .ref a :: st) := by
  obtain ⟨p, e, s, m, args, below, meth, c, A, Q⟩ := G
  obtain ⟨hx, hb, hml, hown, hts, hK, hA, hN, ham, hNs, hlk⟩ := C
  intro H locs ls hP hD hS hl
  refine va_iald hx hb hK hP q0 0 hw rfl (vp_in_nI hj hn) hd ?_
  rw [nI_clamp (Nat.lt_trans hj hn)]
  exact kk H locs ls hP hD hS hl
theorem kx_iast (C : kc E G cc nL own) (q0 : Nat) {a n : Nat} {P : Nat → Nat} (hw : ws[q0]? = some (a, .inl (kI E, n, .inl (nF P)))) {j v : Nat} (hj : j < n) (hn : n < 2 ^ 31) {ws2 : va_W} (h2 : ws.set q0 (a, .inl (kI E, n, .inl (nF (va_up P j v)))) = ws2) (hd : decode cc pc = .ok (.iastore, 1)) (kk : kx E R G nL cells slots ws2 lv (pc + 1) (st)) : kx E R G nL cells slots ws lv (pc) (.int (nI v) :: .int (nI j) :: .ref a :: st) := by
  obtain ⟨p, e, s, m, args, below, meth, c, A, Q⟩ := G
  obtain ⟨hx, hb, hml, hown, hts, hK, hA, hN, ham, hNs, hlk⟩ := C
  intro H locs ls hP hD hS hl
  refine va_iast hx hb hK hP hD hS q0 0 hw rfl (vp_in_nI hj hn) hd ?_
  rw [nI_clamp (Nat.lt_trans hj hn), nF_up, h2]
  exact fun H1 locs1 hP1 hD1 hS1 => kk H1 locs1 ls hP1 hD1 hS1 hl
theorem kx_lald (C : kc E G cc nL own) (q0 : Nat) {a n : Nat} {P : Nat → Nat} (hw : ws[q0]? = some (a, .inl (kL E, n, .inr (.inl (lF P))))) {j : Nat} (hj : j < n) (hn : n < 2 ^ 31) (hd : decode cc pc = .ok (.laload, 1)) (kk : kx E R G nL cells slots ws lv (pc + 1) (.long (lN (P j)) :: st)) : kx E R G nL cells slots ws lv (pc) (.int (nI j) :: .ref a :: st) := by
  obtain ⟨p, e, s, m, args, below, meth, c, A, Q⟩ := G
  obtain ⟨hx, hb, hml, hown, hts, hK, hA, hN, ham, hNs, hlk⟩ := C
  intro H locs ls hP hD hS hl
  refine va_lald hx hb hK hP q0 1 hw rfl (vp_in_nI hj hn) hd ?_
  rw [nI_clamp (Nat.lt_trans hj hn)]
  exact kk H locs ls hP hD hS hl
theorem kx_last (C : kc E G cc nL own) (q0 : Nat) {a n : Nat} {P : Nat → Nat} (hw : ws[q0]? = some (a, .inl (kL E, n, .inr (.inl (lF P))))) {j v : Nat} (hj : j < n) (hn : n < 2 ^ 31) {ws2 : va_W} (h2 : ws.set q0 (a, .inl (kL E, n, .inr (.inl (lF (va_up P j v))))) = ws2) (hd : decode cc pc = .ok (.lastore, 1)) (kk : kx E R G nL cells slots ws2 lv (pc + 1) (st)) : kx E R G nL cells slots ws lv (pc) (.long (lN v) :: .int (nI j) :: .ref a :: st) := by
  obtain ⟨p, e, s, m, args, below, meth, c, A, Q⟩ := G
  obtain ⟨hx, hb, hml, hown, hts, hK, hA, hN, ham, hNs, hlk⟩ := C
  intro H locs ls hP hD hS hl
  refine va_last hx hb hK hP hD hS q0 1 hw rfl (vp_in_nI hj hn) hd ?_
  rw [nI_clamp (Nat.lt_trans hj hn), lF_up, h2]
  exact fun H1 locs1 hP1 hD1 hS1 => kk H1 locs1 ls hP1 hD1 hS1 hl
theorem kx_get (C : kc E G cc nL own) {ref : String} {T : u_T} {N ci index a : Nat} {Cn : String} (hin : ∀ w ∈ u_ws Cn T N, w ∈ kTb) (q0 : Nat) {fs : List Value} (he : ws[q0]? = some (a, .inr (ci, fs))) (hc : kCl[ci]? = some (Cn, T, N)) (k : Nat) (hk : k < N) (hlink : Cond.fieldLink own index ref (T k).2.1 (T k).2.2.1 ∈ kTb) (href : (T k).1 = ref) {v : Value} (hv : fs[k]? = some v) (hd : decode cc pc = .ok (.getfield index, 3)) (kk : kx E R G nL cells slots ws lv (pc + 3) (v :: st)) : kx E R G nL cells slots ws lv (pc) (.ref a :: st) := by
  obtain ⟨p, e, s, m, args, below, meth, c, A, Q⟩ := G
  obtain ⟨hx, hb, hml, hown, hts, hK, hA, hN, ham, hNs, hlk⟩ := C
  intro H locs ls hP hD hS hl
  subst href
  exact va_get hx hb hts hin hown hK hP q0 he hc k hk (hts _ hlink) (fun _ h9 => h9) hv hd (kk H locs ls hP hD hS hl)
theorem kx_put (C : kc E G cc nL own) {ref : String} {T : u_T} {N ci index a : Nat} {Cn : String} (hin : ∀ w ∈ u_ws Cn T N, w ∈ kTb) {ty0 : Nat → FieldType} (hty : ∀ k, k < N → parseFieldDescriptor (T k).2.2.1 = some (ty0 k)) (hnm : ∀ a, a < N → ∀ b, b < N → a ≠ b → (T a).2.1 ≠ (T b).2.1) (q0 : Nat) {fs : List Value} (he : ws[q0]? = some (a, .inr (ci, fs))) (hc : kCl[ci]? = some (Cn, T, N)) (k : Nat) (hk : k < N) (hlink : Cond.fieldLink own index ref (T k).2.1 (T k).2.2.1 ∈ kTb) (href : (T k).1 = ref) (hfin : (T k).2.2.2 = false) {v : Value} (hn : narrow (ty0 k) v = v) (hfit : fits (ty0 k) v = true) (hl2 : k < fs.length) {ws2 : va_W} (h2 : ws.set q0 (a, .inr (ci, fs.set k v)) = ws2) (hd : decode cc pc = .ok (.putfield index, 3)) (kk : kx E R G nL cells slots ws2 lv (pc + 3) (st)) : kx E R G nL cells slots ws lv (pc) (v :: .ref a :: st) := by
  obtain ⟨p, e, s, m, args, below, meth, c, A, Q⟩ := G
  obtain ⟨hx, hb, hml, hown, hts, hK, hA, hN, ham, hNs, hlk⟩ := C
  intro H locs ls hP hD hS hl
  subst href
  subst h2
  exact va_put hx hb hts hin ty0 hty hnm hown hK hP hD hS q0 he hc k hk (hts _ hlink) (fun _ h9 => h9) hfin (hty k hk) hn hfit hl2 hd (fun H1 locs1 hP1 hD1 hS1 => kk H1 locs1 ls hP1 hD1 hS1 hl)
end KR3
theorem k_set_self {α : Type} {l : List α} {k : Nat} {x : α} (h : l[k]? = some x) : l.set k x = l := by
  apply List.ext_getElem?
  intro j
  rw [List.getElem?_set]
  by_cases e : k = j
  · subst e
    rw [if_pos rfl, h]
    have := (List.getElem?_eq_some_iff.mp h).1
    simp [this]
  · rw [if_neg e]
section KR5
variable {E : KE} {R : Room} {G : KG} {cc : ByteArray} {nL : Nat} {own : String} {cells slots : Nat} {ws : va_W} {lv : List (Nat × Value)} {pc : Nat} {st : List Value}
theorem kx_topn {a b : Nat} (h : a = b) (kk : kx E R G nL cells slots ws lv (pc) (.int (nI b) :: st)) : kx E R G nL cells slots ws lv (pc) (.int (nI a) :: st) := h ▸ kk
theorem kx_topL {a b : Nat} (h : a = b) (kk : kx E R G nL cells slots ws lv (pc) (.long (lN b) :: st)) : kx E R G nL cells slots ws lv (pc) (.long (lN a) :: st) := h ▸ kk
theorem kx_topi {a b : Int32} (h : a = b) (kk : kx E R G nL cells slots ws lv (pc) (.int b :: st)) : kx E R G nL cells slots ws lv (pc) (.int a :: st) := h ▸ kk
theorem kx_lvv {i : Nat} {x z : Value} {lv2 : List (Nat × Value)} (h : x = z) (k : Nat) (hk : lv[k]? = some (i, x)) (h2 : lv.set k (i, z) = lv2) (kk : kx E R G nL cells slots ws lv2 (pc) (st)) : kx E R G nL cells slots ws lv (pc) (st) := by
  subst h
  rw [k_set_self hk] at h2
  exact h2 ▸ kk
theorem kx_lvn {i a b : Nat} {lv2 : List (Nat × Value)} (h : a = b) (k : Nat) (hk : lv[k]? = some (i, .int (nI a))) (h2 : lv.set k (i, .int (nI b)) = lv2) (kk : kx E R G nL cells slots ws lv2 (pc) (st)) : kx E R G nL cells slots ws lv (pc) (st) := kx_lvv (by rw [h]) k hk h2 kk
theorem kx_lvL {i a b : Nat} {lv2 : List (Nat × Value)} (h : a = b) (k : Nat) (hk : lv[k]? = some (i, .long (lN a))) (h2 : lv.set k (i, .long (lN b)) = lv2) (kk : kx E R G nL cells slots ws lv2 (pc) (st)) : kx E R G nL cells slots ws lv (pc) (st) := kx_lvv (by rw [h]) k hk h2 kk
end KR5
