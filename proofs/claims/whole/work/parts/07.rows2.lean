/-- room: d frames below, c throws -/
def rk (d c : Nat) : Room := { frames := d, cells := c, slots := 6 * c, locals := 36 * d }
/-! contracts over worlds: what a method answers, and the world behind it -/
def kPre (E : KE) (wc : va_W) (sz : Nat) (U : State) : Prop := U.heap.size = sz ∧ kN E ≤ sz ∧ amb (kN E) U U.heap ∧ va_P E.2.1 kCl wc U.heap ∧ va_K E.2.1 kCl (kT E) U ∧ va_D (fun q : Nat => kN E ≤ q) wc
def kB (E : KE) (A : Nat → Prop) (w : va_W) (t : State) : Prop := va_P E.2.1 kCl w t.heap ∧ va_D A w
def kBX (E : KE) (A : Nat → Prop) (px : String → va_W → Prop) (n : String) (w : va_W) (t : State) : Prop := px n w ∧ kB E A w t
theorem kPre_blind (E : KE) (av : List Value) (wc : va_W) (sz : Nat) : FrameBlind (va_Pc av (kPre E wc sz)) := by
  intro a U g mk q
  obtain ⟨q0, q1, q2, q3, q4, q5, q6⟩ := q
  exact ⟨q0, q1, q2, amb_same (u := U) (U := U.calling g mk a) rfl q3, q4, va_K.moved (u := U) (U := U.calling g mk a) (Vm.Alike.refl U.vm) q5, q6⟩
theorem k_fm {ws wc : va_W} {is : List Nat} (h : is.map (fun i => ws[i]?) = wc.map some) : is.filterMap (fun i => ws[i]?) = wc := by
  have h1 : is.filterMap (fun i => ws[i]?) = (is.map (fun i => ws[i]?)).filterMap id := by rw [List.filterMap_map]; rfl
  rw [h1, h, List.filterMap_map]
  exact List.filterMap_some
/-- q thrown, of the class n, over the frame at pc -/
def kxx (E : KE) (R : Room) (G : KG) (nL cells slots : Nat) (ws : va_W) (n : String) (lv : List (Nat × Value)) (pc : Nat) (st : List Value) : Prop :=
  match G with
  | (p, e, s, m, args, below, meth, c, A, Q) => ∀ (H : Heap) (locs : List Loc) (ls : Array Slot) (q9 : Addr) (ce : Cell), va_P E.2.1 kCl ws H → va_D A ws → va_S A s.heap H locs → lv_has ls nL lv → H[q9]? = some ce → ce.vm = .none → s.vm.findClass n = some ce.cls → vx_W p E.1 e R s m args below meth c H locs cells slots Q (F0 m pc ls st) q9
def kMi (E : KE) (y : MethodName) (cc : ByteArray) (maxL : Nat) (rm : Room) (av : List Value) (wc : va_W) (post : Int32 → va_W → Prop) : Prop := ∀ sz : Nat, Met E.1 y (Cond.code y cc maxL (some .int) :: kTb) rm (va_Pc av (kPre E wc sz)) (va_Qi post (kB E (va_A wc sz)) (va_A wc sz)) rm.cells rm.slots (va_A wc sz)
def kTi (E : KE) (y : MethodName) (cc : ByteArray) (maxL : Nat) (rm : Room) (av : List Value) (wc : va_W) (post : Int32 → va_W → Prop) (px : String → va_W → Prop) : Prop := ∀ sz : Nat, vx_Met E.1 y (Cond.code y cc maxL (some .int) :: kTb) rm (va_Pc av (kPre E wc sz)) (va_Qi post (kB E (va_A wc sz)) (va_A wc sz)) (vx_X (fun _ : va_W => True) (kBX E (va_A wc sz) px) (va_A wc sz)) rm.cells rm.slots (va_A wc sz)
def kMl (E : KE) (y : MethodName) (cc : ByteArray) (maxL : Nat) (rm : Room) (av : List Value) (wc : va_W) (post : Int64 → va_W → Prop) : Prop := ∀ sz : Nat, Met E.1 y (Cond.code y cc maxL (some .long) :: kTb) rm (va_Pc av (kPre E wc sz)) (va_Ql post (kB E (va_A wc sz)) (va_A wc sz)) rm.cells rm.slots (va_A wc sz)
def kTl (E : KE) (y : MethodName) (cc : ByteArray) (maxL : Nat) (rm : Room) (av : List Value) (wc : va_W) (post : Int64 → va_W → Prop) (px : String → va_W → Prop) : Prop := ∀ sz : Nat, vx_Met E.1 y (Cond.code y cc maxL (some .long) :: kTb) rm (va_Pc av (kPre E wc sz)) (va_Ql post (kB E (va_A wc sz)) (va_A wc sz)) (vx_X (fun _ : va_W => True) (kBX E (va_A wc sz) px) (va_A wc sz)) rm.cells rm.slots (va_A wc sz)
def kMv (E : KE) (y : MethodName) (cc : ByteArray) (maxL : Nat) (rm : Room) (av : List Value) (wc : va_W) (post : va_W → Prop) : Prop := ∀ sz : Nat, Met E.1 y (Cond.code y cc maxL (none) :: kTb) rm (va_Pc av (kPre E wc sz)) (va_Qv post (kB E (va_A wc sz)) (va_A wc sz)) rm.cells rm.slots (va_A wc sz)
def kTv (E : KE) (y : MethodName) (cc : ByteArray) (maxL : Nat) (rm : Room) (av : List Value) (wc : va_W) (post : va_W → Prop) (px : String → va_W → Prop) : Prop := ∀ sz : Nat, vx_Met E.1 y (Cond.code y cc maxL (none) :: kTb) rm (va_Pc av (kPre E wc sz)) (va_Qv post (kB E (va_A wc sz)) (va_A wc sz)) (vx_X (fun _ : va_W => True) (kBX E (va_A wc sz) px) (va_A wc sz)) rm.cells rm.slots (va_A wc sz)
def kMz (E : KE) (y : MethodName) (cc : ByteArray) (maxL : Nat) (rm : Room) (av : List Value) (wc : va_W) (post : Int32 → va_W → Prop) : Prop := ∀ sz : Nat, Met E.1 y (Cond.code y cc maxL (some .boolean) :: kTb) rm (va_Pc av (kPre E wc sz)) (va_Qi post (kB E (va_A wc sz)) (va_A wc sz)) rm.cells rm.slots (va_A wc sz)
def kTz (E : KE) (y : MethodName) (cc : ByteArray) (maxL : Nat) (rm : Room) (av : List Value) (wc : va_W) (post : Int32 → va_W → Prop) (px : String → va_W → Prop) : Prop := ∀ sz : Nat, vx_Met E.1 y (Cond.code y cc maxL (some .boolean) :: kTb) rm (va_Pc av (kPre E wc sz)) (va_Qi post (kB E (va_A wc sz)) (va_A wc sz)) (vx_X (fun _ : va_W => True) (kBX E (va_A wc sz) px) (va_A wc sz)) rm.cells rm.slots (va_A wc sz)
theorem kMi_of {E : KE} {y : MethodName} {rm : Room} {av : List Value} {wc : va_W} {post : Int32 → va_W → Prop} {cc : ByteArray} {maxL : Nat} (hy : plainName y.cls = true) (hal : (lg_sl av).length ≤ maxL)
    (body : ∀ G : KG, kc E G cc maxL y.cls → (∀ {cells slots : Nat} {lv : List (Nat × Value)} {pc : Nat} {v : Int32} {w : va_W}, cells ≤ rm.cells → slots ≤ rm.slots → decode cc pc = .ok (.ireturn, 1) → post v w → kx E rm G maxL cells slots w lv pc [(.int v)]) → kx E rm G maxL 0 0 wc (lv_args 0 av) 0 []) : kMi E y cc maxL rm av wc post := by
  intro sz
  refine Met.ofW (cc := cc) (maxL := maxL) (ret := some .int) hy rfl ?_
  intro p e s m args below meth c s₁ B hml hv
  obtain ⟨rfl, hsz, hNs, ham, hP, hK, hD0⟩ := hv
  subst hsz
  have hts0 := atoms_spec (ws := Cond.code y cc maxL (some .int) :: kTb) B.pre
  have hts : ∀ w ∈ kTb, w.before av.toArray s = true := fun w h => hts0 w (List.mem_cons_of_mem _ h)
  have hown : s.vm.findClass y.cls = some m.cls := findClass_of_methodNamed B.named
  have hl := lv_entry av (n := maxL) hal
  rw [lg_entry_eq]
  have hD := hD0.self (sz := s.heap.size)
  refine body (p, e, s, m, av.toArray, below, meth, c, va_A wc s.heap.size, MQ below (va_Qi post (kB E (va_A wc s.heap.size)) (va_A wc s.heap.size)) av.toArray s rm.cells rm.slots (va_A wc s.heap.size)) ⟨B.exec, B.bytes, hml, hown, hts, hK, fun q h => Or.inr h, ?_, ham, hNs, B.notSynchronized⟩ ?_ s.heap [] _ hP hD va_S.rf hl
  · intro q hq
    rcases hq with ⟨k, e9, h⟩ | h
    · exact hD0.2 k _ h
    · exact Nat.le_trans hNs h
  · intro cells slots lv pc v w hc hs hd hpost H locs ls hP hD hS hl
    refine W.widen hc hs ?_
    exact W.iret B.exec B.bytes B.returns (fun t ht hW => ⟨⟨v, w, rfl, hpost, by rw [ht]; exact hP, hD⟩, hS.F ht⟩) hS.2.2 hd B.notSynchronized
/-- what 'throw new E("text")' wants at pc -/
def kThr (E : KE) (R : Room) (cc : ByteArray) (own cls text : String) (names : List String) (ik is ic pc : Nat) (st : List Value) : Prop :=
  E.1.stackTraces = false ∧ Bundle.fit cls = true ∧ (∀ n ∈ names, Bundle.fit n = true) ∧ Cond.classLink own ik cls ∈ kTb ∧ Cond.initialized cls ∈ kTb ∧ (is, text) ∈ kStr ∧ (∀ w ∈ vx_atS own ic cls names, w ∈ kTb ∨ w ∈ kFa) ∧ (∀ w ∈ Cond.classLink own ik cls :: Cond.initialized cls :: vx_atS own ic cls names, vx_ot w = true) ∧
  decode cc pc = .ok (.new ik, 3) ∧ decode cc (pc + 3) = .ok (.dup, 1) ∧ decode cc (pc + 4) = .ok (.ldc is, 2) ∧ decode cc (pc + 6) = .ok (.invokespecial ic, 3) ∧ decode cc (pc + 9) = .ok (.athrow, 1) ∧
  names.length + 3 < R.frames ∧ (st.map fun v => v.category).sum + (13 * (names.length + 1) + 43) ≤ R.locals ∧ own = kOwn
theorem kTi_of {E : KE} {y : MethodName} {rm : Room} {av : List Value} {wc : va_W} {post : Int32 → va_W → Prop} {px : String → va_W → Prop} {cc : ByteArray} {maxL : Nat} (hy : plainName y.cls = true) (hal : (lg_sl av).length ≤ maxL)
    (body : ∀ G : KG, kc E G cc maxL y.cls → (∀ {cells slots : Nat} {lv : List (Nat × Value)} {pc : Nat} {v : Int32} {w : va_W}, cells ≤ rm.cells → slots ≤ rm.slots → decode cc pc = .ok (.ireturn, 1) → post v w → kx E rm G maxL cells slots w lv pc [(.int v)]) → (∀ {cells slots : Nat} {lv : List (Nat × Value)} {pc : Nat} {st : List Value} {n : String} {w : va_W}, cells ≤ rm.cells → slots ≤ rm.slots → px n w → kxx E rm G maxL cells slots w n lv pc st) → (∀ {cells slots : Nat} {lv : List (Nat × Value)} {pc : Nat} {st : List Value} {cls text : String} {names : List String} {ik is ic : Nat} {w : va_W}, kThr E rm cc y.cls cls text names ik is ic pc st → cells + 1 ≤ rm.cells → slots + 6 ≤ rm.slots → px cls w → kx E rm G maxL cells slots w lv pc st) → kx E rm G maxL 0 0 wc (lv_args 0 av) 0 []) : kTi E y cc maxL rm av wc post px := by
  intro sz
  refine vx_ofW (cc := cc) (maxL := maxL) (ret := some .int) hy rfl ?_
  intro p e s m args below meth c s₁ B hml htb hv
  obtain ⟨rfl, hsz, hNs, ham, hP, hK, hD0⟩ := hv
  subst hsz
  have hts0 := atoms_spec (ws := Cond.code y cc maxL (some .int) :: kTb) B.pre
  have hts : ∀ w ∈ kTb, w.before av.toArray s = true := fun w h => hts0 w (List.mem_cons_of_mem _ h)
  have hown : s.vm.findClass y.cls = some m.cls := findClass_of_methodNamed B.named
  have hl := lv_entry av (n := maxL) hal
  rw [lg_entry_eq]
  have hD := hD0.self (sz := s.heap.size)
  have hN : ∀ q : Nat, va_A wc s.heap.size q → kN E ≤ q := by
    intro q hq
    rcases hq with ⟨k, e9, h⟩ | h
    · exact hD0.2 k _ h
    · exact Nat.le_trans hNs h
  refine body (p, e, s, m, av.toArray, below, meth, c, va_A wc s.heap.size, (vx_MQ below (va_Qi post (kB E (va_A wc s.heap.size)) (va_A wc s.heap.size)) (vx_X (fun _ : va_W => True) (kBX E (va_A wc s.heap.size) px) (va_A wc s.heap.size)) av.toArray s rm.cells rm.slots (va_A wc s.heap.size))) ⟨B.exec, B.bytes, hml, hown, hts, hK, fun q h => Or.inr h, hN, ham, hNs, B.notSynchronized⟩ ?_ ?_ ?_ s.heap [] _ hP hD va_S.rf hl
  · intro cells slots lv pc v w hc hs hd hpost H locs ls hP hD hS hl
    refine vx_ret ?_
    refine W.widen hc hs ?_
    exact W.iret B.exec B.bytes B.returns (fun t ht hW => ⟨⟨v, w, rfl, hpost, by rw [ht]; exact hP, hD⟩, hS.F ht⟩) hS.2.2 hd B.notSynchronized
  · intro cells slots lv pc st n w hc hs hpx H locs ls q9 ce hP hD hS hl hce hcv hcl
    exact vx_out (fun x hx => (htb x hx).elim) B.notSynchronized hce hcv hcl (fun t ht ha => ⟨w, trivial, ⟨hpx, by rw [ht]; exact hP, hD⟩, hS.F ht⟩) hS.2.2 hc hs
  · intro cells slots lv pc st cls text names ik is ic w hthr hc hs hpx H locs ls hP hD hS hl
    obtain ⟨h1, h2, h3, h4, h5, h6, h7, h8, d0, d3, d4, d6, d9, r1, r2, ho⟩ := hthr
    obtain ⟨sa, hsa⟩ := amb_str ham h6
    exact vx_throwS B.exec B.bytes h1 hown h2 h3 (hts _ h4) (hts _ h5) (by rw [ho]; exact hsa) (fun w9 h9 => (h7 w9 h9).elim (fun z => hts _ z) (fun z => amb_fa ham z)) h8 (amb_U (fun q h => hN q h) ham) (amb_S (fun q h => hN q h) ham) hS (hl.1.trans hml.symm) d0 d3 d4 d6 d9 (fun x hx => (htb x hx).elim) r1 r2 hc hs B.notSynchronized
      (fun t ha hz hk => ⟨w, trivial, ⟨hpx, va_P.kept hP (fun k q hq => hk q.1 ((hP k q hq).lt)), hD⟩, ⟨Nat.le_trans hS.1 hz, fun q h1 h2 => (hk q (Nat.lt_of_lt_of_le h1 hS.1)).trans (hS.2.1 q h1 h2)⟩⟩) hS.2.2 hc hs
theorem kMl_of {E : KE} {y : MethodName} {rm : Room} {av : List Value} {wc : va_W} {post : Int64 → va_W → Prop} {cc : ByteArray} {maxL : Nat} (hy : plainName y.cls = true) (hal : (lg_sl av).length ≤ maxL)
    (body : ∀ G : KG, kc E G cc maxL y.cls → (∀ {cells slots : Nat} {lv : List (Nat × Value)} {pc : Nat} {v : Int64} {w : va_W}, cells ≤ rm.cells → slots ≤ rm.slots → decode cc pc = .ok (.lreturn, 1) → post v w → kx E rm G maxL cells slots w lv pc [(.long v)]) → kx E rm G maxL 0 0 wc (lv_args 0 av) 0 []) : kMl E y cc maxL rm av wc post := by
  intro sz
  refine Met.ofW (cc := cc) (maxL := maxL) (ret := some .long) hy rfl ?_
  intro p e s m args below meth c s₁ B hml hv
  obtain ⟨rfl, hsz, hNs, ham, hP, hK, hD0⟩ := hv
  subst hsz
  have hts0 := atoms_spec (ws := Cond.code y cc maxL (some .long) :: kTb) B.pre
  have hts : ∀ w ∈ kTb, w.before av.toArray s = true := fun w h => hts0 w (List.mem_cons_of_mem _ h)
  have hown : s.vm.findClass y.cls = some m.cls := findClass_of_methodNamed B.named
  have hl := lv_entry av (n := maxL) hal
  rw [lg_entry_eq]
  have hD := hD0.self (sz := s.heap.size)
  refine body (p, e, s, m, av.toArray, below, meth, c, va_A wc s.heap.size, MQ below (va_Ql post (kB E (va_A wc s.heap.size)) (va_A wc s.heap.size)) av.toArray s rm.cells rm.slots (va_A wc s.heap.size)) ⟨B.exec, B.bytes, hml, hown, hts, hK, fun q h => Or.inr h, ?_, ham, hNs, B.notSynchronized⟩ ?_ s.heap [] _ hP hD va_S.rf hl
  · intro q hq
    rcases hq with ⟨k, e9, h⟩ | h
    · exact hD0.2 k _ h
    · exact Nat.le_trans hNs h
  · intro cells slots lv pc v w hc hs hd hpost H locs ls hP hD hS hl
    refine W.widen hc hs ?_
    exact W.lret B.exec B.bytes B.returns (fun t ht hW => ⟨⟨v, w, rfl, hpost, by rw [ht]; exact hP, hD⟩, hS.F ht⟩) hS.2.2 hd B.notSynchronized
theorem kTl_of {E : KE} {y : MethodName} {rm : Room} {av : List Value} {wc : va_W} {post : Int64 → va_W → Prop} {px : String → va_W → Prop} {cc : ByteArray} {maxL : Nat} (hy : plainName y.cls = true) (hal : (lg_sl av).length ≤ maxL)
    (body : ∀ G : KG, kc E G cc maxL y.cls → (∀ {cells slots : Nat} {lv : List (Nat × Value)} {pc : Nat} {v : Int64} {w : va_W}, cells ≤ rm.cells → slots ≤ rm.slots → decode cc pc = .ok (.lreturn, 1) → post v w → kx E rm G maxL cells slots w lv pc [(.long v)]) → (∀ {cells slots : Nat} {lv : List (Nat × Value)} {pc : Nat} {st : List Value} {n : String} {w : va_W}, cells ≤ rm.cells → slots ≤ rm.slots → px n w → kxx E rm G maxL cells slots w n lv pc st) → (∀ {cells slots : Nat} {lv : List (Nat × Value)} {pc : Nat} {st : List Value} {cls text : String} {names : List String} {ik is ic : Nat} {w : va_W}, kThr E rm cc y.cls cls text names ik is ic pc st → cells + 1 ≤ rm.cells → slots + 6 ≤ rm.slots → px cls w → kx E rm G maxL cells slots w lv pc st) → kx E rm G maxL 0 0 wc (lv_args 0 av) 0 []) : kTl E y cc maxL rm av wc post px := by
  intro sz
  refine vx_ofW (cc := cc) (maxL := maxL) (ret := some .long) hy rfl ?_
  intro p e s m args below meth c s₁ B hml htb hv
  obtain ⟨rfl, hsz, hNs, ham, hP, hK, hD0⟩ := hv
  subst hsz
  have hts0 := atoms_spec (ws := Cond.code y cc maxL (some .long) :: kTb) B.pre
  have hts : ∀ w ∈ kTb, w.before av.toArray s = true := fun w h => hts0 w (List.mem_cons_of_mem _ h)
  have hown : s.vm.findClass y.cls = some m.cls := findClass_of_methodNamed B.named
  have hl := lv_entry av (n := maxL) hal
  rw [lg_entry_eq]
  have hD := hD0.self (sz := s.heap.size)
  have hN : ∀ q : Nat, va_A wc s.heap.size q → kN E ≤ q := by
    intro q hq
    rcases hq with ⟨k, e9, h⟩ | h
    · exact hD0.2 k _ h
    · exact Nat.le_trans hNs h
  refine body (p, e, s, m, av.toArray, below, meth, c, va_A wc s.heap.size, (vx_MQ below (va_Ql post (kB E (va_A wc s.heap.size)) (va_A wc s.heap.size)) (vx_X (fun _ : va_W => True) (kBX E (va_A wc s.heap.size) px) (va_A wc s.heap.size)) av.toArray s rm.cells rm.slots (va_A wc s.heap.size))) ⟨B.exec, B.bytes, hml, hown, hts, hK, fun q h => Or.inr h, hN, ham, hNs, B.notSynchronized⟩ ?_ ?_ ?_ s.heap [] _ hP hD va_S.rf hl
  · intro cells slots lv pc v w hc hs hd hpost H locs ls hP hD hS hl
    refine vx_ret ?_
    refine W.widen hc hs ?_
    exact W.lret B.exec B.bytes B.returns (fun t ht hW => ⟨⟨v, w, rfl, hpost, by rw [ht]; exact hP, hD⟩, hS.F ht⟩) hS.2.2 hd B.notSynchronized
  · intro cells slots lv pc st n w hc hs hpx H locs ls q9 ce hP hD hS hl hce hcv hcl
    exact vx_out (fun x hx => (htb x hx).elim) B.notSynchronized hce hcv hcl (fun t ht ha => ⟨w, trivial, ⟨hpx, by rw [ht]; exact hP, hD⟩, hS.F ht⟩) hS.2.2 hc hs
  · intro cells slots lv pc st cls text names ik is ic w hthr hc hs hpx H locs ls hP hD hS hl
    obtain ⟨h1, h2, h3, h4, h5, h6, h7, h8, d0, d3, d4, d6, d9, r1, r2, ho⟩ := hthr
    obtain ⟨sa, hsa⟩ := amb_str ham h6
    exact vx_throwS B.exec B.bytes h1 hown h2 h3 (hts _ h4) (hts _ h5) (by rw [ho]; exact hsa) (fun w9 h9 => (h7 w9 h9).elim (fun z => hts _ z) (fun z => amb_fa ham z)) h8 (amb_U (fun q h => hN q h) ham) (amb_S (fun q h => hN q h) ham) hS (hl.1.trans hml.symm) d0 d3 d4 d6 d9 (fun x hx => (htb x hx).elim) r1 r2 hc hs B.notSynchronized
      (fun t ha hz hk => ⟨w, trivial, ⟨hpx, va_P.kept hP (fun k q hq => hk q.1 ((hP k q hq).lt)), hD⟩, ⟨Nat.le_trans hS.1 hz, fun q h1 h2 => (hk q (Nat.lt_of_lt_of_le h1 hS.1)).trans (hS.2.1 q h1 h2)⟩⟩) hS.2.2 hc hs
theorem kMv_of {E : KE} {y : MethodName} {rm : Room} {av : List Value} {wc : va_W} {post : va_W → Prop} {cc : ByteArray} {maxL : Nat} (hy : plainName y.cls = true) (hal : (lg_sl av).length ≤ maxL)
    (body : ∀ G : KG, kc E G cc maxL y.cls → (∀ {cells slots : Nat} {lv : List (Nat × Value)} {pc : Nat} {w : va_W}, cells ≤ rm.cells → slots ≤ rm.slots → decode cc pc = .ok (.return_, 1) → post w → kx E rm G maxL cells slots w lv pc []) → kx E rm G maxL 0 0 wc (lv_args 0 av) 0 []) : kMv E y cc maxL rm av wc post := by
  intro sz
  refine Met.ofW (cc := cc) (maxL := maxL) (ret := none) hy rfl ?_
  intro p e s m args below meth c s₁ B hml hv
  obtain ⟨rfl, hsz, hNs, ham, hP, hK, hD0⟩ := hv
  subst hsz
  have hts0 := atoms_spec (ws := Cond.code y cc maxL (none) :: kTb) B.pre
  have hts : ∀ w ∈ kTb, w.before av.toArray s = true := fun w h => hts0 w (List.mem_cons_of_mem _ h)
  have hown : s.vm.findClass y.cls = some m.cls := findClass_of_methodNamed B.named
  have hl := lv_entry av (n := maxL) hal
  rw [lg_entry_eq]
  have hD := hD0.self (sz := s.heap.size)
  refine body (p, e, s, m, av.toArray, below, meth, c, va_A wc s.heap.size, MQ below (va_Qv post (kB E (va_A wc s.heap.size)) (va_A wc s.heap.size)) av.toArray s rm.cells rm.slots (va_A wc s.heap.size)) ⟨B.exec, B.bytes, hml, hown, hts, hK, fun q h => Or.inr h, ?_, ham, hNs, B.notSynchronized⟩ ?_ s.heap [] _ hP hD va_S.rf hl
  · intro q hq
    rcases hq with ⟨k, e9, h⟩ | h
    · exact hD0.2 k _ h
    · exact Nat.le_trans hNs h
  · intro cells slots lv pc w hc hs hd hpost H locs ls hP hD hS hl
    refine W.widen hc hs ?_
    exact W.vret B.exec B.bytes B.returns (fun t ht hW => ⟨⟨w, rfl, hpost, by rw [ht]; exact hP, hD⟩, hS.F ht⟩) hS.2.2 hd B.notSynchronized
theorem kTv_of {E : KE} {y : MethodName} {rm : Room} {av : List Value} {wc : va_W} {post : va_W → Prop} {px : String → va_W → Prop} {cc : ByteArray} {maxL : Nat} (hy : plainName y.cls = true) (hal : (lg_sl av).length ≤ maxL)
    (body : ∀ G : KG, kc E G cc maxL y.cls → (∀ {cells slots : Nat} {lv : List (Nat × Value)} {pc : Nat} {w : va_W}, cells ≤ rm.cells → slots ≤ rm.slots → decode cc pc = .ok (.return_, 1) → post w → kx E rm G maxL cells slots w lv pc []) → (∀ {cells slots : Nat} {lv : List (Nat × Value)} {pc : Nat} {st : List Value} {n : String} {w : va_W}, cells ≤ rm.cells → slots ≤ rm.slots → px n w → kxx E rm G maxL cells slots w n lv pc st) → (∀ {cells slots : Nat} {lv : List (Nat × Value)} {pc : Nat} {st : List Value} {cls text : String} {names : List String} {ik is ic : Nat} {w : va_W}, kThr E rm cc y.cls cls text names ik is ic pc st → cells + 1 ≤ rm.cells → slots + 6 ≤ rm.slots → px cls w → kx E rm G maxL cells slots w lv pc st) → kx E rm G maxL 0 0 wc (lv_args 0 av) 0 []) : kTv E y cc maxL rm av wc post px := by
  intro sz
  refine vx_ofW (cc := cc) (maxL := maxL) (ret := none) hy rfl ?_
  intro p e s m args below meth c s₁ B hml htb hv
  obtain ⟨rfl, hsz, hNs, ham, hP, hK, hD0⟩ := hv
  subst hsz
  have hts0 := atoms_spec (ws := Cond.code y cc maxL (none) :: kTb) B.pre
  have hts : ∀ w ∈ kTb, w.before av.toArray s = true := fun w h => hts0 w (List.mem_cons_of_mem _ h)
  have hown : s.vm.findClass y.cls = some m.cls := findClass_of_methodNamed B.named
  have hl := lv_entry av (n := maxL) hal
  rw [lg_entry_eq]
  have hD := hD0.self (sz := s.heap.size)
  have hN : ∀ q : Nat, va_A wc s.heap.size q → kN E ≤ q := by
    intro q hq
    rcases hq with ⟨k, e9, h⟩ | h
    · exact hD0.2 k _ h
    · exact Nat.le_trans hNs h
  refine body (p, e, s, m, av.toArray, below, meth, c, va_A wc s.heap.size, (vx_MQ below (va_Qv post (kB E (va_A wc s.heap.size)) (va_A wc s.heap.size)) (vx_X (fun _ : va_W => True) (kBX E (va_A wc s.heap.size) px) (va_A wc s.heap.size)) av.toArray s rm.cells rm.slots (va_A wc s.heap.size))) ⟨B.exec, B.bytes, hml, hown, hts, hK, fun q h => Or.inr h, hN, ham, hNs, B.notSynchronized⟩ ?_ ?_ ?_ s.heap [] _ hP hD va_S.rf hl
  · intro cells slots lv pc w hc hs hd hpost H locs ls hP hD hS hl
    refine vx_ret ?_
    refine W.widen hc hs ?_
    exact W.vret B.exec B.bytes B.returns (fun t ht hW => ⟨⟨w, rfl, hpost, by rw [ht]; exact hP, hD⟩, hS.F ht⟩) hS.2.2 hd B.notSynchronized
  · intro cells slots lv pc st n w hc hs hpx H locs ls q9 ce hP hD hS hl hce hcv hcl
    exact vx_out (fun x hx => (htb x hx).elim) B.notSynchronized hce hcv hcl (fun t ht ha => ⟨w, trivial, ⟨hpx, by rw [ht]; exact hP, hD⟩, hS.F ht⟩) hS.2.2 hc hs
  · intro cells slots lv pc st cls text names ik is ic w hthr hc hs hpx H locs ls hP hD hS hl
    obtain ⟨h1, h2, h3, h4, h5, h6, h7, h8, d0, d3, d4, d6, d9, r1, r2, ho⟩ := hthr
    obtain ⟨sa, hsa⟩ := amb_str ham h6
    exact vx_throwS B.exec B.bytes h1 hown h2 h3 (hts _ h4) (hts _ h5) (by rw [ho]; exact hsa) (fun w9 h9 => (h7 w9 h9).elim (fun z => hts _ z) (fun z => amb_fa ham z)) h8 (amb_U (fun q h => hN q h) ham) (amb_S (fun q h => hN q h) ham) hS (hl.1.trans hml.symm) d0 d3 d4 d6 d9 (fun x hx => (htb x hx).elim) r1 r2 hc hs B.notSynchronized
      (fun t ha hz hk => ⟨w, trivial, ⟨hpx, va_P.kept hP (fun k q hq => hk q.1 ((hP k q hq).lt)), hD⟩, ⟨Nat.le_trans hS.1 hz, fun q h1 h2 => (hk q (Nat.lt_of_lt_of_le h1 hS.1)).trans (hS.2.1 q h1 h2)⟩⟩) hS.2.2 hc hs
theorem kMz_of {E : KE} {y : MethodName} {rm : Room} {av : List Value} {wc : va_W} {post : Int32 → va_W → Prop} {cc : ByteArray} {maxL : Nat} (hy : plainName y.cls = true) (hal : (lg_sl av).length ≤ maxL)
    (body : ∀ G : KG, kc E G cc maxL y.cls → (∀ {cells slots : Nat} {lv : List (Nat × Value)} {pc : Nat} {v : Int32} {w : va_W}, cells ≤ rm.cells → slots ≤ rm.slots → decode cc pc = .ok (.ireturn, 1) → narrow .boolean (.int v) = .int v → post v w → kx E rm G maxL cells slots w lv pc [(.int v)]) → kx E rm G maxL 0 0 wc (lv_args 0 av) 0 []) : kMz E y cc maxL rm av wc post := by
  intro sz
  refine Met.ofW (cc := cc) (maxL := maxL) (ret := some .boolean) hy rfl ?_
  intro p e s m args below meth c s₁ B hml hv
  obtain ⟨rfl, hsz, hNs, ham, hP, hK, hD0⟩ := hv
  subst hsz
  have hts0 := atoms_spec (ws := Cond.code y cc maxL (some .boolean) :: kTb) B.pre
  have hts : ∀ w ∈ kTb, w.before av.toArray s = true := fun w h => hts0 w (List.mem_cons_of_mem _ h)
  have hown : s.vm.findClass y.cls = some m.cls := findClass_of_methodNamed B.named
  have hl := lv_entry av (n := maxL) hal
  rw [lg_entry_eq]
  have hD := hD0.self (sz := s.heap.size)
  refine body (p, e, s, m, av.toArray, below, meth, c, va_A wc s.heap.size, MQ below (va_Qi post (kB E (va_A wc s.heap.size)) (va_A wc s.heap.size)) av.toArray s rm.cells rm.slots (va_A wc s.heap.size)) ⟨B.exec, B.bytes, hml, hown, hts, hK, fun q h => Or.inr h, ?_, ham, hNs, B.notSynchronized⟩ ?_ s.heap [] _ hP hD va_S.rf hl
  · intro q hq
    rcases hq with ⟨k, e9, h⟩ | h
    · exact hD0.2 k _ h
    · exact Nat.le_trans hNs h
  · intro cells slots lv pc v w hc hs hd hz hpost H locs ls hP hD hS hl
    refine W.widen hc hs ?_
    exact W.zret B.exec B.bytes B.returns hz (fun t ht hW => ⟨⟨v, w, rfl, hpost, by rw [ht]; exact hP, hD⟩, hS.F ht⟩) hS.2.2 hd B.notSynchronized
theorem kTz_of {E : KE} {y : MethodName} {rm : Room} {av : List Value} {wc : va_W} {post : Int32 → va_W → Prop} {px : String → va_W → Prop} {cc : ByteArray} {maxL : Nat} (hy : plainName y.cls = true) (hal : (lg_sl av).length ≤ maxL)
    (body : ∀ G : KG, kc E G cc maxL y.cls → (∀ {cells slots : Nat} {lv : List (Nat × Value)} {pc : Nat} {v : Int32} {w : va_W}, cells ≤ rm.cells → slots ≤ rm.slots → decode cc pc = .ok (.ireturn, 1) → narrow .boolean (.int v) = .int v → post v w → kx E rm G maxL cells slots w lv pc [(.int v)]) → (∀ {cells slots : Nat} {lv : List (Nat × Value)} {pc : Nat} {st : List Value} {n : String} {w : va_W}, cells ≤ rm.cells → slots ≤ rm.slots → px n w → kxx E rm G maxL cells slots w n lv pc st) → (∀ {cells slots : Nat} {lv : List (Nat × Value)} {pc : Nat} {st : List Value} {cls text : String} {names : List String} {ik is ic : Nat} {w : va_W}, kThr E rm cc y.cls cls text names ik is ic pc st → cells + 1 ≤ rm.cells → slots + 6 ≤ rm.slots → px cls w → kx E rm G maxL cells slots w lv pc st) → kx E rm G maxL 0 0 wc (lv_args 0 av) 0 []) : kTz E y cc maxL rm av wc post px := by
  intro sz
  refine vx_ofW (cc := cc) (maxL := maxL) (ret := some .boolean) hy rfl ?_
  intro p e s m args below meth c s₁ B hml htb hv
  obtain ⟨rfl, hsz, hNs, ham, hP, hK, hD0⟩ := hv
  subst hsz
  have hts0 := atoms_spec (ws := Cond.code y cc maxL (some .boolean) :: kTb) B.pre
  have hts : ∀ w ∈ kTb, w.before av.toArray s = true := fun w h => hts0 w (List.mem_cons_of_mem _ h)
  have hown : s.vm.findClass y.cls = some m.cls := findClass_of_methodNamed B.named
  have hl := lv_entry av (n := maxL) hal
  rw [lg_entry_eq]
  have hD := hD0.self (sz := s.heap.size)
  have hN : ∀ q : Nat, va_A wc s.heap.size q → kN E ≤ q := by
    intro q hq
    rcases hq with ⟨k, e9, h⟩ | h
    · exact hD0.2 k _ h
    · exact Nat.le_trans hNs h
  refine body (p, e, s, m, av.toArray, below, meth, c, va_A wc s.heap.size, (vx_MQ below (va_Qi post (kB E (va_A wc s.heap.size)) (va_A wc s.heap.size)) (vx_X (fun _ : va_W => True) (kBX E (va_A wc s.heap.size) px) (va_A wc s.heap.size)) av.toArray s rm.cells rm.slots (va_A wc s.heap.size))) ⟨B.exec, B.bytes, hml, hown, hts, hK, fun q h => Or.inr h, hN, ham, hNs, B.notSynchronized⟩ ?_ ?_ ?_ s.heap [] _ hP hD va_S.rf hl
  · intro cells slots lv pc v w hc hs hd hz hpost H locs ls hP hD hS hl
    refine vx_ret ?_
    refine W.widen hc hs ?_
    exact W.zret B.exec B.bytes B.returns hz (fun t ht hW => ⟨⟨v, w, rfl, hpost, by rw [ht]; exact hP, hD⟩, hS.F ht⟩) hS.2.2 hd B.notSynchronized
  · intro cells slots lv pc st n w hc hs hpx H locs ls q9 ce hP hD hS hl hce hcv hcl
    exact vx_out (fun x hx => (htb x hx).elim) B.notSynchronized hce hcv hcl (fun t ht ha => ⟨w, trivial, ⟨hpx, by rw [ht]; exact hP, hD⟩, hS.F ht⟩) hS.2.2 hc hs
  · intro cells slots lv pc st cls text names ik is ic w hthr hc hs hpx H locs ls hP hD hS hl
    obtain ⟨h1, h2, h3, h4, h5, h6, h7, h8, d0, d3, d4, d6, d9, r1, r2, ho⟩ := hthr
    obtain ⟨sa, hsa⟩ := amb_str ham h6
    exact vx_throwS B.exec B.bytes h1 hown h2 h3 (hts _ h4) (hts _ h5) (by rw [ho]; exact hsa) (fun w9 h9 => (h7 w9 h9).elim (fun z => hts _ z) (fun z => amb_fa ham z)) h8 (amb_U (fun q h => hN q h) ham) (amb_S (fun q h => hN q h) ham) hS (hl.1.trans hml.symm) d0 d3 d4 d6 d9 (fun x hx => (htb x hx).elim) r1 r2 hc hs B.notSynchronized
      (fun t ha hz hk => ⟨w, trivial, ⟨hpx, va_P.kept hP (fun k q hq => hk q.1 ((hP k q hq).lt)), hD⟩, ⟨Nat.le_trans hS.1 hz, fun q h1 h2 => (hk q (Nat.lt_of_lt_of_le h1 hS.1)).trans (hS.2.1 q h1 h2)⟩⟩) hS.2.2 hc hs
section KC
variable {E : KE} {R : Room} {G : KG} {cc : ByteArray} {nL : Nat} {own : String} {cells slots : Nat} {ws : va_W} {lv : List (Nat × Value)} {pc : Nat} {st : List Value} {y : MethodName} {rm : Room} {bytes : ByteArray} {maxL index : Nat} {Cn : String} {ci : Nat} {T : u_T} {N : Nat} {b : Nat} {fs : List Value} {As rest : List Value} {wc wr : va_W}
theorem kx_callVi {post : Int32 → va_W → Prop} (C : kc E G cc nL own) (hM : kMi E y bytes maxL rm (.ref b :: As) wc post) (hg : GoodIn kTb (wsV own index Cn y (Cond.code y bytes maxL (some .int) :: kTb))) (n9 : Nat) (hn9 : As.length = n9) (hd0 : y.cls = Cn ∧ y.cls ≠ "java/lang/invoke/MethodHandle" ∧ y.cls ≠ "java/lang/invoke/VarHandle" ∧ (parseMethodDescriptor y.desc).map (fun d => d.parameters.length) = some n9) (hR : rm.frames + 1 ≤ R.frames ∧ 8 + (maxL + 11) + rm.locals ≤ R.locals) (hf : cells + rm.cells ≤ R.cells ∧ slots + rm.slots ≤ R.slots) (isC isR : List Nat) (hC : isC.map (fun i => ws[i]?) = wc.map some) (hRr : isR.map (fun i => ws[i]?) = wr.map some) (hnC : va_nd isC = true) (hnR : va_nd isR = true) (hdis : ∀ i ∈ isR, i ∉ isC) (q0 : Nat) (hcl : kCl[ci]? = some (Cn, T, N)) (he : wc[q0]? = some (b, .inr (ci, fs))) (hst : As.reverse ++ .ref b :: rest = st) (hroom : (rest.map fun v => v.category).sum ≤ 8) (hd : decode cc pc = .ok (.invokevirtual index, 3)) (kk : ∀ (v : Int32) (w : va_W), post v w → kx E R G nL (cells + rm.cells) (slots + rm.slots) (wr ++ w) lv (pc + 3) (.int v :: rest)) : kx E R G nL cells slots ws lv pc st := by
  obtain ⟨p, e, s, m, args, below, meth, c, A, Q⟩ := G
  obtain ⟨hx, hb, hml, hown, hts, hK, hA, hN, ham, hNs, hlk⟩ := C
  intro H locs ls hP hD hS hl
  have hPc := hP.sub (ws' := wc) isC (k_fm hC)
  have hDc := hD.sub (ws' := wc) isC hnC hC
  have hKc := hK
  have hFc := va_free (wc := wc) hD hS hA isC hC
  have hamH : amb (kN E) s H := amb_kept ham (fun a h1 h2 => hS.2.1 a h1 (fun z => h2 (hN a z)))
  refine va_calli (va_runV (As := As) (rest := rest) ⟨hx, hb, hml, hown, hts⟩ (hM H.size) (cwV n9 hts hg rfl rfl rfl hd0 hR) ⟨kPre_blind E _ wc H.size, va_recv hKc hPc hcl he, fun U hU hW => ⟨rfl, by rw [hU], Nat.le_trans hNs hS.1, by rw [hU]; exact amb_warm hW hamH, by rw [hU]; exact hPc, va_K.moved hW.alike hK, hDc.weaken (fun _ _ _ h => hN _ h)⟩⟩ rfl hn9 hl.1 hst.symm (lv_room hroom) hd hf) hS (fun q _ h => hFc q h) hFc (fun v w t H1 locs1 ht hvm hw9 hB hz1 hk1 hS1 => ?_)
  obtain ⟨hP1, hD1⟩ := hB
  rw [ht] at hP1
  obtain ⟨hP2, hD2⟩ := va_join (wr := wr) (w1 := w) hP hD isC isR hC hRr hnR hdis hk1 hFc hP1 hD1
  exact kk v w hw9 H1 locs1 ls hP2 hD2 hS1 hl
theorem kx_callViT {px : String → va_W → Prop} {post : Int32 → va_W → Prop} (C : kc E G cc nL own) (hM : kTi E y bytes maxL rm (.ref b :: As) wc post px) (hg : GoodIn kTb (wsV own index Cn y (Cond.code y bytes maxL (some .int) :: kTb))) (n9 : Nat) (hn9 : As.length = n9) (hd0 : y.cls = Cn ∧ y.cls ≠ "java/lang/invoke/MethodHandle" ∧ y.cls ≠ "java/lang/invoke/VarHandle" ∧ (parseMethodDescriptor y.desc).map (fun d => d.parameters.length) = some n9) (hR : rm.frames + 1 ≤ R.frames ∧ 8 + (maxL + 11) + rm.locals ≤ R.locals) (hf : cells + rm.cells ≤ R.cells ∧ slots + rm.slots ≤ R.slots) (isC isR : List Nat) (hC : isC.map (fun i => ws[i]?) = wc.map some) (hRr : isR.map (fun i => ws[i]?) = wr.map some) (hnC : va_nd isC = true) (hnR : va_nd isR = true) (hdis : ∀ i ∈ isR, i ∉ isC) (q0 : Nat) (hcl : kCl[ci]? = some (Cn, T, N)) (he : wc[q0]? = some (b, .inr (ci, fs))) (hst : As.reverse ++ .ref b :: rest = st) (hroom : (rest.map fun v => v.category).sum ≤ 8) (hd : decode cc pc = .ok (.invokevirtual index, 3)) (kx9 : ∀ (n : String) (w : va_W), px n w → kxx E R G nL (cells + rm.cells) (slots + rm.slots) (wr ++ w) n lv pc rest) (kk : ∀ (v : Int32) (w : va_W), post v w → kx E R G nL (cells + rm.cells) (slots + rm.slots) (wr ++ w) lv (pc + 3) (.int v :: rest)) : kx E R G nL cells slots ws lv pc st := by
  obtain ⟨p, e, s, m, args, below, meth, c, A, Q⟩ := G
  obtain ⟨hx, hb, hml, hown, hts, hK, hA, hN, ham, hNs, hlk⟩ := C
  intro H locs ls hP hD hS hl
  have hPc := hP.sub (ws' := wc) isC (k_fm hC)
  have hDc := hD.sub (ws' := wc) isC hnC hC
  have hKc := hK
  have hFc := va_free (wc := wc) hD hS hA isC hC
  have hamH : amb (kN E) s H := amb_kept ham (fun a h1 h2 => hS.2.1 a h1 (fun z => h2 (hN a z)))
  refine vx_calli (vx_runV (As := As) (rest := rest) ⟨hx, hb, hml, hown, hts⟩ (hM H.size) (cwV n9 hts hg rfl rfl rfl hd0 hR) ⟨kPre_blind E _ wc H.size, va_recv hKc hPc hcl he, fun U hU hW => ⟨rfl, by rw [hU], Nat.le_trans hNs hS.1, by rw [hU]; exact amb_warm hW hamH, by rw [hU]; exact hPc, va_K.moved hW.alike hK, hDc.weaken (fun _ _ _ h => hN _ h)⟩⟩ rfl hn9 hl.1 hst.symm (lv_room hroom) hd hf) hS (fun q _ h => hFc q h) hFc (fun q _ h => hFc q h) (fun n ce q9 w t H1 locs1 ht hvm hu hB hz1 hk1 hS1 hce hcv hcl9 => by
    obtain ⟨hpx, hP1, hD1⟩ := hB
    rw [ht] at hP1
    obtain ⟨hP2, hD2⟩ := va_join (wr := wr) (w1 := w) hP hD isC isR hC hRr hnR hdis hk1 hFc hP1 hD1
    exact kx9 n w hpx H1 locs1 ls q9 ce hP2 hD2 hS1 hl hce hcv hcl9) (fun v w t H1 locs1 ht hvm hw9 hB hz1 hk1 hS1 => ?_)
  obtain ⟨hP1, hD1⟩ := hB
  rw [ht] at hP1
  obtain ⟨hP2, hD2⟩ := va_join (wr := wr) (w1 := w) hP hD isC isR hC hRr hnR hdis hk1 hFc hP1 hD1
  exact kk v w hw9 H1 locs1 ls hP2 hD2 hS1 hl
theorem kx_callVl {post : Int64 → va_W → Prop} (C : kc E G cc nL own) (hM : kMl E y bytes maxL rm (.ref b :: As) wc post) (hg : GoodIn kTb (wsV own index Cn y (Cond.code y bytes maxL (some .long) :: kTb))) (n9 : Nat) (hn9 : As.length = n9) (hd0 : y.cls = Cn ∧ y.cls ≠ "java/lang/invoke/MethodHandle" ∧ y.cls ≠ "java/lang/invoke/VarHandle" ∧ (parseMethodDescriptor y.desc).map (fun d => d.parameters.length) = some n9) (hR : rm.frames + 1 ≤ R.frames ∧ 8 + (maxL + 11) + rm.locals ≤ R.locals) (hf : cells + rm.cells ≤ R.cells ∧ slots + rm.slots ≤ R.slots) (isC isR : List Nat) (hC : isC.map (fun i => ws[i]?) = wc.map some) (hRr : isR.map (fun i => ws[i]?) = wr.map some) (hnC : va_nd isC = true) (hnR : va_nd isR = true) (hdis : ∀ i ∈ isR, i ∉ isC) (q0 : Nat) (hcl : kCl[ci]? = some (Cn, T, N)) (he : wc[q0]? = some (b, .inr (ci, fs))) (hst : As.reverse ++ .ref b :: rest = st) (hroom : (rest.map fun v => v.category).sum ≤ 8) (hd : decode cc pc = .ok (.invokevirtual index, 3)) (kk : ∀ (v : Int64) (w : va_W), post v w → kx E R G nL (cells + rm.cells) (slots + rm.slots) (wr ++ w) lv (pc + 3) (.long v :: rest)) : kx E R G nL cells slots ws lv pc st := by
  obtain ⟨p, e, s, m, args, below, meth, c, A, Q⟩ := G
  obtain ⟨hx, hb, hml, hown, hts, hK, hA, hN, ham, hNs, hlk⟩ := C
  intro H locs ls hP hD hS hl
  have hPc := hP.sub (ws' := wc) isC (k_fm hC)
  have hDc := hD.sub (ws' := wc) isC hnC hC
  have hKc := hK
  have hFc := va_free (wc := wc) hD hS hA isC hC
  have hamH : amb (kN E) s H := amb_kept ham (fun a h1 h2 => hS.2.1 a h1 (fun z => h2 (hN a z)))
  refine va_calll (va_runV (As := As) (rest := rest) ⟨hx, hb, hml, hown, hts⟩ (hM H.size) (cwV n9 hts hg rfl rfl rfl hd0 hR) ⟨kPre_blind E _ wc H.size, va_recv hKc hPc hcl he, fun U hU hW => ⟨rfl, by rw [hU], Nat.le_trans hNs hS.1, by rw [hU]; exact amb_warm hW hamH, by rw [hU]; exact hPc, va_K.moved hW.alike hK, hDc.weaken (fun _ _ _ h => hN _ h)⟩⟩ rfl hn9 hl.1 hst.symm (lv_room hroom) hd hf) hS (fun q _ h => hFc q h) hFc (fun v w t H1 locs1 ht hvm hw9 hB hz1 hk1 hS1 => ?_)
  obtain ⟨hP1, hD1⟩ := hB
  rw [ht] at hP1
  obtain ⟨hP2, hD2⟩ := va_join (wr := wr) (w1 := w) hP hD isC isR hC hRr hnR hdis hk1 hFc hP1 hD1
  exact kk v w hw9 H1 locs1 ls hP2 hD2 hS1 hl
theorem kx_callVlT {px : String → va_W → Prop} {post : Int64 → va_W → Prop} (C : kc E G cc nL own) (hM : kTl E y bytes maxL rm (.ref b :: As) wc post px) (hg : GoodIn kTb (wsV own index Cn y (Cond.code y bytes maxL (some .long) :: kTb))) (n9 : Nat) (hn9 : As.length = n9) (hd0 : y.cls = Cn ∧ y.cls ≠ "java/lang/invoke/MethodHandle" ∧ y.cls ≠ "java/lang/invoke/VarHandle" ∧ (parseMethodDescriptor y.desc).map (fun d => d.parameters.length) = some n9) (hR : rm.frames + 1 ≤ R.frames ∧ 8 + (maxL + 11) + rm.locals ≤ R.locals) (hf : cells + rm.cells ≤ R.cells ∧ slots + rm.slots ≤ R.slots) (isC isR : List Nat) (hC : isC.map (fun i => ws[i]?) = wc.map some) (hRr : isR.map (fun i => ws[i]?) = wr.map some) (hnC : va_nd isC = true) (hnR : va_nd isR = true) (hdis : ∀ i ∈ isR, i ∉ isC) (q0 : Nat) (hcl : kCl[ci]? = some (Cn, T, N)) (he : wc[q0]? = some (b, .inr (ci, fs))) (hst : As.reverse ++ .ref b :: rest = st) (hroom : (rest.map fun v => v.category).sum ≤ 8) (hd : decode cc pc = .ok (.invokevirtual index, 3)) (kx9 : ∀ (n : String) (w : va_W), px n w → kxx E R G nL (cells + rm.cells) (slots + rm.slots) (wr ++ w) n lv pc rest) (kk : ∀ (v : Int64) (w : va_W), post v w → kx E R G nL (cells + rm.cells) (slots + rm.slots) (wr ++ w) lv (pc + 3) (.long v :: rest)) : kx E R G nL cells slots ws lv pc st := by
  obtain ⟨p, e, s, m, args, below, meth, c, A, Q⟩ := G
  obtain ⟨hx, hb, hml, hown, hts, hK, hA, hN, ham, hNs, hlk⟩ := C
  intro H locs ls hP hD hS hl
  have hPc := hP.sub (ws' := wc) isC (k_fm hC)
  have hDc := hD.sub (ws' := wc) isC hnC hC
  have hKc := hK
  have hFc := va_free (wc := wc) hD hS hA isC hC
  have hamH : amb (kN E) s H := amb_kept ham (fun a h1 h2 => hS.2.1 a h1 (fun z => h2 (hN a z)))
  refine vx_calll (vx_runV (As := As) (rest := rest) ⟨hx, hb, hml, hown, hts⟩ (hM H.size) (cwV n9 hts hg rfl rfl rfl hd0 hR) ⟨kPre_blind E _ wc H.size, va_recv hKc hPc hcl he, fun U hU hW => ⟨rfl, by rw [hU], Nat.le_trans hNs hS.1, by rw [hU]; exact amb_warm hW hamH, by rw [hU]; exact hPc, va_K.moved hW.alike hK, hDc.weaken (fun _ _ _ h => hN _ h)⟩⟩ rfl hn9 hl.1 hst.symm (lv_room hroom) hd hf) hS (fun q _ h => hFc q h) hFc (fun q _ h => hFc q h) (fun n ce q9 w t H1 locs1 ht hvm hu hB hz1 hk1 hS1 hce hcv hcl9 => by
    obtain ⟨hpx, hP1, hD1⟩ := hB
    rw [ht] at hP1
    obtain ⟨hP2, hD2⟩ := va_join (wr := wr) (w1 := w) hP hD isC isR hC hRr hnR hdis hk1 hFc hP1 hD1
    exact kx9 n w hpx H1 locs1 ls q9 ce hP2 hD2 hS1 hl hce hcv hcl9) (fun v w t H1 locs1 ht hvm hw9 hB hz1 hk1 hS1 => ?_)
  obtain ⟨hP1, hD1⟩ := hB
  rw [ht] at hP1
  obtain ⟨hP2, hD2⟩ := va_join (wr := wr) (w1 := w) hP hD isC isR hC hRr hnR hdis hk1 hFc hP1 hD1
  exact kk v w hw9 H1 locs1 ls hP2 hD2 hS1 hl
theorem kx_callVv {post : va_W → Prop} (C : kc E G cc nL own) (hM : kMv E y bytes maxL rm (.ref b :: As) wc post) (hg : GoodIn kTb (wsV own index Cn y (Cond.code y bytes maxL (none) :: kTb))) (n9 : Nat) (hn9 : As.length = n9) (hd0 : y.cls = Cn ∧ y.cls ≠ "java/lang/invoke/MethodHandle" ∧ y.cls ≠ "java/lang/invoke/VarHandle" ∧ (parseMethodDescriptor y.desc).map (fun d => d.parameters.length) = some n9) (hR : rm.frames + 1 ≤ R.frames ∧ 8 + (maxL + 11) + rm.locals ≤ R.locals) (hf : cells + rm.cells ≤ R.cells ∧ slots + rm.slots ≤ R.slots) (isC isR : List Nat) (hC : isC.map (fun i => ws[i]?) = wc.map some) (hRr : isR.map (fun i => ws[i]?) = wr.map some) (hnC : va_nd isC = true) (hnR : va_nd isR = true) (hdis : ∀ i ∈ isR, i ∉ isC) (q0 : Nat) (hcl : kCl[ci]? = some (Cn, T, N)) (he : wc[q0]? = some (b, .inr (ci, fs))) (hst : As.reverse ++ .ref b :: rest = st) (hroom : (rest.map fun v => v.category).sum ≤ 8) (hd : decode cc pc = .ok (.invokevirtual index, 3)) (kk : ∀ (w : va_W), post w → kx E R G nL (cells + rm.cells) (slots + rm.slots) (wr ++ w) lv (pc + 3) (rest)) : kx E R G nL cells slots ws lv pc st := by
  obtain ⟨p, e, s, m, args, below, meth, c, A, Q⟩ := G
  obtain ⟨hx, hb, hml, hown, hts, hK, hA, hN, ham, hNs, hlk⟩ := C
  intro H locs ls hP hD hS hl
  have hPc := hP.sub (ws' := wc) isC (k_fm hC)
  have hDc := hD.sub (ws' := wc) isC hnC hC
  have hKc := hK
  have hFc := va_free (wc := wc) hD hS hA isC hC
  have hamH : amb (kN E) s H := amb_kept ham (fun a h1 h2 => hS.2.1 a h1 (fun z => h2 (hN a z)))
  refine va_callv (va_runV (As := As) (rest := rest) ⟨hx, hb, hml, hown, hts⟩ (hM H.size) (cwV n9 hts hg rfl rfl rfl hd0 hR) ⟨kPre_blind E _ wc H.size, va_recv hKc hPc hcl he, fun U hU hW => ⟨rfl, by rw [hU], Nat.le_trans hNs hS.1, by rw [hU]; exact amb_warm hW hamH, by rw [hU]; exact hPc, va_K.moved hW.alike hK, hDc.weaken (fun _ _ _ h => hN _ h)⟩⟩ rfl hn9 hl.1 hst.symm (lv_room hroom) hd hf) hS (fun q _ h => hFc q h) hFc (fun w t H1 locs1 ht hvm hw9 hB hz1 hk1 hS1 => ?_)
  obtain ⟨hP1, hD1⟩ := hB
  rw [ht] at hP1
  obtain ⟨hP2, hD2⟩ := va_join (wr := wr) (w1 := w) hP hD isC isR hC hRr hnR hdis hk1 hFc hP1 hD1
  exact kk w hw9 H1 locs1 ls hP2 hD2 hS1 hl
theorem kx_callVvT {px : String → va_W → Prop} {post : va_W → Prop} (C : kc E G cc nL own) (hM : kTv E y bytes maxL rm (.ref b :: As) wc post px) (hg : GoodIn kTb (wsV own index Cn y (Cond.code y bytes maxL (none) :: kTb))) (n9 : Nat) (hn9 : As.length = n9) (hd0 : y.cls = Cn ∧ y.cls ≠ "java/lang/invoke/MethodHandle" ∧ y.cls ≠ "java/lang/invoke/VarHandle" ∧ (parseMethodDescriptor y.desc).map (fun d => d.parameters.length) = some n9) (hR : rm.frames + 1 ≤ R.frames ∧ 8 + (maxL + 11) + rm.locals ≤ R.locals) (hf : cells + rm.cells ≤ R.cells ∧ slots + rm.slots ≤ R.slots) (isC isR : List Nat) (hC : isC.map (fun i => ws[i]?) = wc.map some) (hRr : isR.map (fun i => ws[i]?) = wr.map some) (hnC : va_nd isC = true) (hnR : va_nd isR = true) (hdis : ∀ i ∈ isR, i ∉ isC) (q0 : Nat) (hcl : kCl[ci]? = some (Cn, T, N)) (he : wc[q0]? = some (b, .inr (ci, fs))) (hst : As.reverse ++ .ref b :: rest = st) (hroom : (rest.map fun v => v.category).sum ≤ 8) (hd : decode cc pc = .ok (.invokevirtual index, 3)) (kx9 : ∀ (n : String) (w : va_W), px n w → kxx E R G nL (cells + rm.cells) (slots + rm.slots) (wr ++ w) n lv pc rest) (kk : ∀ (w : va_W), post w → kx E R G nL (cells + rm.cells) (slots + rm.slots) (wr ++ w) lv (pc + 3) (rest)) : kx E R G nL cells slots ws lv pc st := by
  obtain ⟨p, e, s, m, args, below, meth, c, A, Q⟩ := G
  obtain ⟨hx, hb, hml, hown, hts, hK, hA, hN, ham, hNs, hlk⟩ := C
  intro H locs ls hP hD hS hl
  have hPc := hP.sub (ws' := wc) isC (k_fm hC)
  have hDc := hD.sub (ws' := wc) isC hnC hC
  have hKc := hK
  have hFc := va_free (wc := wc) hD hS hA isC hC
  have hamH : amb (kN E) s H := amb_kept ham (fun a h1 h2 => hS.2.1 a h1 (fun z => h2 (hN a z)))
  refine vx_callv (vx_runV (As := As) (rest := rest) ⟨hx, hb, hml, hown, hts⟩ (hM H.size) (cwV n9 hts hg rfl rfl rfl hd0 hR) ⟨kPre_blind E _ wc H.size, va_recv hKc hPc hcl he, fun U hU hW => ⟨rfl, by rw [hU], Nat.le_trans hNs hS.1, by rw [hU]; exact amb_warm hW hamH, by rw [hU]; exact hPc, va_K.moved hW.alike hK, hDc.weaken (fun _ _ _ h => hN _ h)⟩⟩ rfl hn9 hl.1 hst.symm (lv_room hroom) hd hf) hS (fun q _ h => hFc q h) hFc (fun q _ h => hFc q h) (fun n ce q9 w t H1 locs1 ht hvm hu hB hz1 hk1 hS1 hce hcv hcl9 => by
    obtain ⟨hpx, hP1, hD1⟩ := hB
    rw [ht] at hP1
    obtain ⟨hP2, hD2⟩ := va_join (wr := wr) (w1 := w) hP hD isC isR hC hRr hnR hdis hk1 hFc hP1 hD1
    exact kx9 n w hpx H1 locs1 ls q9 ce hP2 hD2 hS1 hl hce hcv hcl9) (fun w t H1 locs1 ht hvm hw9 hB hz1 hk1 hS1 => ?_)
  obtain ⟨hP1, hD1⟩ := hB
  rw [ht] at hP1
  obtain ⟨hP2, hD2⟩ := va_join (wr := wr) (w1 := w) hP hD isC isR hC hRr hnR hdis hk1 hFc hP1 hD1
  exact kk w hw9 H1 locs1 ls hP2 hD2 hS1 hl
theorem kx_callVz {post : Int32 → va_W → Prop} (C : kc E G cc nL own) (hM : kMz E y bytes maxL rm (.ref b :: As) wc post) (hg : GoodIn kTb (wsV own index Cn y (Cond.code y bytes maxL (some .boolean) :: kTb))) (n9 : Nat) (hn9 : As.length = n9) (hd0 : y.cls = Cn ∧ y.cls ≠ "java/lang/invoke/MethodHandle" ∧ y.cls ≠ "java/lang/invoke/VarHandle" ∧ (parseMethodDescriptor y.desc).map (fun d => d.parameters.length) = some n9) (hR : rm.frames + 1 ≤ R.frames ∧ 8 + (maxL + 11) + rm.locals ≤ R.locals) (hf : cells + rm.cells ≤ R.cells ∧ slots + rm.slots ≤ R.slots) (isC isR : List Nat) (hC : isC.map (fun i => ws[i]?) = wc.map some) (hRr : isR.map (fun i => ws[i]?) = wr.map some) (hnC : va_nd isC = true) (hnR : va_nd isR = true) (hdis : ∀ i ∈ isR, i ∉ isC) (q0 : Nat) (hcl : kCl[ci]? = some (Cn, T, N)) (he : wc[q0]? = some (b, .inr (ci, fs))) (hst : As.reverse ++ .ref b :: rest = st) (hroom : (rest.map fun v => v.category).sum ≤ 8) (hd : decode cc pc = .ok (.invokevirtual index, 3)) (kk : ∀ (v : Int32) (w : va_W), post v w → kx E R G nL (cells + rm.cells) (slots + rm.slots) (wr ++ w) lv (pc + 3) (.int v :: rest)) : kx E R G nL cells slots ws lv pc st := by
  obtain ⟨p, e, s, m, args, below, meth, c, A, Q⟩ := G
  obtain ⟨hx, hb, hml, hown, hts, hK, hA, hN, ham, hNs, hlk⟩ := C
  intro H locs ls hP hD hS hl
  have hPc := hP.sub (ws' := wc) isC (k_fm hC)
  have hDc := hD.sub (ws' := wc) isC hnC hC
  have hKc := hK
  have hFc := va_free (wc := wc) hD hS hA isC hC
  have hamH : amb (kN E) s H := amb_kept ham (fun a h1 h2 => hS.2.1 a h1 (fun z => h2 (hN a z)))
  refine va_calli (va_runV (As := As) (rest := rest) ⟨hx, hb, hml, hown, hts⟩ (hM H.size) (cwV n9 hts hg rfl rfl rfl hd0 hR) ⟨kPre_blind E _ wc H.size, va_recv hKc hPc hcl he, fun U hU hW => ⟨rfl, by rw [hU], Nat.le_trans hNs hS.1, by rw [hU]; exact amb_warm hW hamH, by rw [hU]; exact hPc, va_K.moved hW.alike hK, hDc.weaken (fun _ _ _ h => hN _ h)⟩⟩ rfl hn9 hl.1 hst.symm (lv_room hroom) hd hf) hS (fun q _ h => hFc q h) hFc (fun v w t H1 locs1 ht hvm hw9 hB hz1 hk1 hS1 => ?_)
  obtain ⟨hP1, hD1⟩ := hB
  rw [ht] at hP1
  obtain ⟨hP2, hD2⟩ := va_join (wr := wr) (w1 := w) hP hD isC isR hC hRr hnR hdis hk1 hFc hP1 hD1
  exact kk v w hw9 H1 locs1 ls hP2 hD2 hS1 hl
theorem kx_callVzT {px : String → va_W → Prop} {post : Int32 → va_W → Prop} (C : kc E G cc nL own) (hM : kTz E y bytes maxL rm (.ref b :: As) wc post px) (hg : GoodIn kTb (wsV own index Cn y (Cond.code y bytes maxL (some .boolean) :: kTb))) (n9 : Nat) (hn9 : As.length = n9) (hd0 : y.cls = Cn ∧ y.cls ≠ "java/lang/invoke/MethodHandle" ∧ y.cls ≠ "java/lang/invoke/VarHandle" ∧ (parseMethodDescriptor y.desc).map (fun d => d.parameters.length) = some n9) (hR : rm.frames + 1 ≤ R.frames ∧ 8 + (maxL + 11) + rm.locals ≤ R.locals) (hf : cells + rm.cells ≤ R.cells ∧ slots + rm.slots ≤ R.slots) (isC isR : List Nat) (hC : isC.map (fun i => ws[i]?) = wc.map some) (hRr : isR.map (fun i => ws[i]?) = wr.map some) (hnC : va_nd isC = true) (hnR : va_nd isR = true) (hdis : ∀ i ∈ isR, i ∉ isC) (q0 : Nat) (hcl : kCl[ci]? = some (Cn, T, N)) (he : wc[q0]? = some (b, .inr (ci, fs))) (hst : As.reverse ++ .ref b :: rest = st) (hroom : (rest.map fun v => v.category).sum ≤ 8) (hd : decode cc pc = .ok (.invokevirtual index, 3)) (kx9 : ∀ (n : String) (w : va_W), px n w → kxx E R G nL (cells + rm.cells) (slots + rm.slots) (wr ++ w) n lv pc rest) (kk : ∀ (v : Int32) (w : va_W), post v w → kx E R G nL (cells + rm.cells) (slots + rm.slots) (wr ++ w) lv (pc + 3) (.int v :: rest)) : kx E R G nL cells slots ws lv pc st := by
  obtain ⟨p, e, s, m, args, below, meth, c, A, Q⟩ := G
  obtain ⟨hx, hb, hml, hown, hts, hK, hA, hN, ham, hNs, hlk⟩ := C
  intro H locs ls hP hD hS hl
  have hPc := hP.sub (ws' := wc) isC (k_fm hC)
  have hDc := hD.sub (ws' := wc) isC hnC hC
  have hKc := hK
  have hFc := va_free (wc := wc) hD hS hA isC hC
  have hamH : amb (kN E) s H := amb_kept ham (fun a h1 h2 => hS.2.1 a h1 (fun z => h2 (hN a z)))
  refine vx_calli (vx_runV (As := As) (rest := rest) ⟨hx, hb, hml, hown, hts⟩ (hM H.size) (cwV n9 hts hg rfl rfl rfl hd0 hR) ⟨kPre_blind E _ wc H.size, va_recv hKc hPc hcl he, fun U hU hW => ⟨rfl, by rw [hU], Nat.le_trans hNs hS.1, by rw [hU]; exact amb_warm hW hamH, by rw [hU]; exact hPc, va_K.moved hW.alike hK, hDc.weaken (fun _ _ _ h => hN _ h)⟩⟩ rfl hn9 hl.1 hst.symm (lv_room hroom) hd hf) hS (fun q _ h => hFc q h) hFc (fun q _ h => hFc q h) (fun n ce q9 w t H1 locs1 ht hvm hu hB hz1 hk1 hS1 hce hcv hcl9 => by
    obtain ⟨hpx, hP1, hD1⟩ := hB
    rw [ht] at hP1
    obtain ⟨hP2, hD2⟩ := va_join (wr := wr) (w1 := w) hP hD isC isR hC hRr hnR hdis hk1 hFc hP1 hD1
    exact kx9 n w hpx H1 locs1 ls q9 ce hP2 hD2 hS1 hl hce hcv hcl9) (fun v w t H1 locs1 ht hvm hw9 hB hz1 hk1 hS1 => ?_)
  obtain ⟨hP1, hD1⟩ := hB
  rw [ht] at hP1
  obtain ⟨hP2, hD2⟩ := va_join (wr := wr) (w1 := w) hP hD isC isR hC hRr hnR hdis hk1 hFc hP1 hD1
  exact kk v w hw9 H1 locs1 ls hP2 hD2 hS1 hl
theorem kx_callSi {post : Int32 → va_W → Prop} (C : kc E G cc nL own) (hM : kMi E y bytes maxL rm As wc post) (hg : GoodIn kTb (va_wsS own index y (Cond.code y bytes maxL (some .int) :: kTb))) (n9 : Nat) (hn9 : As.length = n9) (hd0 : y.cls ≠ "java/lang/invoke/MethodHandle" ∧ y.cls ≠ "java/lang/invoke/VarHandle" ∧ (parseMethodDescriptor y.desc).map (fun d => d.parameters.length) = some n9) (hR : rm.frames + 1 ≤ R.frames ∧ 8 + (maxL + 11) + rm.locals ≤ R.locals) (hf : cells + rm.cells ≤ R.cells ∧ slots + rm.slots ≤ R.slots) (isC isR : List Nat) (hC : isC.map (fun i => ws[i]?) = wc.map some) (hRr : isR.map (fun i => ws[i]?) = wr.map some) (hnC : va_nd isC = true) (hnR : va_nd isR = true) (hdis : ∀ i ∈ isR, i ∉ isC) (hst : As.reverse ++ rest = st) (hroom : (rest.map fun v => v.category).sum ≤ 8) (hd : decode cc pc = .ok (.invokestatic index, 3)) (kk : ∀ (v : Int32) (w : va_W), post v w → kx E R G nL (cells + rm.cells) (slots + rm.slots) (wr ++ w) lv (pc + 3) (.int v :: rest)) : kx E R G nL cells slots ws lv pc st := by
  obtain ⟨p, e, s, m, args, below, meth, c, A, Q⟩ := G
  obtain ⟨hx, hb, hml, hown, hts, hK, hA, hN, ham, hNs, hlk⟩ := C
  intro H locs ls hP hD hS hl
  have hPc := hP.sub (ws' := wc) isC (k_fm hC)
  have hDc := hD.sub (ws' := wc) isC hnC hC
  have hKc := hK
  have hFc := va_free (wc := wc) hD hS hA isC hC
  have hamH : amb (kN E) s H := amb_kept ham (fun a h1 h2 => hS.2.1 a h1 (fun z => h2 (hN a z)))
  refine va_calli (va_runS (As := As) (rest := rest) ⟨hx, hb, hml, hown, hts⟩ (hM H.size) (va_cwS n9 hts hg rfl rfl rfl hd0 hR) ⟨kPre_blind E _ wc H.size, fun U hU hW => ⟨rfl, by rw [hU], Nat.le_trans hNs hS.1, by rw [hU]; exact amb_warm hW hamH, by rw [hU]; exact hPc, va_K.moved hW.alike hK, hDc.weaken (fun _ _ _ h => hN _ h)⟩⟩ rfl hn9 hl.1 hst.symm (lv_room hroom) hd hf) hS (fun q _ h => hFc q h) hFc (fun v w t H1 locs1 ht hvm hw9 hB hz1 hk1 hS1 => ?_)
  obtain ⟨hP1, hD1⟩ := hB
  rw [ht] at hP1
  obtain ⟨hP2, hD2⟩ := va_join (wr := wr) (w1 := w) hP hD isC isR hC hRr hnR hdis hk1 hFc hP1 hD1
  exact kk v w hw9 H1 locs1 ls hP2 hD2 hS1 hl
theorem kx_callSiT {px : String → va_W → Prop} {post : Int32 → va_W → Prop} (C : kc E G cc nL own) (hM : kTi E y bytes maxL rm As wc post px) (hg : GoodIn kTb (va_wsS own index y (Cond.code y bytes maxL (some .int) :: kTb))) (n9 : Nat) (hn9 : As.length = n9) (hd0 : y.cls ≠ "java/lang/invoke/MethodHandle" ∧ y.cls ≠ "java/lang/invoke/VarHandle" ∧ (parseMethodDescriptor y.desc).map (fun d => d.parameters.length) = some n9) (hR : rm.frames + 1 ≤ R.frames ∧ 8 + (maxL + 11) + rm.locals ≤ R.locals) (hf : cells + rm.cells ≤ R.cells ∧ slots + rm.slots ≤ R.slots) (isC isR : List Nat) (hC : isC.map (fun i => ws[i]?) = wc.map some) (hRr : isR.map (fun i => ws[i]?) = wr.map some) (hnC : va_nd isC = true) (hnR : va_nd isR = true) (hdis : ∀ i ∈ isR, i ∉ isC) (hst : As.reverse ++ rest = st) (hroom : (rest.map fun v => v.category).sum ≤ 8) (hd : decode cc pc = .ok (.invokestatic index, 3)) (kx9 : ∀ (n : String) (w : va_W), px n w → kxx E R G nL (cells + rm.cells) (slots + rm.slots) (wr ++ w) n lv pc rest) (kk : ∀ (v : Int32) (w : va_W), post v w → kx E R G nL (cells + rm.cells) (slots + rm.slots) (wr ++ w) lv (pc + 3) (.int v :: rest)) : kx E R G nL cells slots ws lv pc st := by
  obtain ⟨p, e, s, m, args, below, meth, c, A, Q⟩ := G
  obtain ⟨hx, hb, hml, hown, hts, hK, hA, hN, ham, hNs, hlk⟩ := C
  intro H locs ls hP hD hS hl
  have hPc := hP.sub (ws' := wc) isC (k_fm hC)
  have hDc := hD.sub (ws' := wc) isC hnC hC
  have hKc := hK
  have hFc := va_free (wc := wc) hD hS hA isC hC
  have hamH : amb (kN E) s H := amb_kept ham (fun a h1 h2 => hS.2.1 a h1 (fun z => h2 (hN a z)))
  refine vx_calli (vx_runS (As := As) (rest := rest) ⟨hx, hb, hml, hown, hts⟩ (hM H.size) (va_cwS n9 hts hg rfl rfl rfl hd0 hR) ⟨kPre_blind E _ wc H.size, fun U hU hW => ⟨rfl, by rw [hU], Nat.le_trans hNs hS.1, by rw [hU]; exact amb_warm hW hamH, by rw [hU]; exact hPc, va_K.moved hW.alike hK, hDc.weaken (fun _ _ _ h => hN _ h)⟩⟩ rfl hn9 hl.1 hst.symm (lv_room hroom) hd hf) hS (fun q _ h => hFc q h) hFc (fun q _ h => hFc q h) (fun n ce q9 w t H1 locs1 ht hvm hu hB hz1 hk1 hS1 hce hcv hcl9 => by
    obtain ⟨hpx, hP1, hD1⟩ := hB
    rw [ht] at hP1
    obtain ⟨hP2, hD2⟩ := va_join (wr := wr) (w1 := w) hP hD isC isR hC hRr hnR hdis hk1 hFc hP1 hD1
    exact kx9 n w hpx H1 locs1 ls q9 ce hP2 hD2 hS1 hl hce hcv hcl9) (fun v w t H1 locs1 ht hvm hw9 hB hz1 hk1 hS1 => ?_)
  obtain ⟨hP1, hD1⟩ := hB
  rw [ht] at hP1
  obtain ⟨hP2, hD2⟩ := va_join (wr := wr) (w1 := w) hP hD isC isR hC hRr hnR hdis hk1 hFc hP1 hD1
  exact kk v w hw9 H1 locs1 ls hP2 hD2 hS1 hl
theorem kx_callSl {post : Int64 → va_W → Prop} (C : kc E G cc nL own) (hM : kMl E y bytes maxL rm As wc post) (hg : GoodIn kTb (va_wsS own index y (Cond.code y bytes maxL (some .long) :: kTb))) (n9 : Nat) (hn9 : As.length = n9) (hd0 : y.cls ≠ "java/lang/invoke/MethodHandle" ∧ y.cls ≠ "java/lang/invoke/VarHandle" ∧ (parseMethodDescriptor y.desc).map (fun d => d.parameters.length) = some n9) (hR : rm.frames + 1 ≤ R.frames ∧ 8 + (maxL + 11) + rm.locals ≤ R.locals) (hf : cells + rm.cells ≤ R.cells ∧ slots + rm.slots ≤ R.slots) (isC isR : List Nat) (hC : isC.map (fun i => ws[i]?) = wc.map some) (hRr : isR.map (fun i => ws[i]?) = wr.map some) (hnC : va_nd isC = true) (hnR : va_nd isR = true) (hdis : ∀ i ∈ isR, i ∉ isC) (hst : As.reverse ++ rest = st) (hroom : (rest.map fun v => v.category).sum ≤ 8) (hd : decode cc pc = .ok (.invokestatic index, 3)) (kk : ∀ (v : Int64) (w : va_W), post v w → kx E R G nL (cells + rm.cells) (slots + rm.slots) (wr ++ w) lv (pc + 3) (.long v :: rest)) : kx E R G nL cells slots ws lv pc st := by
  obtain ⟨p, e, s, m, args, below, meth, c, A, Q⟩ := G
  obtain ⟨hx, hb, hml, hown, hts, hK, hA, hN, ham, hNs, hlk⟩ := C
  intro H locs ls hP hD hS hl
  have hPc := hP.sub (ws' := wc) isC (k_fm hC)
  have hDc := hD.sub (ws' := wc) isC hnC hC
  have hKc := hK
  have hFc := va_free (wc := wc) hD hS hA isC hC
  have hamH : amb (kN E) s H := amb_kept ham (fun a h1 h2 => hS.2.1 a h1 (fun z => h2 (hN a z)))
  refine va_calll (va_runS (As := As) (rest := rest) ⟨hx, hb, hml, hown, hts⟩ (hM H.size) (va_cwS n9 hts hg rfl rfl rfl hd0 hR) ⟨kPre_blind E _ wc H.size, fun U hU hW => ⟨rfl, by rw [hU], Nat.le_trans hNs hS.1, by rw [hU]; exact amb_warm hW hamH, by rw [hU]; exact hPc, va_K.moved hW.alike hK, hDc.weaken (fun _ _ _ h => hN _ h)⟩⟩ rfl hn9 hl.1 hst.symm (lv_room hroom) hd hf) hS (fun q _ h => hFc q h) hFc (fun v w t H1 locs1 ht hvm hw9 hB hz1 hk1 hS1 => ?_)
  obtain ⟨hP1, hD1⟩ := hB
  rw [ht] at hP1
  obtain ⟨hP2, hD2⟩ := va_join (wr := wr) (w1 := w) hP hD isC isR hC hRr hnR hdis hk1 hFc hP1 hD1
  exact kk v w hw9 H1 locs1 ls hP2 hD2 hS1 hl
theorem kx_callSlT {px : String → va_W → Prop} {post : Int64 → va_W → Prop} (C : kc E G cc nL own) (hM : kTl E y bytes maxL rm As wc post px) (hg : GoodIn kTb (va_wsS own index y (Cond.code y bytes maxL (some .long) :: kTb))) (n9 : Nat) (hn9 : As.length = n9) (hd0 : y.cls ≠ "java/lang/invoke/MethodHandle" ∧ y.cls ≠ "java/lang/invoke/VarHandle" ∧ (parseMethodDescriptor y.desc).map (fun d => d.parameters.length) = some n9) (hR : rm.frames + 1 ≤ R.frames ∧ 8 + (maxL + 11) + rm.locals ≤ R.locals) (hf : cells + rm.cells ≤ R.cells ∧ slots + rm.slots ≤ R.slots) (isC isR : List Nat) (hC : isC.map (fun i => ws[i]?) = wc.map some) (hRr : isR.map (fun i => ws[i]?) = wr.map some) (hnC : va_nd isC = true) (hnR : va_nd isR = true) (hdis : ∀ i ∈ isR, i ∉ isC) (hst : As.reverse ++ rest = st) (hroom : (rest.map fun v => v.category).sum ≤ 8) (hd : decode cc pc = .ok (.invokestatic index, 3)) (kx9 : ∀ (n : String) (w : va_W), px n w → kxx E R G nL (cells + rm.cells) (slots + rm.slots) (wr ++ w) n lv pc rest) (kk : ∀ (v : Int64) (w : va_W), post v w → kx E R G nL (cells + rm.cells) (slots + rm.slots) (wr ++ w) lv (pc + 3) (.long v :: rest)) : kx E R G nL cells slots ws lv pc st := by
  obtain ⟨p, e, s, m, args, below, meth, c, A, Q⟩ := G
  obtain ⟨hx, hb, hml, hown, hts, hK, hA, hN, ham, hNs, hlk⟩ := C
  intro H locs ls hP hD hS hl
  have hPc := hP.sub (ws' := wc) isC (k_fm hC)
  have hDc := hD.sub (ws' := wc) isC hnC hC
  have hKc := hK
  have hFc := va_free (wc := wc) hD hS hA isC hC
  have hamH : amb (kN E) s H := amb_kept ham (fun a h1 h2 => hS.2.1 a h1 (fun z => h2 (hN a z)))
  refine vx_calll (vx_runS (As := As) (rest := rest) ⟨hx, hb, hml, hown, hts⟩ (hM H.size) (va_cwS n9 hts hg rfl rfl rfl hd0 hR) ⟨kPre_blind E _ wc H.size, fun U hU hW => ⟨rfl, by rw [hU], Nat.le_trans hNs hS.1, by rw [hU]; exact amb_warm hW hamH, by rw [hU]; exact hPc, va_K.moved hW.alike hK, hDc.weaken (fun _ _ _ h => hN _ h)⟩⟩ rfl hn9 hl.1 hst.symm (lv_room hroom) hd hf) hS (fun q _ h => hFc q h) hFc (fun q _ h => hFc q h) (fun n ce q9 w t H1 locs1 ht hvm hu hB hz1 hk1 hS1 hce hcv hcl9 => by
    obtain ⟨hpx, hP1, hD1⟩ := hB
    rw [ht] at hP1
    obtain ⟨hP2, hD2⟩ := va_join (wr := wr) (w1 := w) hP hD isC isR hC hRr hnR hdis hk1 hFc hP1 hD1
    exact kx9 n w hpx H1 locs1 ls q9 ce hP2 hD2 hS1 hl hce hcv hcl9) (fun v w t H1 locs1 ht hvm hw9 hB hz1 hk1 hS1 => ?_)
  obtain ⟨hP1, hD1⟩ := hB
  rw [ht] at hP1
  obtain ⟨hP2, hD2⟩ := va_join (wr := wr) (w1 := w) hP hD isC isR hC hRr hnR hdis hk1 hFc hP1 hD1
  exact kk v w hw9 H1 locs1 ls hP2 hD2 hS1 hl
theorem kx_callSv {post : va_W → Prop} (C : kc E G cc nL own) (hM : kMv E y bytes maxL rm As wc post) (hg : GoodIn kTb (va_wsS own index y (Cond.code y bytes maxL (none) :: kTb))) (n9 : Nat) (hn9 : As.length = n9) (hd0 : y.cls ≠ "java/lang/invoke/MethodHandle" ∧ y.cls ≠ "java/lang/invoke/VarHandle" ∧ (parseMethodDescriptor y.desc).map (fun d => d.parameters.length) = some n9) (hR : rm.frames + 1 ≤ R.frames ∧ 8 + (maxL + 11) + rm.locals ≤ R.locals) (hf : cells + rm.cells ≤ R.cells ∧ slots + rm.slots ≤ R.slots) (isC isR : List Nat) (hC : isC.map (fun i => ws[i]?) = wc.map some) (hRr : isR.map (fun i => ws[i]?) = wr.map some) (hnC : va_nd isC = true) (hnR : va_nd isR = true) (hdis : ∀ i ∈ isR, i ∉ isC) (hst : As.reverse ++ rest = st) (hroom : (rest.map fun v => v.category).sum ≤ 8) (hd : decode cc pc = .ok (.invokestatic index, 3)) (kk : ∀ (w : va_W), post w → kx E R G nL (cells + rm.cells) (slots + rm.slots) (wr ++ w) lv (pc + 3) (rest)) : kx E R G nL cells slots ws lv pc st := by
  obtain ⟨p, e, s, m, args, below, meth, c, A, Q⟩ := G
  obtain ⟨hx, hb, hml, hown, hts, hK, hA, hN, ham, hNs, hlk⟩ := C
  intro H locs ls hP hD hS hl
  have hPc := hP.sub (ws' := wc) isC (k_fm hC)
  have hDc := hD.sub (ws' := wc) isC hnC hC
  have hKc := hK
  have hFc := va_free (wc := wc) hD hS hA isC hC
  have hamH : amb (kN E) s H := amb_kept ham (fun a h1 h2 => hS.2.1 a h1 (fun z => h2 (hN a z)))
  refine va_callv (va_runS (As := As) (rest := rest) ⟨hx, hb, hml, hown, hts⟩ (hM H.size) (va_cwS n9 hts hg rfl rfl rfl hd0 hR) ⟨kPre_blind E _ wc H.size, fun U hU hW => ⟨rfl, by rw [hU], Nat.le_trans hNs hS.1, by rw [hU]; exact amb_warm hW hamH, by rw [hU]; exact hPc, va_K.moved hW.alike hK, hDc.weaken (fun _ _ _ h => hN _ h)⟩⟩ rfl hn9 hl.1 hst.symm (lv_room hroom) hd hf) hS (fun q _ h => hFc q h) hFc (fun w t H1 locs1 ht hvm hw9 hB hz1 hk1 hS1 => ?_)
  obtain ⟨hP1, hD1⟩ := hB
  rw [ht] at hP1
  obtain ⟨hP2, hD2⟩ := va_join (wr := wr) (w1 := w) hP hD isC isR hC hRr hnR hdis hk1 hFc hP1 hD1
  exact kk w hw9 H1 locs1 ls hP2 hD2 hS1 hl
theorem kx_callSvT {px : String → va_W → Prop} {post : va_W → Prop} (C : kc E G cc nL own) (hM : kTv E y bytes maxL rm As wc post px) (hg : GoodIn kTb (va_wsS own index y (Cond.code y bytes maxL (none) :: kTb))) (n9 : Nat) (hn9 : As.length = n9) (hd0 : y.cls ≠ "java/lang/invoke/MethodHandle" ∧ y.cls ≠ "java/lang/invoke/VarHandle" ∧ (parseMethodDescriptor y.desc).map (fun d => d.parameters.length) = some n9) (hR : rm.frames + 1 ≤ R.frames ∧ 8 + (maxL + 11) + rm.locals ≤ R.locals) (hf : cells + rm.cells ≤ R.cells ∧ slots + rm.slots ≤ R.slots) (isC isR : List Nat) (hC : isC.map (fun i => ws[i]?) = wc.map some) (hRr : isR.map (fun i => ws[i]?) = wr.map some) (hnC : va_nd isC = true) (hnR : va_nd isR = true) (hdis : ∀ i ∈ isR, i ∉ isC) (hst : As.reverse ++ rest = st) (hroom : (rest.map fun v => v.category).sum ≤ 8) (hd : decode cc pc = .ok (.invokestatic index, 3)) (kx9 : ∀ (n : String) (w : va_W), px n w → kxx E R G nL (cells + rm.cells) (slots + rm.slots) (wr ++ w) n lv pc rest) (kk : ∀ (w : va_W), post w → kx E R G nL (cells + rm.cells) (slots + rm.slots) (wr ++ w) lv (pc + 3) (rest)) : kx E R G nL cells slots ws lv pc st := by
  obtain ⟨p, e, s, m, args, below, meth, c, A, Q⟩ := G
  obtain ⟨hx, hb, hml, hown, hts, hK, hA, hN, ham, hNs, hlk⟩ := C
  intro H locs ls hP hD hS hl
  have hPc := hP.sub (ws' := wc) isC (k_fm hC)
  have hDc := hD.sub (ws' := wc) isC hnC hC
  have hKc := hK
  have hFc := va_free (wc := wc) hD hS hA isC hC
  have hamH : amb (kN E) s H := amb_kept ham (fun a h1 h2 => hS.2.1 a h1 (fun z => h2 (hN a z)))
  refine vx_callv (vx_runS (As := As) (rest := rest) ⟨hx, hb, hml, hown, hts⟩ (hM H.size) (va_cwS n9 hts hg rfl rfl rfl hd0 hR) ⟨kPre_blind E _ wc H.size, fun U hU hW => ⟨rfl, by rw [hU], Nat.le_trans hNs hS.1, by rw [hU]; exact amb_warm hW hamH, by rw [hU]; exact hPc, va_K.moved hW.alike hK, hDc.weaken (fun _ _ _ h => hN _ h)⟩⟩ rfl hn9 hl.1 hst.symm (lv_room hroom) hd hf) hS (fun q _ h => hFc q h) hFc (fun q _ h => hFc q h) (fun n ce q9 w t H1 locs1 ht hvm hu hB hz1 hk1 hS1 hce hcv hcl9 => by
    obtain ⟨hpx, hP1, hD1⟩ := hB
    rw [ht] at hP1
    obtain ⟨hP2, hD2⟩ := va_join (wr := wr) (w1 := w) hP hD isC isR hC hRr hnR hdis hk1 hFc hP1 hD1
    exact kx9 n w hpx H1 locs1 ls q9 ce hP2 hD2 hS1 hl hce hcv hcl9) (fun w t H1 locs1 ht hvm hw9 hB hz1 hk1 hS1 => ?_)
  obtain ⟨hP1, hD1⟩ := hB
  rw [ht] at hP1
  obtain ⟨hP2, hD2⟩ := va_join (wr := wr) (w1 := w) hP hD isC isR hC hRr hnR hdis hk1 hFc hP1 hD1
  exact kk w hw9 H1 locs1 ls hP2 hD2 hS1 hl
theorem kx_callSz {post : Int32 → va_W → Prop} (C : kc E G cc nL own) (hM : kMz E y bytes maxL rm As wc post) (hg : GoodIn kTb (va_wsS own index y (Cond.code y bytes maxL (some .boolean) :: kTb))) (n9 : Nat) (hn9 : As.length = n9) (hd0 : y.cls ≠ "java/lang/invoke/MethodHandle" ∧ y.cls ≠ "java/lang/invoke/VarHandle" ∧ (parseMethodDescriptor y.desc).map (fun d => d.parameters.length) = some n9) (hR : rm.frames + 1 ≤ R.frames ∧ 8 + (maxL + 11) + rm.locals ≤ R.locals) (hf : cells + rm.cells ≤ R.cells ∧ slots + rm.slots ≤ R.slots) (isC isR : List Nat) (hC : isC.map (fun i => ws[i]?) = wc.map some) (hRr : isR.map (fun i => ws[i]?) = wr.map some) (hnC : va_nd isC = true) (hnR : va_nd isR = true) (hdis : ∀ i ∈ isR, i ∉ isC) (hst : As.reverse ++ rest = st) (hroom : (rest.map fun v => v.category).sum ≤ 8) (hd : decode cc pc = .ok (.invokestatic index, 3)) (kk : ∀ (v : Int32) (w : va_W), post v w → kx E R G nL (cells + rm.cells) (slots + rm.slots) (wr ++ w) lv (pc + 3) (.int v :: rest)) : kx E R G nL cells slots ws lv pc st := by
  obtain ⟨p, e, s, m, args, below, meth, c, A, Q⟩ := G
  obtain ⟨hx, hb, hml, hown, hts, hK, hA, hN, ham, hNs, hlk⟩ := C
  intro H locs ls hP hD hS hl
  have hPc := hP.sub (ws' := wc) isC (k_fm hC)
  have hDc := hD.sub (ws' := wc) isC hnC hC
  have hKc := hK
  have hFc := va_free (wc := wc) hD hS hA isC hC
  have hamH : amb (kN E) s H := amb_kept ham (fun a h1 h2 => hS.2.1 a h1 (fun z => h2 (hN a z)))
  refine va_calli (va_runS (As := As) (rest := rest) ⟨hx, hb, hml, hown, hts⟩ (hM H.size) (va_cwS n9 hts hg rfl rfl rfl hd0 hR) ⟨kPre_blind E _ wc H.size, fun U hU hW => ⟨rfl, by rw [hU], Nat.le_trans hNs hS.1, by rw [hU]; exact amb_warm hW hamH, by rw [hU]; exact hPc, va_K.moved hW.alike hK, hDc.weaken (fun _ _ _ h => hN _ h)⟩⟩ rfl hn9 hl.1 hst.symm (lv_room hroom) hd hf) hS (fun q _ h => hFc q h) hFc (fun v w t H1 locs1 ht hvm hw9 hB hz1 hk1 hS1 => ?_)
  obtain ⟨hP1, hD1⟩ := hB
  rw [ht] at hP1
  obtain ⟨hP2, hD2⟩ := va_join (wr := wr) (w1 := w) hP hD isC isR hC hRr hnR hdis hk1 hFc hP1 hD1
  exact kk v w hw9 H1 locs1 ls hP2 hD2 hS1 hl
theorem kx_callSzT {px : String → va_W → Prop} {post : Int32 → va_W → Prop} (C : kc E G cc nL own) (hM : kTz E y bytes maxL rm As wc post px) (hg : GoodIn kTb (va_wsS own index y (Cond.code y bytes maxL (some .boolean) :: kTb))) (n9 : Nat) (hn9 : As.length = n9) (hd0 : y.cls ≠ "java/lang/invoke/MethodHandle" ∧ y.cls ≠ "java/lang/invoke/VarHandle" ∧ (parseMethodDescriptor y.desc).map (fun d => d.parameters.length) = some n9) (hR : rm.frames + 1 ≤ R.frames ∧ 8 + (maxL + 11) + rm.locals ≤ R.locals) (hf : cells + rm.cells ≤ R.cells ∧ slots + rm.slots ≤ R.slots) (isC isR : List Nat) (hC : isC.map (fun i => ws[i]?) = wc.map some) (hRr : isR.map (fun i => ws[i]?) = wr.map some) (hnC : va_nd isC = true) (hnR : va_nd isR = true) (hdis : ∀ i ∈ isR, i ∉ isC) (hst : As.reverse ++ rest = st) (hroom : (rest.map fun v => v.category).sum ≤ 8) (hd : decode cc pc = .ok (.invokestatic index, 3)) (kx9 : ∀ (n : String) (w : va_W), px n w → kxx E R G nL (cells + rm.cells) (slots + rm.slots) (wr ++ w) n lv pc rest) (kk : ∀ (v : Int32) (w : va_W), post v w → kx E R G nL (cells + rm.cells) (slots + rm.slots) (wr ++ w) lv (pc + 3) (.int v :: rest)) : kx E R G nL cells slots ws lv pc st := by
  obtain ⟨p, e, s, m, args, below, meth, c, A, Q⟩ := G
  obtain ⟨hx, hb, hml, hown, hts, hK, hA, hN, ham, hNs, hlk⟩ := C
  intro H locs ls hP hD hS hl
  have hPc := hP.sub (ws' := wc) isC (k_fm hC)
  have hDc := hD.sub (ws' := wc) isC hnC hC
  have hKc := hK
  have hFc := va_free (wc := wc) hD hS hA isC hC
  have hamH : amb (kN E) s H := amb_kept ham (fun a h1 h2 => hS.2.1 a h1 (fun z => h2 (hN a z)))
  refine vx_calli (vx_runS (As := As) (rest := rest) ⟨hx, hb, hml, hown, hts⟩ (hM H.size) (va_cwS n9 hts hg rfl rfl rfl hd0 hR) ⟨kPre_blind E _ wc H.size, fun U hU hW => ⟨rfl, by rw [hU], Nat.le_trans hNs hS.1, by rw [hU]; exact amb_warm hW hamH, by rw [hU]; exact hPc, va_K.moved hW.alike hK, hDc.weaken (fun _ _ _ h => hN _ h)⟩⟩ rfl hn9 hl.1 hst.symm (lv_room hroom) hd hf) hS (fun q _ h => hFc q h) hFc (fun q _ h => hFc q h) (fun n ce q9 w t H1 locs1 ht hvm hu hB hz1 hk1 hS1 hce hcv hcl9 => by
    obtain ⟨hpx, hP1, hD1⟩ := hB
    rw [ht] at hP1
    obtain ⟨hP2, hD2⟩ := va_join (wr := wr) (w1 := w) hP hD isC isR hC hRr hnR hdis hk1 hFc hP1 hD1
    exact kx9 n w hpx H1 locs1 ls q9 ce hP2 hD2 hS1 hl hce hcv hcl9) (fun v w t H1 locs1 ht hvm hw9 hB hz1 hk1 hS1 => ?_)
  obtain ⟨hP1, hD1⟩ := hB
  rw [ht] at hP1
  obtain ⟨hP2, hD2⟩ := va_join (wr := wr) (w1 := w) hP hD isC isR hC hRr hnR hdis hk1 hFc hP1 hD1
  exact kk v w hw9 H1 locs1 ls hP2 hD2 hS1 hl
end KC
