/-! contracts of the law's own methods: they have handlers, and never throw -/
def kPreH (E : KE) (wc : va_W) (sz : Nat) (U : State) : Prop := kPre E wc sz U ∧ kHP U
theorem kPreH_blind (E : KE) (av : List Value) (wc : va_W) (sz : Nat) : FrameBlind (va_Pc av (kPreH E wc sz)) := by
  intro a U g mk q
  obtain ⟨q0, ⟨q1, q2, q3, q4, q5, q6⟩, q7⟩ := q
  exact ⟨q0, ⟨q1, q2, amb_same (u := U) (U := U.calling g mk a) rfl q3, q4, va_K.moved (u := U) (U := U.calling g mk a) (Vm.Alike.refl U.vm) q5, q6⟩, kHP.moved (u := U) (U := U.calling g mk a) (Vm.Alike.refl U.vm) q7⟩
def kHi (E : KE) (y : MethodName) (cc : ByteArray) (maxL : Nat) (hh : List (Nat × Nat × Nat × Nat)) (rm : Room) (av : List Value) (wc : va_W) (post : Int32 → va_W → Prop) : Prop := ∀ sz : Nat, vx_Met E.1 y (Cond.codeWith y cc maxL (some .int) hh :: kTb) rm (va_Pc av (kPreH E wc sz)) (va_Qi post (kB E (va_A wc sz)) (va_A wc sz)) (vx_X (fun _ : va_W => False) (kBX E (va_A wc sz) (fun _ _ => False)) (va_A wc sz)) rm.cells rm.slots (va_A wc sz)
theorem kHi_of {E : KE} {y : MethodName} {rm : Room} {av : List Value} {wc : va_W} {post : Int32 → va_W → Prop} {cc : ByteArray} {maxL : Nat} {hh : List (Nat × Nat × Nat × Nat)} (hy : plainName y.cls = true) (hal : (lg_sl av).length ≤ maxL)
    (body : ∀ G : KG, kc E G cc maxL y.cls → (kGc G).exceptionTable.toList = tableOf hh → kHP (kGs G) → (∀ {cells slots : Nat} {lv : List (Nat × Value)} {pc : Nat} {v : Int32} {w : va_W}, cells ≤ rm.cells → slots ≤ rm.slots → decode cc pc = .ok (.ireturn, 1) → post v w → kx E rm G maxL cells slots w lv pc [(.int v)]) → kx E rm G maxL 0 0 wc (lv_args 0 av) 0 []) : kHi E y cc maxL hh rm av wc post := by
  intro sz
  refine vx_ofWH (cc := cc) (maxL := maxL) (ret := some .int) (hh := hh) hy rfl ?_
  intro p e s m args below meth c s₁ B hml hv
  obtain ⟨rfl, ⟨hsz, hNs, ham, hP, hK, hD0⟩, hHP⟩ := hv
  subst hsz
  have hts0 := atoms_spec (ws := Cond.codeWith y cc maxL (some .int) hh :: kTb) B.pre
  have hts : ∀ w ∈ kTb, w.before av.toArray s = true := fun w h => hts0 w (List.mem_cons_of_mem _ h)
  have htab := vx_table (x := y) B (hts0 _ List.mem_cons_self)
  have hown : s.vm.findClass y.cls = some m.cls := findClass_of_methodNamed B.named
  have hl := lv_entry av (n := maxL) hal
  rw [lg_entry_eq]
  have hD := hD0.self (sz := s.heap.size)
  have hN : ∀ q : Nat, va_A wc s.heap.size q → kN E ≤ q := by
    intro q hq
    rcases hq with ⟨k, e9, h⟩ | h
    · exact hD0.2 k _ h
    · exact Nat.le_trans hNs h
  refine body (p, e, s, m, av.toArray, below, meth, c, va_A wc s.heap.size, (vx_MQ below (va_Qi post (kB E (va_A wc s.heap.size)) (va_A wc s.heap.size)) (vx_X (fun _ : va_W => False) (kBX E (va_A wc s.heap.size) (fun _ _ => False)) (va_A wc s.heap.size)) av.toArray s rm.cells rm.slots (va_A wc s.heap.size))) ⟨B.exec, B.bytes, hml, hown, hts, hK, fun q h => Or.inr h, hN, ham, hNs, B.notSynchronized⟩ htab hHP ?_ s.heap [] _ hP hD va_S.rf hl
  intro cells slots lv pc v w hc hs hd hpost H locs ls hP hD hS hl
  refine vx_ret ?_
  refine W.widen hc hs ?_
  exact W.iret B.exec B.bytes B.returns (fun t ht hW => ⟨⟨v, w, rfl, hpost, by rw [ht]; exact hP, hD⟩, hS.F ht⟩) hS.2.2 hd B.notSynchronized
theorem kIv_of {E : KE} {y : MethodName} {rm : Room} {av : List Value} {wc : va_W} {post : va_W → Prop} {cc : ByteArray} {maxL : Nat} (hy : plainName y.cls = true) (hyn : y.name = "<init>") (hal : (lg_sl av).length ≤ maxL)
    (body : ∀ G : KG, kc E G cc maxL y.cls → (kGm G).name = "<init>" → (∀ {cells slots : Nat} {lv : List (Nat × Value)} {pc : Nat} {w : va_W}, cells ≤ rm.cells → slots ≤ rm.slots → decode cc pc = .ok (.return_, 1) → post w → kx E rm G maxL cells slots w lv pc []) → kx E rm G maxL 0 0 wc (lv_args 0 av) 0 []) : kMv E y cc maxL rm av wc post := by
  intro sz
  refine Met.ofW (cc := cc) (maxL := maxL) (ret := none) hy rfl ?_
  intro p e s m args below meth c s₁ B hml hv
  obtain ⟨rfl, hsz, hNs, ham, hP, hK, hD0⟩ := hv
  subst hsz
  have hts0 := atoms_spec (ws := Cond.code y cc maxL (none) :: kTb) B.pre
  have hts : ∀ w ∈ kTb, w.before av.toArray s = true := fun w h => hts0 w (List.mem_cons_of_mem _ h)
  have hown : s.vm.findClass y.cls = some m.cls := findClass_of_methodNamed B.named
  have hin : meth.name = "<init>" := (name_of_methodNamed B.named B.method).1.trans hyn
  have hl := lv_entry av (n := maxL) hal
  rw [lg_entry_eq]
  have hD := hD0.self (sz := s.heap.size)
  refine body (p, e, s, m, av.toArray, below, meth, c, va_A wc s.heap.size, MQ below (va_Qv post (kB E (va_A wc s.heap.size)) (va_A wc s.heap.size)) av.toArray s rm.cells rm.slots (va_A wc s.heap.size)) ⟨B.exec, B.bytes, hml, hown, hts, hK, fun q h => Or.inr h, ?_, ham, hNs, B.notSynchronized⟩ hin ?_ s.heap [] _ hP hD va_S.rf hl
  · intro q hq
    rcases hq with ⟨k, e9, h⟩ | h
    · exact hD0.2 k _ h
    · exact Nat.le_trans hNs h
  · intro cells slots lv pc w hc hs hd hpost H locs ls hP hD hS hl
    refine W.widen hc hs ?_
    exact W.vret B.exec B.bytes B.returns (fun t ht hW => ⟨⟨w, rfl, hpost, by rw [ht]; exact hP, hD⟩, hS.F ht⟩) hS.2.2 hd B.notSynchronized
theorem kgH {own : String} {index : Nat} {y : MethodName} {w : Cond} (h1 : Cond.methodLink own index y ∈ kTb) (h2 : Cond.static y ∈ kTb) (h4 : Cond.initialized y.cls ∈ kTb) (h5 : w ∈ kTb) : GoodIn kTb (va_wsS own index y (w :: kTb)) := kgS h1 h2 h4 h5
theorem kgI {w : Cond} (h5 : w ∈ kTb) : GoodIn kTb (w :: kTb) := by
  intro v hv
  have hm : v ∈ kTb := by
    rcases List.mem_cons.mp hv with rfl | hv
    · exact h5
    · exact hv
  exact ⟨hm, kTb_good hm⟩
section KLX
variable {E : KE} {R : Room} {G : KG} {cc : ByteArray} {nL : Nat} {own : String} {cells slots : Nat} {ws : va_W} {lv : List (Nat × Value)} {pc : Nat} {st : List Value} {y : MethodName} {rm : Room} {bytes : ByteArray} {maxL index : Nat} {b : Nat} {As rest : List Value} {wc wr : va_W}
theorem kxx_catch (C : kc E G cc nL own) {n name : String} {hh : List (Nat × Nat × Nat × Nat)} (ht : (kGc G).exceptionTable.toList = tableOf hh) (pre : List ExceptionTableEntry) (x : ExceptionTableEntry) (suf : List ExceptionTableEntry) (hsplit : tableOf hh = pre ++ x :: suf) (hpass : ∀ z ∈ pre, covers z pc = false ∨ (z.catchType ≠ 0 ∧ ∃ nm : String, Cond.classLink own z.catchType nm ∈ kTb ∧ va_Nc n nm (kGs G))) (hx : covers x pc = true) (h0 : x.catchType ≠ 0) (hl1 : Cond.classLink own x.catchType name ∈ kTb) (hc : Cond.castable n name ∈ kFa) (kk : ∀ q : Nat, kx E R G nL cells slots ws lv x.handlerPc [.ref q]) : kxx E R G nL cells slots ws n lv pc st := by
  obtain ⟨p, e, s, m, args, below, meth, c, A, Q⟩ := G
  obtain ⟨hx9, hb, hml, hown, hts, hK, hA, hN, ham, hNs, hlk⟩ := C
  intro H locs ls q9 ce hP hD hS hl hce hcv hcl
  exact vx_catch hown pre x suf (ht.trans hsplit) (fun z hz => (hpass z hz).imp id (fun ⟨a1, nm, a2, a3⟩ => ⟨a1, nm, hts _ a2, a3⟩)) hx h0 (hts _ hl1) (amb_fa ham hc) hce hcv hcl (kk q9 H locs ls hP hD hS hl)
theorem kx_callSH {post : Int32 → va_W → Prop} {hh : List (Nat × Nat × Nat × Nat)} (C : kc E G cc nL own) (hHP : kHP (kGs G)) (hM : kHi E y bytes maxL hh rm As wc post) (hg : GoodIn kTb (va_wsS own index y (Cond.codeWith y bytes maxL (some .int) hh :: kTb))) (n9 : Nat) (hn9 : As.length = n9) (hd0 : y.cls ≠ "java/lang/invoke/MethodHandle" ∧ y.cls ≠ "java/lang/invoke/VarHandle" ∧ (parseMethodDescriptor y.desc).map (fun d => d.parameters.length) = some n9) (hR : rm.frames + 1 ≤ R.frames ∧ 8 + (maxL + 11) + rm.locals ≤ R.locals) (hf : cells + rm.cells ≤ R.cells ∧ slots + rm.slots ≤ R.slots) (isC isR : List Nat) (hC : isC.map (fun i => ws[i]?) = wc.map some) (hRr : isR.map (fun i => ws[i]?) = wr.map some) (hnC : va_nd isC = true) (hnR : va_nd isR = true) (hdis : ∀ i ∈ isR, i ∉ isC) (hst : As.reverse ++ rest = st) (hroom : (rest.map fun v => v.category).sum ≤ 8) (hd : decode cc pc = .ok (.invokestatic index, 3)) (kk : ∀ (v : Int32) (w : va_W), post v w → kx E R G nL (cells + rm.cells) (slots + rm.slots) (wr ++ w) lv (pc + 3) (.int v :: rest)) : kx E R G nL cells slots ws lv pc st := by
  obtain ⟨p, e, s, m, args, below, meth, c, A, Q⟩ := G
  obtain ⟨hx, hb, hml, hown, hts, hK, hA, hN, ham, hNs, hlk⟩ := C
  intro H locs ls hP hD hS hl
  have hPc := hP.sub (ws' := wc) isC (k_fm hC)
  have hDc := hD.sub (ws' := wc) isC hnC hC
  have hFc := va_free (wc := wc) hD hS hA isC hC
  have hamH : amb (kN E) s H := amb_kept ham (fun a h1 h2 => hS.2.1 a h1 (fun z => h2 (hN a z)))
  refine vx_calli (vx_runSX (As := As) (rest := rest) (hh := hh) ⟨hx, hb, hml, hown, hts⟩ (hM H.size) (vx_cwSW n9 hts hg rfl rfl rfl hd0 hR) ⟨kPreH_blind E _ wc H.size, fun U hU hW => ⟨rfl, ⟨by rw [hU], Nat.le_trans hNs hS.1, by rw [hU]; exact amb_warm hW hamH, by rw [hU]; exact hPc, va_K.moved hW.alike hK, hDc.weaken (fun _ _ _ h => hN _ h)⟩, hHP.moved hW.alike⟩⟩ rfl hn9 hl.1 hst.symm (lv_room hroom) hd hf) hS (fun q _ h => hFc q h) hFc (fun q _ h => hFc q h) (fun n ce q9 w t H1 locs1 ht hvm hu hB hz1 hk1 hS1 hce hcv hcl9 => absurd hu id) (fun v w t H1 locs1 ht hvm hw9 hB hz1 hk1 hS1 => ?_)
  obtain ⟨hP1, hD1⟩ := hB
  rw [ht] at hP1
  obtain ⟨hP2, hD2⟩ := va_join (wr := wr) (w1 := w) hP hD isC isR hC hRr hnR hdis hk1 hFc hP1 hD1
  exact kk v w hw9 H1 locs1 ls hP2 hD2 hS1 hl
theorem kx_callI {post : va_W → Prop} (C : kc E G cc nL own) (hM : kMv E y bytes maxL rm (.ref b :: As) wc post) (hcd : Cond.code y bytes maxL none ∈ kTb) (hini : Cond.initialized y.cls ∈ kTb) (hml9 : Cond.methodLink own index y ∈ kTb) (him : Cond.instanceMethod y ∈ kTb) (hyn : y.name = "<init>") (n9 : Nat) (hn9 : As.length = n9) (hd0 : y.cls ≠ "java/lang/invoke/MethodHandle" ∧ y.cls ≠ "java/lang/invoke/VarHandle" ∧ (parseMethodDescriptor y.desc).map (fun d => d.parameters.length) = some n9) (hR : rm.frames + 1 ≤ R.frames ∧ 8 + (maxL + 11) + rm.locals ≤ R.locals) (hf : cells + rm.cells ≤ R.cells ∧ slots + rm.slots ≤ R.slots) (isC isR : List Nat) (hC : isC.map (fun i => ws[i]?) = wc.map some) (hRr : isR.map (fun i => ws[i]?) = wr.map some) (hnC : va_nd isC = true) (hnR : va_nd isR = true) (hdis : ∀ i ∈ isR, i ∉ isC) (hst : As.reverse ++ .ref b :: rest = st) (hroom : (rest.map fun v => v.category).sum ≤ 8) (hd : decode cc pc = .ok (.invokespecial index, 3)) (kk : ∀ (w : va_W), post w → kx E R G nL (cells + rm.cells) (slots + rm.slots) (wr ++ w) lv (pc + 3) (rest)) : kx E R G nL cells slots ws lv pc st := by
  obtain ⟨p, e, s, m, args, below, meth, c, A, Q⟩ := G
  obtain ⟨hx, hb, hml, hown, hts, hK, hA, hN, ham, hNs, hlk⟩ := C
  intro H locs ls hP hD hS hl
  have hPc := hP.sub (ws' := wc) isC (k_fm hC)
  have hDc := hD.sub (ws' := wc) isC hnC hC
  have hFc := va_free (wc := wc) hD hS hA isC hC
  have hamH : amb (kN E) s H := amb_kept ham (fun a h1 h2 => hS.2.1 a h1 (fun z => h2 (hN a z)))
  refine va_callv (va_runI (As := As) (rest := rest) ⟨hx, hb, hml, hown, hts⟩ (hM H.size) (cwI n9 hts (kgI hcd) rfl rfl rfl (hts _ hini) (hts _ hml9) (hts _ him) hyn hd0 hR) ⟨kPre_blind E _ wc H.size, fun U hU hW => ⟨rfl, by rw [hU], Nat.le_trans hNs hS.1, by rw [hU]; exact amb_warm hW hamH, by rw [hU]; exact hPc, va_K.moved hW.alike hK, hDc.weaken (fun _ _ _ h => hN _ h)⟩⟩ rfl hn9 hl.1 hst.symm (lv_room hroom) hd hf) hS (fun q _ h => hFc q h) hFc (fun w t H1 locs1 ht hvm hw9 hB hz1 hk1 hS1 => ?_)
  obtain ⟨hP1, hD1⟩ := hB
  rw [ht] at hP1
  obtain ⟨hP2, hD2⟩ := va_join (wr := wr) (w1 := w) hP hD isC isR hC hRr hnR hdis hk1 hFc hP1 hD1
  exact kk w hw9 H1 locs1 ls hP2 hD2 hS1 hl
/-- the law's own cell for answers -/
def kOu (E : KE) (ob : Nat) (f : Nat → Int64) : Nat × va_E := (ob, .inl (kL E, 1, .inr (.inl f)))
theorem kx_lastO (C : kc E G cc nL own) (q0 : Nat) {ob : Nat} {f : Nat → Int64} {x : Int64} (hw : ws[q0]? = some (kOu E ob f)) {ws2 : va_W} (h2 : ws.set q0 (kOu E ob (vp_updL f 0 x)) = ws2) (hd : decode cc pc = .ok (.lastore, 1)) (kk : kx E R G nL cells slots ws2 lv (pc + 1) st) : kx E R G nL cells slots ws lv pc (.long x :: .int (nI 0) :: .ref ob :: st) := by
  obtain ⟨p, e, s, m, args, below, meth, c, A, Q⟩ := G
  obtain ⟨hx, hb, hml, hown, hts, hK, hA, hN, ham, hNs, hlk⟩ := C
  intro H locs ls hP hD hS hl
  subst h2
  have z0 : (nI 0).toNatClampNeg = 0 := by decide +kernel
  refine va_last hx hb hK hP hD hS q0 1 hw rfl (vp_in_nI (by decide) (by decide)) hd (fun H1 locs1 hP1 hD1 hS1 => ?_)
  rw [z0] at hP1 hD1
  exact kk H1 locs1 ls hP1 hD1 hS1 hl
theorem kx_laldO (C : kc E G cc nL own) (q0 : Nat) {ob : Nat} {f : Nat → Int64} {x : Int64} (hw : ws[q0]? = some (kOu E ob f)) (hf : f 0 = x) (hd : decode cc pc = .ok (.laload, 1)) (kk : kx E R G nL cells slots ws lv (pc + 1) (.long x :: st)) : kx E R G nL cells slots ws lv pc (.int (nI 0) :: .ref ob :: st) := by
  obtain ⟨p, e, s, m, args, below, meth, c, A, Q⟩ := G
  obtain ⟨hx, hb, hml, hown, hts, hK, hA, hN, ham, hNs, hlk⟩ := C
  intro H locs ls hP hD hS hl
  have z0 : (nI 0).toNatClampNeg = 0 := by decide +kernel
  refine va_lald hx hb hK hP q0 1 hw rfl (vp_in_nI (by decide) (by decide)) hd ?_
  rw [z0, hf]
  exact kk H locs ls hP hD hS hl
/-- the script of the law, which nobody writes -/
def kSc (G : KG) (b L : Nat) (xs : Nat → Int32) : Prop := va_X b L xs (kGs G) (kGs G).heap ∧ b < (kGs G).heap.size ∧ ¬ kGA G b
theorem kx_sld (C : kc E G cc nL own) {b L : Nat} {xs : Nat → Int32} (hX : kSc G b L xs) (hL : L ≤ 2048) {j : Nat} {v : Int32} (hj : j < L) (hv : xs j = v) (hd : decode cc pc = .ok (.iaload, 1)) (kk : kx E R G nL cells slots ws lv (pc + 1) (.int v :: st)) : kx E R G nL cells slots ws lv pc (.int (nI j) :: .ref b :: st) := by
  obtain ⟨p, e, s, m, args, below, meth, c, A, Q⟩ := G
  obtain ⟨hx, hb, hml, hown, hts, hK, hA, hN, ham, hNs, hlk⟩ := C
  intro H locs ls hP hD hS hl
  refine va_sld hx hb hX.1 hX.2.1 hX.2.2 hS (vp_in_nI hj (by omega)) hd ?_
  rw [nI_clamp (by omega), hv]
  exact kk H locs ls hP hD hS hl
theorem kx_slen (C : kc E G cc nL own) {b L : Nat} {xs : Nat → Int32} (hX : kSc G b L xs) (hd : decode cc pc = .ok (.arraylength, 1)) (kk : kx E R G nL cells slots ws lv (pc + 1) (.int (nI L) :: st)) : kx E R G nL cells slots ws lv pc (.ref b :: st) := by
  obtain ⟨p, e, s, m, args, below, meth, c, A, Q⟩ := G
  obtain ⟨hx, hb, hml, hown, hts, hK, hA, hN, ham, hNs, hlk⟩ := C
  intro H locs ls hP hD hS hl
  exact va_slen hx hb hX.1 hX.2.1 hX.2.2 hS hd (kk H locs ls hP hD hS hl)
/-- a row of numbers may be told by another function that agrees on its places -/
theorem kx_ext (q0 : Nat) {a n : Nat} {P P2 : Nat → Nat} (hw : ws[q0]? = some (a, .inl (kI E, n, .inl (nF P)))) (h : ∀ j, j < n → P j = P2 j) {ws2 : va_W} (h2 : ws.set q0 (a, .inl (kI E, n, .inl (nF P2))) = ws2) (kk : kx E R G nL cells slots ws2 lv pc st) : kx E R G nL cells slots ws lv pc st := by
  obtain ⟨p, e, s, m, args, below, meth, c, A, Q⟩ := G
  intro H locs ls hP hD hS hl
  subst h2
  have hc : vp_cell (kI E) (n, .inl (nF P)) = vp_cell (kI E) (n, .inl (nF P2)) := by
    show arrV (kI E) n (fun j => .int (nF P j)) = arrV (kI E) n (fun j => .int (nF P2 j))
    unfold arrV
    congr 1
    refine Array.ext (by simp) (fun i h1 h3 => ?_)
    have hi : i < n := by simpa using h1
    simp [nF, h i hi]
  refine kk H locs ls ?_ (hD.set hw) hS hl
  intro k q hq
  by_cases e9 : k = q0
  · subst e9
    have hlt : k < ws.length := (List.getElem?_eq_some_iff.mp hw).1
    rw [List.getElem?_set_self hlt] at hq
    cases hq
    show H[a]? = some (vp_cell _ _)
    have h9 : H[a]? = some (vp_cell (kI E) (n, .inl (nF P))) := hP k _ hw
    rw [h9, hc]
  · rw [List.getElem?_set_ne (Ne.symm e9)] at hq
    exact hP k q hq
end KLX
