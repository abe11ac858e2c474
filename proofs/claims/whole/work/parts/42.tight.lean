/-! calls of methods that either throw or leave the heap as it is: what they might have made isn't counted when they return -/
theorem k_tight {p : Program} {l : Launch} {e : Env} {R : Room} {s : State} {m : MethodId} {args : Array Value} {below : List Frame} {meth : Method} {c : Code} {T T2 : State} {locs L : List Loc} {cells slots k n : Nat}
    (X : Stand p l e R s m args below meth c T locs cells slots) (X2 : Stand p l e R s m args below meth c T2 L k n) (h : T2.heap = T.heap) : Stand p l e R s m args below meth c T2 locs cells slots := by
  obtain ⟨q1, q2, q3, q4, q5, q6⟩ := X2.same
  obtain ⟨r1, r2, r3, r4, r5, r6⟩ := X.same
  have hh : (T2.setVm s.vm).heap = (T.setVm s.vm).heap := h
  rw [← hh] at r3 r5 r6
  exact { X2 with same := ⟨q1, q2, r3, q4, r5, r6⟩ }
def kRv (E : KE) (y : MethodName) (cc : ByteArray) (maxL : Nat) (rm : Room) (av : List Value) (wc : va_W) (pq : Prop) (px : String → Prop) : Prop := ∀ sz : Nat, vx_Met E.1 y (Cond.code y cc maxL none :: kTb) rm (va_Pc av (kPre E wc sz)) (fun _ st o t => o = .returned none ∧ t.heap = st.heap ∧ pq) (vx_X (fun _ : va_W => True) (kBX E (va_A wc sz) (fun n w => px n ∧ w = wc)) (va_A wc sz)) rm.cells rm.slots (va_A wc sz)
section KQ
variable {E : KE} {R : Room} {G : KG} {cc : ByteArray} {nL : Nat} {own : String} {cells slots : Nat} {ws : va_W} {lv : List (Nat × Value)} {pc : Nat} {st : List Value} {y : MethodName} {rm : Room} {bytes : ByteArray} {maxL index : Nat} {Cn : String} {ci : Nat} {T : u_T} {N : Nat} {b : Nat} {fs : List Value} {As rest : List Value} {wc wr : va_W}
theorem kx_callVR {pq : Prop} {px : String → Prop} (C : kc E G cc nL own) (hM : kRv E y bytes maxL rm (.ref b :: As) wc pq px) (hg : GoodIn kTb (wsV own index Cn y (Cond.code y bytes maxL none :: kTb))) (n9 : Nat) (hn9 : As.length = n9) (hd0 : y.cls = Cn ∧ y.cls ≠ "java/lang/invoke/MethodHandle" ∧ y.cls ≠ "java/lang/invoke/VarHandle" ∧ (parseMethodDescriptor y.desc).map (fun d => d.parameters.length) = some n9) (hR : rm.frames + 1 ≤ R.frames ∧ 8 + (maxL + 11) + rm.locals ≤ R.locals) (hf : cells + rm.cells ≤ R.cells ∧ slots + rm.slots ≤ R.slots) (isC isR : List Nat) (hC : isC.map (fun i => ws[i]?) = wc.map some) (hRr : isR.map (fun i => ws[i]?) = wr.map some) (hnC : va_nd isC = true) (hnR : va_nd isR = true) (hdis : ∀ i ∈ isR, i ∉ isC) (q0 : Nat) (hcl : kCl[ci]? = some (Cn, T, N)) (he : wc[q0]? = some (b, .inr (ci, fs))) (hst : As.reverse ++ .ref b :: rest = st) (hroom : (rest.map fun v => v.category).sum ≤ 8) (hd : decode cc pc = .ok (.invokevirtual index, 3)) (kx9 : ∀ n : String, px n → kxx E R G nL (cells + rm.cells) (slots + rm.slots) (wr ++ wc) n lv pc rest) (kk : pq → kx E R G nL cells slots ws lv (pc + 3) rest) : kx E R G nL cells slots ws lv pc st := by
  obtain ⟨p, e, s, m, args, below, meth, c, A, Q⟩ := G
  obtain ⟨hx, hb, hml, hown, hts, hK, hA, hN, ham, hNs, hlk⟩ := C
  intro H locs ls hP hD hS hl
  have hPc := hP.sub (ws' := wc) isC (k_fm hC)
  have hDc := hD.sub (ws' := wc) isC hnC hC
  have hFc := va_free (wc := wc) hD hS hA isC hC
  have hamH : amb (kN E) s H := amb_kept ham (fun a h1 h2 => hS.2.1 a h1 (fun z => h2 (hN a z)))
  have hr := vx_runV (e := e) (g := F0 m pc ls st) (below := below) (meth := meth) (locs := locs) (As := As) (rest := rest) ⟨hx, hb, hml, hown, hts⟩ (hM H.size) (cwV n9 hts hg rfl rfl rfl hd0 hR) ⟨kPre_blind E _ wc H.size, va_recv hK hPc hcl he, fun U hU hW => ⟨rfl, by rw [hU], Nat.le_trans hNs hS.1, by rw [hU]; exact amb_warm hW hamH, by rw [hU]; exact hPc, va_K.moved hW.alike hK, hDc.weaken (fun _ _ _ h => hN _ h)⟩⟩ rfl hn9 hl.1 hst.symm (lv_room hroom) hd hf
  intro T0 hT X
  rcases hr T0 hT X with ⟨v, st₀, t, T', L, h0, X', hL, e1, e2, ⟨hv, hh, hp⟩, sg⟩ | ⟨q, st₀, t, T', L, n, ce, h0, X', hL, e1, e2, ⟨w, -, ⟨⟨hpx, hwc⟩, hP1, hD1⟩, hF⟩, hce, hcv, hcl, sg⟩
  · cases hv
    have hTT : T'.heap = T0.heap := by rw [e1, hh, h0, hT]
    obtain ⟨t2, a1, b1⟩ := kk hp H locs ls hP hD hS hl T' (by rw [hTT, hT]) (k_tight X X' hTT)
    exact ⟨t2, sg t2 a1, b1⟩
  · subst hwc
    obtain ⟨k1, k2, k3⟩ := vx_keep h0 e1 hS (fun q _ h => hFc q h) hFc hL hF
    rw [← e1] at hP1
    obtain ⟨hP2, hD2⟩ := va_join (wr := wr) (w1 := w) hP hD isC isR hC hRr hnR hdis k2 hFc hP1 hD1
    obtain ⟨t2, a1, b1⟩ := kx9 n hpx T'.heap (locs ++ L) ls q ce hP2 hD2 k3 hl (by rw [e1]; exact hce) hcv hcl T' rfl X'
    exact ⟨t2, sg.trans a1, b1⟩
theorem kx_callSR {pq : Prop} {px : String → Prop} (C : kc E G cc nL own) (hM : kRv E y bytes maxL rm As wc pq px) (hg : GoodIn kTb (va_wsS own index y (Cond.code y bytes maxL none :: kTb))) (n9 : Nat) (hn9 : As.length = n9) (hd0 : y.cls ≠ "java/lang/invoke/MethodHandle" ∧ y.cls ≠ "java/lang/invoke/VarHandle" ∧ (parseMethodDescriptor y.desc).map (fun d => d.parameters.length) = some n9) (hR : rm.frames + 1 ≤ R.frames ∧ 8 + (maxL + 11) + rm.locals ≤ R.locals) (hf : cells + rm.cells ≤ R.cells ∧ slots + rm.slots ≤ R.slots) (isC isR : List Nat) (hC : isC.map (fun i => ws[i]?) = wc.map some) (hRr : isR.map (fun i => ws[i]?) = wr.map some) (hnC : va_nd isC = true) (hnR : va_nd isR = true) (hdis : ∀ i ∈ isR, i ∉ isC) (hst : As.reverse ++ rest = st) (hroom : (rest.map fun v => v.category).sum ≤ 8) (hd : decode cc pc = .ok (.invokestatic index, 3)) (kx9 : ∀ n : String, px n → kxx E R G nL (cells + rm.cells) (slots + rm.slots) (wr ++ wc) n lv pc rest) (kk : pq → kx E R G nL cells slots ws lv (pc + 3) rest) : kx E R G nL cells slots ws lv pc st := by
  obtain ⟨p, e, s, m, args, below, meth, c, A, Q⟩ := G
  obtain ⟨hx, hb, hml, hown, hts, hK, hA, hN, ham, hNs, hlk⟩ := C
  intro H locs ls hP hD hS hl
  have hPc := hP.sub (ws' := wc) isC (k_fm hC)
  have hDc := hD.sub (ws' := wc) isC hnC hC
  have hFc := va_free (wc := wc) hD hS hA isC hC
  have hamH : amb (kN E) s H := amb_kept ham (fun a h1 h2 => hS.2.1 a h1 (fun z => h2 (hN a z)))
  have hr := vx_runS (e := e) (g := F0 m pc ls st) (below := below) (meth := meth) (locs := locs) (As := As) (rest := rest) ⟨hx, hb, hml, hown, hts⟩ (hM H.size) (va_cwS n9 hts hg rfl rfl rfl hd0 hR) ⟨kPre_blind E _ wc H.size, fun U hU hW => ⟨rfl, by rw [hU], Nat.le_trans hNs hS.1, by rw [hU]; exact amb_warm hW hamH, by rw [hU]; exact hPc, va_K.moved hW.alike hK, hDc.weaken (fun _ _ _ h => hN _ h)⟩⟩ rfl hn9 hl.1 hst.symm (lv_room hroom) hd hf
  intro T0 hT X
  rcases hr T0 hT X with ⟨v, st₀, t, T', L, h0, X', hL, e1, e2, ⟨hv, hh, hp⟩, sg⟩ | ⟨q, st₀, t, T', L, n, ce, h0, X', hL, e1, e2, ⟨w, -, ⟨⟨hpx, hwc⟩, hP1, hD1⟩, hF⟩, hce, hcv, hcl, sg⟩
  · cases hv
    have hTT : T'.heap = T0.heap := by rw [e1, hh, h0, hT]
    obtain ⟨t2, a1, b1⟩ := kk hp H locs ls hP hD hS hl T' (by rw [hTT, hT]) (k_tight X X' hTT)
    exact ⟨t2, sg t2 a1, b1⟩
  · subst hwc
    obtain ⟨k1, k2, k3⟩ := vx_keep h0 e1 hS (fun q _ h => hFc q h) hFc hL hF
    rw [← e1] at hP1
    obtain ⟨hP2, hD2⟩ := va_join (wr := wr) (w1 := w) hP hD isC isR hC hRr hnR hdis k2 hFc hP1 hD1
    obtain ⟨t2, a1, b1⟩ := kx9 n hpx T'.heap (locs ++ L) ls q ce hP2 hD2 k3 hl (by rw [e1]; exact hce) hcv hcl T' rfl X'
    exact ⟨t2, sg.trans a1, b1⟩
end KQ
/-- entry of such a method: it walks in the heap of its start, writing nothing; the body is given at the machine's own level -/
theorem kRv_of {E : KE} {y : MethodName} {rm : Room} {av : List Value} {wc : va_W} {pq : Prop} {px : String → Prop} {cc : ByteArray} {maxL : Nat} (hy : plainName y.cls = true) (hal : (lg_sl av).length ≤ maxL)
    (body : ∀ (p : Program) (e : Env) (s : State) (m : MethodId) (below : List Frame) (meth : Method) (c : Code) (Q : State → Prop), p.tables.exec = Jvm.exec → c.code = cc → c.maxLocals = maxL → s.vm.findClass y.cls = some m.cls → (∀ w ∈ kTb, w.before av.toArray s = true) → va_K E.2.1 kCl (kT E) s → kN E ≤ s.heap.size → amb (kN E) s s.heap → va_P E.2.1 kCl wc s.heap → va_D (fun q : Nat => kN E ≤ q) wc →
      (∀ {pc : Nat} {ls : Array Slot}, decode cc pc = .ok (.return_, 1) → pq → W p E.1 e rm s m av.toArray below meth c s.heap [] 0 0 Q (F0 m pc ls [])) →
      (∀ {pc : Nat} {ls : Array Slot} {st : List Value} {cls text : String} {names : List String} {ik is ic : Nat}, kThr E rm cc y.cls cls text names ik is ic pc st → ls.size = maxL → 1 ≤ rm.cells → 6 ≤ rm.slots → px cls → W p E.1 e rm s m av.toArray below meth c s.heap [] 0 0 Q (F0 m pc ls st)) →
      (∀ {H : Heap} {locs : List Loc} {cells slots pc : Nat} {ls : Array Slot} {st : List Value} {n : String} {q : Addr} {ce : Cell}, va_P E.2.1 kCl wc H → va_S (va_A wc s.heap.size) s.heap H locs → H[q]? = some ce → ce.vm = .none → s.vm.findClass n = some ce.cls → cells ≤ rm.cells → slots ≤ rm.slots → px n → vx_W p E.1 e rm s m av.toArray below meth c H locs cells slots Q (F0 m pc ls st) q) →
      ∀ ls : Array Slot, lv_has ls maxL (lv_args 0 av) → W p E.1 e rm s m av.toArray below meth c s.heap [] 0 0 Q (F0 m 0 ls [])) : kRv E y cc maxL rm av wc pq px := by
  intro sz
  refine vx_ofW (cc := cc) (maxL := maxL) (ret := none) hy rfl ?_
  intro p e s m args below meth c s₁ B hml htb hv
  obtain ⟨rfl, hsz, hNs, ham, hP, hK, hD0⟩ := hv
  subst hsz
  have hts0 := atoms_spec (ws := Cond.code y cc maxL none :: kTb) B.pre
  have hts : ∀ w ∈ kTb, w.before av.toArray s = true := fun w h => hts0 w (List.mem_cons_of_mem _ h)
  have hown : s.vm.findClass y.cls = some m.cls := findClass_of_methodNamed B.named
  have hl := lv_entry av (n := maxL) hal
  rw [lg_entry_eq]
  have hD := hD0.self (sz := s.heap.size)
  have hN : ∀ q : Nat, va_A wc s.heap.size q → kN E ≤ q := by
    intro q hq
    rcases hq with ⟨k, e9, h⟩ | h
    · exact hD0.2 k _ h
    · exact Nat.le_trans hNs h
  have hS : va_S (va_A wc s.heap.size) s.heap s.heap [] := va_S.rf
  refine body p e s m below meth c _ B.exec B.bytes hml hown hts hK hNs ham hP hD0 ?_ ?_ ?_ _ hl
  · intro pc ls hd hp
    refine vx_ret ?_
    refine W.widen (k := rm.cells) (n := rm.slots) (Nat.zero_le _) (Nat.zero_le _) ?_
    exact W.vret B.exec B.bytes B.returns (fun t ht hW => ⟨rfl, ht, hp⟩) (fun q h => by cases h) hd B.notSynchronized
  · intro pc ls st cls text names ik is ic hthr hsl hc hs hpx
    obtain ⟨h1, h2, h3, h4, h5, h6, h7, h8, d0, d3, d4, d6, d9, r1, r2, ho⟩ := hthr
    obtain ⟨sa, hsa⟩ := amb_str ham h6
    exact vx_throwS B.exec B.bytes h1 hown h2 h3 (hts _ h4) (hts _ h5) (by rw [ho]; exact hsa) (fun w9 h9 => (h7 w9 h9).elim (fun z => hts _ z) (fun z => amb_fa ham z)) h8 (amb_U (fun q h => hN q h) ham) (amb_S (fun q h => hN q h) ham) hS (hsl.trans hml.symm) d0 d3 d4 d6 d9 (fun x hx => (htb x hx).elim) r1 r2 (by rw [Nat.zero_add]; exact hc) (by rw [Nat.zero_add]; exact hs) B.notSynchronized
      (fun t ha hz hk => ⟨wc, trivial, ⟨⟨hpx, rfl⟩, va_P.kept hP (fun k q hq => hk q.1 ((hP k q hq).lt)), hD⟩, ⟨hz, fun q h1 h2 => hk q h1⟩⟩) (fun z h => by cases h) (by rw [Nat.zero_add]; exact hc) (by rw [Nat.zero_add]; exact hs)
  · intro H locs cells slots pc ls st n q ce hPH hSH hce hcv hcl hc hs hpx
    exact vx_out (fun x hx => (htb x hx).elim) B.notSynchronized hce hcv hcl (fun t ht ha => ⟨wc, trivial, ⟨⟨hpx, rfl⟩, by rw [ht]; exact hPH, hD⟩, hSH.F ht⟩) hSH.2.2 hc hs
/-- a call of such a method, from one that walks in the heap of its own start -/
theorem kw_callSR {E : KE} {R : Room} {p : Program} {e : Env} {s : State} {m : MethodId} {args : Array Value} {below : List Frame} {meth : Method} {c : Code} {Q : State → Prop} {cc : ByteArray} {nL : Nat} {own : String} {pc : Nat} {ls : Array Slot} {st : List Value} {y : MethodName} {rm : Room} {bytes : ByteArray} {maxL index : Nat} {As rest : List Value} {wc : va_W} {pq : Prop} {px : String → Prop}
    (hx : p.tables.exec = Jvm.exec) (hb : c.code = cc) (hml : c.maxLocals = nL) (hown : s.vm.findClass own = some m.cls) (hts : ∀ w ∈ kTb, w.before args s = true) (hK : va_K E.2.1 kCl (kT E) s) (hNs : kN E ≤ s.heap.size) (ham : amb (kN E) s s.heap) (hP : va_P E.2.1 kCl wc s.heap)
    (hM : kRv E y bytes maxL rm As [] pq px) (hg : GoodIn kTb (va_wsS own index y (Cond.code y bytes maxL none :: kTb))) (n9 : Nat) (hn9 : As.length = n9) (hd0 : y.cls ≠ "java/lang/invoke/MethodHandle" ∧ y.cls ≠ "java/lang/invoke/VarHandle" ∧ (parseMethodDescriptor y.desc).map (fun d => d.parameters.length) = some n9) (hR : rm.frames + 1 ≤ R.frames ∧ 8 + (maxL + 11) + rm.locals ≤ R.locals) (hf : 0 + rm.cells ≤ R.cells ∧ 0 + rm.slots ≤ R.slots) (hsz : ls.size = nL) (hst : As.reverse ++ rest = st) (hroom : (rest.map fun v => v.category).sum ≤ 8) (hd : decode cc pc = .ok (.invokestatic index, 3))
    (kx9 : ∀ (n : String) (H : Heap) (locs : List Loc) (q : Addr) (ce : Cell), px n → va_P E.2.1 kCl wc H → va_S (va_A wc s.heap.size) s.heap H locs → H[q]? = some ce → ce.vm = .none → s.vm.findClass n = some ce.cls → vx_W p E.1 e R s m args below meth c H locs (0 + rm.cells) (0 + rm.slots) Q (F0 m pc ls rest) q)
    (kk : pq → W p E.1 e R s m args below meth c s.heap [] 0 0 Q (F0 m (pc + 3) ls rest)) : W p E.1 e R s m args below meth c s.heap [] 0 0 Q (F0 m pc ls st) := by
  have hr := vx_runS (e := e) (g := F0 m pc ls st) (below := below) (meth := meth) (H := s.heap) (locs := []) (cells := 0) (slots := 0) (As := As) (rest := rest) ⟨hx, hb, hml, hown, hts⟩ (hM s.heap.size) (va_cwS n9 hts hg rfl rfl rfl hd0 hR) ⟨kPre_blind E _ [] s.heap.size, fun U hU hW => ⟨rfl, by rw [hU], hNs, by rw [hU]; exact amb_warm hW ham, fun k q h => by simp at h, va_K.moved hW.alike hK, ⟨fun i j p q h => by simp at h, fun k q h => by simp at h⟩⟩⟩ rfl hn9 hsz hst.symm (lv_room hroom) hd hf
  intro T0 hT X
  rcases hr T0 hT X with ⟨v, st₀, t, T', L, h0, X', hL, e1, e2, ⟨hv, hh, hp⟩, sg⟩ | ⟨q, st₀, t, T', L, n, ce, h0, X', hL, e1, e2, ⟨w, -, ⟨⟨hpx, hwc⟩, hP1, hD1⟩, hF⟩, hce, hcv, hcl, sg⟩
  · cases hv
    have hTT : T'.heap = T0.heap := by rw [e1, hh, h0, hT]
    obtain ⟨t2, a1, b1⟩ := kk hp T' (by rw [hTT, hT]) (k_tight X X' hTT)
    exact ⟨t2, sg t2 a1, b1⟩
  · have hS0 : va_S (va_A wc s.heap.size) s.heap s.heap [] := va_S.rf
    have hsub : ∀ q, va_A ([] : va_W) s.heap.size q → va_A wc s.heap.size q := fun q h => by
      rcases h with ⟨k, e9, h⟩ | h
      · simp at h
      · exact Or.inr h
    obtain ⟨k1, k2, k3⟩ := vx_keep h0 e1 hS0 (fun q _ h => hsub q h) hsub hL hF
    have hP2 : va_P E.2.1 kCl wc T'.heap := hP.kept (fun k q hq => k2 q.1 ((hP k q hq).lt) (fun z => by
      rcases z with ⟨k9, e9, z⟩ | z
      · simp at z
      · exact absurd z (Nat.not_le.mpr ((hP k q hq).lt))))
    obtain ⟨t2, a1, b1⟩ := kx9 n T'.heap ([] ++ L) q ce hpx hP2 k3 (by rw [e1]; exact hce) hcv hcl T' rfl X'
    exact ⟨t2, sg.trans a1, b1⟩
