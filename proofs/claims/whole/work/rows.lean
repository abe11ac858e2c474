section
-- ===== PART A: goes FIRST, ahead of the names: the tables' words, and 'selects' of the private methods out of them =====
/-- a private method of a class that the tables say can be made, by its rows of tables_1 -/
def lw_okq (q : MethodName × Nat) : Prop := (q.1.cls ≠ "java/lang/invoke/MethodHandle" ∧ q.1.cls ≠ "java/lang/invoke/VarHandle") ∧ Cond.instantiable q.1.cls q.2 ∈ tables_1 ∧ Cond.privateMethod q.1 ∈ tables_1 ∧ Cond.instanceMethod q.1 ∈ tables_1
theorem lw_p0 : lw_okq (⟨"KeyWalks", "setFirst", "()V"⟩, 17) := ⟨⟨by decide +kernel, by decide +kernel⟩, List.mem_of_getElem? (i := 12) (by decide +kernel), List.mem_of_getElem? (i := 20) (by decide +kernel), List.mem_of_getElem? (i := 21) (by decide +kernel)⟩
theorem lw_p1 : lw_okq (⟨"KeyWalks", "forget", "()V"⟩, 17) := ⟨⟨by decide +kernel, by decide +kernel⟩, List.mem_of_getElem? (i := 12) (by decide +kernel), List.mem_of_getElem? (i := 29) (by decide +kernel), List.mem_of_getElem? (i := 30) (by decide +kernel)⟩
theorem lw_p2 : lw_okq (⟨"KeyWalks", "knowTails", "()V"⟩, 17) := ⟨⟨by decide +kernel, by decide +kernel⟩, List.mem_of_getElem? (i := 12) (by decide +kernel), List.mem_of_getElem? (i := 95) (by decide +kernel), List.mem_of_getElem? (i := 96) (by decide +kernel)⟩
theorem lw_p3 : lw_okq (⟨"KeyWalks", "fillTurns", "()V"⟩, 17) := ⟨⟨by decide +kernel, by decide +kernel⟩, List.mem_of_getElem? (i := 12) (by decide +kernel), List.mem_of_getElem? (i := 99) (by decide +kernel), List.mem_of_getElem? (i := 100) (by decide +kernel)⟩
theorem lw_p4 : lw_okq (⟨"KeyWalks", "turnBetween", "(II)I"⟩, 17) := ⟨⟨by decide +kernel, by decide +kernel⟩, List.mem_of_getElem? (i := 12) (by decide +kernel), List.mem_of_getElem? (i := 103) (by decide +kernel), List.mem_of_getElem? (i := 104) (by decide +kernel)⟩
theorem lw_p5 : lw_okq (⟨"KeyWalks", "fillSliceCosts", "(I)V"⟩, 17) := ⟨⟨by decide +kernel, by decide +kernel⟩, List.mem_of_getElem? (i := 12) (by decide +kernel), List.mem_of_getElem? (i := 122) (by decide +kernel), List.mem_of_getElem? (i := 123) (by decide +kernel)⟩
theorem lw_p6 : lw_okq (⟨"KeyWalks", "fitIn", "(II)I"⟩, 17) := ⟨⟨by decide +kernel, by decide +kernel⟩, List.mem_of_getElem? (i := 12) (by decide +kernel), List.mem_of_getElem? (i := 126) (by decide +kernel), List.mem_of_getElem? (i := 127) (by decide +kernel)⟩
theorem lw_p7 : lw_okq (⟨"KeyWalks", "numberOf", "(II)I"⟩, 17) := ⟨⟨by decide +kernel, by decide +kernel⟩, List.mem_of_getElem? (i := 12) (by decide +kernel), List.mem_of_getElem? (i := 130) (by decide +kernel), List.mem_of_getElem? (i := 131) (by decide +kernel)⟩
theorem lw_p8 : lw_okq (⟨"KeyWalks", "fillTail", "(II)V"⟩, 17) := ⟨⟨by decide +kernel, by decide +kernel⟩, List.mem_of_getElem? (i := 12) (by decide +kernel), List.mem_of_getElem? (i := 137) (by decide +kernel), List.mem_of_getElem? (i := 138) (by decide +kernel)⟩
theorem lw_p9 : lw_okq (⟨"KeyWalks", "fillLeast", "()V"⟩, 17) := ⟨⟨by decide +kernel, by decide +kernel⟩, List.mem_of_getElem? (i := 12) (by decide +kernel), List.mem_of_getElem? (i := 149) (by decide +kernel), List.mem_of_getElem? (i := 150) (by decide +kernel)⟩
theorem lw_p10 : lw_okq (⟨"KeyWalks", "followBest", "(JI[I)I"⟩, 17) := ⟨⟨by decide +kernel, by decide +kernel⟩, List.mem_of_getElem? (i := 12) (by decide +kernel), List.mem_of_getElem? (i := 153) (by decide +kernel), List.mem_of_getElem? (i := 154) (by decide +kernel)⟩
theorem lw_p11 : lw_okq (⟨"KeyWalks", "restAfter", "(II)I"⟩, 17) := ⟨⟨by decide +kernel, by decide +kernel⟩, List.mem_of_getElem? (i := 12) (by decide +kernel), List.mem_of_getElem? (i := 157) (by decide +kernel), List.mem_of_getElem? (i := 158) (by decide +kernel)⟩
theorem lw_p12 : lw_okq (⟨"KeyWalks", "turnInto", "(II)I"⟩, 17) := ⟨⟨by decide +kernel, by decide +kernel⟩, List.mem_of_getElem? (i := 12) (by decide +kernel), List.mem_of_getElem? (i := 161) (by decide +kernel), List.mem_of_getElem? (i := 162) (by decide +kernel)⟩
theorem lw_p13 : lw_okq (⟨"java/lang/Throwable", "fillInStackTrace", "(I)Ljava/lang/Throwable;"⟩, 6) := ⟨⟨by decide +kernel, by decide +kernel⟩, List.mem_of_getElem? (i := 218) (by decide +kernel), List.mem_of_getElem? (i := 216) (by decide +kernel), List.mem_of_getElem? (i := 217) (by decide +kernel)⟩
theorem lw_p14 : lw_okq (⟨"KeyWalks", "requireSlice", "(I)V"⟩, 17) := ⟨⟨by decide +kernel, by decide +kernel⟩, List.mem_of_getElem? (i := 12) (by decide +kernel), List.mem_of_getElem? (i := 286) (by decide +kernel), List.mem_of_getElem? (i := 287) (by decide +kernel)⟩
theorem lw_p15 : lw_okq (⟨"KeyWalks", "greatestFit", "(I)I"⟩, 17) := ⟨⟨by decide +kernel, by decide +kernel⟩, List.mem_of_getElem? (i := 12) (by decide +kernel), List.mem_of_getElem? (i := 316) (by decide +kernel), List.mem_of_getElem? (i := 317) (by decide +kernel)⟩
def lw_privs_1 : List (MethodName × Nat) := [(⟨"KeyWalks", "setFirst", "()V"⟩, 17), (⟨"KeyWalks", "forget", "()V"⟩, 17), (⟨"KeyWalks", "knowTails", "()V"⟩, 17), (⟨"KeyWalks", "fillTurns", "()V"⟩, 17), (⟨"KeyWalks", "turnBetween", "(II)I"⟩, 17), (⟨"KeyWalks", "fillSliceCosts", "(I)V"⟩, 17), (⟨"KeyWalks", "fitIn", "(II)I"⟩, 17), (⟨"KeyWalks", "numberOf", "(II)I"⟩, 17), (⟨"KeyWalks", "fillTail", "(II)V"⟩, 17), (⟨"KeyWalks", "fillLeast", "()V"⟩, 17), (⟨"KeyWalks", "followBest", "(JI[I)I"⟩, 17), (⟨"KeyWalks", "restAfter", "(II)I"⟩, 17), (⟨"KeyWalks", "turnInto", "(II)I"⟩, 17), (⟨"java/lang/Throwable", "fillInStackTrace", "(I)Ljava/lang/Throwable;"⟩, 6), (⟨"KeyWalks", "requireSlice", "(I)V"⟩, 17), (⟨"KeyWalks", "greatestFit", "(I)I"⟩, 17)]
theorem lw_r1 : ∀ q ∈ lw_privs_1, lw_okq q := List.forall_mem_cons.mpr ⟨lw_p0, List.forall_mem_cons.mpr ⟨lw_p1, List.forall_mem_cons.mpr ⟨lw_p2, List.forall_mem_cons.mpr ⟨lw_p3, List.forall_mem_cons.mpr ⟨lw_p4, List.forall_mem_cons.mpr ⟨lw_p5, List.forall_mem_cons.mpr ⟨lw_p6, List.forall_mem_cons.mpr ⟨lw_p7, List.forall_mem_cons.mpr ⟨lw_p8, List.forall_mem_cons.mpr ⟨lw_p9, List.forall_mem_cons.mpr ⟨lw_p10, List.forall_mem_cons.mpr ⟨lw_p11, List.forall_mem_cons.mpr ⟨lw_p12, List.forall_mem_cons.mpr ⟨lw_p13, List.forall_mem_cons.mpr ⟨lw_p14, List.forall_mem_cons.mpr ⟨lw_p15, fun _ h => absurd h List.not_mem_nil⟩⟩⟩⟩⟩⟩⟩⟩⟩⟩⟩⟩⟩⟩⟩⟩
theorem lw_p16 : lw_okq (⟨"KeyWalks", "knowHeads", "()V"⟩, 17) := ⟨⟨by decide +kernel, by decide +kernel⟩, List.mem_of_getElem? (i := 12) (by decide +kernel), List.mem_of_getElem? (i := 349) (by decide +kernel), List.mem_of_getElem? (i := 350) (by decide +kernel)⟩
theorem lw_p17 : lw_okq (⟨"KeyWalks", "leastInto", "(II)I"⟩, 17) := ⟨⟨by decide +kernel, by decide +kernel⟩, List.mem_of_getElem? (i := 12) (by decide +kernel), List.mem_of_getElem? (i := 353) (by decide +kernel), List.mem_of_getElem? (i := 354) (by decide +kernel)⟩
theorem lw_p18 : lw_okq (⟨"KeyWalks", "leastThrough", "(II)I"⟩, 17) := ⟨⟨by decide +kernel, by decide +kernel⟩, List.mem_of_getElem? (i := 12) (by decide +kernel), List.mem_of_getElem? (i := 357) (by decide +kernel), List.mem_of_getElem? (i := 358) (by decide +kernel)⟩
theorem lw_p19 : lw_okq (⟨"KeyWalks", "nextCost", "(I)I"⟩, 17) := ⟨⟨by decide +kernel, by decide +kernel⟩, List.mem_of_getElem? (i := 12) (by decide +kernel), List.mem_of_getElem? (i := 377) (by decide +kernel), List.mem_of_getElem? (i := 378) (by decide +kernel)⟩
theorem lw_p20 : lw_okq (⟨"KeyWalks", "changesAt", "(I)Z"⟩, 17) := ⟨⟨by decide +kernel, by decide +kernel⟩, List.mem_of_getElem? (i := 12) (by decide +kernel), List.mem_of_getElem? (i := 405) (by decide +kernel), List.mem_of_getElem? (i := 406) (by decide +kernel)⟩
theorem lw_p21 : lw_okq (⟨"KeyWalks", "fitTogether", "(III)I"⟩, 17) := ⟨⟨by decide +kernel, by decide +kernel⟩, List.mem_of_getElem? (i := 12) (by decide +kernel), List.mem_of_getElem? (i := 424) (by decide +kernel), List.mem_of_getElem? (i := 425) (by decide +kernel)⟩
theorem lw_p22 : lw_okq (⟨"KeyWalks", "changesOfFirst", "()I"⟩, 17) := ⟨⟨by decide +kernel, by decide +kernel⟩, List.mem_of_getElem? (i := 12) (by decide +kernel), List.mem_of_getElem? (i := 435) (by decide +kernel), List.mem_of_getElem? (i := 436) (by decide +kernel)⟩
theorem lw_p23 : lw_okq (⟨"KeyWalksModel", "begin", "()V"⟩, 12) := ⟨⟨by decide +kernel, by decide +kernel⟩, List.mem_of_getElem? (i := 440) (by decide +kernel), List.mem_of_getElem? (i := 446) (by decide +kernel), List.mem_of_getElem? (i := 447) (by decide +kernel)⟩
theorem lw_p24 : lw_okq (⟨"KeyWalksModel", "isGood", "(I)Z"⟩, 12) := ⟨⟨by decide +kernel, by decide +kernel⟩, List.mem_of_getElem? (i := 440) (by decide +kernel), List.mem_of_getElem? (i := 504) (by decide +kernel), List.mem_of_getElem? (i := 505) (by decide +kernel)⟩
theorem lw_p25 : lw_okq (⟨"KeyWalksModel", "isSlice", "(I)Z"⟩, 12) := ⟨⟨by decide +kernel, by decide +kernel⟩, List.mem_of_getElem? (i := 440) (by decide +kernel), List.mem_of_getElem? (i := 521) (by decide +kernel), List.mem_of_getElem? (i := 522) (by decide +kernel)⟩
theorem lw_p26 : lw_okq (⟨"KeyWalksModel", "fitOf", "(II)I"⟩, 12) := ⟨⟨by decide +kernel, by decide +kernel⟩, List.mem_of_getElem? (i := 440) (by decide +kernel), List.mem_of_getElem? (i := 538) (by decide +kernel), List.mem_of_getElem? (i := 539) (by decide +kernel)⟩
theorem lw_p27 : lw_okq (⟨"KeyWalksModel", "numberOf", "(II)I"⟩, 12) := ⟨⟨by decide +kernel, by decide +kernel⟩, List.mem_of_getElem? (i := 440) (by decide +kernel), List.mem_of_getElem? (i := 542) (by decide +kernel), List.mem_of_getElem? (i := 543) (by decide +kernel)⟩
theorem lw_p28 : lw_okq (⟨"KeyWalksModel", "costOf", "(II)I"⟩, 12) := ⟨⟨by decide +kernel, by decide +kernel⟩, List.mem_of_getElem? (i := 440) (by decide +kernel), List.mem_of_getElem? (i := 550) (by decide +kernel), List.mem_of_getElem? (i := 551) (by decide +kernel)⟩
theorem lw_p29 : lw_okq (⟨"KeyWalksModel", "turnOf", "(II)I"⟩, 12) := ⟨⟨by decide +kernel, by decide +kernel⟩, List.mem_of_getElem? (i := 440) (by decide +kernel), List.mem_of_getElem? (i := 558) (by decide +kernel), List.mem_of_getElem? (i := 559) (by decide +kernel)⟩
theorem lw_p30 : lw_okq (⟨"KeyWalksModel", "lay", "()V"⟩, 12) := ⟨⟨by decide +kernel, by decide +kernel⟩, List.mem_of_getElem? (i := 440) (by decide +kernel), List.mem_of_getElem? (i := 569) (by decide +kernel), List.mem_of_getElem? (i := 570) (by decide +kernel)⟩
theorem lw_p31 : lw_okq (⟨"KeyWalksModel", "weigh", "(II)I"⟩, 12) := ⟨⟨by decide +kernel, by decide +kernel⟩, List.mem_of_getElem? (i := 440) (by decide +kernel), List.mem_of_getElem? (i := 573) (by decide +kernel), List.mem_of_getElem? (i := 574) (by decide +kernel)⟩
def lw_privs_2 : List (MethodName × Nat) := [(⟨"KeyWalks", "knowHeads", "()V"⟩, 17), (⟨"KeyWalks", "leastInto", "(II)I"⟩, 17), (⟨"KeyWalks", "leastThrough", "(II)I"⟩, 17), (⟨"KeyWalks", "nextCost", "(I)I"⟩, 17), (⟨"KeyWalks", "changesAt", "(I)Z"⟩, 17), (⟨"KeyWalks", "fitTogether", "(III)I"⟩, 17), (⟨"KeyWalks", "changesOfFirst", "()I"⟩, 17), (⟨"KeyWalksModel", "begin", "()V"⟩, 12), (⟨"KeyWalksModel", "isGood", "(I)Z"⟩, 12), (⟨"KeyWalksModel", "isSlice", "(I)Z"⟩, 12), (⟨"KeyWalksModel", "fitOf", "(II)I"⟩, 12), (⟨"KeyWalksModel", "numberOf", "(II)I"⟩, 12), (⟨"KeyWalksModel", "costOf", "(II)I"⟩, 12), (⟨"KeyWalksModel", "turnOf", "(II)I"⟩, 12), (⟨"KeyWalksModel", "lay", "()V"⟩, 12), (⟨"KeyWalksModel", "weigh", "(II)I"⟩, 12)]
theorem lw_r2 : ∀ q ∈ lw_privs_2, lw_okq q := List.forall_mem_cons.mpr ⟨lw_p16, List.forall_mem_cons.mpr ⟨lw_p17, List.forall_mem_cons.mpr ⟨lw_p18, List.forall_mem_cons.mpr ⟨lw_p19, List.forall_mem_cons.mpr ⟨lw_p20, List.forall_mem_cons.mpr ⟨lw_p21, List.forall_mem_cons.mpr ⟨lw_p22, List.forall_mem_cons.mpr ⟨lw_p23, List.forall_mem_cons.mpr ⟨lw_p24, List.forall_mem_cons.mpr ⟨lw_p25, List.forall_mem_cons.mpr ⟨lw_p26, List.forall_mem_cons.mpr ⟨lw_p27, List.forall_mem_cons.mpr ⟨lw_p28, List.forall_mem_cons.mpr ⟨lw_p29, List.forall_mem_cons.mpr ⟨lw_p30, List.forall_mem_cons.mpr ⟨lw_p31, fun _ h => absurd h List.not_mem_nil⟩⟩⟩⟩⟩⟩⟩⟩⟩⟩⟩⟩⟩⟩⟩⟩
theorem lw_p32 : lw_okq (⟨"KeyWalksModel", "walkBehind", "(J)Z"⟩, 12) := ⟨⟨by decide +kernel, by decide +kernel⟩, List.mem_of_getElem? (i := 440) (by decide +kernel), List.mem_of_getElem? (i := 587) (by decide +kernel), List.mem_of_getElem? (i := 588) (by decide +kernel)⟩
theorem lw_p33 : lw_okq (⟨"KeyWalksModel", "changeAt", "(I)I"⟩, 12) := ⟨⟨by decide +kernel, by decide +kernel⟩, List.mem_of_getElem? (i := 440) (by decide +kernel), List.mem_of_getElem? (i := 614) (by decide +kernel), List.mem_of_getElem? (i := 615) (by decide +kernel)⟩
def lw_privs_3 : List (MethodName × Nat) := [(⟨"KeyWalksModel", "walkBehind", "(J)Z"⟩, 12), (⟨"KeyWalksModel", "changeAt", "(I)I"⟩, 12)]
theorem lw_r3 : ∀ q ∈ lw_privs_3, lw_okq q := List.forall_mem_cons.mpr ⟨lw_p32, List.forall_mem_cons.mpr ⟨lw_p33, fun _ h => absurd h List.not_mem_nil⟩⟩
def lw_privs : List (MethodName × Nat) := lw_privs_1 ++ (lw_privs_2 ++ (lw_privs_3))
def lw_tbl : List Cond := k2_sels lw_privs ++ tables_1
theorem lw_privs_ok : ∀ q ∈ lw_privs, lw_okq q := by
  show ∀ q ∈ lw_privs_1 ++ (lw_privs_2 ++ (lw_privs_3)), lw_okq q
  exact List.forall_mem_append.mpr ⟨lw_r1, List.forall_mem_append.mpr ⟨lw_r2, lw_r3⟩⟩
end
section
/-! ===== BEGIN words of one list among another's, by their places ===== -/
theorem goodIn_r {big : List Cond} (ws : List Cond) (ps : List Nat) (hp : ws = ps.filterMap (fun i => big[i]?)) (h : ws.all goodWord = true) : GoodIn big ws := by
  intro w hw
  have h1 := List.all_eq_true.mp h w hw
  rw [hp] at hw
  obtain ⟨i, -, hi⟩ := List.mem_filterMap.mp hw
  have hm : w ∈ big := by first | exact List.mem_of_getElem? hi | exact List.getElem?_mem hi
  exact ⟨hm, good_of_word h1⟩
theorem goodIn_app {big a b : List Cond} (ha : GoodIn big a) (hb : GoodIn big b) : GoodIn big (a ++ b) := fun w h => (List.mem_append.mp h).elim (ha w) (hb w)
theorem goodIn_ca {big a b : List Cond} {c : Cond} (ha : GoodIn big (c :: a)) (hb : GoodIn big b) : GoodIn big (c :: (a ++ b)) := fun w h => (List.mem_cons.mp h).elim (fun e => ha w (List.mem_cons.mpr (Or.inl e))) (fun h => (List.mem_append.mp h).elim (fun h => ha w (List.mem_cons.mpr (Or.inr h))) (hb w))
theorem goodIn_sub {big ws : List Cond} (hm : ∀ w ∈ ws, w ∈ big) (h : ws.all goodWord = true) : GoodIn big ws := fun w hw => ⟨hm w hw, good_of_word (List.all_eq_true.mp h w hw)⟩
/-! ===== END ===== -/

/-! ===== BEGIN exceptions that leave a method, and their catching by the caller (launches without stack traces) ===== -/
section VXA
/-! The laws vx_back, vx_callV, vx_callS, vx_callSW, vx_throw0, vx_throwS follow proofs of the library, with one case more: JvmDerived/Free/Laws.lean (Back.of_free), Shelf42/LK1.lean (callV, callS), Shelf/KitTraced.lean (throwNew0V, throwNewS). -/
/-- where a method has thrown q: the class by its name, the cell, what was written, the world -/
def vx_T (XC : String → State → State → Prop) (st : State) (q : Addr) (t : State) (mc ms : Nat) (free : Addr → Prop) : Prop :=
  ∃ (E : String) (ce : Cell) (L : List Loc), XC E st t ∧ t.heap[q]? = some ce ∧ ce.vm = .none ∧ st.vm.findClass E = some ce.cls ∧ st.WarmedH t.vm ∧ st.sameButNew ({ t with vm := st.vm } : State) L mc ms ∧ ∀ z ∈ L, free z.base
def vx_Q (Qc : Array Value → State → Outcome → State → Prop) (XC : String → State → State → Prop) (mc ms : Nat) (free : Addr → Prop) : Array Value → State → Outcome → State → Prop := fun a st o t =>
  (Qc a st o t ∧ ∃ L, FrameEnd st o t L mc ms ∧ ∀ q ∈ L, free q.base) ∨ ∃ q, o = .threw q ∧ vx_T XC st q t mc ms free
/-- a callee that returns or throws -/
def vx_Met (l : Launch) (y : MethodName) (ws : List Cond) (rm : Room) (Pc : Array Value → State → Prop) (Qc : Array Value → State → Outcome → State → Prop) (XC : String → State → State → Prop) (mc ms : Nat) (free : Addr → Prop) : Prop :=
  MetFree l y (headSpec ws rm) Pc (fun _ _ _ _ _ => True) (vx_Q Qc XC mc ms free)
def vx_Post (XC : String → State → State → Prop) (mc ms : Nat) (free : Addr → Prop) : Pt → Array Value → Addr → Pt → Prop := fun A a q B =>
  ∃ (g : JFrame) (mk : MethodId) (t : State) (L : List Loc) (E : String) (ce : Cell), B.U.heap = t.heap ∧ B.U.vm = t.vm ∧ XC E (A.U.calling g mk a) t ∧ t.heap[q]? = some ce ∧ ce.vm = .none ∧ A.U.vm.findClass E = some ce.cls ∧ B.locs = A.locs ++ L ∧ (∀ z ∈ L, free z.base) ∧ B.cells = A.cells + mc ∧ B.slots = A.slots + ms
def vx_Back (l : Launch) (R : Room) (p : Program) (e : Env) (below : List Frame) (s : State) (sargs : Array Value) (y : MethodName) (len W9 : Nat)
    (Pre : Pt → Array Value → Prop) (Post : Pt → Array Value → Option Value → Pt → Prop) (PostX : Pt → Array Value → Addr → Pt → Prop) : Prop :=
  ∀ (m : MethodId) (meth : Method) (c : Code) (A : Pt) (g : JFrame) (ig : Instr) (mk : MethodId) (a : Array Value),
    Stand p l e R s m sargs below meth c A.U A.locs A.cells A.slots → g.method = m → g.locals.size = c.maxLocals → decode c.code g.pc = .ok (ig, len) →
    2 * g.monitorRoom + (g.stack.map fun v => v.category).sum ≤ W9 → A.U.methodNamed? y = some mk → Pre A a →
    (∃ (v : Option Value) (B : Pt), Stand p l e R s m sargs below meth c B.U B.locs B.cells B.slots ∧ Post A a v B ∧
      Steps p.tables e below (doInvoke e (A.U.setTop g) [] mk a).1 (B.U.setTop { g with pc := g.pc + len, stack := v.toList ++ g.stack })) ∨
    (∃ (q : Addr) (B : Pt), Stand p l e R s m sargs below meth c B.U B.locs B.cells B.slots ∧ PostX A a q B ∧
      Steps p.tables e below (doInvoke e (A.U.setTop g) [] mk a).1 ((B.U.setTop g).pushFrame (.throwing q)))
section Payer
variable {l : Launch} {R : Room} {p : Program} {e : Env} {below : List Frame} {s : State} {sargs : Array Value} {y : MethodName} {len W9 : Nat}
theorem vx_back {ws : List Cond} {rm : Room} {Pc : Array Value → State → Prop} {Qc : Array Value → State → Outcome → State → Prop} {XC : String → State → State → Prop} {mc ms : Nat} {free : Addr → Prop} {bytes : ByteArray} {maxL : Nat} {ret : Option FieldType}
    (hM : vx_Met l y ws rm Pc Qc XC mc ms free) (hblind : FrameBlind Pc) (hrc : rm.cells = mc) (hrs : rm.slots = ms)
    (hframes : rm.frames + 1 ≤ R.frames) (hlocals : W9 + (maxL + 11) + rm.locals ≤ R.locals)
    (hws : ∀ w ∈ ws, ∀ a' U, s.WarmedH U.vm → w.before a' U = true) (hcode : Cond.code y bytes maxL ret ∈ ws) (hinit : ∀ a' U, s.WarmedH U.vm → (Cond.initialized y.cls).before a' U = true) :
    vx_Back l R p e below s sargs y len W9 (PreOf R mc ms Pc) (PostOf Qc mc ms free) (vx_Post XC mc ms free) := by
  intro m meth c A g ig mk a X hg hsize hdg hW hn hp
  have h1 : (headSpec ws rm).pre.before a A.U = true := atoms_intro fun w hw => hws w hw _ _ X.warmed
  have h2 : (Cond.code y bytes maxL ret).before a A.U = true := hws _ hcode _ _ X.warmed
  have h3 : (Cond.initialized y.cls).before a A.U = true := hinit _ _ X.warmed
  have h4 : A.cells + (headSpec ws rm).room.cells ≤ R.cells := by rw [show (headSpec ws rm).room.cells = mc from hrc]; exact hp.1
  have h5 : A.slots + (headSpec ws rm).room.slots ≤ R.slots := by rw [show (headSpec ws rm).room.slots = ms from hrs]; exact hp.2.1
  have hPc : Pc a (A.U.calling g mk a) := hblind _ _ _ _ hp.2.2
  obtain ⟨U, Ls, c0, s0⟩ := A
  dsimp only [Pt.U, Pt.locs, Pt.cells, Pt.slots] at h1 h2 h3 h4 h5 X hn hPc ⊢
  obtain ⟨methY, cY, hmY, hcY, -, hlY, -, -, -, -⟩ := Cond.code_spec hn h2
  obtain ⟨kY, hkY, -⟩ := className_of_methodNamed hn
  have hinitY : kY.init = .initialized := Cond.initialized_spec (findClass_of_methodNamed hn) hkY h3
  have h : At U g.method c below := by rw [hg]; exact X.here
  have hlocals9 : W9 + (maxL + 11) + (headSpec ws rm).room.locals ≤ R.locals := hlocals
  have happ : (headSpec ws rm).appliesLoose y e.platform (U.calling g mk a) = true :=
    Spec.appliesLoose_calling (g := g) h hdg hn hkY hinitY
      (X.room_calling (g := g) (R' := (headSpec ws rm).room) hsize hmY hcY hframes (by rw [hlY]; omega) h4 h5) h1
  obtain ⟨mid, hmid⟩ := h.above
  have hfr : (U.setTop g).frames = (.java g :: mid) ++ below := by rw [State.frames_setTop' g h.top, hmid]; rfl
  obtain ⟨o, s₂, hsteps, -, hend, hq⟩ := Steps.callFree hM p X.admits X.cas X.clock (acts := []) hfr happ hPc trivial
  have hq' : vx_Q Qc XC mc ms free a (U.calling g mk a) o s₂ := hq
  rw [State.frames_setTop' g h.top] at hend
  obtain ⟨g₀, hg0⟩ := Option.isSome_iff_exists.mp h.top
  obtain ⟨r, hr⟩ := State.topJava?_eq_some.mp hg0
  have hr' : (({ U with heap := s₂.heap, slotsUsed := s₂.slotsUsed } : State).setVm s₂.vm).frames = .java g₀ :: r := hr
  rcases hq' with ⟨hqc, L, hfe, hL⟩ | ⟨q, rfl, E, ce, L, hx, hce, hcv, hcl, hW₂, hsm, hL⟩
  · obtain ⟨⟨v, rfl⟩, hW₂, e2, q2, q3, q4, q5, q6⟩ := id hfe
    have e3 : s₂ = ({ (U.calling g mk a).setFrames s₂.frames with heap := s₂.heap, slotsUsed := s₂.slotsUsed } : State).setVm s₂.vm := by
      have : s₂ = ({ s₂ with vm := (U.calling g mk a).vm } : State).setVm s₂.vm := rfl
      rw [e2] at this
      exact this
    obtain ⟨c₂, i₂, len₂, hc₂, hd₂, hf₂⟩ := hend
    have hW' : U.WarmedH s₂.vm := hW₂
    have hcc : c₂ = c := by
      have h1 : s₂.code? g.method = U.code? g.method := by
        rw [State.code?_eq, State.code?_eq, hW'.alike.method?]
      exact Option.some.inj (hc₂.symm.trans (h1.trans h.code))
    subst hcc
    have hlen : len₂ = len := by rw [hdg] at hd₂; cases hd₂; rfl
    subst hlen
    have hs₂ : s₂ = (({ U with heap := s₂.heap, slotsUsed := s₂.slotsUsed } : State).setVm s₂.vm).setTop { g with pc := g.pc + len₂, stack := v.toList ++ g.stack } := by
      refine e3.trans ?_
      rw [hf₂, State.calling_eq h.top, State.setFrames_setFrames, State.setTop_of_frames _ hr', hr]
      rfl
    have hsame : U.sameButNew ({ U with heap := s₂.heap, slotsUsed := s₂.slotsUsed } : State) L mc ms := by
      refine ⟨?_, q2, q3, q4, q5, q6⟩
      obtain ⟨t, ht, -⟩ := State.frames_cons hr
      show ({ U with heap := s₂.heap, slotsUsed := s₂.slotsUsed } : State) = { U.setFrames U.frames with heap := s₂.heap, slotsUsed := s₂.slotsUsed }
      rw [State.setFrames_self ht]
    subst hg
    refine Or.inl ⟨v, ⟨(({ U with heap := s₂.heap, slotsUsed := s₂.slotsUsed } : State).setVm s₂.vm), Ls ++ L, c0 + mc, s0 + ms⟩,
      ⟨X.admits, X.cas, X.clock, X.frames, X.room, X.hears, X.method, X.code, (X.here.setHeapUsed s₂.heap s₂.slotsUsed).setVm hW'.alike, X.tail, State.WarmedH.trans X.warmed hW', X.limits, X.bytes, X.same.trans (hsame.setVm s.vm)⟩,
      ⟨g, mk, s₂, L, rfl, rfl, hqc, rfl, hL, rfl, rfl⟩, ?_⟩
    show Steps p.tables e below _ ((({ U with heap := s₂.heap, slotsUsed := s₂.slotsUsed } : State).setVm s₂.vm).setTop { g with pc := g.pc + len₂, stack := v.toList ++ g.stack })
    rw [← hs₂]
    exact hsteps
  · obtain ⟨e2, q2, q3, q4, q5, q6⟩ := id hsm
    have e3 : s₂ = ({ (U.calling g mk a).setFrames s₂.frames with heap := s₂.heap, slotsUsed := s₂.slotsUsed } : State).setVm s₂.vm := by
      have : s₂ = ({ s₂ with vm := (U.calling g mk a).vm } : State).setVm s₂.vm := rfl
      rw [e2] at this
      exact this
    have hf₂ : s₂.frames = .throwing q :: .java g :: U.frames.tail := hend
    have hW' : U.WarmedH s₂.vm := hW₂
    have hs₂ : s₂ = ((({ U with heap := s₂.heap, slotsUsed := s₂.slotsUsed } : State).setVm s₂.vm).setTop g).pushFrame (.throwing q) := by
      refine e3.trans ?_
      rw [hf₂, State.calling_eq h.top, State.setFrames_setFrames, State.pushFrame, State.frames_setTop _ hr', State.setTop_of_frames _ hr', State.setFrames_setFrames, hr]
      rfl
    have hsame : U.sameButNew ({ U with heap := s₂.heap, slotsUsed := s₂.slotsUsed } : State) L mc ms := by
      refine ⟨?_, q2, q3, q4, q5, q6⟩
      obtain ⟨t, ht, -⟩ := State.frames_cons hr
      show ({ U with heap := s₂.heap, slotsUsed := s₂.slotsUsed } : State) = { U.setFrames U.frames with heap := s₂.heap, slotsUsed := s₂.slotsUsed }
      rw [State.setFrames_self ht]
    subst hg
    refine Or.inr ⟨q, ⟨(({ U with heap := s₂.heap, slotsUsed := s₂.slotsUsed } : State).setVm s₂.vm), Ls ++ L, c0 + mc, s0 + ms⟩,
      ⟨X.admits, X.cas, X.clock, X.frames, X.room, X.hears, X.method, X.code, (X.here.setHeapUsed s₂.heap s₂.slotsUsed).setVm hW'.alike, X.tail, State.WarmedH.trans X.warmed hW', X.limits, X.bytes, X.same.trans (hsame.setVm s.vm)⟩,
      ⟨g, mk, s₂, L, E, ce, rfl, rfl, hx, hce, hcv, hcl, rfl, hL, rfl, rfl⟩, ?_⟩
    show Steps p.tables e below _ (((({ U with heap := s₂.heap, slotsUsed := s₂.slotsUsed } : State).setVm s₂.vm).setTop g).pushFrame (.throwing q))
    rw [← hs₂]
    exact hsteps
end Payer
section Calls
variable {p : Program} {l : Launch} {e : Env} {R : Room} {s : State} {m : MethodId} {args : Array Value} {below : List Frame} {meth : Method} {c : Code} {T : State} {locs : List Loc} {cells slots : Nat}
theorem vx_callV (X : Stand p l e R s m args below meth c T locs cells slots) (hexec : p.tables.exec = Jvm.exec) {own C : String} {index : Nat} {y : MethodName} {bytes : ByteArray} {maxL : Nat} {ret : Option FieldType}
    (hown : s.vm.findClass own = some m.cls) (hlink : (Cond.methodLink own index y).before args s = true) (hinst : (Cond.instanceMethod y).before args s = true) (hsel : (Cond.selects C y y).before args s = true)
    (hcode : (Cond.code y bytes maxL ret).before args s = true) (hy : y.cls ≠ "java/lang/invoke/MethodHandle" ∧ y.cls ≠ "java/lang/invoke/VarHandle")
    {W9 : Nat} {Pre : Pt → Array Value → Prop} {Post : Pt → Array Value → Option Value → Pt → Prop} {PostX : Pt → Array Value → Addr → Pt → Prop} (hK : vx_Back l R p e below s args y 3 W9 Pre Post PostX)
    {b : Addr} {cellB : Cell} (hcell : T.heap[b]? = some cellB) (hobj : cellB.vm.isStatics = false) (hcls : s.vm.findClass C = some cellB.cls)
    {g : JFrame} (hg : g.method = m) (hsize : g.locals.size = c.maxLocals) {argsL rest : List Value} (hlen : ∀ sig, parseMethodDescriptor y.desc = some sig → argsL.length = sig.parameters.length)
    (hstack : g.stack = argsL.reverse ++ .ref b :: rest) (hW : 2 * g.monitorRoom + (rest.map fun v => v.category).sum ≤ W9) (hdg : decode c.code g.pc = .ok (.invokevirtual index, 3))
    (hpre : ∀ vm₁, s.WarmedH vm₁ → Pre ⟨T.setVm vm₁, locs, cells, slots⟩ (Value.ref b :: argsL).toArray) :
    (∃ (v : Option Value) (vm₁ : Vm) (B : Pt), s.WarmedH vm₁ ∧ Stand p l e R s m args below meth c B.U B.locs B.cells B.slots ∧ Post ⟨T.setVm vm₁, locs, cells, slots⟩ (Value.ref b :: argsL).toArray v B ∧
      ∀ target, Steps p.tables e below (B.U.setTop { g with pc := g.pc + 3, stack := v.toList ++ rest }) target → Steps p.tables e below (T.setTop g) target) ∨
    (∃ (q : Addr) (vm₁ : Vm) (B : Pt), s.WarmedH vm₁ ∧ Stand p l e R s m args below meth c B.U B.locs B.cells B.slots ∧ PostX ⟨T.setVm vm₁, locs, cells, slots⟩ (Value.ref b :: argsL).toArray q B ∧
      Steps p.tables e below (T.setTop g) ((B.U.setTop { g with stack := rest }).pushFrame (.throwing q))) := by
  obtain ⟨mk, methM, hnamed, hmethM, hstM, habM⟩ := Cond.instanceMethod_spec hinst
  obtain ⟨methM', cM, hmethM', -, -, -, -, -, -, hsigM⟩ := Cond.code_spec hnamed hcode
  cases hmethM.symm.trans hmethM'
  obtain ⟨c2, r2, m2, q1, q2, q3, q4, kP, hkP, hkPi⟩ := Cond.selects_spec hsel
  cases hcls.symm.trans q1
  cases (State.methodFound?_of_named hnamed hy).symm.trans q2
  cases hnamed.symm.trans q3
  have hselP : selectMethod e.platform s.vm cellB.cls mk = .method mk := by rw [Launch.admits_selectMethod X.admits]; exact q4
  obtain ⟨vm₁, X₁, hstep₁⟩ := X.invokevirtual hexec hown hlink hnamed hmethM hstM hkP hkPi hy (a := b) (cell := cellB) hcell
    (fun z h => by rw [h] at hobj; cases hobj) hselP hmethM habM hkP hkPi (g := g) hg (argsL := argsL) (rest := rest) (hlen _ hsigM) hstack hdg
  rcases hK m meth c ⟨T.setVm vm₁, locs, cells, slots⟩ { g with stack := rest } (.invokevirtual index) mk (Value.ref b :: argsL).toArray X₁ hg hsize hdg hW (X₁.named hnamed) (hpre vm₁ X₁.warmed) with ⟨v, B, X', hpost, hsteps⟩ | ⟨q, B, X', hpost, hsteps⟩
  · exact Or.inl ⟨v, vm₁, B, X₁.warmed, X', hpost, fun target h => hstep₁ _ fun acts => by rw [doInvoke_state]; exact hsteps.trans h⟩
  · exact Or.inr ⟨q, vm₁, B, X₁.warmed, X', hpost, hstep₁ _ fun acts => by rw [doInvoke_state]; exact hsteps⟩
theorem vx_callS (X : Stand p l e R s m args below meth c T locs cells slots) (hexec : p.tables.exec = Jvm.exec) {own : String} {index : Nat} {y : MethodName} {bytes : ByteArray} {maxL : Nat} {ret : Option FieldType}
    (hown : s.vm.findClass own = some m.cls) (hlink : (Cond.methodLink own index y).before args s = true) (hstat : (Cond.static y).before args s = true) (hinit : (Cond.initialized y.cls).before args s = true)
    (hcode : (Cond.code y bytes maxL ret).before args s = true) (hy : y.cls ≠ "java/lang/invoke/MethodHandle" ∧ y.cls ≠ "java/lang/invoke/VarHandle")
    {W9 : Nat} {Pre : Pt → Array Value → Prop} {Post : Pt → Array Value → Option Value → Pt → Prop} {PostX : Pt → Array Value → Addr → Pt → Prop} (hK : vx_Back l R p e below s args y 3 W9 Pre Post PostX)
    {g : JFrame} (hg : g.method = m) (hsize : g.locals.size = c.maxLocals) {argsL rest : List Value} (hlen : ∀ sig, parseMethodDescriptor y.desc = some sig → argsL.length = sig.parameters.length)
    (hstack : g.stack = argsL.reverse ++ rest) (hW : 2 * g.monitorRoom + (rest.map fun v => v.category).sum ≤ W9) (hdg : decode c.code g.pc = .ok (.invokestatic index, 3))
    (hpre : ∀ vm₁, s.WarmedH vm₁ → Pre ⟨T.setVm vm₁, locs, cells, slots⟩ argsL.toArray) :
    (∃ (v : Option Value) (vm₁ : Vm) (B : Pt), s.WarmedH vm₁ ∧ Stand p l e R s m args below meth c B.U B.locs B.cells B.slots ∧ Post ⟨T.setVm vm₁, locs, cells, slots⟩ argsL.toArray v B ∧
      ∀ target, Steps p.tables e below (B.U.setTop { g with pc := g.pc + 3, stack := v.toList ++ rest }) target → Steps p.tables e below (T.setTop g) target) ∨
    (∃ (q : Addr) (vm₁ : Vm) (B : Pt), s.WarmedH vm₁ ∧ Stand p l e R s m args below meth c B.U B.locs B.cells B.slots ∧ PostX ⟨T.setVm vm₁, locs, cells, slots⟩ argsL.toArray q B ∧
      Steps p.tables e below (T.setTop g) ((B.U.setTop { g with stack := rest }).pushFrame (.throwing q))) := by
  obtain ⟨mk, hnamed⟩ := Cond.code_named hcode
  obtain ⟨methM, cM, hmethM, -, -, -, -, -, -, hsigM⟩ := Cond.code_spec hnamed hcode
  have hstatic : methM.isStatic = true := Cond.static_spec hnamed hmethM hstat
  obtain ⟨kP, hkP, -⟩ := className_of_methodNamed hnamed
  have hinitP : kP.init = .initialized := Cond.initialized_spec (findClass_of_methodNamed hnamed) hkP hinit
  obtain ⟨vm₁, X₁, hstep₁⟩ := X.invokestatic hexec hown hlink hnamed hmethM hstatic hkP hinitP hy (g := g) hg (argsL := argsL) (rest := rest) (hlen _ hsigM) hstack hdg
  rcases hK m meth c ⟨T.setVm vm₁, locs, cells, slots⟩ { g with stack := rest } (.invokestatic index) mk argsL.toArray X₁ hg hsize hdg hW (X₁.named hnamed) (hpre vm₁ X₁.warmed) with ⟨v, B, X', hpost, hsteps⟩ | ⟨q, B, X', hpost, hsteps⟩
  · exact Or.inl ⟨v, vm₁, B, X₁.warmed, X', hpost, fun target h => hstep₁ _ fun acts => by rw [doInvoke_state]; exact hsteps.trans h⟩
  · exact Or.inr ⟨q, vm₁, B, X₁.warmed, X', hpost, hstep₁ _ fun acts => by rw [doInvoke_state]; exact hsteps⟩
end Calls
theorem vx_cls {s : State} {T : State} {vm₁ : Vm} {E : String} {k : ClassId} (hW : s.WarmedH vm₁) (h : (T.setVm vm₁).vm.findClass E = some k) : s.vm.findClass E = some k := by
  have h1 : vm₁.findClass E = some k := h
  rw [hW.alike.findClass] at h1
  exact h1
/-- the method's frame g, with q thrown over it -/
def vx_W (p : Program) (l : Launch) (e : Env) (R : Room) (s : State) (m : MethodId) (args : Array Value) (below : List Frame) (meth : Method) (c : Code) (H : Heap) (locs : List Loc) (cells slots : Nat) (Q : State → Prop) (g : JFrame) (q : Addr) : Prop :=
  ∀ T : State, T.heap = H → Stand p l e R s m args below meth c T locs cells slots → ∃ t, Steps p.tables e below ((T.setTop g).pushFrame (.throwing q)) t ∧ Q t
def vx_Run (p : Program) (l : Launch) (e : Env) (R : Room) (s : State) (m : MethodId) (args : Array Value) (below : List Frame) (meth : Method) (c : Code) (H : Heap) (locs : List Loc) (cells slots mc ms : Nat) (g : JFrame) (rest : List Value) (Qa : State → Outcome → State → Prop) (XC : String → State → State → Prop) (free : Addr → Prop) : Prop :=
  ∀ T : State, T.heap = H → Stand p l e R s m args below meth c T locs cells slots →
    (∃ (v : Option Value) (st₀ t T' : State) (L : List Loc), st₀.heap = H ∧ Stand p l e R s m args below meth c T' (locs ++ L) (cells + mc) (slots + ms) ∧ (∀ q ∈ L, free q.base) ∧ T'.heap = t.heap ∧ T'.vm = t.vm ∧ Qa st₀ (.returned v) t ∧
      Goes p e below T g T' { g with pc := g.pc + 3, stack := v.toList ++ rest }) ∨
    (∃ (q : Addr) (st₀ t T' : State) (L : List Loc) (E : String) (ce : Cell), st₀.heap = H ∧ Stand p l e R s m args below meth c T' (locs ++ L) (cells + mc) (slots + ms) ∧ (∀ z ∈ L, free z.base) ∧ T'.heap = t.heap ∧ T'.vm = t.vm ∧ XC E st₀ t ∧ t.heap[q]? = some ce ∧ ce.vm = .none ∧ s.vm.findClass E = some ce.cls ∧
      Steps p.tables e below (T.setTop g) ((T'.setTop { g with stack := rest }).pushFrame (.throwing q)))
def vx_X {S : Type} (px : S → Prop) (B : String → S → State → Prop) (A : Nat → Prop) : String → State → State → Prop := fun E st t => ∃ u : S, px u ∧ B E u t ∧ va_F A st t
section Runs
variable {p : Program} {l : Launch} {e : Env} {R : Room} {s : State} {m : MethodId} {args : Array Value} {below : List Frame} {meth : Method} {c : Code} {H : Heap} {locs : List Loc} {cells slots : Nat}
variable {y : MethodName} {bytes cc : ByteArray} {maxL nL mc ms n index : Nat} {ret : Option FieldType} {ws : List Cond} {rm : Room} {Pc : Array Value → State → Prop} {Qc : Array Value → State → Outcome → State → Prop} {XC : String → State → State → Prop} {free : Addr → Prop} {Ts : List Cond} {own C : String} {b : Addr} {As rest : List Value} {g : JFrame}
theorem vx_callBack (cb : CallB R s args own index y bytes maxL ret ws rm mc ms n) (hM : vx_Met l y ws rm Pc Qc XC mc ms free) (hbl : FrameBlind Pc) : vx_Back l R p e below s args y 3 8 (PreOf R mc ms Pc) (PostOf Qc mc ms free) (vx_Post XC mc ms free) := by
  obtain ⟨hrc, hrs, hfr, hlo, hws, hcw, -, hini, -⟩ := cb
  exact vx_back (bytes := bytes) (maxL := maxL) (ret := ret) hM hbl hrc hrs hfr hlo hws hcw (fun a' U hW => word_at hW (Or.inl (by first | rfl | simp [Cond.onTables, Cond.keeps, Cond.steady])) hini)
theorem vx_runV (S : CallFix p m c cc nL s args Ts own) (hM : vx_Met l y ws rm Pc Qc XC mc ms free) (cw : CallW R s args own C index y bytes maxL ret ws rm mc ms n) (hp : PreV s H C b Pc As)
    (hg : g.method = m) (hn : As.length = n) (hsize : g.locals.size = nL) (hstack : g.stack = As.reverse ++ .ref b :: rest) (hW : 2 * g.monitorRoom + (rest.map fun v => v.category).sum ≤ 8) (hdg : decode cc g.pc = .ok (.invokevirtual index, 3)) (hf : cells + mc ≤ R.cells ∧ slots + ms ≤ R.slots) :
    vx_Run p l e R s m args below meth c H locs cells slots mc ms g rest (Qc (Value.ref b :: As).toArray) XC free := by
  have hK : vx_Back l R p e below s args y 3 8 (PreOf R mc ms Pc) (PostOf Qc mc ms free) (vx_Post XC mc ms free) := vx_callBack cw.1 hM hp.1
  obtain ⟨⟨-, -, -, -, -, -, hcode, -, hy, hlen, hl⟩, hin, hse⟩ := cw
  obtain ⟨hx, hb, hml, ho, -⟩ := S
  obtain ⟨-, ⟨cellB, hcB, hoB, hclB⟩, hPc⟩ := hp
  intro T hT X
  rcases vx_callV X hx (C := C) (bytes := bytes) (maxL := maxL) (ret := ret) ho hl hin hse hcode hy hK (by rw [hT]; exact hcB) hoB hclB hg (hsize.trans hml.symm) (argsL := As) (rest := rest) (fun sig h => hn.trans (hlen sig h)) hstack hW (by rw [hb]; exact hdg)
    (fun vm₁ hW₁ => ⟨hf.1, hf.2, hPc (T.setVm vm₁) hT hW₁⟩) with ⟨v, vm₁, ⟨U', l2, c2, s2⟩, hW₁, X', ⟨g', mk, t, L, e1, e2, hq, h1, hL, h2, h3⟩, st⟩ | ⟨q, vm₁, ⟨U', l2, c2, s2⟩, hW₁, X', ⟨g', mk, t, L, E, ce, e1, e2, hq, hce, hcv, hcl, h1, hL, h2, h3⟩, st⟩
  · dsimp only [Pt.U, Pt.locs, Pt.cells, Pt.slots] at X' e1 e2 h1 h2 h3 st
    subst h1; subst h2; subst h3
    exact Or.inl ⟨v, (T.setVm vm₁).calling g' mk (Value.ref b :: As).toArray, t, U', L, hT, X', hL, e1, e2, hq, st⟩
  · dsimp only [Pt.U, Pt.locs, Pt.cells, Pt.slots] at X' e1 e2 h1 h2 h3 st hcl
    subst h1; subst h2; subst h3
    exact Or.inr ⟨q, (T.setVm vm₁).calling g' mk (Value.ref b :: As).toArray, t, U', L, E, ce, hT, X', hL, e1, e2, hq, hce, hcv, vx_cls hW₁ hcl, st⟩
theorem vx_runS (S : CallFix p m c cc nL s args Ts own) (hM : vx_Met l y ws rm Pc Qc XC mc ms free) (cw : CallB R s args own index y bytes maxL ret ws rm mc ms n ∧ (Cond.static y).before args s = true) (hp : PreS s H Pc As)
    (hg : g.method = m) (hn : As.length = n) (hsize : g.locals.size = nL) (hstack : g.stack = As.reverse ++ rest) (hW : 2 * g.monitorRoom + (rest.map fun v => v.category).sum ≤ 8) (hdg : decode cc g.pc = .ok (.invokestatic index, 3)) (hf : cells + mc ≤ R.cells ∧ slots + ms ≤ R.slots) :
    vx_Run p l e R s m args below meth c H locs cells slots mc ms g rest (Qc As.toArray) XC free := by
  have hK : vx_Back l R p e below s args y 3 8 (PreOf R mc ms Pc) (PostOf Qc mc ms free) (vx_Post XC mc ms free) := vx_callBack cw.1 hM hp.1
  obtain ⟨⟨-, -, -, -, -, -, hcode, hini, hy, hlen, hl⟩, hstt⟩ := cw
  obtain ⟨hx, hb, hml, ho, -⟩ := S
  intro T hT X
  rcases vx_callS X hx (bytes := bytes) (maxL := maxL) (ret := ret) ho hl hstt hini hcode hy hK hg (hsize.trans hml.symm) (argsL := As) (rest := rest) (fun sig h => hn.trans (hlen sig h)) hstack hW (by rw [hb]; exact hdg)
    (fun vm₁ hW₁ => ⟨hf.1, hf.2, hp.2 (T.setVm vm₁) hT hW₁⟩) with ⟨v, vm₁, ⟨U', l2, c2, s2⟩, hW₁, X', ⟨g', mk, t, L, e1, e2, hq, h1, hL, h2, h3⟩, st⟩ | ⟨q, vm₁, ⟨U', l2, c2, s2⟩, hW₁, X', ⟨g', mk, t, L, E, ce, e1, e2, hq, hce, hcv, hcl, h1, hL, h2, h3⟩, st⟩
  · dsimp only [Pt.U, Pt.locs, Pt.cells, Pt.slots] at X' e1 e2 h1 h2 h3 st
    subst h1; subst h2; subst h3
    exact Or.inl ⟨v, (T.setVm vm₁).calling g' mk As.toArray, t, U', L, hT, X', hL, e1, e2, hq, st⟩
  · dsimp only [Pt.U, Pt.locs, Pt.cells, Pt.slots] at X' e1 e2 h1 h2 h3 st hcl
    subst h1; subst h2; subst h3
    exact Or.inr ⟨q, (T.setVm vm₁).calling g' mk As.toArray, t, U', L, E, ce, hT, X', hL, e1, e2, hq, hce, hcv, vx_cls hW₁ hcl, st⟩
end Runs
section Rows
variable {p : Program} {l : Launch} {e : Env} {R : Room} {s : State} {m : MethodId} {args : Array Value} {below : List Frame} {meth : Method} {c : Code} {H : Heap} {locs : List Loc} {cells slots : Nat} {Q : State → Prop}
variable {mc ms : Nat} {free : Addr → Prop} {A0 A1 : Nat → Prop} {H0 : Heap} {a : Array Value} {pc : Nat} {ls : Array Slot} {st0 rest : List Value}
theorem vx_keep {st₀ t T' : State} {L : List Loc} (h0 : st₀.heap = H) (e1 : T'.heap = t.heap) (hS : va_S A0 H0 H locs) (hA : ∀ q, q < H.size → A1 q → A0 q) (hf : ∀ q, free q → A0 q) (hL : ∀ q ∈ L, free q.base) (hF : va_F A1 st₀ t) :
    H.size ≤ T'.heap.size ∧ (∀ q : Nat, q < H.size → ¬ A1 q → T'.heap[q]? = H[q]?) ∧ va_S A0 H0 T'.heap (locs ++ L) := by
  obtain ⟨hz, hk⟩ := hF
  rw [h0] at hz hk
  exact ⟨by rw [e1]; exact hz, fun q h1 h2 => by rw [e1]; exact hk q h1 h2,
    ⟨Nat.le_trans hS.1 (by rw [e1]; exact hz), fun q h1 h2 => by rw [e1, hk q (Nat.lt_of_lt_of_le h1 hS.1) (fun z => h2 (hA q (Nat.lt_of_lt_of_le h1 hS.1) z))]; exact hS.2.1 q h1 h2, fun q hq => by
      rcases List.mem_append.mp hq with h | h
      · exact hS.2.2 q h
      · exact hf _ (hL q h)⟩⟩
theorem vx_calli {S SX : Type} {post : Int32 → S → Prop} {px : SX → Prop} {B : S → State → Prop} {BX : String → SX → State → Prop} {AX : Nat → Prop} (hr : vx_Run p l e R s m args below meth c H locs cells slots mc ms (F0 m pc ls st0) rest (va_Qi post B A1 a) (vx_X px BX AX) free) (hS : va_S A0 H0 H locs) (hA : ∀ q, q < H.size → A1 q → A0 q) (hf : ∀ q, free q → A0 q) (hAX : ∀ q, q < H.size → AX q → A0 q)
    (kx : ∀ (E : String) (ce : Cell) (q9 : Addr) (u : SX) (t : State) (H1 : Heap) (locs1 : List Loc), t.heap = H1 → s.vm.Alike t.vm → px u → BX E u t → H.size ≤ H1.size → (∀ q : Nat, q < H.size → ¬ AX q → H1[q]? = H[q]?) → va_S A0 H0 H1 locs1 → H1[q9]? = some ce → ce.vm = .none → s.vm.findClass E = some ce.cls → vx_W p l e R s m args below meth c H1 locs1 (cells + mc) (slots + ms) Q (F0 m pc ls rest) q9)
    (kk : ∀ (r : Int32) (u : S) (t : State) (H1 : Heap) (locs1 : List Loc), t.heap = H1 → s.vm.Alike t.vm → post r u → B u t → H.size ≤ H1.size → (∀ q : Nat, q < H.size → ¬ A1 q → H1[q]? = H[q]?) → va_S A0 H0 H1 locs1 → W p l e R s m args below meth c H1 locs1 (cells + mc) (slots + ms) Q (F0 m (pc + 3) ls (.int r :: rest))) : W p l e R s m args below meth c H locs cells slots Q (F0 m pc ls st0) := by
  intro T hT X
  rcases hr T hT X with ⟨v, st₀, t, T', L, h0, X', hL, e1, e2, ⟨⟨r, u, hv, hp, hb⟩, hF⟩, st⟩ | ⟨q, st₀, t, T', L, E, ce, h0, X', hL, e1, e2, ⟨u, hp, hb, hF⟩, hce, hcv, hcl, st⟩
  · cases hv
    obtain ⟨k1, k2, k3⟩ := vx_keep h0 e1 hS hA hf hL hF
    obtain ⟨t2, a1, b1⟩ := kk r u t T'.heap (locs ++ L) e1.symm (by rw [← e2]; exact X'.warmed.alike) hp hb k1 k2 k3 T' rfl X'
    exact ⟨t2, st t2 a1, b1⟩
  · obtain ⟨k1, k2, k3⟩ := vx_keep h0 e1 hS hAX hf hL hF
    obtain ⟨t2, a1, b1⟩ := kx E ce q u t T'.heap (locs ++ L) e1.symm (by rw [← e2]; exact X'.warmed.alike) hp hb k1 k2 k3 (by rw [e1]; exact hce) hcv hcl T' rfl X'
    exact ⟨t2, st.trans a1, b1⟩
theorem vx_calll {S SX : Type} {post : Int64 → S → Prop} {px : SX → Prop} {B : S → State → Prop} {BX : String → SX → State → Prop} {AX : Nat → Prop} (hr : vx_Run p l e R s m args below meth c H locs cells slots mc ms (F0 m pc ls st0) rest (va_Ql post B A1 a) (vx_X px BX AX) free) (hS : va_S A0 H0 H locs) (hA : ∀ q, q < H.size → A1 q → A0 q) (hf : ∀ q, free q → A0 q) (hAX : ∀ q, q < H.size → AX q → A0 q)
    (kx : ∀ (E : String) (ce : Cell) (q9 : Addr) (u : SX) (t : State) (H1 : Heap) (locs1 : List Loc), t.heap = H1 → s.vm.Alike t.vm → px u → BX E u t → H.size ≤ H1.size → (∀ q : Nat, q < H.size → ¬ AX q → H1[q]? = H[q]?) → va_S A0 H0 H1 locs1 → H1[q9]? = some ce → ce.vm = .none → s.vm.findClass E = some ce.cls → vx_W p l e R s m args below meth c H1 locs1 (cells + mc) (slots + ms) Q (F0 m pc ls rest) q9)
    (kk : ∀ (r : Int64) (u : S) (t : State) (H1 : Heap) (locs1 : List Loc), t.heap = H1 → s.vm.Alike t.vm → post r u → B u t → H.size ≤ H1.size → (∀ q : Nat, q < H.size → ¬ A1 q → H1[q]? = H[q]?) → va_S A0 H0 H1 locs1 → W p l e R s m args below meth c H1 locs1 (cells + mc) (slots + ms) Q (F0 m (pc + 3) ls (.long r :: rest))) : W p l e R s m args below meth c H locs cells slots Q (F0 m pc ls st0) := by
  intro T hT X
  rcases hr T hT X with ⟨v, st₀, t, T', L, h0, X', hL, e1, e2, ⟨⟨r, u, hv, hp, hb⟩, hF⟩, st⟩ | ⟨q, st₀, t, T', L, E, ce, h0, X', hL, e1, e2, ⟨u, hp, hb, hF⟩, hce, hcv, hcl, st⟩
  · cases hv
    obtain ⟨k1, k2, k3⟩ := vx_keep h0 e1 hS hA hf hL hF
    obtain ⟨t2, a1, b1⟩ := kk r u t T'.heap (locs ++ L) e1.symm (by rw [← e2]; exact X'.warmed.alike) hp hb k1 k2 k3 T' rfl X'
    exact ⟨t2, st t2 a1, b1⟩
  · obtain ⟨k1, k2, k3⟩ := vx_keep h0 e1 hS hAX hf hL hF
    obtain ⟨t2, a1, b1⟩ := kx E ce q u t T'.heap (locs ++ L) e1.symm (by rw [← e2]; exact X'.warmed.alike) hp hb k1 k2 k3 (by rw [e1]; exact hce) hcv hcl T' rfl X'
    exact ⟨t2, st.trans a1, b1⟩
theorem vx_callf {S SX : Type} {post : UInt32 → S → Prop} {px : SX → Prop} {B : S → State → Prop} {BX : String → SX → State → Prop} {AX : Nat → Prop} (hr : vx_Run p l e R s m args below meth c H locs cells slots mc ms (F0 m pc ls st0) rest (va_Qf post B A1 a) (vx_X px BX AX) free) (hS : va_S A0 H0 H locs) (hA : ∀ q, q < H.size → A1 q → A0 q) (hf : ∀ q, free q → A0 q) (hAX : ∀ q, q < H.size → AX q → A0 q)
    (kx : ∀ (E : String) (ce : Cell) (q9 : Addr) (u : SX) (t : State) (H1 : Heap) (locs1 : List Loc), t.heap = H1 → s.vm.Alike t.vm → px u → BX E u t → H.size ≤ H1.size → (∀ q : Nat, q < H.size → ¬ AX q → H1[q]? = H[q]?) → va_S A0 H0 H1 locs1 → H1[q9]? = some ce → ce.vm = .none → s.vm.findClass E = some ce.cls → vx_W p l e R s m args below meth c H1 locs1 (cells + mc) (slots + ms) Q (F0 m pc ls rest) q9)
    (kk : ∀ (r : UInt32) (u : S) (t : State) (H1 : Heap) (locs1 : List Loc), t.heap = H1 → s.vm.Alike t.vm → post r u → B u t → H.size ≤ H1.size → (∀ q : Nat, q < H.size → ¬ A1 q → H1[q]? = H[q]?) → va_S A0 H0 H1 locs1 → W p l e R s m args below meth c H1 locs1 (cells + mc) (slots + ms) Q (F0 m (pc + 3) ls (.float r :: rest))) : W p l e R s m args below meth c H locs cells slots Q (F0 m pc ls st0) := by
  intro T hT X
  rcases hr T hT X with ⟨v, st₀, t, T', L, h0, X', hL, e1, e2, ⟨⟨r, u, hv, hp, hb⟩, hF⟩, st⟩ | ⟨q, st₀, t, T', L, E, ce, h0, X', hL, e1, e2, ⟨u, hp, hb, hF⟩, hce, hcv, hcl, st⟩
  · cases hv
    obtain ⟨k1, k2, k3⟩ := vx_keep h0 e1 hS hA hf hL hF
    obtain ⟨t2, a1, b1⟩ := kk r u t T'.heap (locs ++ L) e1.symm (by rw [← e2]; exact X'.warmed.alike) hp hb k1 k2 k3 T' rfl X'
    exact ⟨t2, st t2 a1, b1⟩
  · obtain ⟨k1, k2, k3⟩ := vx_keep h0 e1 hS hAX hf hL hF
    obtain ⟨t2, a1, b1⟩ := kx E ce q u t T'.heap (locs ++ L) e1.symm (by rw [← e2]; exact X'.warmed.alike) hp hb k1 k2 k3 (by rw [e1]; exact hce) hcv hcl T' rfl X'
    exact ⟨t2, st.trans a1, b1⟩
theorem vx_calld {S SX : Type} {post : UInt64 → S → Prop} {px : SX → Prop} {B : S → State → Prop} {BX : String → SX → State → Prop} {AX : Nat → Prop} (hr : vx_Run p l e R s m args below meth c H locs cells slots mc ms (F0 m pc ls st0) rest (va_Qd post B A1 a) (vx_X px BX AX) free) (hS : va_S A0 H0 H locs) (hA : ∀ q, q < H.size → A1 q → A0 q) (hf : ∀ q, free q → A0 q) (hAX : ∀ q, q < H.size → AX q → A0 q)
    (kx : ∀ (E : String) (ce : Cell) (q9 : Addr) (u : SX) (t : State) (H1 : Heap) (locs1 : List Loc), t.heap = H1 → s.vm.Alike t.vm → px u → BX E u t → H.size ≤ H1.size → (∀ q : Nat, q < H.size → ¬ AX q → H1[q]? = H[q]?) → va_S A0 H0 H1 locs1 → H1[q9]? = some ce → ce.vm = .none → s.vm.findClass E = some ce.cls → vx_W p l e R s m args below meth c H1 locs1 (cells + mc) (slots + ms) Q (F0 m pc ls rest) q9)
    (kk : ∀ (r : UInt64) (u : S) (t : State) (H1 : Heap) (locs1 : List Loc), t.heap = H1 → s.vm.Alike t.vm → post r u → B u t → H.size ≤ H1.size → (∀ q : Nat, q < H.size → ¬ A1 q → H1[q]? = H[q]?) → va_S A0 H0 H1 locs1 → W p l e R s m args below meth c H1 locs1 (cells + mc) (slots + ms) Q (F0 m (pc + 3) ls (.double r :: rest))) : W p l e R s m args below meth c H locs cells slots Q (F0 m pc ls st0) := by
  intro T hT X
  rcases hr T hT X with ⟨v, st₀, t, T', L, h0, X', hL, e1, e2, ⟨⟨r, u, hv, hp, hb⟩, hF⟩, st⟩ | ⟨q, st₀, t, T', L, E, ce, h0, X', hL, e1, e2, ⟨u, hp, hb, hF⟩, hce, hcv, hcl, st⟩
  · cases hv
    obtain ⟨k1, k2, k3⟩ := vx_keep h0 e1 hS hA hf hL hF
    obtain ⟨t2, a1, b1⟩ := kk r u t T'.heap (locs ++ L) e1.symm (by rw [← e2]; exact X'.warmed.alike) hp hb k1 k2 k3 T' rfl X'
    exact ⟨t2, st t2 a1, b1⟩
  · obtain ⟨k1, k2, k3⟩ := vx_keep h0 e1 hS hAX hf hL hF
    obtain ⟨t2, a1, b1⟩ := kx E ce q u t T'.heap (locs ++ L) e1.symm (by rw [← e2]; exact X'.warmed.alike) hp hb k1 k2 k3 (by rw [e1]; exact hce) hcv hcl T' rfl X'
    exact ⟨t2, st.trans a1, b1⟩
theorem vx_callv {S SX : Type} {post : S → Prop} {px : SX → Prop} {B : S → State → Prop} {BX : String → SX → State → Prop} {AX : Nat → Prop} (hr : vx_Run p l e R s m args below meth c H locs cells slots mc ms (F0 m pc ls st0) rest (va_Qv post B A1 a) (vx_X px BX AX) free) (hS : va_S A0 H0 H locs) (hA : ∀ q, q < H.size → A1 q → A0 q) (hf : ∀ q, free q → A0 q) (hAX : ∀ q, q < H.size → AX q → A0 q)
    (kx : ∀ (E : String) (ce : Cell) (q9 : Addr) (u : SX) (t : State) (H1 : Heap) (locs1 : List Loc), t.heap = H1 → s.vm.Alike t.vm → px u → BX E u t → H.size ≤ H1.size → (∀ q : Nat, q < H.size → ¬ AX q → H1[q]? = H[q]?) → va_S A0 H0 H1 locs1 → H1[q9]? = some ce → ce.vm = .none → s.vm.findClass E = some ce.cls → vx_W p l e R s m args below meth c H1 locs1 (cells + mc) (slots + ms) Q (F0 m pc ls rest) q9)
    (kk : ∀ (u : S) (t : State) (H1 : Heap) (locs1 : List Loc), t.heap = H1 → s.vm.Alike t.vm → post u → B u t → H.size ≤ H1.size → (∀ q : Nat, q < H.size → ¬ A1 q → H1[q]? = H[q]?) → va_S A0 H0 H1 locs1 → W p l e R s m args below meth c H1 locs1 (cells + mc) (slots + ms) Q (F0 m (pc + 3) ls (rest))) : W p l e R s m args below meth c H locs cells slots Q (F0 m pc ls st0) := by
  intro T hT X
  rcases hr T hT X with ⟨v, st₀, t, T', L, h0, X', hL, e1, e2, ⟨⟨u, hv, hp, hb⟩, hF⟩, st⟩ | ⟨q, st₀, t, T', L, E, ce, h0, X', hL, e1, e2, ⟨u, hp, hb, hF⟩, hce, hcv, hcl, st⟩
  · cases hv
    obtain ⟨k1, k2, k3⟩ := vx_keep h0 e1 hS hA hf hL hF
    obtain ⟨t2, a1, b1⟩ := kk u t T'.heap (locs ++ L) e1.symm (by rw [← e2]; exact X'.warmed.alike) hp hb k1 k2 k3 T' rfl X'
    exact ⟨t2, st t2 a1, b1⟩
  · obtain ⟨k1, k2, k3⟩ := vx_keep h0 e1 hS hAX hf hL hF
    obtain ⟨t2, a1, b1⟩ := kx E ce q u t T'.heap (locs ++ L) e1.symm (by rw [← e2]; exact X'.warmed.alike) hp hb k1 k2 k3 (by rw [e1]; exact hce) hcv hcl T' rfl X'
    exact ⟨t2, st.trans a1, b1⟩
/-- caught by the row x of this method's table; the rows ahead don't take it -/
theorem vx_catch {own name : String} {E : String} {ce : Cell} {q : Addr} (hown : s.vm.findClass own = some m.cls) (pre : List ExceptionTableEntry) (x : ExceptionTableEntry) (suf : List ExceptionTableEntry) (hsplit : c.exceptionTable.toList = pre ++ x :: suf)
    (hpass : ∀ z ∈ pre, covers z pc = false ∨ (z.catchType ≠ 0 ∧ ∃ nm : String, (Cond.classLink own z.catchType nm).before args s = true ∧ va_Nc E nm s)) (hx : covers x pc = true) (h0 : x.catchType ≠ 0)
    (hlink : (Cond.classLink own x.catchType name).before args s = true) (hcast : (Cond.castable E name).before args s = true) (hcell : H[q]? = some ce) (hv : ce.vm = .none) (hcl : s.vm.findClass E = some ce.cls)
    (kk : W p l e R s m args below meth c H locs cells slots Q (F0 m x.handlerPc ls [.ref q])) : vx_W p l e R s m args below meth c H locs cells slots Q (F0 m pc ls rest) q := by
  intro T hT X
  have hpl : e.platform.magicAccessors = ({} : Platform).magicAccessors := by rw [X.admits.platform]
  obtain ⟨c3, c4, hc3, hc4, hasg⟩ := Cond.castable_spec hcast
  cases Option.some.inj (hc3.symm.trans hcl)
  obtain ⟨c5, hc5, hcl5⟩ := Cond.classLink_spec hown hlink e.platform hpl
  cases Option.some.inj (hc4.symm.trans hc5)
  obtain ⟨vm', X', st⟩ := X.thenCaughtThrough q (g := F0 m pc ls rest) rfl (Steps.refl _) (by rw [hT]; exact hcell) (by rw [hv]; rfl) (by obtain ⟨k9, h9, -⟩ := Vm.findClass_spec hcl; exact ⟨k9, h9⟩) pre x suf hsplit
    (fun z hz => by
      rcases hpass z hz with h | ⟨hz0, nm, hl1, hn1⟩
      · exact Or.inl h
      · obtain ⟨c6, hc6, hcl6⟩ := Cond.classLink_spec hown hl1 e.platform hpl
        obtain ⟨a8, b8, h1, h2, h3⟩ := hn1
        cases Option.some.inj (h1.symm.trans hcl)
        cases Option.some.inj (h2.symm.trans hc6)
        exact Or.inr ⟨hz0, _, hcl6, h3⟩) hx (Or.inr ⟨h0, c4, hcl5, hasg⟩)
  obtain ⟨t, a1, b1⟩ := kk (T.setVm vm') hT X'
  exact ⟨t, st.trans a1, b1⟩
end Rows
section Ends
variable {p : Program} {l : Launch} {e : Env} {R : Room} {s : State} {m : MethodId} {args : Array Value} {below : List Frame} {meth : Method} {c : Code} {H : Heap} {locs : List Loc} {cells slots : Nat} {Q : State → Prop}
variable {mc ms : Nat} {free : Addr → Prop} {A0 A1 : Nat → Prop} {H0 : Heap} {a : Array Value} {ls : Array Slot} {st0 rest : List Value}
variable {Qc : Array Value → State → Outcome → State → Prop} {XC : String → State → State → Prop}
/-- what a body that may throw owes at its end -/
def vx_MQ (below : List Frame) (Qc : Array Value → State → Outcome → State → Prop) (XC : String → State → State → Prop) (a : Array Value) (s : State) (mc ms : Nat) (free : Addr → Prop) : State → Prop := fun t =>
  ∃ o, t.status = .running ∧ Ended t below o ∧ vx_Q Qc XC mc ms free a s o t
theorem vx_ret {g : JFrame} {mc ms : Nat} (k : W p l e R s m args below meth c H locs cells slots (MQ below Qc args s mc ms free) g) : W p l e R s m args below meth c H locs cells slots (vx_MQ below Qc XC args s mc ms free) g := by
  intro T hT X
  obtain ⟨t, a1, o, b1, b2, b3, b4⟩ := k T hT X
  exact ⟨t, a1, o, b1, b2, Or.inl ⟨b3, b4⟩⟩
/-- not caught here: it goes on to the caller -/
theorem vx_widen {g : JFrame} {q : Addr} {k n : Nat} (h1 : cells ≤ k) (h2 : slots ≤ n) (kk : vx_W p l e R s m args below meth c H locs k n Q g q) : vx_W p l e R s m args below meth c H locs cells slots Q g q := fun T hT X => kk T hT (stand_widen X h1 h2)
theorem vx_out {pc : Nat} {E : String} {ce : Cell} {q : Addr} {mc ms : Nat} (hout : ∀ x ∈ c.exceptionTable.toList, covers x pc = false) (hlocks : meth.locks = false) (hcell : H[q]? = some ce) (hv : ce.vm = .none) (hcl : s.vm.findClass E = some ce.cls)
    (hx : ∀ t : State, t.heap = H → s.vm.Alike t.vm → XC E s t) (hf : ∀ z ∈ locs, free z.base) (hc : cells ≤ mc) (hs : slots ≤ ms) :
    vx_W p l e R s m args below meth c H locs cells slots (vx_MQ below Qc XC args s mc ms free) (F0 m pc ls rest) q := by
  intro T hT X
  obtain ⟨st1, hrun, hend, hW, hsm⟩ := X.leaveThrown q (g := F0 m pc ls rest) rfl rfl rfl hout hlocks
  have hcell9 : (T.setFrames (.throwing q :: below)).heap[q]? = some ce := by
    show T.heap[q]? = some ce
    rw [hT]; exact hcell
  exact ⟨_, st1, .threw q, hrun, hend, Or.inr ⟨q, rfl, E, ce, locs, hx _ hT hW.alike, hcell9, hv, hcl, hW, hsm.mono hc hs, hf⟩⟩
theorem vx_frame {U : State} {k n : Nat} (h : s.sameButNew ({ U with vm := s.vm } : State) locs k n) : s.heap.size ≤ U.heap.size ∧ ∀ q : Nat, q < s.heap.size → (∀ z ∈ locs, z.base ≠ q) → U.heap[q]? = s.heap[q]? := by
  obtain ⟨-, h2, -, -, -, h6⟩ := h
  refine ⟨h2, fun q hq hz => ?_⟩
  obtain ⟨c9, e1, e2, e3, e4⟩ := h6 q _ (Array.getElem?_eq_getElem hq)
  have hs : c9.slots = (s.heap[q]).slots := Array.ext_getElem? fun i => e4 i fun hm => hz _ hm rfl
  have h9 : c9 = s.heap[q] := by
    rw [hs] at e2
    exact e2
  have e5 : U.heap[q]? = some c9 := e1
  rw [e5, h9, Array.getElem?_eq_getElem hq]
/-- the words of a throw but the four that speak of the heap -/
def vx_no (w : Cond) : Bool := decide (w ≠ .isRef (.static Bundle.tN "UNASSIGNED_STACK" Bundle.steD)) && decide (w ≠ .isRef (.static Bundle.tN "SUPPRESSED_SENTINEL" Bundle.listD)) && decide (w ≠ .laysStatic Bundle.tN "UNASSIGNED_STACK" Bundle.steD) && decide (w ≠ .laysStatic Bundle.tN "SUPPRESSED_SENTINEL" Bundle.listD)
def vx_at0 (own : String) (ic : Nat) (X : String) (names : List String) : List Cond := (Bundle.ownAtoms0 own ic X names).filter vx_no
def vx_atS (own : String) (ic : Nat) (X : String) (names : List String) : List Cond := (Bundle.ownAtoms own ic X names).filter vx_no
/-- a word that the tables alone decide, or a good one -/
def vx_ot (w : Cond) : Bool := w.onTables || goodWord w
theorem vx_ot_at {args a' : Array Value} {s U : State} {w : Cond} (hW : s.WarmedH U.vm) (hvm : s.vm = U.vm) (hg : vx_ot w = true) (h : w.before args s = true) : w.before a' U = true := by
  simp only [vx_ot, Bool.or_eq_true] at hg
  rcases hg with hg | hg
  · exact va_tabs hg hvm h
  · exact word_at hW (good_of_word hg) h
/-- a list's words: the good ones out of the method's own list, the others by premises of their own -/
theorem vx_hat {args : Array Value} {s : State} {L B : List Cond} (h1 : ∀ w ∈ L.filter goodWord, w.before args s = true) (h2 : ∀ w ∈ L.filter (fun w => !goodWord w), w ∈ B) (h3 : ∀ w ∈ B, w.before args s = true) : ∀ w ∈ L, w.before args s = true := by
  intro w hw
  by_cases g : goodWord w = true
  · exact h1 w (List.mem_filter.mpr ⟨hw, g⟩)
  · refine h3 w (h2 w (List.mem_filter.mpr ⟨hw, ?_⟩))
    show (!goodWord w) = true
    cases hgw : goodWord w
    · rfl
    · exact absurd hgw g
theorem vx_c {args : Array Value} {s : State} {w : Cond} {B : List Cond} (h : w.before args s = true) (t : ∀ w ∈ B, w.before args s = true) : ∀ w' ∈ w :: B, w'.before args s = true := fun w' h' => (List.mem_cons.mp h').elim (fun e => by rw [e]; exact h) (t w')
theorem vx_n {args : Array Value} {s : State} : ∀ w ∈ ([] : List Cond), w.before args s = true := fun _ h => nomatch h
theorem vx_own {args : Array Value} {s : State} {L : List Cond} (h1 : ∀ w ∈ L.filter vx_no, w.before args s = true)
    (hU : (Cond.isRef (.static Bundle.tN "UNASSIGNED_STACK" Bundle.steD)).before args s = true) (hN : (Cond.isRef (.static Bundle.tN "SUPPRESSED_SENTINEL" Bundle.listD)).before args s = true)
    (lU : (Cond.laysStatic Bundle.tN "UNASSIGNED_STACK" Bundle.steD).before args s = true) (lN : (Cond.laysStatic Bundle.tN "SUPPRESSED_SENTINEL" Bundle.listD).before args s = true) : ∀ w ∈ L, w.before args s = true := by
  intro w hw
  by_cases e1 : w = .isRef (.static Bundle.tN "UNASSIGNED_STACK" Bundle.steD)
  · rw [e1]; exact hU
  · by_cases e2 : w = .isRef (.static Bundle.tN "SUPPRESSED_SENTINEL" Bundle.listD)
    · rw [e2]; exact hN
    · by_cases e3 : w = .laysStatic Bundle.tN "UNASSIGNED_STACK" Bundle.steD
      · rw [e3]; exact lU
      · by_cases e4 : w = .laysStatic Bundle.tN "SUPPRESSED_SENTINEL" Bundle.listD
        · rw [e4]; exact lN
        · exact h1 w (List.mem_filter.mpr ⟨hw, by unfold vx_no; rw [decide_eq_true e1, decide_eq_true e2, decide_eq_true e3, decide_eq_true e4]; rfl⟩)
/-- where a static field lies, its class's statics cell in H -/
def vx_L (C n d : String) (A : Nat → Prop) (U : State) (H : Heap) : Prop := ∃ (c : ClassId) (k : Class) (i : Nat) (f : Field) (a : Nat) (cell : Cell), U.vm.findClass C = some c ∧ U.fieldFound? C n d = some (c, k, i, f) ∧ f.isStatic = true ∧ k.statics = some a ∧ H[a]? = some cell ∧ cell.vm.isStatics = true ∧ cell.cls = c ∧ f.slot < cell.slots.size ∧ k.staticTypes[f.slot]? = some f.type ∧ ¬ A a
theorem vx_L.moved {C n d : String} {A : Nat → Prop} {u U : State} {H : Heap} (hvm : u.vm.Alike U.vm) (h : vx_L C n d A u H) : vx_L C n d A U H := by
  obtain ⟨c, k, i, f, a, cell, h1, h2, h3, h4, h5, h6, h7, h8, h9, h10⟩ := h
  obtain ⟨k', hi', he⟩ := State.fieldFound?_setVm hvm h2
  exact ⟨c, k', i, f, a, cell, by rw [hvm.findClass]; exact h1, hi', h3, by rw [he]; exact h4, h5, h6, h7, h8, by rw [he]; exact h9, h10⟩
theorem vx_L.kept {C n d : String} {A : Nat → Prop} {U : State} {H H1 : Heap} (h : vx_L C n d A U H) (hq : ∀ a : Nat, a < H.size → ¬ A a → H1[a]? = H[a]?) : vx_L C n d A U H1 := by
  obtain ⟨c, k, i, f, a, cell, h1, h2, h3, h4, h5, h6, h7, h8, h9, h10⟩ := h
  exact ⟨c, k, i, f, a, cell, h1, h2, h3, h4, by rw [hq a (Array.getElem?_eq_some_iff.mp h5).1 h10]; exact h5, h6, h7, h8, h9, h10⟩
theorem vx_L.narrow {C n d : String} {A B : Nat → Prop} {U : State} {H : Heap} (h : vx_L C n d A U H) (hAB : ∀ q, B q → A q) : vx_L C n d B U H := by
  obtain ⟨c, k, i, f, a, cell, h1, h2, h3, h4, h5, h6, h7, h8, h9, h10⟩ := h
  exact ⟨c, k, i, f, a, cell, h1, h2, h3, h4, h5, h6, h7, h8, h9, fun z => h10 (hAB _ z)⟩
theorem vx_L.word {C n d : String} {A : Nat → Prop} {s : State} {args : Array Value} (h : vx_L C n d A s s.heap) : (Cond.laysStatic C n d).before args s = true := by
  obtain ⟨c, k, i, f, a, cell, h1, h2, h3, h4, h5, h6, h7, h8, h9, -⟩ := h
  show (Cond.laysStatic C n d).holds args s none s [] = true
  exact Cond.laysStatic_of h1 h2 h3 h4 h5 h6 h7 h8 h9
/-- .. and what it holds: null or some reference -/
def vx_Zq (C n d : String) (A : Nat → Prop) (U : State) (H : Heap) : Prop := va_Zq C n d A U H ∧ vx_L C n d A U H
theorem vx_Zq.moved {C n d : String} {A : Nat → Prop} {u U : State} {H : Heap} (hvm : u.vm.Alike U.vm) (h : vx_Zq C n d A u H) : vx_Zq C n d A U H := ⟨va_Zq.moved hvm h.1, vx_L.moved hvm h.2⟩
theorem vx_Zq.kept {C n d : String} {A : Nat → Prop} {U : State} {H H1 : Heap} (h : vx_Zq C n d A U H) (hq : ∀ a : Nat, a < H.size → ¬ A a → H1[a]? = H[a]?) : vx_Zq C n d A U H1 := ⟨va_Zq.kept h.1 hq, vx_L.kept h.2 hq⟩
theorem vx_Zq.narrow {C n d : String} {A B : Nat → Prop} {U : State} {H : Heap} (h : vx_Zq C n d A U H) (hAB : ∀ q, B q → A q) : vx_Zq C n d B U H := ⟨va_Zq.narrow h.1 hAB, vx_L.narrow h.2 hAB⟩
theorem vx_Zqof {args : Array Value} {s : State} {C n d : String} {A : Nat → Prop} (hl : (Cond.laysStatic C n d).before args s = true) (hini : (Cond.initialized C).before args s = true) (h : (Cond.isRef (.static C n d)).before args s = true) (hA : ∀ a : Nat, a < s.heap.size → ¬ A a) : vx_Zq C n d A s s.heap := by
  refine ⟨va_Zqof hl hini h hA, ?_⟩
  obtain ⟨c, k, i, f, a, cell, h1, h2, h3, h4, h5, h6, h7, h8, h9⟩ := Cond.laysStatic_spec hl
  exact ⟨c, k, i, f, a, cell, h1, h2, h3, h4, h5, h6, h7, h8, h9, hA a (Array.getElem?_eq_some_iff.mp h5).1⟩
theorem vx_isRef {C n d : String} {v : Value} {A : Nat → Prop} {s : State} {args : Array Value} (h : va_Z C n d v A s s.heap) (hv : v.isRef = true) : (Cond.isRef (.static C n d)).before args s = true := by
  obtain ⟨cf, kf, fi, f, a, cell, h1, h2, h3, h4, h5, h6, h7, -⟩ := h
  have he : (Term.static C n d).eval args s none [] s = some v := by
    simp [Term.eval, State.fieldNamed?, h1, h2, h4, h5, h6, h7]
  simp only [Cond.before, Cond.holds, Cond.value, he]
  cases v <;> simp_all [Value.isRef]
theorem vx_isRefq {C n d : String} {A : Nat → Prop} {s : State} {args : Array Value} (h : va_Zq C n d A s s.heap) : (Cond.isRef (.static C n d)).before args s = true := by
  rcases h with h | ⟨t, h⟩
  · exact vx_isRef h rfl
  · exact vx_isRef h rfl
/-- the same frame, seen from here: as if the method were called anew in this heap -/
theorem vx_rebase {T : State} (X : Stand p l e R s m args below meth c T locs cells slots) {R' : Room} (hf : R'.frames ≤ R.frames) (hl : R'.locals ≤ R.locals) (hc : cells + R'.cells ≤ R.cells) (hs : slots + R'.slots ≤ R.slots) :
    Stand p l e R' ((T.setVm s.vm).setFrames (.invoking m args :: below)) m args below meth c T [] 0 0 := by
  have htop : (T.setVm s.vm).topJava?.isSome := X.here.top
  have hF : ((T.setVm s.vm).setFrames (.invoking m args :: below)).frames = .invoking m args :: below := State.frames_setFrames _ (State.cur_lt_of_top htop)
  obtain ⟨g₀, hg0⟩ := Option.isSome_iff_exists.mp htop
  obtain ⟨r, hr⟩ := State.topJava?_eq_some.mp hg0
  have hl9 : e.platform.stackLimits (T.setVm s.vm).me = e.platform.stackLimits s.me := X.limits
  have hb9 : (T.setVm s.vm).me.stackBytes = s.me.stackBytes := X.bytes
  refine ⟨X.admits, X.cas, X.clock, hF, ?_, X.hears, X.method, X.code, X.here, X.tail, X.warmed, ?_, ?_, ?_⟩
  · have h := X.room
    have hU : ((T.setVm s.vm).setFrames (.invoking m args :: below)).localsInUse = s.localsInUse := by
      rw [State.localsInUse_invoking hF (meth := meth) (c := c) X.method X.code, State.localsInUse_invoking X.frames X.method X.code]
    simp only [State.hasRoom, Bool.and_eq_true, decide_eq_true_eq] at h ⊢
    obtain ⟨⟨⟨⟨h1, h2, h3, h4, h5, h6⟩, h7⟩, h8⟩, h9⟩ := h
    rw [X.frames, List.length_cons] at h2 h3
    have q1 := X.heapSize
    have q2 := X.used
    simp only [hF, hU, List.length_cons, State.stackLimits_setFrames, State.stackBytes_setFrames, hl9, hb9]
    refine ⟨⟨⟨⟨by omega, by omega, by omega, by omega, by omega, h6⟩, ?_⟩, ?_⟩, X.book⟩
    · show T.heap.size + R'.cells ≤ e.platform.maxCells
      omega
    · show T.slotsUsed + R'.slots ≤ e.platform.maxSlots
      omega
  · rw [State.stackLimits_setFrames]; rfl
  · rw [State.stackBytes_setFrames]; rfl
  · refine ⟨?_, Nat.le_refl _, Nat.le_refl _, ?_, ?_, fun a c9 h9 => ⟨c9, h9, rfl, rfl, fun _ _ => rfl⟩⟩
    · obtain ⟨t, ht, -⟩ := State.frames_cons hr
      show T.setVm s.vm = { ((T.setVm s.vm).setFrames (.invoking m args :: below)).setFrames (T.setVm s.vm).frames with heap := T.heap, slotsUsed := T.slotsUsed }
      rw [State.setFrames_setFrames, State.setFrames_self ht]
      rfl
    · show T.slotsUsed = T.slotsUsed + ((T.heap.toList.drop T.heap.size).map (·.slots.size)).sum
      rw [List.drop_eq_nil_of_le (Nat.le_of_eq Array.length_toList)]
      rfl
    · show ((T.heap.toList.drop T.heap.size).map (·.slots.size)).sum ≤ 0
      rw [List.drop_eq_nil_of_le (Nat.le_of_eq Array.length_toList)]
      exact Nat.le_refl _
/-- 'throw new E()': new; dup; invokespecial; athrow -/
theorem vx_throw0 {cc : ByteArray} {pc : Nat} (hexec : p.tables.exec = Jvm.exec) (hb : c.code = cc) (hl : l.stackTraces = false) {own cls : String} {names : List String} {ik ic mc ms : Nat} {A : Nat → Prop}
    (hown : s.vm.findClass own = some m.cls) (hcls : Bundle.fit cls = true) (hnames : ∀ n ∈ names, Bundle.fit n = true)
    (hk : (Cond.classLink own ik cls).before args s = true) (hini : (Cond.initialized cls).before args s = true) (hat : ∀ w ∈ vx_at0 own ic cls names, w.before args s = true)
    (hgood : ∀ w ∈ Cond.classLink own ik cls :: Cond.initialized cls :: vx_at0 own ic cls names, vx_ot w = true)
    (hU : vx_Zq Bundle.tN "UNASSIGNED_STACK" Bundle.steD A s s.heap) (hN : vx_Zq Bundle.tN "SUPPRESSED_SENTINEL" Bundle.listD A s s.heap) (hS : va_S A s.heap H locs) (hsize : ls.size = c.maxLocals)
    (d0 : decode cc pc = .ok (.new ik, 3)) (d3 : decode cc (pc + 3) = .ok (.dup, 1)) (d4 : decode cc (pc + 4) = .ok (.invokespecial ic, 3)) (d7 : decode cc (pc + 7) = .ok (.athrow, 1))
    (hout : ∀ x ∈ c.exceptionTable.toList, covers x (pc + 7) = false)
    (hRframes : names.length + 3 < R.frames) (hRlocals : (rest.map fun v => v.category).sum + (13 * (names.length + 1) + 42) ≤ R.locals) (hRcells : cells + 1 ≤ R.cells) (hRslots : slots + 6 ≤ R.slots) (hlocks : meth.locks = false)
    (hx : ∀ t : State, s.vm.Alike t.vm → H.size ≤ t.heap.size → (∀ q : Nat, q < H.size → t.heap[q]? = H[q]?) → XC cls s t)
    (hf : ∀ z ∈ locs, free z.base) (hc : cells + 1 ≤ mc) (hs : slots + 6 ≤ ms) :
    W p l e R s m args below meth c H locs cells slots (vx_MQ below Qc XC args s mc ms free) (F0 m pc ls rest) := by
  intro T hT X
  have htr : e.platform.stackTraces = false := (show e.platform.stackTraces = l.stackTraces by rw [X.admits.platform]).trans hl
  have Y := vx_rebase X (R' := { frames := R.frames, locals := R.locals, cells := 1, slots := 6 }) (Nat.le_refl _) (Nat.le_refl _) hRcells hRslots
  obtain ⟨s', hA⟩ : ∃ z, z = (T.setVm s.vm).setFrames (.invoking m args :: below) := ⟨_, rfl⟩
  rw [← hA] at Y
  have hvm : s'.vm = s.vm := by rw [hA]; rfl
  have hhp : s'.heap = H := by rw [hA]; exact hT
  have hW0 : s.WarmedH s'.vm := by rw [hvm]; exact State.WarmedH.refl s
  have hat' : ∀ w ∈ vx_at0 own ic cls names, w.before args s' = true := fun w hw => vx_ot_at hW0 hvm.symm (hgood w (List.mem_cons_of_mem _ (List.mem_cons_of_mem _ hw))) (hat w hw)
  have hk' : (Cond.classLink own ik cls).before args s' = true := vx_ot_at hW0 hvm.symm (hgood _ List.mem_cons_self) hk
  have hini' : (Cond.initialized cls).before args s' = true := vx_ot_at hW0 hvm.symm (hgood _ (List.mem_cons_of_mem _ List.mem_cons_self)) hini
  have hU' : vx_Zq Bundle.tN "UNASSIGNED_STACK" Bundle.steD A s' s'.heap := by rw [hhp]; exact vx_Zq.moved hW0.alike (hU.kept hS.2.1)
  have hN' : vx_Zq Bundle.tN "SUPPRESSED_SENTINEL" Bundle.listD A s' s'.heap := by rw [hhp]; exact vx_Zq.moved hW0.alike (hN.kept hS.2.1)
  have h : ∀ w ∈ Bundle.ownAtoms0 own ic cls names, w.before args s' = true := vx_own hat' (vx_isRefq hU'.1) (vx_isRefq hN'.1) hU'.2.word hN'.2.word
  have hown' : s'.vm.findClass own = some m.cls := by rw [hvm]; exact hown
  have hins : (Cond.instantiable cls 6).before args s' = true := h _ (by simp [Bundle.ownAtoms0])
  obtain ⟨vm₁, cX, kX, hfX, hkX, -, -, X₁, st1⟩ := Y.newCold hexec (own := own) (C := cls) (index := ik) (n := 6) hown' hk' hins hini'
    (g := F0 m pc ls rest) rfl (by rw [hb]; exact d0) (Nat.le_refl _) (Nat.le_refl _)
  generalize hT1 : (T.setVm vm₁).pushCell { cls := cX, slots := kX.instanceTypes.map defaultValue, vm := .none } = T1 at X₁ st1
  have hcat : (Value.ref T.heap.size).category = 1 := rfl
  have hcellA : T1.heap[T.heap.size]? = some (freshCell cX kX) := by rw [← hT1]; exact State.heap_pushCell_size _ _
  have d3' : decode c.code (pc + 3) = .ok (.dup, 1) := by rw [hb]; exact d3
  obtain ⟨U, hsteps, hrun, hend, hW, hsame, ce, hce, hO⟩ := X₁.ctorThrow0 hexec htr (own := own) (cls := cls) (names := names) (ic := ic) hown' hcls hnames h (fun x hx => nomatch hx) hfX hkX hcellA (by rw [hhp, hT]; exact Nat.le_refl _)
    (g := { method := m, pc := pc + 4, locals := ls, stack := .ref T.heap.size :: .ref T.heap.size :: rest, locked := none }) rfl hsize rfl rfl (rest := rest) rfl
    (by rw [hb]; exact d4) (by rw [hb]; exact d7) hout hRframes (by simp only [List.map_cons, List.sum_cons, hcat]; omega) hlocks
  obtain ⟨f1, f2⟩ := vx_frame hsame
  rw [hhp] at f1 f2
  have hWs : s.WarmedH U.vm := State.WarmedH.trans hW0 hW
  have hcl : s.vm.findClass cls = some ce.cls := by
    have h9 := hO.cls
    rw [hvm] at h9
    exact h9
  have hall : s.sameButNew ({ U with vm := s.vm } : State) locs mc ms := by
    subst hA
    obtain ⟨e1, e2⟩ := hsame
    rw [State.setFrames_setFrames] at e1
    have h2 : (T.setVm s.vm).sameButNew ({ U with vm := s.vm } : State) [] (0 + 1) (0 + 6) := ⟨e1, e2⟩
    have h3 := X.same.trans h2
    rw [List.append_nil] at h3
    exact h3.mono hc hs
  refine ⟨U, ?_, .threw T.heap.size, hrun, hend, Or.inr ⟨T.heap.size, rfl, cls, ce, locs, hx U hWs.alike f1 (fun q hq => f2 q hq (fun z hz => nomatch hz)), hce, hO.vm, hcl, hWs, hall, hf⟩⟩
  refine st1 _ ?_
  show Steps p.tables e below (T1.setTop { method := m, pc := pc + 3, locals := ls, stack := .ref T.heap.size :: rest, locked := none }) _
  jvm_step X₁.here [X₁.here.top, hexec, d3', Value.category]
  exact hsteps
/-- 'throw new E("text")': new; dup; ldc; invokespecial; athrow -/
theorem vx_throwS {cc : ByteArray} {pc : Nat} (hexec : p.tables.exec = Jvm.exec) (hb : c.code = cc) (hl : l.stackTraces = false) {own cls text : String} {names : List String} {ik is ic mc ms sa : Nat} {A : Nat → Prop}
    (hown : s.vm.findClass own = some m.cls) (hcls : Bundle.fit cls = true) (hnames : ∀ n ∈ names, Bundle.fit n = true)
    (hk : (Cond.classLink own ik cls).before args s = true) (hini : (Cond.initialized cls).before args s = true) (hstr : vk_R own is text sa s) (hat : ∀ w ∈ vx_atS own ic cls names, w.before args s = true)
    (hgood : ∀ w ∈ Cond.classLink own ik cls :: Cond.initialized cls :: vx_atS own ic cls names, vx_ot w = true)
    (hU : vx_Zq Bundle.tN "UNASSIGNED_STACK" Bundle.steD A s s.heap) (hN : vx_Zq Bundle.tN "SUPPRESSED_SENTINEL" Bundle.listD A s s.heap) (hS : va_S A s.heap H locs) (hsize : ls.size = c.maxLocals)
    (d0 : decode cc pc = .ok (.new ik, 3)) (d3 : decode cc (pc + 3) = .ok (.dup, 1)) (d4 : decode cc (pc + 4) = .ok (.ldc is, 2)) (d6 : decode cc (pc + 6) = .ok (.invokespecial ic, 3)) (d9 : decode cc (pc + 9) = .ok (.athrow, 1))
    (hout : ∀ x ∈ c.exceptionTable.toList, covers x (pc + 9) = false)
    (hRframes : names.length + 3 < R.frames) (hRlocals : (rest.map fun v => v.category).sum + (13 * (names.length + 1) + 43) ≤ R.locals) (hRcells : cells + 1 ≤ R.cells) (hRslots : slots + 6 ≤ R.slots) (hlocks : meth.locks = false)
    (hx : ∀ t : State, s.vm.Alike t.vm → H.size ≤ t.heap.size → (∀ q : Nat, q < H.size → t.heap[q]? = H[q]?) → XC cls s t)
    (hf : ∀ z ∈ locs, free z.base) (hc : cells + 1 ≤ mc) (hs : slots + 6 ≤ ms) :
    W p l e R s m args below meth c H locs cells slots (vx_MQ below Qc XC args s mc ms free) (F0 m pc ls rest) := by
  intro T hT X
  have htr : e.platform.stackTraces = false := (show e.platform.stackTraces = l.stackTraces by rw [X.admits.platform]).trans hl
  have Y := vx_rebase X (R' := { frames := R.frames, locals := R.locals, cells := 1, slots := 6 }) (Nat.le_refl _) (Nat.le_refl _) hRcells hRslots
  obtain ⟨s', hA⟩ : ∃ z, z = (T.setVm s.vm).setFrames (.invoking m args :: below) := ⟨_, rfl⟩
  rw [← hA] at Y
  have hvm : s'.vm = s.vm := by rw [hA]; rfl
  have hhp : s'.heap = H := by rw [hA]; exact hT
  have hW0 : s.WarmedH s'.vm := by rw [hvm]; exact State.WarmedH.refl s
  have hat' : ∀ w ∈ vx_atS own ic cls names, w.before args s' = true := fun w hw => vx_ot_at hW0 hvm.symm (hgood w (List.mem_cons_of_mem _ (List.mem_cons_of_mem _ hw))) (hat w hw)
  have hk' : (Cond.classLink own ik cls).before args s' = true := vx_ot_at hW0 hvm.symm (hgood _ List.mem_cons_self) hk
  have hini' : (Cond.initialized cls).before args s' = true := vx_ot_at hW0 hvm.symm (hgood _ (List.mem_cons_of_mem _ List.mem_cons_self)) hini
  have hU' : vx_Zq Bundle.tN "UNASSIGNED_STACK" Bundle.steD A s' s'.heap := by rw [hhp]; exact vx_Zq.moved hW0.alike (hU.kept hS.2.1)
  have hN' : vx_Zq Bundle.tN "SUPPRESSED_SENTINEL" Bundle.listD A s' s'.heap := by rw [hhp]; exact vx_Zq.moved hW0.alike (hN.kept hS.2.1)
  have h : ∀ w ∈ Bundle.ownAtoms own ic cls names, w.before args s' = true := vx_own hat' (vx_isRefq hU'.1) (vx_isRefq hN'.1) hU'.2.word hN'.2.word
  have hown' : s'.vm.findClass own = some m.cls := by rw [hvm]; exact hown
  have hins : (Cond.instantiable cls 6).before args s' = true := h _ (by simp [Bundle.ownAtoms])
  obtain ⟨vm₁, cX, kX, hfX, hkX, -, -, X₁, st1⟩ := Y.newCold hexec (own := own) (C := cls) (index := ik) (n := 6) hown' hk' hins hini'
    (g := F0 m pc ls rest) rfl (by rw [hb]; exact d0) (Nat.le_refl _) (Nat.le_refl _)
  generalize hT1 : (T.setVm vm₁).pushCell { cls := cX, slots := kX.instanceTypes.map defaultValue, vm := .none } = T1 at X₁ st1
  have hcat : (Value.ref T.heap.size).category = 1 := rfl
  have hcellA : T1.heap[T.heap.size]? = some (freshCell cX kX) := by rw [← hT1]; exact State.heap_pushCell_size _ _
  have d3' : decode c.code (pc + 3) = .ok (.dup, 1) := by rw [hb]; exact d3
  have d4' : decode c.code (pc + 4) = .ok (.ldc is, 2) := by rw [hb]; exact d4
  have hstr' : vk_R own is text sa s' := vk_R.warm hW0 hstr
  obtain ⟨U, hsteps, hrun, hend, hW, hsame, ce, hce, hO⟩ := X₁.ctorThrowS hexec htr (own := own) (cls := cls) (names := names) (ic := ic) hown' hcls hnames h (fun x hx => nomatch hx) hfX hkX hcellA (by rw [hhp, hT]; exact Nat.le_refl _) (msg := .ref sa) rfl
    (g := { method := m, pc := pc + 6, locals := ls, stack := .ref sa :: .ref T.heap.size :: .ref T.heap.size :: rest, locked := none }) rfl hsize rfl rfl (rest := rest) rfl
    (by rw [hb]; exact d6) (by rw [hb]; exact d9) hout hRframes (by simp only [List.map_cons, List.sum_cons, hcat]; omega) hlocks
  obtain ⟨f1, f2⟩ := vx_frame hsame
  rw [hhp] at f1 f2
  have hWs : s.WarmedH U.vm := State.WarmedH.trans hW0 hW
  have hcl : s.vm.findClass cls = some ce.cls := by
    have h9 := hO.cls
    rw [hvm] at h9
    exact h9
  have hall : s.sameButNew ({ U with vm := s.vm } : State) locs mc ms := by
    subst hA
    obtain ⟨e1, e2⟩ := hsame
    rw [State.setFrames_setFrames] at e1
    have h2 : (T.setVm s.vm).sameButNew ({ U with vm := s.vm } : State) [] (0 + 1) (0 + 6) := ⟨e1, e2⟩
    have h3 := X.same.trans h2
    rw [List.append_nil] at h3
    exact h3.mono hc hs
  refine ⟨U, ?_, .threw T.heap.size, hrun, hend, Or.inr ⟨T.heap.size, rfl, cls, ce, locs, hx U hWs.alike f1 (fun q hq => f2 q hq (fun z hz => nomatch hz)), hce, hO.vm, hcl, hWs, hall, hf⟩⟩
  refine st1 _ ?_
  show Steps p.tables e below (T1.setTop { method := m, pc := pc + 3, locals := ls, stack := .ref T.heap.size :: rest, locked := none }) _
  jvm_step X₁.here [X₁.here.top, hexec, d3', Value.category]
  exact X₁.ldcString hexec (own := own) (text := text) (index := is) (a := sa) hown' hstr'.1 hstr'.2
    (g := { method := m, pc := pc + 4, locals := ls, stack := .ref T.heap.size :: .ref T.heap.size :: rest, locked := none }) rfl d4' _ hsteps
/-- 'throw new E("text")', the text by a wide index -/
theorem vx_throwSW {cc : ByteArray} {pc : Nat} (hexec : p.tables.exec = Jvm.exec) (hb : c.code = cc) (hl : l.stackTraces = false) {own cls text : String} {names : List String} {ik is ic mc ms sa : Nat} {A : Nat → Prop}
    (hown : s.vm.findClass own = some m.cls) (hcls : Bundle.fit cls = true) (hnames : ∀ n ∈ names, Bundle.fit n = true)
    (hk : (Cond.classLink own ik cls).before args s = true) (hini : (Cond.initialized cls).before args s = true) (hstr : vk_R own is text sa s) (hat : ∀ w ∈ vx_atS own ic cls names, w.before args s = true)
    (hgood : ∀ w ∈ Cond.classLink own ik cls :: Cond.initialized cls :: vx_atS own ic cls names, vx_ot w = true)
    (hU : vx_Zq Bundle.tN "UNASSIGNED_STACK" Bundle.steD A s s.heap) (hN : vx_Zq Bundle.tN "SUPPRESSED_SENTINEL" Bundle.listD A s s.heap) (hS : va_S A s.heap H locs) (hsize : ls.size = c.maxLocals)
    (d0 : decode cc pc = .ok (.new ik, 3)) (d3 : decode cc (pc + 3) = .ok (.dup, 1)) (d4 : decode cc (pc + 4) = .ok (.ldc_w is, 3)) (d7 : decode cc (pc + 7) = .ok (.invokespecial ic, 3)) (d10 : decode cc (pc + 10) = .ok (.athrow, 1))
    (hout : ∀ x ∈ c.exceptionTable.toList, covers x (pc + 10) = false)
    (hRframes : names.length + 3 < R.frames) (hRlocals : (rest.map fun v => v.category).sum + (13 * (names.length + 1) + 43) ≤ R.locals) (hRcells : cells + 1 ≤ R.cells) (hRslots : slots + 6 ≤ R.slots) (hlocks : meth.locks = false)
    (hx : ∀ t : State, s.vm.Alike t.vm → H.size ≤ t.heap.size → (∀ q : Nat, q < H.size → t.heap[q]? = H[q]?) → XC cls s t)
    (hf : ∀ z ∈ locs, free z.base) (hc : cells + 1 ≤ mc) (hs : slots + 6 ≤ ms) :
    W p l e R s m args below meth c H locs cells slots (vx_MQ below Qc XC args s mc ms free) (F0 m pc ls rest) := by
  intro T hT X
  have htr : e.platform.stackTraces = false := (show e.platform.stackTraces = l.stackTraces by rw [X.admits.platform]).trans hl
  have Y := vx_rebase X (R' := { frames := R.frames, locals := R.locals, cells := 1, slots := 6 }) (Nat.le_refl _) (Nat.le_refl _) hRcells hRslots
  obtain ⟨s', hA⟩ : ∃ z, z = (T.setVm s.vm).setFrames (.invoking m args :: below) := ⟨_, rfl⟩
  rw [← hA] at Y
  have hvm : s'.vm = s.vm := by rw [hA]; rfl
  have hhp : s'.heap = H := by rw [hA]; exact hT
  have hW0 : s.WarmedH s'.vm := by rw [hvm]; exact State.WarmedH.refl s
  have hat' : ∀ w ∈ vx_atS own ic cls names, w.before args s' = true := fun w hw => vx_ot_at hW0 hvm.symm (hgood w (List.mem_cons_of_mem _ (List.mem_cons_of_mem _ hw))) (hat w hw)
  have hk' : (Cond.classLink own ik cls).before args s' = true := vx_ot_at hW0 hvm.symm (hgood _ List.mem_cons_self) hk
  have hini' : (Cond.initialized cls).before args s' = true := vx_ot_at hW0 hvm.symm (hgood _ (List.mem_cons_of_mem _ List.mem_cons_self)) hini
  have hU' : vx_Zq Bundle.tN "UNASSIGNED_STACK" Bundle.steD A s' s'.heap := by rw [hhp]; exact vx_Zq.moved hW0.alike (hU.kept hS.2.1)
  have hN' : vx_Zq Bundle.tN "SUPPRESSED_SENTINEL" Bundle.listD A s' s'.heap := by rw [hhp]; exact vx_Zq.moved hW0.alike (hN.kept hS.2.1)
  have h : ∀ w ∈ Bundle.ownAtoms own ic cls names, w.before args s' = true := vx_own hat' (vx_isRefq hU'.1) (vx_isRefq hN'.1) hU'.2.word hN'.2.word
  have hown' : s'.vm.findClass own = some m.cls := by rw [hvm]; exact hown
  have hins : (Cond.instantiable cls 6).before args s' = true := h _ (by simp [Bundle.ownAtoms])
  obtain ⟨vm₁, cX, kX, hfX, hkX, -, -, X₁, st1⟩ := Y.newCold hexec (own := own) (C := cls) (index := ik) (n := 6) hown' hk' hins hini'
    (g := F0 m pc ls rest) rfl (by rw [hb]; exact d0) (Nat.le_refl _) (Nat.le_refl _)
  generalize hT1 : (T.setVm vm₁).pushCell { cls := cX, slots := kX.instanceTypes.map defaultValue, vm := .none } = T1 at X₁ st1
  have hcat : (Value.ref T.heap.size).category = 1 := rfl
  have hcellA : T1.heap[T.heap.size]? = some (freshCell cX kX) := by rw [← hT1]; exact State.heap_pushCell_size _ _
  have d3' : decode c.code (pc + 3) = .ok (.dup, 1) := by rw [hb]; exact d3
  have d4' : decode c.code (pc + 4) = .ok (.ldc_w is, 3) := by rw [hb]; exact d4
  have hstr' : vk_R own is text sa s' := vk_R.warm hW0 hstr
  obtain ⟨U, hsteps, hrun, hend, hW, hsame, ce, hce, hO⟩ := X₁.ctorThrowS hexec htr (own := own) (cls := cls) (names := names) (ic := ic) hown' hcls hnames h (fun x hx => nomatch hx) hfX hkX hcellA (by rw [hhp, hT]; exact Nat.le_refl _) (msg := .ref sa) rfl
    (g := { method := m, pc := pc + 7, locals := ls, stack := .ref sa :: .ref T.heap.size :: .ref T.heap.size :: rest, locked := none }) rfl hsize rfl rfl (rest := rest) rfl
    (by rw [hb]; exact d7) (by rw [hb]; exact d10) hout hRframes (by simp only [List.map_cons, List.sum_cons, hcat]; omega) hlocks
  obtain ⟨f1, f2⟩ := vx_frame hsame
  rw [hhp] at f1 f2
  have hWs : s.WarmedH U.vm := State.WarmedH.trans hW0 hW
  have hcl : s.vm.findClass cls = some ce.cls := by
    have h9 := hO.cls
    rw [hvm] at h9
    exact h9
  have hall : s.sameButNew ({ U with vm := s.vm } : State) locs mc ms := by
    subst hA
    obtain ⟨e1, e2⟩ := hsame
    rw [State.setFrames_setFrames] at e1
    have h2 : (T.setVm s.vm).sameButNew ({ U with vm := s.vm } : State) [] (0 + 1) (0 + 6) := ⟨e1, e2⟩
    have h3 := X.same.trans h2
    rw [List.append_nil] at h3
    exact h3.mono hc hs
  refine ⟨U, ?_, .threw T.heap.size, hrun, hend, Or.inr ⟨T.heap.size, rfl, cls, ce, locs, hx U hWs.alike f1 (fun q hq => f2 q hq (fun z hz => nomatch hz)), hce, hO.vm, hcl, hWs, hall, hf⟩⟩
  refine st1 _ ?_
  show Steps p.tables e below (T1.setTop { method := m, pc := pc + 3, locals := ls, stack := .ref T.heap.size :: rest, locked := none }) _
  jvm_step X₁.here [X₁.here.top, hexec, d3', Value.category]
  exact X₁.ldcStringW hexec (own := own) (text := text) (index := is) (a := sa) hown' hstr'.1 hstr'.2
    (g := { method := m, pc := pc + 4, locals := ls, stack := .ref T.heap.size :: .ref T.heap.size :: rest, locked := none }) rfl d4' _ hsteps
end Ends
section Bodies
variable {l : Launch}
theorem vx_ofW {y : MethodName} {ws ws' : List Cond} {rm : Room} {Pc : Array Value → State → Prop} {Qc : Array Value → State → Outcome → State → Prop} {XC : String → State → State → Prop} {mc ms : Nat} {free : Addr → Prop} {cc : ByteArray} {maxL : Nat} {ret : Option FieldType}
    (hy : plainName y.cls = true) (hw : ws = Cond.code y cc maxL ret :: ws')
    (body : ∀ p e s m args below meth c s₁, BodyLoose p l y (headSpec ws rm) cc maxL ret e s m args below meth c s₁ → c.maxLocals = maxL → (∀ x ∈ c.exceptionTable.toList, False) → Pc args s →
      W p l e (headSpec ws rm).room s m args below meth c s.heap [] 0 0 (vx_MQ below Qc XC args s mc ms free) (entryFrame m args maxL)) : vx_Met l y ws rm Pc Qc XC mc ms free := by
  refine MetFree.of_bodyS (code := cc) (maxLocals := maxL) (ret := ret) hy ?_ ?_
  · intro args s m h hn
    obtain ⟨meth, c, h1, h2, h3, h4, h5, h6, -, -⟩ := Cond.code_spec hn (atoms_spec (ws := ws) h _ (by rw [hw]; exact List.mem_cons_self))
    exact ⟨meth, c, h1, h2, h3, h4, h5, h6⟩
  · intro p e s m args below meth c s₁ B hml hP _
    have hh0 : s₁.heap = s.heap := by rw [B.state]; rfl
    have ht : ∀ x ∈ c.exceptionTable.toList, False := by
      obtain ⟨meth9, c9, h1, h2, -, -, -, -, h7, -⟩ := Cond.code_spec B.named (atoms_spec (ws := ws) B.pre _ (by rw [hw]; exact List.mem_cons_self))
      cases Option.some.inj (h1.symm.trans B.method)
      cases Option.some.inj (h2.symm.trans (Stand.of_body B).code)
      intro x hx
      rw [Array.isEmpty_iff.mp h7] at hx
      cases hx
    obtain ⟨t, a1, o, b1, b2, b3⟩ := body p e s m args below meth c s₁ B hml ht hP s₁ hh0 (Stand.of_body B)
    exact ⟨t, o, a1, b1, b2, b3⟩
/-- the table of a body with handlers -/
theorem vx_table {p : Program} {x y : MethodName} {S : Spec} {cc bytes : ByteArray} {maxL maxL' : Nat} {ret ret' : Option FieldType} {e : Env} {s s₁ : State} {m : MethodId} {args : Array Value} {below : List Frame} {meth : Method} {c : Code} {hh : List (Nat × Nat × Nat × Nat)}
    (B : BodyLoose p l y S cc maxL ret e s m args below meth c s₁) (h : (Cond.codeWith y bytes maxL' ret' hh).before args s = true) : c.exceptionTable.toList = tableOf hh := by
  obtain ⟨m9, meth9, c9, hn9, h1, h2, -, -, h6, -⟩ := Cond.codeWith_spec h
  cases Option.some.inj (hn9.symm.trans B.named)
  cases Option.some.inj (h1.symm.trans B.method)
  cases Option.some.inj (h2.symm.trans (Stand.of_body B).code)
  rw [← h6, table_eq]
end Bodies
end VXA
/-! ===== END ===== -/
/-! ===== BEGIN a static call of a method with an exception table ===== -/
section VXS
variable {p : Program} {l : Launch} {e : Env} {R : Room} {s : State} {m : MethodId} {args : Array Value} {below : List Frame} {meth : Method} {c : Code} {T : State} {H : Heap} {locs : List Loc} {cells slots : Nat}
abbrev vx_CSW (R : Room) (s : State) (args : Array Value) (own : String) (index : Nat) (y : MethodName) (bytes : ByteArray) (maxL : Nat) (ret : Option FieldType) (hh : List (Nat × Nat × Nat × Nat)) (ws : List Cond) (rm : Room) (mc ms n : Nat) : Prop :=
  (rm.cells = mc ∧ rm.slots = ms ∧ rm.frames + 1 ≤ R.frames ∧ 8 + (maxL + 11) + rm.locals ≤ R.locals ∧ (∀ w ∈ ws, ∀ (a' : Array Value) (U : State), s.WarmedH U.vm → w.before a' U = true) ∧ Cond.codeWith y bytes maxL ret hh ∈ ws) ∧
  (Cond.codeWith y bytes maxL ret hh).before args s = true ∧ (Cond.initialized y.cls).before args s = true ∧ (y.cls ≠ "java/lang/invoke/MethodHandle" ∧ y.cls ≠ "java/lang/invoke/VarHandle") ∧
  (∀ sig, parseMethodDescriptor y.desc = some sig → n = sig.parameters.length) ∧ (Cond.methodLink own index y).before args s = true ∧ (Cond.static y).before args s = true
theorem vx_cwSW {own : String} {index maxL mc ms : Nat} {y : MethodName} {bytes : ByteArray} {ret : Option FieldType} {hh : List (Nat × Nat × Nat × Nat)} {Ts ws ws' : List Cond} {rm : Room} (n : Nat) (ht : ∀ w ∈ Ts, w.before args s = true) (hT : GoodIn Ts (va_wsS own index y ws)) (hw : ws = Cond.codeWith y bytes maxL ret hh :: ws') (hrc : rm.cells = mc) (hrs : rm.slots = ms)
    (hd : y.cls ≠ "java/lang/invoke/MethodHandle" ∧ y.cls ≠ "java/lang/invoke/VarHandle" ∧ (parseMethodDescriptor y.desc).map (fun d => d.parameters.length) = some n) (hR : rm.frames + 1 ≤ R.frames ∧ 8 + (maxL + 11) + rm.locals ≤ R.locals) :
    vx_CSW R s args own index y bytes maxL ret hh ws rm mc ms n := by
  have ok : ∀ w ∈ va_wsS own index y ws, w.before args s = true := fun w h => ht w (hT w h).1
  have hG : GoodIn Ts ws := fun w h => hT w (by unfold va_wsS; exact List.mem_append_right _ h)
  have hc : Cond.codeWith y bytes maxL ret hh ∈ ws := by rw [hw]; exact List.mem_cons_self
  refine ⟨⟨hrc, hrs, hR.1, hR.2, pay_in ht hG, hc⟩, ht _ (hG _ hc).1, ok _ (by simp [va_wsS]), ⟨hd.1, hd.2.1⟩, fun sig h => ?_, ok _ (by simp [va_wsS]), ok _ (by simp [va_wsS])⟩
  have h2 := hd.2.2
  rw [h] at h2
  exact (Option.some.inj h2).symm
theorem vx_callSW (X : Stand p l e R s m args below meth c T locs cells slots) (hexec : p.tables.exec = Jvm.exec) {own : String} {index : Nat} {y : MethodName} {bytes : ByteArray} {maxL : Nat} {ret : Option FieldType} {hh : List (Nat × Nat × Nat × Nat)}
    (hown : s.vm.findClass own = some m.cls) (hlink : (Cond.methodLink own index y).before args s = true) (hstat : (Cond.static y).before args s = true) (hinit : (Cond.initialized y.cls).before args s = true)
    (hcode : (Cond.codeWith y bytes maxL ret hh).before args s = true) (hy : y.cls ≠ "java/lang/invoke/MethodHandle" ∧ y.cls ≠ "java/lang/invoke/VarHandle")
    {W9 : Nat} {Pre : Pt → Array Value → Prop} {Post : Pt → Array Value → Option Value → Pt → Prop} (hK : Back l R p e below s args y 3 W9 Pre Post)
    {g : JFrame} (hg : g.method = m) (hsize : g.locals.size = c.maxLocals) {argsL rest : List Value} (hlen : ∀ sig, parseMethodDescriptor y.desc = some sig → argsL.length = sig.parameters.length)
    (hstack : g.stack = argsL.reverse ++ rest) (hW : 2 * g.monitorRoom + (rest.map fun v => v.category).sum ≤ W9) (hdg : decode c.code g.pc = .ok (.invokestatic index, 3))
    (hpre : ∀ vm₁, s.WarmedH vm₁ → Pre ⟨T.setVm vm₁, locs, cells, slots⟩ argsL.toArray) :
    ∃ (v : Option Value) (vm₁ : Vm) (B : Pt), s.WarmedH vm₁ ∧ Stand p l e R s m args below meth c B.U B.locs B.cells B.slots ∧ Post ⟨T.setVm vm₁, locs, cells, slots⟩ argsL.toArray v B ∧
      ∀ target, Steps p.tables e below (B.U.setTop { g with pc := g.pc + 3, stack := v.toList ++ rest }) target → Steps p.tables e below (T.setTop g) target := by
  obtain ⟨mk, methM, cM, hnamed, hmethM, -, -, -, -, -, -, hsigM⟩ := Cond.codeWith_spec hcode
  have hstatic : methM.isStatic = true := Cond.static_spec hnamed hmethM hstat
  obtain ⟨kP, hkP, -⟩ := className_of_methodNamed hnamed
  have hinitP : kP.init = .initialized := Cond.initialized_spec (findClass_of_methodNamed hnamed) hkP hinit
  obtain ⟨vm₁, X₁, hstep₁⟩ := X.invokestatic hexec hown hlink hnamed hmethM hstatic hkP hinitP hy (g := g) hg (argsL := argsL) (rest := rest) (hlen _ hsigM) hstack hdg
  obtain ⟨v, B, X', hpost, hsteps⟩ := hK m meth c ⟨T.setVm vm₁, locs, cells, slots⟩ { g with stack := rest } (.invokestatic index) mk argsL.toArray X₁ hg hsize hdg hW (X₁.named hnamed) (hpre vm₁ X₁.warmed)
  exact ⟨v, vm₁, B, X₁.warmed, X', hpost, fun target h => hstep₁ _ fun acts => by rw [doInvoke_state]; exact hsteps.trans h⟩
theorem vx_runSW {y : MethodName} {bytes cc : ByteArray} {maxL nL mc ms n index : Nat} {ret : Option FieldType} {hh : List (Nat × Nat × Nat × Nat)} {ws : List Cond} {rm : Room} {Pc : Array Value → State → Prop} {Qc : Array Value → State → Outcome → State → Prop} {free : Addr → Prop} {Ts : List Cond} {own : String} {As rest : List Value} {g : JFrame}
    (S : CallFix p m c cc nL s args Ts own) (hM : Met l y ws rm Pc Qc mc ms free) (cw : vx_CSW R s args own index y bytes maxL ret hh ws rm mc ms n) (hp : PreS s H Pc As)
    (hg : g.method = m) (hn : As.length = n) (hsize : g.locals.size = nL) (hstack : g.stack = As.reverse ++ rest) (hW : 2 * g.monitorRoom + (rest.map fun v => v.category).sum ≤ 8) (hdg : decode cc g.pc = .ok (.invokestatic index, 3)) (hf : cells + mc ≤ R.cells ∧ slots + ms ≤ R.slots) :
    va_Run p l e R s m args below meth c H locs cells slots mc ms g rest (Qc As.toArray) (free) := by
  obtain ⟨⟨hrc, hrs, hfr, hlo, hws, hcw⟩, hcode, hini, hy, hlen, hl, hstt⟩ := cw
  have hK : Back l R p e below s args y 3 8 (PreOf R mc ms Pc) (PostOf Qc mc ms free) := va_backW (hh := hh) (bytes := bytes) (maxL := maxL) (ret := ret) hM hp.1 hrc hrs hfr hlo hws hcw (fun a' U hW => word_at hW (Or.inl (by first | rfl | simp [Cond.onTables, Cond.keeps, Cond.steady])) hini)
  obtain ⟨hx, hb, hml, ho, -⟩ := S
  intro T hT X
  obtain ⟨v, vm₁, ⟨U', l2, c2, s2⟩, hW₁, X', ⟨g', mk, t, L, e1, e2, hq, h1, hL, h2, h3⟩, st⟩ := vx_callSW X hx (hh := hh) (bytes := bytes) (maxL := maxL) (ret := ret) ho hl hstt hini hcode hy hK hg (hsize.trans hml.symm) (argsL := As) (rest := rest) (fun sig h => hn.trans (hlen sig h)) hstack hW (by rw [hb]; exact hdg)
    (fun vm₁ hW₁ => ⟨hf.1, hf.2, hp.2 (T.setVm vm₁) hT hW₁⟩)
  dsimp only [Pt.U, Pt.locs, Pt.cells, Pt.slots] at X' e1 e2 h1 h2 h3 st
  subst h1; subst h2; subst h3
  exact ⟨v, (T.setVm vm₁).calling g' mk As.toArray, t, U', L, hT, X', hL, e1, e2, hq, st⟩
/-- not caught here, past rows that name other classes: it goes on to the caller -/
theorem vx_outP {p : Program} {l : Launch} {e : Env} {R : Room} {s : State} {m : MethodId} {args : Array Value} {below : List Frame} {meth : Method} {c : Code} {H : Heap} {locs : List Loc} {cells slots : Nat} {free : Addr → Prop} {ls : Array Slot} {rest : List Value} {Qc : Array Value → State → Outcome → State → Prop} {XC : String → State → State → Prop}
    {pc : Nat} {own E : String} {ce : Cell} {q : Addr} {mc ms : Nat} (hown : s.vm.findClass own = some m.cls) (hlocks : meth.locks = false)
    (hpass : ∀ z ∈ c.exceptionTable.toList, covers z pc = false ∨ (z.catchType ≠ 0 ∧ ∃ nm : String, (Cond.classLink own z.catchType nm).before args s = true ∧ va_Nc E nm s)) (hcell : H[q]? = some ce) (hv : ce.vm = .none) (hcl : s.vm.findClass E = some ce.cls)
    (hx : ∀ t : State, t.heap = H → s.vm.Alike t.vm → XC E s t) (hf : ∀ z ∈ locs, free z.base) (hc : cells ≤ mc) (hs : slots ≤ ms) :
    vx_W p l e R s m args below meth c H locs cells slots (vx_MQ below Qc XC args s mc ms free) (F0 m pc ls rest) q := by
  intro T hT X
  have hpl : e.platform.magicAccessors = ({} : Platform).magicAccessors := by rw [X.admits.platform]
  obtain ⟨vm', hW', X', st⟩ := X.outThrough hlocks q (g := F0 m pc ls rest) rfl rfl rfl (cell := ce) (by rw [hT]; exact hcell) (by rw [hv]; rfl)
    (by obtain ⟨k9, h9, -⟩ := Vm.findClass_spec hcl; exact ⟨k9, h9⟩) (fun z hz => by
      rcases hpass z hz with h | ⟨hz0, nm, hl1, hn1⟩
      · exact Or.inl h
      · obtain ⟨c6, hc6, hcl6⟩ := Cond.classLink_spec hown hl1 e.platform hpl
        obtain ⟨a8, b8, h1, h2, h3⟩ := hn1
        cases Option.some.inj (h1.symm.trans hcl)
        cases Option.some.inj (h2.symm.trans hc6)
        exact Or.inr ⟨hz0, _, hcl6, h3⟩)
  obtain ⟨g₀, hfr⟩ := X'.frames_eq
  have hcell9 : ((T.setVm vm').setFrames (.throwing q :: below)).heap[q]? = some ce := by
    show T.heap[q]? = some ce
    rw [hT]; exact hcell
  have hend : Ended ((T.setVm vm').setFrames (.throwing q :: below)) below (.threw q) := State.frames_setFrames _ (State.cur_lt_of_frames hfr)
  refine ⟨(T.setVm vm').setFrames (.throwing q :: below), ?_, .threw q, X'.here.running, hend, Or.inr ⟨q, rfl, E, ce, locs, hx _ hT (X'.ends _).1.alike, hcell9, hv, hcl, (X'.ends _).1, (X'.ends _).2.mono hc hs, hf⟩⟩
  rw [X.pushThrowing_eq]
  exact st
/-- a thing of a world lies in the heap -/
theorem vx_lt {D : va_G} {cl : List vw_C} {ws : va_W} {H1 : Heap} (h : va_P D cl ws H1) {k : Nat} {q : Nat × va_E} (hk : ws[k]? = some q) : q.1 < H1.size := (h k q hk).lt
end VXS
/-! ===== END ===== -/
/-! ===== BEGIN methods with a table of their own: called by a name, returning or throwing ===== -/
section VXH
/-! vx_backW, vx_callVX, vx_callSX, vx_callVW, vx_runVW, vx_runVX, vx_runSX, vx_ofWH follow the same proofs as their sisters above (Free/Laws.lean, Shelf42/LK1.lean); vx_outP calls Shelf42/NT130.lean (outThrough). -/
section
variable {l : Launch} {R : Room} {p : Program} {e : Env} {below : List Frame} {s : State} {sargs : Array Value} {y : MethodName} {len W9 : Nat}
theorem vx_backW {ws : List Cond} {rm : Room} {Pc : Array Value → State → Prop} {Qc : Array Value → State → Outcome → State → Prop} {XC : String → State → State → Prop} {mc ms : Nat} {free : Addr → Prop} {bytes : ByteArray} {maxL : Nat} {ret : Option FieldType} {hh : List (Nat × Nat × Nat × Nat)}
    (hM : vx_Met l y ws rm Pc Qc XC mc ms free) (hblind : FrameBlind Pc) (hrc : rm.cells = mc) (hrs : rm.slots = ms)
    (hframes : rm.frames + 1 ≤ R.frames) (hlocals : W9 + (maxL + 11) + rm.locals ≤ R.locals)
    (hws : ∀ w ∈ ws, ∀ a' U, s.WarmedH U.vm → w.before a' U = true) (hcode : Cond.codeWith y bytes maxL ret hh ∈ ws) (hinit : ∀ a' U, s.WarmedH U.vm → (Cond.initialized y.cls).before a' U = true) :
    vx_Back l R p e below s sargs y len W9 (PreOf R mc ms Pc) (PostOf Qc mc ms free) (vx_Post XC mc ms free) := by
  intro m meth c A g ig mk a X hg hsize hdg hW hn hp
  have h1 : (headSpec ws rm).pre.before a A.U = true := atoms_intro fun w hw => hws w hw _ _ X.warmed
  have h2 : (Cond.codeWith y bytes maxL ret hh).before a A.U = true := hws _ hcode _ _ X.warmed
  have h3 : (Cond.initialized y.cls).before a A.U = true := hinit _ _ X.warmed
  have h4 : A.cells + (headSpec ws rm).room.cells ≤ R.cells := by rw [show (headSpec ws rm).room.cells = mc from hrc]; exact hp.1
  have h5 : A.slots + (headSpec ws rm).room.slots ≤ R.slots := by rw [show (headSpec ws rm).room.slots = ms from hrs]; exact hp.2.1
  have hPc : Pc a (A.U.calling g mk a) := hblind _ _ _ _ hp.2.2
  obtain ⟨U, Ls, c0, s0⟩ := A
  dsimp only [Pt.U, Pt.locs, Pt.cells, Pt.slots] at h1 h2 h3 h4 h5 X hn hPc ⊢
  obtain ⟨m9, methY, cY, hn9, hmY, hcY, -, hlY, -⟩ := Cond.codeWith_spec h2
  cases Option.some.inj (hn9.symm.trans hn)
  obtain ⟨kY, hkY, -⟩ := className_of_methodNamed hn
  have hinitY : kY.init = .initialized := Cond.initialized_spec (findClass_of_methodNamed hn) hkY h3
  have h : At U g.method c below := by rw [hg]; exact X.here
  have hlocals9 : W9 + (maxL + 11) + (headSpec ws rm).room.locals ≤ R.locals := hlocals
  have happ : (headSpec ws rm).appliesLoose y e.platform (U.calling g mk a) = true :=
    Spec.appliesLoose_calling (g := g) h hdg hn hkY hinitY
      (X.room_calling (g := g) (R' := (headSpec ws rm).room) hsize hmY hcY hframes (by rw [hlY]; omega) h4 h5) h1
  obtain ⟨mid, hmid⟩ := h.above
  have hfr : (U.setTop g).frames = (.java g :: mid) ++ below := by rw [State.frames_setTop' g h.top, hmid]; rfl
  obtain ⟨o, s₂, hsteps, -, hend, hq⟩ := Steps.callFree hM p X.admits X.cas X.clock (acts := []) hfr happ hPc trivial
  have hq' : vx_Q Qc XC mc ms free a (U.calling g mk a) o s₂ := hq
  rw [State.frames_setTop' g h.top] at hend
  obtain ⟨g₀, hg0⟩ := Option.isSome_iff_exists.mp h.top
  obtain ⟨r, hr⟩ := State.topJava?_eq_some.mp hg0
  have hr' : (({ U with heap := s₂.heap, slotsUsed := s₂.slotsUsed } : State).setVm s₂.vm).frames = .java g₀ :: r := hr
  rcases hq' with ⟨hqc, L, hfe, hL⟩ | ⟨q, rfl, E, ce, L, hx, hce, hcv, hcl, hW₂, hsm, hL⟩
  · obtain ⟨⟨v, rfl⟩, hW₂, e2, q2, q3, q4, q5, q6⟩ := id hfe
    have e3 : s₂ = ({ (U.calling g mk a).setFrames s₂.frames with heap := s₂.heap, slotsUsed := s₂.slotsUsed } : State).setVm s₂.vm := by
      have : s₂ = ({ s₂ with vm := (U.calling g mk a).vm } : State).setVm s₂.vm := rfl
      rw [e2] at this
      exact this
    obtain ⟨c₂, i₂, len₂, hc₂, hd₂, hf₂⟩ := hend
    have hW' : U.WarmedH s₂.vm := hW₂
    have hcc : c₂ = c := by
      have h1 : s₂.code? g.method = U.code? g.method := by
        rw [State.code?_eq, State.code?_eq, hW'.alike.method?]
      exact Option.some.inj (hc₂.symm.trans (h1.trans h.code))
    subst hcc
    have hlen : len₂ = len := by rw [hdg] at hd₂; cases hd₂; rfl
    subst hlen
    have hs₂ : s₂ = (({ U with heap := s₂.heap, slotsUsed := s₂.slotsUsed } : State).setVm s₂.vm).setTop { g with pc := g.pc + len₂, stack := v.toList ++ g.stack } := by
      refine e3.trans ?_
      rw [hf₂, State.calling_eq h.top, State.setFrames_setFrames, State.setTop_of_frames _ hr', hr]
      rfl
    have hsame : U.sameButNew ({ U with heap := s₂.heap, slotsUsed := s₂.slotsUsed } : State) L mc ms := by
      refine ⟨?_, q2, q3, q4, q5, q6⟩
      obtain ⟨t, ht, -⟩ := State.frames_cons hr
      show ({ U with heap := s₂.heap, slotsUsed := s₂.slotsUsed } : State) = { U.setFrames U.frames with heap := s₂.heap, slotsUsed := s₂.slotsUsed }
      rw [State.setFrames_self ht]
    subst hg
    refine Or.inl ⟨v, ⟨(({ U with heap := s₂.heap, slotsUsed := s₂.slotsUsed } : State).setVm s₂.vm), Ls ++ L, c0 + mc, s0 + ms⟩,
      ⟨X.admits, X.cas, X.clock, X.frames, X.room, X.hears, X.method, X.code, (X.here.setHeapUsed s₂.heap s₂.slotsUsed).setVm hW'.alike, X.tail, State.WarmedH.trans X.warmed hW', X.limits, X.bytes, X.same.trans (hsame.setVm s.vm)⟩,
      ⟨g, mk, s₂, L, rfl, rfl, hqc, rfl, hL, rfl, rfl⟩, ?_⟩
    show Steps p.tables e below _ ((({ U with heap := s₂.heap, slotsUsed := s₂.slotsUsed } : State).setVm s₂.vm).setTop { g with pc := g.pc + len₂, stack := v.toList ++ g.stack })
    rw [← hs₂]
    exact hsteps
  · obtain ⟨e2, q2, q3, q4, q5, q6⟩ := id hsm
    have e3 : s₂ = ({ (U.calling g mk a).setFrames s₂.frames with heap := s₂.heap, slotsUsed := s₂.slotsUsed } : State).setVm s₂.vm := by
      have : s₂ = ({ s₂ with vm := (U.calling g mk a).vm } : State).setVm s₂.vm := rfl
      rw [e2] at this
      exact this
    have hf₂ : s₂.frames = .throwing q :: .java g :: U.frames.tail := hend
    have hW' : U.WarmedH s₂.vm := hW₂
    have hs₂ : s₂ = ((({ U with heap := s₂.heap, slotsUsed := s₂.slotsUsed } : State).setVm s₂.vm).setTop g).pushFrame (.throwing q) := by
      refine e3.trans ?_
      rw [hf₂, State.calling_eq h.top, State.setFrames_setFrames, State.pushFrame, State.frames_setTop _ hr', State.setTop_of_frames _ hr', State.setFrames_setFrames, hr]
      rfl
    have hsame : U.sameButNew ({ U with heap := s₂.heap, slotsUsed := s₂.slotsUsed } : State) L mc ms := by
      refine ⟨?_, q2, q3, q4, q5, q6⟩
      obtain ⟨t, ht, -⟩ := State.frames_cons hr
      show ({ U with heap := s₂.heap, slotsUsed := s₂.slotsUsed } : State) = { U.setFrames U.frames with heap := s₂.heap, slotsUsed := s₂.slotsUsed }
      rw [State.setFrames_self ht]
    subst hg
    refine Or.inr ⟨q, ⟨(({ U with heap := s₂.heap, slotsUsed := s₂.slotsUsed } : State).setVm s₂.vm), Ls ++ L, c0 + mc, s0 + ms⟩,
      ⟨X.admits, X.cas, X.clock, X.frames, X.room, X.hears, X.method, X.code, (X.here.setHeapUsed s₂.heap s₂.slotsUsed).setVm hW'.alike, X.tail, State.WarmedH.trans X.warmed hW', X.limits, X.bytes, X.same.trans (hsame.setVm s.vm)⟩,
      ⟨g, mk, s₂, L, E, ce, rfl, rfl, hx, hce, hcv, hcl, rfl, hL, rfl, rfl⟩, ?_⟩
    show Steps p.tables e below _ (((({ U with heap := s₂.heap, slotsUsed := s₂.slotsUsed } : State).setVm s₂.vm).setTop g).pushFrame (.throwing q))
    rw [← hs₂]
    exact hsteps
end
variable {p : Program} {l : Launch} {e : Env} {R : Room} {s : State} {m : MethodId} {args : Array Value} {below : List Frame} {meth : Method} {c : Code} {T : State} {H : Heap} {locs : List Loc} {cells slots : Nat}
theorem vx_callVX (X : Stand p l e R s m args below meth c T locs cells slots) (hexec : p.tables.exec = Jvm.exec) {own C : String} {index : Nat} {y : MethodName} {bytes : ByteArray} {maxL : Nat} {ret : Option FieldType} {hh : List (Nat × Nat × Nat × Nat)}
    (hown : s.vm.findClass own = some m.cls) (hlink : (Cond.methodLink own index y).before args s = true) (hinst : (Cond.instanceMethod y).before args s = true) (hsel : (Cond.selects C y y).before args s = true)
    (hcode : (Cond.codeWith y bytes maxL ret hh).before args s = true) (hy : y.cls ≠ "java/lang/invoke/MethodHandle" ∧ y.cls ≠ "java/lang/invoke/VarHandle")
    {W9 : Nat} {Pre : Pt → Array Value → Prop} {Post : Pt → Array Value → Option Value → Pt → Prop} {PostX : Pt → Array Value → Addr → Pt → Prop} (hK : vx_Back l R p e below s args y 3 W9 Pre Post PostX)
    {b : Addr} {cellB : Cell} (hcell : T.heap[b]? = some cellB) (hobj : cellB.vm.isStatics = false) (hcls : s.vm.findClass C = some cellB.cls)
    {g : JFrame} (hg : g.method = m) (hsize : g.locals.size = c.maxLocals) {argsL rest : List Value} (hlen : ∀ sig, parseMethodDescriptor y.desc = some sig → argsL.length = sig.parameters.length)
    (hstack : g.stack = argsL.reverse ++ .ref b :: rest) (hW : 2 * g.monitorRoom + (rest.map fun v => v.category).sum ≤ W9) (hdg : decode c.code g.pc = .ok (.invokevirtual index, 3))
    (hpre : ∀ vm₁, s.WarmedH vm₁ → Pre ⟨T.setVm vm₁, locs, cells, slots⟩ (Value.ref b :: argsL).toArray) :
    (∃ (v : Option Value) (vm₁ : Vm) (B : Pt), s.WarmedH vm₁ ∧ Stand p l e R s m args below meth c B.U B.locs B.cells B.slots ∧ Post ⟨T.setVm vm₁, locs, cells, slots⟩ (Value.ref b :: argsL).toArray v B ∧
      ∀ target, Steps p.tables e below (B.U.setTop { g with pc := g.pc + 3, stack := v.toList ++ rest }) target → Steps p.tables e below (T.setTop g) target) ∨
    (∃ (q : Addr) (vm₁ : Vm) (B : Pt), s.WarmedH vm₁ ∧ Stand p l e R s m args below meth c B.U B.locs B.cells B.slots ∧ PostX ⟨T.setVm vm₁, locs, cells, slots⟩ (Value.ref b :: argsL).toArray q B ∧
      Steps p.tables e below (T.setTop g) ((B.U.setTop { g with stack := rest }).pushFrame (.throwing q))) := by
  obtain ⟨mk, methM, hnamed, hmethM, hstM, habM⟩ := Cond.instanceMethod_spec hinst
  obtain ⟨m8, methM', cM, hn8, hmethM', -, -, -, -, -, -, hsigM⟩ := Cond.codeWith_spec hcode
  cases Option.some.inj (hn8.symm.trans hnamed)
  cases hmethM.symm.trans hmethM'
  obtain ⟨c2, r2, m2, q1, q2, q3, q4, kP, hkP, hkPi⟩ := Cond.selects_spec hsel
  cases hcls.symm.trans q1
  cases (State.methodFound?_of_named hnamed hy).symm.trans q2
  cases hnamed.symm.trans q3
  have hselP : selectMethod e.platform s.vm cellB.cls mk = .method mk := by rw [Launch.admits_selectMethod X.admits]; exact q4
  obtain ⟨vm₁, X₁, hstep₁⟩ := X.invokevirtual hexec hown hlink hnamed hmethM hstM hkP hkPi hy (a := b) (cell := cellB) hcell
    (fun z h => by rw [h] at hobj; cases hobj) hselP hmethM habM hkP hkPi (g := g) hg (argsL := argsL) (rest := rest) (hlen _ hsigM) hstack hdg
  rcases hK m meth c ⟨T.setVm vm₁, locs, cells, slots⟩ { g with stack := rest } (.invokevirtual index) mk (Value.ref b :: argsL).toArray X₁ hg hsize hdg hW (X₁.named hnamed) (hpre vm₁ X₁.warmed) with ⟨v, B, X', hpost, hsteps⟩ | ⟨q, B, X', hpost, hsteps⟩
  · exact Or.inl ⟨v, vm₁, B, X₁.warmed, X', hpost, fun target h => hstep₁ _ fun acts => by rw [doInvoke_state]; exact hsteps.trans h⟩
  · exact Or.inr ⟨q, vm₁, B, X₁.warmed, X', hpost, hstep₁ _ fun acts => by rw [doInvoke_state]; exact hsteps⟩
theorem vx_callSX (X : Stand p l e R s m args below meth c T locs cells slots) (hexec : p.tables.exec = Jvm.exec) {own : String} {index : Nat} {y : MethodName} {bytes : ByteArray} {maxL : Nat} {ret : Option FieldType} {hh : List (Nat × Nat × Nat × Nat)}
    (hown : s.vm.findClass own = some m.cls) (hlink : (Cond.methodLink own index y).before args s = true) (hstat : (Cond.static y).before args s = true) (hinit : (Cond.initialized y.cls).before args s = true)
    (hcode : (Cond.codeWith y bytes maxL ret hh).before args s = true) (hy : y.cls ≠ "java/lang/invoke/MethodHandle" ∧ y.cls ≠ "java/lang/invoke/VarHandle")
    {W9 : Nat} {Pre : Pt → Array Value → Prop} {Post : Pt → Array Value → Option Value → Pt → Prop} {PostX : Pt → Array Value → Addr → Pt → Prop} (hK : vx_Back l R p e below s args y 3 W9 Pre Post PostX)
    {g : JFrame} (hg : g.method = m) (hsize : g.locals.size = c.maxLocals) {argsL rest : List Value} (hlen : ∀ sig, parseMethodDescriptor y.desc = some sig → argsL.length = sig.parameters.length)
    (hstack : g.stack = argsL.reverse ++ rest) (hW : 2 * g.monitorRoom + (rest.map fun v => v.category).sum ≤ W9) (hdg : decode c.code g.pc = .ok (.invokestatic index, 3))
    (hpre : ∀ vm₁, s.WarmedH vm₁ → Pre ⟨T.setVm vm₁, locs, cells, slots⟩ argsL.toArray) :
    (∃ (v : Option Value) (vm₁ : Vm) (B : Pt), s.WarmedH vm₁ ∧ Stand p l e R s m args below meth c B.U B.locs B.cells B.slots ∧ Post ⟨T.setVm vm₁, locs, cells, slots⟩ argsL.toArray v B ∧
      ∀ target, Steps p.tables e below (B.U.setTop { g with pc := g.pc + 3, stack := v.toList ++ rest }) target → Steps p.tables e below (T.setTop g) target) ∨
    (∃ (q : Addr) (vm₁ : Vm) (B : Pt), s.WarmedH vm₁ ∧ Stand p l e R s m args below meth c B.U B.locs B.cells B.slots ∧ PostX ⟨T.setVm vm₁, locs, cells, slots⟩ argsL.toArray q B ∧
      Steps p.tables e below (T.setTop g) ((B.U.setTop { g with stack := rest }).pushFrame (.throwing q))) := by
  obtain ⟨mk, methM, cM, hnamed, hmethM, -, -, -, -, -, -, hsigM⟩ := Cond.codeWith_spec hcode
  have hstatic : methM.isStatic = true := Cond.static_spec hnamed hmethM hstat
  obtain ⟨kP, hkP, -⟩ := className_of_methodNamed hnamed
  have hinitP : kP.init = .initialized := Cond.initialized_spec (findClass_of_methodNamed hnamed) hkP hinit
  obtain ⟨vm₁, X₁, hstep₁⟩ := X.invokestatic hexec hown hlink hnamed hmethM hstatic hkP hinitP hy (g := g) hg (argsL := argsL) (rest := rest) (hlen _ hsigM) hstack hdg
  rcases hK m meth c ⟨T.setVm vm₁, locs, cells, slots⟩ { g with stack := rest } (.invokestatic index) mk argsL.toArray X₁ hg hsize hdg hW (X₁.named hnamed) (hpre vm₁ X₁.warmed) with ⟨v, B, X', hpost, hsteps⟩ | ⟨q, B, X', hpost, hsteps⟩
  · exact Or.inl ⟨v, vm₁, B, X₁.warmed, X', hpost, fun target h => hstep₁ _ fun acts => by rw [doInvoke_state]; exact hsteps.trans h⟩
  · exact Or.inr ⟨q, vm₁, B, X₁.warmed, X', hpost, hstep₁ _ fun acts => by rw [doInvoke_state]; exact hsteps⟩
theorem vx_callVW (X : Stand p l e R s m args below meth c T locs cells slots) (hexec : p.tables.exec = Jvm.exec) {own C : String} {index : Nat} {y : MethodName} {bytes : ByteArray} {maxL : Nat} {ret : Option FieldType} {hh : List (Nat × Nat × Nat × Nat)}
    (hown : s.vm.findClass own = some m.cls) (hlink : (Cond.methodLink own index y).before args s = true) (hinst : (Cond.instanceMethod y).before args s = true) (hsel : (Cond.selects C y y).before args s = true)
    (hcode : (Cond.codeWith y bytes maxL ret hh).before args s = true) (hy : y.cls ≠ "java/lang/invoke/MethodHandle" ∧ y.cls ≠ "java/lang/invoke/VarHandle")
    {W9 : Nat} {Pre : Pt → Array Value → Prop} {Post : Pt → Array Value → Option Value → Pt → Prop} (hK : Back l R p e below s args y 3 W9 Pre Post)
    {b : Addr} {cellB : Cell} (hcell : T.heap[b]? = some cellB) (hobj : cellB.vm.isStatics = false) (hcls : s.vm.findClass C = some cellB.cls)
    {g : JFrame} (hg : g.method = m) (hsize : g.locals.size = c.maxLocals) {argsL rest : List Value} (hlen : ∀ sig, parseMethodDescriptor y.desc = some sig → argsL.length = sig.parameters.length)
    (hstack : g.stack = argsL.reverse ++ .ref b :: rest) (hW : 2 * g.monitorRoom + (rest.map fun v => v.category).sum ≤ W9) (hdg : decode c.code g.pc = .ok (.invokevirtual index, 3))
    (hpre : ∀ vm₁, s.WarmedH vm₁ → Pre ⟨T.setVm vm₁, locs, cells, slots⟩ (Value.ref b :: argsL).toArray) :
    ∃ (v : Option Value) (vm₁ : Vm) (B : Pt), s.WarmedH vm₁ ∧ Stand p l e R s m args below meth c B.U B.locs B.cells B.slots ∧ Post ⟨T.setVm vm₁, locs, cells, slots⟩ (Value.ref b :: argsL).toArray v B ∧
      ∀ target, Steps p.tables e below (B.U.setTop { g with pc := g.pc + 3, stack := v.toList ++ rest }) target → Steps p.tables e below (T.setTop g) target := by
  obtain ⟨mk, methM, hnamed, hmethM, hstM, habM⟩ := Cond.instanceMethod_spec hinst
  obtain ⟨m8, methM', cM, hn8, hmethM', -, -, -, -, -, -, hsigM⟩ := Cond.codeWith_spec hcode
  cases Option.some.inj (hn8.symm.trans hnamed)
  cases hmethM.symm.trans hmethM'
  obtain ⟨c2, r2, m2, q1, q2, q3, q4, kP, hkP, hkPi⟩ := Cond.selects_spec hsel
  cases hcls.symm.trans q1
  cases (State.methodFound?_of_named hnamed hy).symm.trans q2
  cases hnamed.symm.trans q3
  have hselP : selectMethod e.platform s.vm cellB.cls mk = .method mk := by rw [Launch.admits_selectMethod X.admits]; exact q4
  obtain ⟨vm₁, X₁, hstep₁⟩ := X.invokevirtual hexec hown hlink hnamed hmethM hstM hkP hkPi hy (a := b) (cell := cellB) hcell
    (fun z h => by rw [h] at hobj; cases hobj) hselP hmethM habM hkP hkPi (g := g) hg (argsL := argsL) (rest := rest) (hlen _ hsigM) hstack hdg
  obtain ⟨v, B, X', hpost, hsteps⟩ := hK m meth c ⟨T.setVm vm₁, locs, cells, slots⟩ { g with stack := rest } (.invokevirtual index) mk (Value.ref b :: argsL).toArray X₁ hg hsize hdg hW (X₁.named hnamed) (hpre vm₁ X₁.warmed)
  exact ⟨v, vm₁, B, X₁.warmed, X', hpost, fun target h => hstep₁ _ fun acts => by rw [doInvoke_state]; exact hsteps.trans h⟩
abbrev vx_CVW (R : Room) (s : State) (args : Array Value) (own C : String) (index : Nat) (y : MethodName) (bytes : ByteArray) (maxL : Nat) (ret : Option FieldType) (hh : List (Nat × Nat × Nat × Nat)) (ws : List Cond) (rm : Room) (mc ms n : Nat) : Prop :=
  (rm.cells = mc ∧ rm.slots = ms ∧ rm.frames + 1 ≤ R.frames ∧ 8 + (maxL + 11) + rm.locals ≤ R.locals ∧ (∀ w ∈ ws, ∀ (a' : Array Value) (U : State), s.WarmedH U.vm → w.before a' U = true) ∧ Cond.codeWith y bytes maxL ret hh ∈ ws) ∧
  (Cond.codeWith y bytes maxL ret hh).before args s = true ∧ (Cond.initialized y.cls).before args s = true ∧ (y.cls ≠ "java/lang/invoke/MethodHandle" ∧ y.cls ≠ "java/lang/invoke/VarHandle") ∧
  (∀ sig, parseMethodDescriptor y.desc = some sig → n = sig.parameters.length) ∧ (Cond.methodLink own index y).before args s = true ∧ (Cond.instanceMethod y).before args s = true ∧ (Cond.selects C y y).before args s = true
theorem vx_cwVW {own C : String} {index maxL mc ms : Nat} {y : MethodName} {bytes : ByteArray} {ret : Option FieldType} {hh : List (Nat × Nat × Nat × Nat)} {Ts ws ws' : List Cond} {rm : Room} (n : Nat) (ht : ∀ w ∈ Ts, w.before args s = true) (hT : GoodIn Ts (wsV own index C y ws)) (hw : ws = Cond.codeWith y bytes maxL ret hh :: ws') (hrc : rm.cells = mc) (hrs : rm.slots = ms)
    (hd : y.cls = C ∧ y.cls ≠ "java/lang/invoke/MethodHandle" ∧ y.cls ≠ "java/lang/invoke/VarHandle" ∧ (parseMethodDescriptor y.desc).map (fun d => d.parameters.length) = some n) (hR : rm.frames + 1 ≤ R.frames ∧ 8 + (maxL + 11) + rm.locals ≤ R.locals) :
    vx_CVW R s args own C index y bytes maxL ret hh ws rm mc ms n := by
  obtain ⟨hC, hd⟩ := hd
  subst hC
  have ok : ∀ w ∈ wsV own index y.cls y ws, w.before args s = true := fun w h => ht w (hT w h).1
  have hG : GoodIn Ts ws := fun w h => hT w (by unfold wsV; exact List.mem_append_right _ h)
  have hc : Cond.codeWith y bytes maxL ret hh ∈ ws := by rw [hw]; exact List.mem_cons_self
  refine ⟨⟨hrc, hrs, hR.1, hR.2, pay_in ht hG, hc⟩, ht _ (hG _ hc).1, ok _ (by simp [wsV]), ⟨hd.1, hd.2.1⟩, fun sig h => ?_, ok _ (by simp [wsV]), ok _ (by simp [wsV]), ok _ (by simp [wsV])⟩
  have h2 := hd.2.2
  rw [h] at h2
  exact (Option.some.inj h2).symm
theorem vx_runVW {y : MethodName} {bytes cc : ByteArray} {maxL nL mc ms n index : Nat} {ret : Option FieldType} {hh : List (Nat × Nat × Nat × Nat)} {ws : List Cond} {rm : Room} {Pc : Array Value → State → Prop} {Qc : Array Value → State → Outcome → State → Prop} {free : Addr → Prop} {Ts : List Cond} {own C : String} {b : Addr} {As rest : List Value} {g : JFrame}
    (S : CallFix p m c cc nL s args Ts own) (hM : Met l y ws rm Pc Qc mc ms free) (cw : vx_CVW R s args own C index y bytes maxL ret hh ws rm mc ms n) (hp : PreV s H C b Pc As)
    (hg : g.method = m) (hn : As.length = n) (hsize : g.locals.size = nL) (hstack : g.stack = As.reverse ++ .ref b :: rest) (hW : 2 * g.monitorRoom + (rest.map fun v => v.category).sum ≤ 8) (hdg : decode cc g.pc = .ok (.invokevirtual index, 3)) (hf : cells + mc ≤ R.cells ∧ slots + ms ≤ R.slots) :
    va_Run p l e R s m args below meth c H locs cells slots mc ms g rest (Qc (Value.ref b :: As).toArray) free := by
  obtain ⟨⟨hrc, hrs, hfr, hlo, hws, hcw⟩, hcode, hini, hy, hlen, hl, hin, hse⟩ := cw
  have hK : Back l R p e below s args y 3 8 (PreOf R mc ms Pc) (PostOf Qc mc ms free) := va_backW (hh := hh) (bytes := bytes) (maxL := maxL) (ret := ret) hM hp.1 hrc hrs hfr hlo hws hcw (fun a' U hW => word_at hW (Or.inl (by first | rfl | simp [Cond.onTables, Cond.keeps, Cond.steady])) hini)
  obtain ⟨hx, hb, hml, ho, -⟩ := S
  obtain ⟨-, ⟨cellB, hcB, hoB, hclB⟩, hPc⟩ := hp
  intro T hT X
  obtain ⟨v, vm₁, ⟨U', l2, c2, s2⟩, hW₁, X', ⟨g', mk, t, L, e1, e2, hq, h1, hL, h2, h3⟩, st⟩ := vx_callVW X hx (C := C) (hh := hh) (bytes := bytes) (maxL := maxL) (ret := ret) ho hl hin hse hcode hy hK (by rw [hT]; exact hcB) hoB hclB hg (hsize.trans hml.symm) (argsL := As) (rest := rest) (fun sig h => hn.trans (hlen sig h)) hstack hW (by rw [hb]; exact hdg)
    (fun vm₁ hW₁ => ⟨hf.1, hf.2, hPc (T.setVm vm₁) hT hW₁⟩)
  dsimp only [Pt.U, Pt.locs, Pt.cells, Pt.slots] at X' e1 e2 h1 h2 h3 st
  subst h1; subst h2; subst h3
  exact ⟨v, (T.setVm vm₁).calling g' mk (Value.ref b :: As).toArray, t, U', L, hT, X', hL, e1, e2, hq, st⟩
section
variable {y : MethodName} {bytes cc : ByteArray} {maxL nL mc ms n index : Nat} {ret : Option FieldType} {ws : List Cond} {rm : Room} {Pc : Array Value → State → Prop} {Qc : Array Value → State → Outcome → State → Prop} {XC : String → State → State → Prop} {free : Addr → Prop} {Ts : List Cond} {own C : String} {b : Addr} {As rest : List Value} {g : JFrame}
theorem vx_runVX {hh : List (Nat × Nat × Nat × Nat)} (S : CallFix p m c cc nL s args Ts own) (hM : vx_Met l y ws rm Pc Qc XC mc ms free) (cw : vx_CVW R s args own C index y bytes maxL ret hh ws rm mc ms n) (hp : PreV s H C b Pc As)
    (hg : g.method = m) (hn : As.length = n) (hsize : g.locals.size = nL) (hstack : g.stack = As.reverse ++ .ref b :: rest) (hW : 2 * g.monitorRoom + (rest.map fun v => v.category).sum ≤ 8) (hdg : decode cc g.pc = .ok (.invokevirtual index, 3)) (hf : cells + mc ≤ R.cells ∧ slots + ms ≤ R.slots) :
    vx_Run p l e R s m args below meth c H locs cells slots mc ms g rest (Qc (Value.ref b :: As).toArray) XC free := by
  obtain ⟨⟨hrc, hrs, hfr, hlo, hws, hcw⟩, hcode, hini, hy, hlen, hl, hin, hse⟩ := cw
  have hK : vx_Back l R p e below s args y 3 8 (PreOf R mc ms Pc) (PostOf Qc mc ms free) (vx_Post XC mc ms free) := vx_backW (hh := hh) (bytes := bytes) (maxL := maxL) (ret := ret) hM hp.1 hrc hrs hfr hlo hws hcw (fun a' U hW => word_at hW (Or.inl (by first | rfl | simp [Cond.onTables, Cond.keeps, Cond.steady])) hini)
  obtain ⟨hx, hb, hml, ho, -⟩ := S
  obtain ⟨-, ⟨cellB, hcB, hoB, hclB⟩, hPc⟩ := hp
  intro T hT X
  rcases vx_callVX X hx (C := C) (hh := hh) (bytes := bytes) (maxL := maxL) (ret := ret) ho hl hin hse hcode hy hK (by rw [hT]; exact hcB) hoB hclB hg (hsize.trans hml.symm) (argsL := As) (rest := rest) (fun sig h => hn.trans (hlen sig h)) hstack hW (by rw [hb]; exact hdg)
    (fun vm₁ hW₁ => ⟨hf.1, hf.2, hPc (T.setVm vm₁) hT hW₁⟩) with ⟨v, vm₁, ⟨U', l2, c2, s2⟩, hW₁, X', ⟨g', mk, t, L, e1, e2, hq, h1, hL, h2, h3⟩, st⟩ | ⟨q, vm₁, ⟨U', l2, c2, s2⟩, hW₁, X', ⟨g', mk, t, L, E, ce, e1, e2, hq, hce, hcv, hcl, h1, hL, h2, h3⟩, st⟩
  · dsimp only [Pt.U, Pt.locs, Pt.cells, Pt.slots] at X' e1 e2 h1 h2 h3 st
    subst h1; subst h2; subst h3
    exact Or.inl ⟨v, (T.setVm vm₁).calling g' mk (Value.ref b :: As).toArray, t, U', L, hT, X', hL, e1, e2, hq, st⟩
  · dsimp only [Pt.U, Pt.locs, Pt.cells, Pt.slots] at X' e1 e2 h1 h2 h3 st hcl
    subst h1; subst h2; subst h3
    exact Or.inr ⟨q, (T.setVm vm₁).calling g' mk (Value.ref b :: As).toArray, t, U', L, E, ce, hT, X', hL, e1, e2, hq, hce, hcv, vx_cls hW₁ hcl, st⟩
theorem vx_runSX {hh : List (Nat × Nat × Nat × Nat)} (S : CallFix p m c cc nL s args Ts own) (hM : vx_Met l y ws rm Pc Qc XC mc ms free) (cw : vx_CSW R s args own index y bytes maxL ret hh ws rm mc ms n) (hp : PreS s H Pc As)
    (hg : g.method = m) (hn : As.length = n) (hsize : g.locals.size = nL) (hstack : g.stack = As.reverse ++ rest) (hW : 2 * g.monitorRoom + (rest.map fun v => v.category).sum ≤ 8) (hdg : decode cc g.pc = .ok (.invokestatic index, 3)) (hf : cells + mc ≤ R.cells ∧ slots + ms ≤ R.slots) :
    vx_Run p l e R s m args below meth c H locs cells slots mc ms g rest (Qc As.toArray) XC free := by
  obtain ⟨⟨hrc, hrs, hfr, hlo, hws, hcw⟩, hcode, hini, hy, hlen, hl, hstt⟩ := cw
  have hK : vx_Back l R p e below s args y 3 8 (PreOf R mc ms Pc) (PostOf Qc mc ms free) (vx_Post XC mc ms free) := vx_backW (hh := hh) (bytes := bytes) (maxL := maxL) (ret := ret) hM hp.1 hrc hrs hfr hlo hws hcw (fun a' U hW => word_at hW (Or.inl (by first | rfl | simp [Cond.onTables, Cond.keeps, Cond.steady])) hini)
  obtain ⟨hx, hb, hml, ho, -⟩ := S
  intro T hT X
  rcases vx_callSX X hx (hh := hh) (bytes := bytes) (maxL := maxL) (ret := ret) ho hl hstt hini hcode hy hK hg (hsize.trans hml.symm) (argsL := As) (rest := rest) (fun sig h => hn.trans (hlen sig h)) hstack hW (by rw [hb]; exact hdg)
    (fun vm₁ hW₁ => ⟨hf.1, hf.2, hp.2 (T.setVm vm₁) hT hW₁⟩) with ⟨v, vm₁, ⟨U', l2, c2, s2⟩, hW₁, X', ⟨g', mk, t, L, e1, e2, hq, h1, hL, h2, h3⟩, st⟩ | ⟨q, vm₁, ⟨U', l2, c2, s2⟩, hW₁, X', ⟨g', mk, t, L, E, ce, e1, e2, hq, hce, hcv, hcl, h1, hL, h2, h3⟩, st⟩
  · dsimp only [Pt.U, Pt.locs, Pt.cells, Pt.slots] at X' e1 e2 h1 h2 h3 st
    subst h1; subst h2; subst h3
    exact Or.inl ⟨v, (T.setVm vm₁).calling g' mk As.toArray, t, U', L, hT, X', hL, e1, e2, hq, st⟩
  · dsimp only [Pt.U, Pt.locs, Pt.cells, Pt.slots] at X' e1 e2 h1 h2 h3 st hcl
    subst h1; subst h2; subst h3
    exact Or.inr ⟨q, (T.setVm vm₁).calling g' mk As.toArray, t, U', L, E, ce, hT, X', hL, e1, e2, hq, hce, hcv, vx_cls hW₁ hcl, st⟩
end
end VXH
theorem vx_ofWH {l : Launch} {y : MethodName} {ws ws' : List Cond} {rm : Room} {Pc : Array Value → State → Prop} {Qc : Array Value → State → Outcome → State → Prop} {XC : String → State → State → Prop} {mc ms : Nat} {free : Addr → Prop} {cc : ByteArray} {maxL : Nat} {ret : Option FieldType} {hh : List (Nat × Nat × Nat × Nat)}
    (hy : plainName y.cls = true) (hw : ws = Cond.codeWith y cc maxL ret hh :: ws')
    (body : ∀ p e s m args below meth c s₁, BodyLoose p l y (headSpec ws rm) cc maxL ret e s m args below meth c s₁ → c.maxLocals = maxL → Pc args s →
      W p l e (headSpec ws rm).room s m args below meth c s.heap [] 0 0 (vx_MQ below Qc XC args s mc ms free) (entryFrame m args maxL)) : vx_Met l y ws rm Pc Qc XC mc ms free := by
  refine MetFree.of_bodyS (code := cc) (maxLocals := maxL) (ret := ret) hy ?_ ?_
  · intro args s m h hn
    obtain ⟨m9, meth, c, hn9, h1, h2, h3, h4, -, h5, h6, -⟩ := Cond.codeWith_spec (atoms_spec (ws := ws) h _ (by rw [hw]; exact List.mem_cons_self))
    cases hn.symm.trans hn9
    exact ⟨meth, c, h1, h2, h3, h4, h5, h6⟩
  · intro p e s m args below meth c s₁ B hml hP _
    have hh0 : s₁.heap = s.heap := by rw [B.state]; rfl
    obtain ⟨t, a1, o, b1, b2, b3⟩ := body p e s m args below meth c s₁ B hml hP s₁ hh0 (Stand.of_body B)
    exact ⟨t, o, a1, b1, b2, b3⟩
/-! ===== END ===== -/
end
section
def RX0 : String := "KeyWalks"
def TX0 : u_T := fun k => match k with
  | 0 => ("KeyWalks", "profiles", "[I", true)
  | 1 => ("KeyWalks", "weights", "[I", true)
  | 2 => ("KeyWalks", "base", "I", false)
  | 3 => ("KeyWalks", "by", "I", false)
  | 4 => ("KeyWalks", "over", "I", false)
  | 5 => ("KeyWalks", "slices", "I", false)
  | 6 => ("KeyWalks", "turns", "[I", true)
  | 7 => ("KeyWalks", "sliceCosts", "[I", true)
  | 8 => ("KeyWalks", "tails", "[I", true)
  | 9 => ("KeyWalks", "ways", "[J", true)
  | 10 => ("KeyWalks", "heads", "[I", true)
  | 11 => ("KeyWalks", "firstKeys", "[I", true)
  | 12 => ("KeyWalks", "pickedKeys", "[I", true)
  | 13 => ("KeyWalks", "leastCost", "I", false)
  | 14 => ("KeyWalks", "bestCount", "J", false)
  | 15 => ("KeyWalks", "tailsKnown", "Z", false)
  | _ => ("KeyWalks", "headsKnown", "Z", false)
def tyX0 : Nat → FieldType := fun k => match k with
  | 0 => .array .int
  | 1 => .array .int
  | 2 => .int
  | 3 => .int
  | 4 => .int
  | 5 => .int
  | 6 => .array .int
  | 7 => .array .int
  | 8 => .array .int
  | 9 => .array .long
  | 10 => .array .int
  | 11 => .array .int
  | 12 => .array .int
  | 13 => .int
  | 14 => .long
  | 15 => .boolean
  | _ => .boolean
theorem nmX0 : ∀ a, a < 17 → ∀ b, b < 17 → a ≠ b → (TX0 a).2.1 ≠ (TX0 b).2.1 := by decide +kernel
theorem tyX0_ok : ∀ k, k < 17 → parseFieldDescriptor (TX0 k).2.2.1 = some (tyX0 k) := by decide +kernel
def RX1 : String := "KeyWalksModel"
def TX1 : u_T := fun k => match k with
  | 0 => ("KeyWalksModel", "code", "I", false)
  | 1 => ("KeyWalksModel", "slices", "I", false)
  | 2 => ("KeyWalksModel", "weight", "[I", true)
  | 3 => ("KeyWalksModel", "profile", "[I", true)
  | 4 => ("KeyWalksModel", "base", "I", false)
  | 5 => ("KeyWalksModel", "by", "I", false)
  | 6 => ("KeyWalksModel", "over", "I", false)
  | 7 => ("KeyWalksModel", "rest", "[I", true)
  | 8 => ("KeyWalksModel", "ways", "[J", true)
  | 9 => ("KeyWalksModel", "turns", "[I", true)
  | 10 => ("KeyWalksModel", "costs", "[I", true)
  | _ => ("KeyWalksModel", "walk", "[I", true)
def tyX1 : Nat → FieldType := fun k => match k with
  | 0 => .int
  | 1 => .int
  | 2 => .array .int
  | 3 => .array .int
  | 4 => .int
  | 5 => .int
  | 6 => .int
  | 7 => .array .int
  | 8 => .array .long
  | 9 => .array .int
  | 10 => .array .int
  | _ => .array .int
theorem nmX1 : ∀ a, a < 12 → ∀ b, b < 12 → a ≠ b → (TX1 a).2.1 ≠ (TX1 b).2.1 := by decide +kernel
theorem tyX1_ok : ∀ k, k < 12 → parseFieldDescriptor (TX1 k).2.2.1 = some (tyX1 k) := by decide +kernel
def RL : String := "KeyWalksLaw"
abbrev kCl : List vw_C := [(RX0, TX0, 17), (RX1, TX1, 12)]
abbrev cX0_init : ByteArray := prog_1_method_1_code
def yX0_init : MethodName := ⟨RX0, "<init>", "()V"⟩
abbrev cX0_setFirst : ByteArray := prog_1_method_22_code
def yX0_setFirst : MethodName := ⟨RX0, "setFirst", "()V"⟩
abbrev cX0_forget : ByteArray := prog_1_method_23_code
def yX0_forget : MethodName := ⟨RX0, "forget", "()V"⟩
abbrev cX0_clear : ByteArray := prog_1_method_2_code
def yX0_clear : MethodName := ⟨RX0, "clear", "()I"⟩
abbrev cX0_least : ByteArray := prog_1_method_11_code
def yX0_least : MethodName := ⟨RX0, "least", "()I"⟩
abbrev cX0_knowTails : ByteArray := prog_1_method_35_code
def yX0_knowTails : MethodName := ⟨RX0, "knowTails", "()V"⟩
abbrev cX0_fillTurns : ByteArray := prog_1_method_36_code
def yX0_fillTurns : MethodName := ⟨RX0, "fillTurns", "()V"⟩
abbrev cX0_turnBetween : ByteArray := prog_1_method_34_code
def yX0_turnBetween : MethodName := ⟨RX0, "turnBetween", "(II)I"⟩
abbrev cX0_placeOf : ByteArray := prog_1_method_29_code
def yX0_placeOf : MethodName := ⟨RX0, "placeOf", "(I)I"⟩
abbrev cX0_modeOf : ByteArray := prog_1_method_28_code
def yX0_modeOf : MethodName := ⟨RX0, "modeOf", "(I)I"⟩
abbrev cX0_tonicOf : ByteArray := prog_1_method_27_code
def yX0_tonicOf : MethodName := ⟨RX0, "tonicOf", "(I)I"⟩
abbrev cX0_fillSliceCosts : ByteArray := prog_1_method_37_code
def yX0_fillSliceCosts : MethodName := ⟨RX0, "fillSliceCosts", "(I)V"⟩
abbrev cX0_fitIn : ByteArray := prog_1_method_31_code
def yX0_fitIn : MethodName := ⟨RX0, "fitIn", "(II)I"⟩
abbrev cX0_numberOf : ByteArray := prog_1_method_30_code
def yX0_numberOf : MethodName := ⟨RX0, "numberOf", "(II)I"⟩
abbrev cX0_fillTail : ByteArray := prog_1_method_38_code
def yX0_fillTail : MethodName := ⟨RX0, "fillTail", "(II)V"⟩
abbrev cX0_cappedSum : ByteArray := prog_1_method_40_code
def yX0_cappedSum : MethodName := ⟨RX0, "cappedSum", "(JJ)J"⟩
abbrev cX0_fillLeast : ByteArray := prog_1_method_39_code
def yX0_fillLeast : MethodName := ⟨RX0, "fillLeast", "()V"⟩
abbrev cX0_followBest : ByteArray := prog_1_method_41_code
def yX0_followBest : MethodName := ⟨RX0, "followBest", "(JI[I)I"⟩
abbrev cX0_restAfter : ByteArray := prog_1_method_42_code
def yX0_restAfter : MethodName := ⟨RX0, "restAfter", "(II)I"⟩
abbrev cX0_turnInto : ByteArray := prog_1_method_43_code
def yX0_turnInto : MethodName := ⟨RX0, "turnInto", "(II)I"⟩
abbrev cX0_count : ByteArray := prog_1_method_13_code
def yX0_count : MethodName := ⟨RX0, "count", "()J"⟩
abbrev cL_profile : ByteArray := method_3_code
def yL_profile : MethodName := ⟨RL, "profile", "(LKeyWalks;III[J)I"⟩
abbrev cX0_profile : ByteArray := prog_1_method_3_code
def yX0_profile : MethodName := ⟨RX0, "profile", "(III)I"⟩
abbrev cX0_requireWithin : ByteArray := prog_1_method_26_code
def yX0_requireWithin : MethodName := ⟨RX0, "requireWithin", "(III)V"⟩
abbrev cL_costs : ByteArray := method_4_code
def yL_costs : MethodName := ⟨RL, "costs", "(LKeyWalks;III[J)I"⟩
abbrev cX0_costs : ByteArray := prog_1_method_4_code
def yX0_costs : MethodName := ⟨RX0, "costs", "(III)I"⟩
abbrev cL_slice : ByteArray := method_5_code
def yL_slice : MethodName := ⟨RL, "slice", "(LKeyWalks;[J)I"⟩
abbrev cX0_slice : ByteArray := prog_1_method_5_code
def yX0_slice : MethodName := ⟨RX0, "slice", "()I"⟩
abbrev cL_note : ByteArray := method_6_code
def yL_note : MethodName := ⟨RL, "note", "(LKeyWalks;III[J)I"⟩
abbrev cX0_note : ByteArray := prog_1_method_6_code
def yX0_note : MethodName := ⟨RX0, "note", "(III)I"⟩
abbrev cX0_requireSlice : ByteArray := prog_1_method_24_code
def yX0_requireSlice : MethodName := ⟨RX0, "requireSlice", "(I)V"⟩
abbrev cL_drop : ByteArray := method_7_code
def yL_drop : MethodName := ⟨RL, "drop", "(LKeyWalks;[J)I"⟩
abbrev cX0_drop : ByteArray := prog_1_method_7_code
def yX0_drop : MethodName := ⟨RX0, "drop", "()I"⟩
abbrev cL_fit : ByteArray := method_8_code
def yL_fit : MethodName := ⟨RL, "fit", "(LKeyWalks;II[J)I"⟩
abbrev cX0_fit : ByteArray := prog_1_method_8_code
def yX0_fit : MethodName := ⟨RX0, "fit", "(II)I"⟩
abbrev cX0_requireKey : ByteArray := prog_1_method_25_code
def yX0_requireKey : MethodName := ⟨RX0, "requireKey", "(I)V"⟩
abbrev cL_cost : ByteArray := method_9_code
def yL_cost : MethodName := ⟨RL, "cost", "(LKeyWalks;II[J)I"⟩
abbrev cX0_cost : ByteArray := prog_1_method_9_code
def yX0_cost : MethodName := ⟨RX0, "cost", "(II)I"⟩
abbrev cX0_greatestFit : ByteArray := prog_1_method_32_code
def yX0_greatestFit : MethodName := ⟨RX0, "greatestFit", "(I)I"⟩
abbrev cL_turn : ByteArray := method_10_code
def yL_turn : MethodName := ⟨RL, "turn", "(LKeyWalks;II[J)I"⟩
abbrev cX0_turn : ByteArray := prog_1_method_10_code
def yX0_turn : MethodName := ⟨RX0, "turn", "(II)I"⟩
abbrev cL_key : ByteArray := method_11_code
def yL_key : MethodName := ⟨RL, "key", "(LKeyWalks;I[J)I"⟩
abbrev cX0_key : ByteArray := prog_1_method_12_code
def yX0_key : MethodName := ⟨RX0, "key", "(I)I"⟩
abbrev cL_pick : ByteArray := method_12_code
def yL_pick : MethodName := ⟨RL, "pick", "(LKeyWalks;JI[J)I"⟩
abbrev cX0_pick : ByteArray := prog_1_method_14_code
def yX0_pick : MethodName := ⟨RX0, "pick", "(JI)I"⟩
abbrev cL_through : ByteArray := method_13_code
def yL_through : MethodName := ⟨RL, "through", "(LKeyWalks;II[J)I"⟩
abbrev cX0_through : ByteArray := prog_1_method_15_code
def yX0_through : MethodName := ⟨RX0, "through", "(II)I"⟩
abbrev cX0_knowHeads : ByteArray := prog_1_method_44_code
def yX0_knowHeads : MethodName := ⟨RX0, "knowHeads", "()V"⟩
abbrev cX0_leastInto : ByteArray := prog_1_method_45_code
def yX0_leastInto : MethodName := ⟨RX0, "leastInto", "(II)I"⟩
abbrev cX0_leastThrough : ByteArray := prog_1_method_46_code
def yX0_leastThrough : MethodName := ⟨RX0, "leastThrough", "(II)I"⟩
abbrev cL_near : ByteArray := method_14_code
def yL_near : MethodName := ⟨RL, "near", "(LKeyWalks;II[J)I"⟩
abbrev cX0_near : ByteArray := prog_1_method_16_code
def yX0_near : MethodName := ⟨RX0, "near", "(II)I"⟩
abbrev cL_sure : ByteArray := method_15_code
def yL_sure : MethodName := ⟨RL, "sure", "(LKeyWalks;I[J)I"⟩
abbrev cX0_sure : ByteArray := prog_1_method_17_code
def yX0_sure : MethodName := ⟨RX0, "sure", "(I)I"⟩
abbrev cX0_nextCost : ByteArray := prog_1_method_47_code
def yX0_nextCost : MethodName := ⟨RX0, "nextCost", "(I)I"⟩
abbrev cL_change : ByteArray := method_16_code
def yL_change : MethodName := ⟨RL, "change", "(LKeyWalks;I[J)I"⟩
abbrev cX0_change : ByteArray := prog_1_method_18_code
def yX0_change : MethodName := ⟨RX0, "change", "(I)I"⟩
abbrev cX0_changesAt : ByteArray := prog_1_method_48_code
def yX0_changesAt : MethodName := ⟨RX0, "changesAt", "(I)Z"⟩
abbrev cL_pivot : ByteArray := method_17_code
def yL_pivot : MethodName := ⟨RL, "pivot", "(LKeyWalks;III[J)I"⟩
abbrev cX0_pivot : ByteArray := prog_1_method_19_code
def yX0_pivot : MethodName := ⟨RX0, "pivot", "(III)Z"⟩
abbrev cL_whole : ByteArray := method_18_code
def yL_whole : MethodName := ⟨RL, "whole", "(LKeyWalks;II[J)I"⟩
abbrev cX0_whole : ByteArray := prog_1_method_20_code
def yX0_whole : MethodName := ⟨RX0, "whole", "(II)I"⟩
abbrev cX0_fitTogether : ByteArray := prog_1_method_33_code
def yX0_fitTogether : MethodName := ⟨RX0, "fitTogether", "(III)I"⟩
abbrev cL_of : ByteArray := method_19_code
def yL_of : MethodName := ⟨RL, "of", "(LKeyWalks;I[J)I"⟩
abbrev cX0_of : ByteArray := prog_1_method_21_code
def yX0_of : MethodName := ⟨RX0, "of", "(I)I"⟩
abbrev cX0_changesOfFirst : ByteArray := prog_1_method_49_code
def yX0_changesOfFirst : MethodName := ⟨RX0, "changesOfFirst", "()I"⟩
abbrev cX1_init : ByteArray := prog_3_method_1_code
def yX1_init : MethodName := ⟨RX1, "<init>", "()V"⟩
abbrev cX1_begin : ByteArray := prog_3_method_5_code
def yX1_begin : MethodName := ⟨RX1, "begin", "()V"⟩
abbrev cX1_thrown : ByteArray := prog_3_method_2_code
def yX1_thrown : MethodName := ⟨RX1, "thrown", "()I"⟩
abbrev cX1_clear : ByteArray := prog_3_method_6_code
def yX1_clear : MethodName := ⟨RX1, "clear", "()I"⟩
abbrev cX1_profile : ByteArray := prog_3_method_9_code
def yX1_profile : MethodName := ⟨RX1, "profile", "(III)I"⟩
abbrev cX1_isIn : ByteArray := prog_3_method_4_code
def yX1_isIn : MethodName := ⟨RX1, "isIn", "(JJJ)Z"⟩
abbrev cX1_isGood : ByteArray := prog_3_method_3_code
def yX1_isGood : MethodName := ⟨RX1, "isGood", "(I)Z"⟩
abbrev cX1_costs : ByteArray := prog_3_method_10_code
def yX1_costs : MethodName := ⟨RX1, "costs", "(III)I"⟩
abbrev cX1_slice : ByteArray := prog_3_method_11_code
def yX1_slice : MethodName := ⟨RX1, "slice", "()I"⟩
abbrev cX1_note : ByteArray := prog_3_method_12_code
def yX1_note : MethodName := ⟨RX1, "note", "(III)I"⟩
abbrev cX1_isSlice : ByteArray := prog_3_method_7_code
def yX1_isSlice : MethodName := ⟨RX1, "isSlice", "(I)Z"⟩
abbrev cX1_drop : ByteArray := prog_3_method_13_code
def yX1_drop : MethodName := ⟨RX1, "drop", "()I"⟩
abbrev cX1_fit : ByteArray := prog_3_method_19_code
def yX1_fit : MethodName := ⟨RX1, "fit", "(II)I"⟩
abbrev cX1_isKey : ByteArray := prog_3_method_8_code
def yX1_isKey : MethodName := ⟨RX1, "isKey", "(I)Z"⟩
abbrev cX1_fitOf : ByteArray := prog_3_method_15_code
def yX1_fitOf : MethodName := ⟨RX1, "fitOf", "(II)I"⟩
abbrev cX1_numberOf : ByteArray := prog_3_method_14_code
def yX1_numberOf : MethodName := ⟨RX1, "numberOf", "(II)I"⟩
abbrev cX1_cost : ByteArray := prog_3_method_20_code
def yX1_cost : MethodName := ⟨RX1, "cost", "(II)I"⟩
abbrev cX1_costOf : ByteArray := prog_3_method_16_code
def yX1_costOf : MethodName := ⟨RX1, "costOf", "(II)I"⟩
abbrev cX1_turn : ByteArray := prog_3_method_21_code
def yX1_turn : MethodName := ⟨RX1, "turn", "(II)I"⟩
abbrev cX1_turnOf : ByteArray := prog_3_method_18_code
def yX1_turnOf : MethodName := ⟨RX1, "turnOf", "(II)I"⟩
abbrev cX1_placeOf : ByteArray := prog_3_method_17_code
def yX1_placeOf : MethodName := ⟨RX1, "placeOf", "(I)I"⟩
abbrev cX1_least : ByteArray := prog_3_method_24_code
def yX1_least : MethodName := ⟨RX1, "least", "()I"⟩
abbrev cX1_lay : ByteArray := prog_3_method_22_code
def yX1_lay : MethodName := ⟨RX1, "lay", "()V"⟩
abbrev cX1_weigh : ByteArray := prog_3_method_23_code
def yX1_weigh : MethodName := ⟨RX1, "weigh", "(II)I"⟩
abbrev cX1_count : ByteArray := prog_3_method_25_code
def yX1_count : MethodName := ⟨RX1, "count", "()J"⟩
abbrev cX1_key : ByteArray := prog_3_method_27_code
def yX1_key : MethodName := ⟨RX1, "key", "(I)I"⟩
abbrev cX1_walkBehind : ByteArray := prog_3_method_26_code
def yX1_walkBehind : MethodName := ⟨RX1, "walkBehind", "(J)Z"⟩
abbrev cX1_pick : ByteArray := prog_3_method_28_code
def yX1_pick : MethodName := ⟨RX1, "pick", "(JI)I"⟩
abbrev cX1_through : ByteArray := prog_3_method_29_code
def yX1_through : MethodName := ⟨RX1, "through", "(II)I"⟩
abbrev cX1_near : ByteArray := prog_3_method_30_code
def yX1_near : MethodName := ⟨RX1, "near", "(II)I"⟩
abbrev cX1_sure : ByteArray := prog_3_method_31_code
def yX1_sure : MethodName := ⟨RX1, "sure", "(I)I"⟩
abbrev cX1_change : ByteArray := prog_3_method_33_code
def yX1_change : MethodName := ⟨RX1, "change", "(I)I"⟩
abbrev cX1_changeAt : ByteArray := prog_3_method_32_code
def yX1_changeAt : MethodName := ⟨RX1, "changeAt", "(I)I"⟩
abbrev cX1_pivot : ByteArray := prog_3_method_34_code
def yX1_pivot : MethodName := ⟨RX1, "pivot", "(III)Z"⟩
abbrev cX1_whole : ByteArray := prog_3_method_35_code
def yX1_whole : MethodName := ⟨RX1, "whole", "(II)I"⟩
abbrev cX1_of : ByteArray := prog_3_method_36_code
def yX1_of : MethodName := ⟨RX1, "of", "(I)I"⟩
end
section
def kStr : List (Nat × String) := [(163, "a number is outside what is told"), (63, "there are 40 slices"), (72, "the weight would be above 200"), (74, "there is no slice"), (104, "there is no such place among the best walks"), (123, "the next cost is 0"), (126, "there is no change below 0"), (135, "the first slice is behind the last one"), (145, "there is no such number to tell")]
/-- the profiles at first -/
def kFP (j : Nat) : Nat := [5, 0, 3, 0, 3, 3, 0, 3, 0, 3, 0, 3, 5, 0, 3, 3, 0, 3, 0, 3, 3, 0, 0, 3].getD j 0
/-! what is given at the start and stays: the table of first profiles, two statics of Throwable, the texts of throws -/
/-- words of the tables that a call may rely on -/
def kTb : List Cond := lw_tbl.filter goodWord
theorem kTb_in {w : Cond} (h : w ∈ lw_tbl) (g : goodWord w = true) : w ∈ kTb := List.mem_filter.mpr ⟨h, g⟩
theorem kTb_good {w : Cond} (h : w ∈ kTb) : (w.onTables && w.keeps) = true ∨ ∃ ty, w = .arrayClass ty := good_of_word (List.mem_filter.mp h).2
theorem kgV {own Cn : String} {index : Nat} {y : MethodName} {w : Cond} (h1 : Cond.methodLink own index y ∈ kTb) (h2 : Cond.instanceMethod y ∈ kTb) (h3 : Cond.selects Cn y y ∈ kTb) (h4 : Cond.initialized Cn ∈ kTb) (h5 : w ∈ kTb) : GoodIn kTb (wsV own index Cn y (w :: kTb)) := by
  intro v hv
  have hm : v ∈ kTb := by
    simp only [wsV, List.cons_append, List.nil_append, List.mem_cons] at hv
    rcases hv with rfl | rfl | rfl | rfl | rfl | hv
    · exact h1
    · exact h2
    · exact h3
    · exact h4
    · exact h5
    · exact hv
  exact ⟨hm, kTb_good hm⟩
theorem kgS {own : String} {index : Nat} {y : MethodName} {w : Cond} (h1 : Cond.methodLink own index y ∈ kTb) (h2 : Cond.static y ∈ kTb) (h4 : Cond.initialized y.cls ∈ kTb) (h5 : w ∈ kTb) : GoodIn kTb (va_wsS own index y (w :: kTb)) := by
  intro v hv
  have hm : v ∈ kTb := by
    simp only [va_wsS, List.cons_append, List.nil_append, List.mem_cons] at hv
    rcases hv with rfl | rfl | rfl | rfl | hv
    · exact h1
    · exact h2
    · exact h4
    · exact h5
    · exact hv
  exact ⟨hm, kTb_good hm⟩
/-- words of the tables that a call doesn't carry, but that stay -/
def kFa : List Cond := lw_tbl.filter (fun w => w.faceAtom && w.onTables)
def kOwn : String := "KeyWalks"
def amb (N0 : Nat) (U : State) (H : Heap) : Prop :=
  (∃ t : Nat, va_Z "KeyWalks" "FIRST_PROFILES" "[I" (.ref t) (fun q : Nat => N0 ≤ q) U H ∧ va_T .int t 24 (fun j => .int (nI (kFP j))) (fun q : Nat => N0 ≤ q) U H) ∧
  vx_Zq Bundle.tN "UNASSIGNED_STACK" Bundle.steD (fun q : Nat => N0 ≤ q) U H ∧ vx_Zq Bundle.tN "SUPPRESSED_SENTINEL" Bundle.listD (fun q : Nat => N0 ≤ q) U H ∧ (∀ x ∈ kStr, ∃ a : Nat, vk_R kOwn x.1 x.2 a U) ∧ ∀ w ∈ kFa, w.before #[] U = true
theorem fa_alike {u U : State} {w : Cond} (hw : w ∈ kFa) (ha : u.vm.Alike U.vm) (h : w.before #[] u = true) : w.before #[] U = true := by
  have h0 := (List.mem_filter.mp hw).2
  simp only [Bool.and_eq_true] at h0
  have h1 := Cond.faceAtom_setVm ha w h0.1 h
  exact va_tabs (u := u.setVm U.vm) h0.2 rfl h1
theorem amb_kept {N0 : Nat} {U : State} {H H1 : Heap} (h : amb N0 U H) (hq : ∀ a : Nat, a < H.size → ¬ (N0 ≤ a) → H1[a]? = H[a]?) : amb N0 U H1 := by
  obtain ⟨⟨t, h1, h2⟩, h3, h4, h5, h6⟩ := h
  exact ⟨⟨t, h1.kept hq, h2.kept hq⟩, h3.kept hq, h4.kept hq, h5, h6⟩
theorem amb_warm {N0 : Nat} {u U : State} {H : Heap} (hW : u.WarmedH U.vm) (h : amb N0 u H) : amb N0 U H := by
  obtain ⟨⟨t, h1, h2⟩, h3, h4, h5, h6⟩ := h
  exact ⟨⟨t, h1.moved hW.alike, h2.moved hW.alike⟩, h3.moved hW.alike, h4.moved hW.alike, fun x hx => ⟨_, (h5 x hx).choose_spec.warm hW⟩, fun w hw => fa_alike hw hW.alike (h6 w hw)⟩
theorem amb_same {N0 : Nat} {u U : State} {H : Heap} (hv : U.vm = u.vm) (h : amb N0 u H) : amb N0 U H := by
  have ha : u.vm.Alike U.vm := by rw [hv]; exact Vm.Alike.refl _
  obtain ⟨⟨t, h1, h2⟩, h3, h4, h5, h6⟩ := h
  exact ⟨⟨t, h1.moved ha, h2.moved ha⟩, h3.moved ha, h4.moved ha, fun x hx => ⟨_, (h5 x hx).choose_spec.same hv⟩, fun w hw => fa_alike hw ha (h6 w hw)⟩
theorem amb_str {N0 : Nat} {U : State} {H : Heap} {x : Nat × String} (h : amb N0 U H) (hx : x ∈ kStr) : ∃ a : Nat, vk_R kOwn x.1 x.2 a U := h.2.2.2.1 x hx
theorem amb_fa {N0 : Nat} {U : State} {H : Heap} {A : Array Value} {w : Cond} (h : amb N0 U H) (hw : w ∈ kFa) : w.before A U = true := va_any (by have := (List.mem_filter.mp hw).2; simp only [Bool.and_eq_true] at this; exact this.2) (h.2.2.2.2 w hw)
theorem amb_U {N0 : Nat} {U : State} {H : Heap} {A : Nat → Prop} (hA : ∀ q : Nat, A q → N0 ≤ q) (h : amb N0 U H) : vx_Zq Bundle.tN "UNASSIGNED_STACK" Bundle.steD A U H := h.2.1.narrow hA
theorem amb_S {N0 : Nat} {U : State} {H : Heap} {A : Nat → Prop} (hA : ∀ q : Nat, A q → N0 ≤ q) (h : amb N0 U H) : vx_Zq Bundle.tN "SUPPRESSED_SENTINEL" Bundle.listD A U H := h.2.2.1.narrow hA
end
section
theorem kin0 : ∀ w ∈ u_ws RX0 TX0 17, w ∈ kTb := by decide +kernel
theorem kin1 : ∀ w ∈ u_ws RX1 TX1 12, w ∈ kTb := by decide +kernel
theorem ini_KeyWalksLaw : Cond.initialized "KeyWalksLaw" ∈ kTb := kTb_in (List.mem_append_right _ (List.mem_of_getElem? (i := 0) (by decide +kernel))) rfl
theorem ini_KeyWalks : Cond.initialized "KeyWalks" ∈ kTb := kTb_in (List.mem_append_right _ (List.mem_of_getElem? (i := 1) (by decide +kernel))) rfl
theorem ini_java_lang_System : Cond.initialized "java/lang/System" ∈ kTb := kTb_in (List.mem_append_right _ (List.mem_of_getElem? (i := 2) (by decide +kernel))) rfl
theorem ini_KeyWalksModel : Cond.initialized "KeyWalksModel" ∈ kTb := kTb_in (List.mem_append_right _ (List.mem_of_getElem? (i := 3) (by decide +kernel))) rfl
theorem ini_java_lang_Throwable : Cond.initialized "java/lang/Throwable" ∈ kTb := kTb_in (List.mem_append_right _ (List.mem_of_getElem? (i := 4) (by decide +kernel))) rfl
theorem ini_java_lang_Exception : Cond.initialized "java/lang/Exception" ∈ kTb := kTb_in (List.mem_append_right _ (List.mem_of_getElem? (i := 5) (by decide +kernel))) rfl
theorem ini_java_lang_RuntimeException : Cond.initialized "java/lang/RuntimeException" ∈ kTb := kTb_in (List.mem_append_right _ (List.mem_of_getElem? (i := 6) (by decide +kernel))) rfl
theorem ini_java_lang_IllegalArgumentException : Cond.initialized "java/lang/IllegalArgumentException" ∈ kTb := kTb_in (List.mem_append_right _ (List.mem_of_getElem? (i := 7) (by decide +kernel))) rfl
theorem ini_java_lang_IllegalStateException : Cond.initialized "java/lang/IllegalStateException" ∈ kTb := kTb_in (List.mem_append_right _ (List.mem_of_getElem? (i := 8) (by decide +kernel))) rfl
theorem ini_java_lang_Math : Cond.initialized "java/lang/Math" ∈ kTb := kTb_in (List.mem_append_right _ (List.mem_of_getElem? (i := 9) (by decide +kernel))) rfl
theorem ini_java_lang_ArithmeticException : Cond.initialized "java/lang/ArithmeticException" ∈ kTb := kTb_in (List.mem_append_right _ (List.mem_of_getElem? (i := 10) (by decide +kernel))) rfl
theorem im_X0_init : Cond.instanceMethod yX0_init ∈ kTb := kTb_in (List.mem_append_right _ (List.mem_of_getElem? (i := 14) (by decide +kernel))) rfl
set_option maxRecDepth 100000 in
theorem cd_X0_init : Cond.code yX0_init cX0_init 1 none ∈ kTb := kTb_in (List.mem_append_right _ (List.mem_of_getElem? (i := 15) rfl)) rfl
theorem im_X0_setFirst : Cond.instanceMethod yX0_setFirst ∈ kTb := kTb_in (List.mem_append_right _ (List.mem_of_getElem? (i := 21) (by decide +kernel))) rfl
set_option maxRecDepth 100000 in
theorem cd_X0_setFirst : Cond.code yX0_setFirst cX0_setFirst 1 none ∈ kTb := kTb_in (List.mem_append_right _ (List.mem_of_getElem? (i := 22) rfl)) rfl
theorem fl0_147 : Cond.fieldLink RX0 147 "KeyWalks" "FIRST_PROFILES" "[I" ∈ kTb := kTb_in (List.mem_append_right _ (List.mem_of_getElem? (i := 23) (by decide +kernel))) rfl
theorem im_X0_forget : Cond.instanceMethod yX0_forget ∈ kTb := kTb_in (List.mem_append_right _ (List.mem_of_getElem? (i := 30) (by decide +kernel))) rfl
set_option maxRecDepth 100000 in
theorem cd_X0_forget : Cond.code yX0_forget cX0_forget 1 none ∈ kTb := kTb_in (List.mem_append_right _ (List.mem_of_getElem? (i := 31) rfl)) rfl
theorem fl0_9 : Cond.fieldLink RX0 9 "KeyWalks" "profiles" "[I" ∈ kTb := kTb_in (List.mem_append_right _ (List.mem_of_getElem? (i := 32) (by decide +kernel))) rfl
theorem fl0_13 : Cond.fieldLink RX0 13 "KeyWalks" "weights" "[I" ∈ kTb := kTb_in (List.mem_append_right _ (List.mem_of_getElem? (i := 33) (by decide +kernel))) rfl
theorem fl0_52 : Cond.fieldLink RX0 52 "KeyWalks" "base" "I" ∈ kTb := kTb_in (List.mem_append_right _ (List.mem_of_getElem? (i := 34) (by decide +kernel))) rfl
theorem fl0_55 : Cond.fieldLink RX0 55 "KeyWalks" "by" "I" ∈ kTb := kTb_in (List.mem_append_right _ (List.mem_of_getElem? (i := 35) (by decide +kernel))) rfl
theorem fl0_58 : Cond.fieldLink RX0 58 "KeyWalks" "over" "I" ∈ kTb := kTb_in (List.mem_append_right _ (List.mem_of_getElem? (i := 36) (by decide +kernel))) rfl
theorem fl0_41 : Cond.fieldLink RX0 41 "KeyWalks" "slices" "I" ∈ kTb := kTb_in (List.mem_append_right _ (List.mem_of_getElem? (i := 37) (by decide +kernel))) rfl
theorem fl0_16 : Cond.fieldLink RX0 16 "KeyWalks" "turns" "[I" ∈ kTb := kTb_in (List.mem_append_right _ (List.mem_of_getElem? (i := 38) (by decide +kernel))) rfl
theorem fl0_19 : Cond.fieldLink RX0 19 "KeyWalks" "sliceCosts" "[I" ∈ kTb := kTb_in (List.mem_append_right _ (List.mem_of_getElem? (i := 39) (by decide +kernel))) rfl
theorem fl0_22 : Cond.fieldLink RX0 22 "KeyWalks" "tails" "[I" ∈ kTb := kTb_in (List.mem_append_right _ (List.mem_of_getElem? (i := 40) (by decide +kernel))) rfl
theorem fl0_25 : Cond.fieldLink RX0 25 "KeyWalks" "ways" "[J" ∈ kTb := kTb_in (List.mem_append_right _ (List.mem_of_getElem? (i := 41) (by decide +kernel))) rfl
theorem fl0_29 : Cond.fieldLink RX0 29 "KeyWalks" "heads" "[I" ∈ kTb := kTb_in (List.mem_append_right _ (List.mem_of_getElem? (i := 42) (by decide +kernel))) rfl
theorem fl0_32 : Cond.fieldLink RX0 32 "KeyWalks" "firstKeys" "[I" ∈ kTb := kTb_in (List.mem_append_right _ (List.mem_of_getElem? (i := 43) (by decide +kernel))) rfl
theorem fl0_35 : Cond.fieldLink RX0 35 "KeyWalks" "pickedKeys" "[I" ∈ kTb := kTb_in (List.mem_append_right _ (List.mem_of_getElem? (i := 44) (by decide +kernel))) rfl
theorem fl0_93 : Cond.fieldLink RX0 93 "KeyWalks" "leastCost" "I" ∈ kTb := kTb_in (List.mem_append_right _ (List.mem_of_getElem? (i := 45) (by decide +kernel))) rfl
theorem fl0_96 : Cond.fieldLink RX0 96 "KeyWalks" "bestCount" "J" ∈ kTb := kTb_in (List.mem_append_right _ (List.mem_of_getElem? (i := 46) (by decide +kernel))) rfl
theorem fl0_156 : Cond.fieldLink RX0 156 "KeyWalks" "tailsKnown" "Z" ∈ kTb := kTb_in (List.mem_append_right _ (List.mem_of_getElem? (i := 47) (by decide +kernel))) rfl
theorem fl0_160 : Cond.fieldLink RX0 160 "KeyWalks" "headsKnown" "Z" ∈ kTb := kTb_in (List.mem_append_right _ (List.mem_of_getElem? (i := 48) (by decide +kernel))) rfl
theorem im_X0_clear : Cond.instanceMethod yX0_clear ∈ kTb := kTb_in (List.mem_append_right _ (List.mem_of_getElem? (i := 87) (by decide +kernel))) rfl
set_option maxRecDepth 100000 in
theorem cd_X0_clear : Cond.code yX0_clear cX0_clear 2 (some .int) ∈ kTb := kTb_in (List.mem_append_right _ (List.mem_of_getElem? (i := 89) rfl)) rfl
theorem im_X0_least : Cond.instanceMethod yX0_least ∈ kTb := kTb_in (List.mem_append_right _ (List.mem_of_getElem? (i := 91) (by decide +kernel))) rfl
set_option maxRecDepth 100000 in
theorem cd_X0_least : Cond.code yX0_least cX0_least 1 (some .int) ∈ kTb := kTb_in (List.mem_append_right _ (List.mem_of_getElem? (i := 93) rfl)) rfl
theorem im_X0_knowTails : Cond.instanceMethod yX0_knowTails ∈ kTb := kTb_in (List.mem_append_right _ (List.mem_of_getElem? (i := 96) (by decide +kernel))) rfl
set_option maxRecDepth 100000 in
theorem cd_X0_knowTails : Cond.code yX0_knowTails cX0_knowTails 3 none ∈ kTb := kTb_in (List.mem_append_right _ (List.mem_of_getElem? (i := 97) rfl)) rfl
theorem im_X0_fillTurns : Cond.instanceMethod yX0_fillTurns ∈ kTb := kTb_in (List.mem_append_right _ (List.mem_of_getElem? (i := 100) (by decide +kernel))) rfl
set_option maxRecDepth 100000 in
theorem cd_X0_fillTurns : Cond.code yX0_fillTurns cX0_fillTurns 3 none ∈ kTb := kTb_in (List.mem_append_right _ (List.mem_of_getElem? (i := 101) rfl)) rfl
theorem im_X0_turnBetween : Cond.instanceMethod yX0_turnBetween ∈ kTb := kTb_in (List.mem_append_right _ (List.mem_of_getElem? (i := 104) (by decide +kernel))) rfl
set_option maxRecDepth 100000 in
theorem cd_X0_turnBetween : Cond.code yX0_turnBetween cX0_turnBetween 5 (some .int) ∈ kTb := kTb_in (List.mem_append_right _ (List.mem_of_getElem? (i := 105) rfl)) rfl
theorem sm_X0_placeOf : Cond.static yX0_placeOf ∈ kTb := kTb_in (List.mem_append_right _ (List.mem_of_getElem? (i := 107) (by decide +kernel))) rfl
set_option maxRecDepth 100000 in
theorem cd_X0_placeOf : Cond.code yX0_placeOf cX0_placeOf 2 (some .int) ∈ kTb := kTb_in (List.mem_append_right _ (List.mem_of_getElem? (i := 108) rfl)) rfl
theorem sm_X0_modeOf : Cond.static yX0_modeOf ∈ kTb := kTb_in (List.mem_append_right _ (List.mem_of_getElem? (i := 110) (by decide +kernel))) rfl
set_option maxRecDepth 100000 in
theorem cd_X0_modeOf : Cond.code yX0_modeOf cX0_modeOf 1 (some .int) ∈ kTb := kTb_in (List.mem_append_right _ (List.mem_of_getElem? (i := 111) rfl)) rfl
theorem sm_X0_tonicOf : Cond.static yX0_tonicOf ∈ kTb := kTb_in (List.mem_append_right _ (List.mem_of_getElem? (i := 113) (by decide +kernel))) rfl
set_option maxRecDepth 100000 in
theorem cd_X0_tonicOf : Cond.code yX0_tonicOf cX0_tonicOf 1 (some .int) ∈ kTb := kTb_in (List.mem_append_right _ (List.mem_of_getElem? (i := 114) rfl)) rfl
theorem im_X0_fillSliceCosts : Cond.instanceMethod yX0_fillSliceCosts ∈ kTb := kTb_in (List.mem_append_right _ (List.mem_of_getElem? (i := 123) (by decide +kernel))) rfl
set_option maxRecDepth 100000 in
theorem cd_X0_fillSliceCosts : Cond.code yX0_fillSliceCosts cX0_fillSliceCosts 5 none ∈ kTb := kTb_in (List.mem_append_right _ (List.mem_of_getElem? (i := 124) rfl)) rfl
theorem im_X0_fitIn : Cond.instanceMethod yX0_fitIn ∈ kTb := kTb_in (List.mem_append_right _ (List.mem_of_getElem? (i := 127) (by decide +kernel))) rfl
set_option maxRecDepth 100000 in
theorem cd_X0_fitIn : Cond.code yX0_fitIn cX0_fitIn 5 (some .int) ∈ kTb := kTb_in (List.mem_append_right _ (List.mem_of_getElem? (i := 128) rfl)) rfl
theorem im_X0_numberOf : Cond.instanceMethod yX0_numberOf ∈ kTb := kTb_in (List.mem_append_right _ (List.mem_of_getElem? (i := 131) (by decide +kernel))) rfl
set_option maxRecDepth 100000 in
theorem cd_X0_numberOf : Cond.code yX0_numberOf cX0_numberOf 4 (some .int) ∈ kTb := kTb_in (List.mem_append_right _ (List.mem_of_getElem? (i := 132) rfl)) rfl
theorem im_X0_fillTail : Cond.instanceMethod yX0_fillTail ∈ kTb := kTb_in (List.mem_append_right _ (List.mem_of_getElem? (i := 138) (by decide +kernel))) rfl
set_option maxRecDepth 100000 in
theorem cd_X0_fillTail : Cond.code yX0_fillTail cX0_fillTail 10 none ∈ kTb := kTb_in (List.mem_append_right _ (List.mem_of_getElem? (i := 139) rfl)) rfl
theorem kc0_198 : Cond.constant RX0 198 (nI 1000000000) ∈ kTb := kTb_in (List.mem_append_right _ (List.mem_of_getElem? (i := 140) (by decide +kernel))) rfl
theorem sm_X0_cappedSum : Cond.static yX0_cappedSum ∈ kTb := kTb_in (List.mem_append_right _ (List.mem_of_getElem? (i := 142) (by decide +kernel))) rfl
set_option maxRecDepth 100000 in
theorem cd_X0_cappedSum : Cond.code yX0_cappedSum cX0_cappedSum 4 (some .long) ∈ kTb := kTb_in (List.mem_append_right _ (List.mem_of_getElem? (i := 143) rfl)) rfl
theorem kc0_100 : Cond.constantLong RX0 100 (lN 1000000000000000000) ∈ kTb := kTb_in (List.mem_append_right _ (List.mem_of_getElem? (i := 144) (by decide +kernel))) rfl
theorem im_X0_fillLeast : Cond.instanceMethod yX0_fillLeast ∈ kTb := kTb_in (List.mem_append_right _ (List.mem_of_getElem? (i := 150) (by decide +kernel))) rfl
set_option maxRecDepth 100000 in
theorem cd_X0_fillLeast : Cond.code yX0_fillLeast cX0_fillLeast 2 none ∈ kTb := kTb_in (List.mem_append_right _ (List.mem_of_getElem? (i := 151) rfl)) rfl
theorem im_X0_followBest : Cond.instanceMethod yX0_followBest ∈ kTb := kTb_in (List.mem_append_right _ (List.mem_of_getElem? (i := 154) (by decide +kernel))) rfl
set_option maxRecDepth 100000 in
theorem cd_X0_followBest : Cond.code yX0_followBest cX0_followBest 13 (some .int) ∈ kTb := kTb_in (List.mem_append_right _ (List.mem_of_getElem? (i := 155) rfl)) rfl
theorem im_X0_restAfter : Cond.instanceMethod yX0_restAfter ∈ kTb := kTb_in (List.mem_append_right _ (List.mem_of_getElem? (i := 158) (by decide +kernel))) rfl
set_option maxRecDepth 100000 in
theorem cd_X0_restAfter : Cond.code yX0_restAfter cX0_restAfter 3 (some .int) ∈ kTb := kTb_in (List.mem_append_right _ (List.mem_of_getElem? (i := 159) rfl)) rfl
theorem im_X0_turnInto : Cond.instanceMethod yX0_turnInto ∈ kTb := kTb_in (List.mem_append_right _ (List.mem_of_getElem? (i := 162) (by decide +kernel))) rfl
set_option maxRecDepth 100000 in
theorem cd_X0_turnInto : Cond.code yX0_turnInto cX0_turnInto 3 (some .int) ∈ kTb := kTb_in (List.mem_append_right _ (List.mem_of_getElem? (i := 163) rfl)) rfl
theorem im_X0_count : Cond.instanceMethod yX0_count ∈ kTb := kTb_in (List.mem_append_right _ (List.mem_of_getElem? (i := 165) (by decide +kernel))) rfl
set_option maxRecDepth 100000 in
theorem cd_X0_count : Cond.code yX0_count cX0_count 1 (some .long) ∈ kTb := kTb_in (List.mem_append_right _ (List.mem_of_getElem? (i := 167) rfl)) rfl
theorem sm_L_profile : Cond.static yL_profile ∈ kTb := kTb_in (List.mem_append_right _ (List.mem_of_getElem? (i := 169) (by decide +kernel))) rfl
theorem im_X0_profile : Cond.instanceMethod yX0_profile ∈ kTb := kTb_in (List.mem_append_right _ (List.mem_of_getElem? (i := 173) (by decide +kernel))) rfl
set_option maxRecDepth 100000 in
theorem cd_X0_profile : Cond.code yX0_profile cX0_profile 6 (some .int) ∈ kTb := kTb_in (List.mem_append_right _ (List.mem_of_getElem? (i := 175) rfl)) rfl
theorem sm_X0_requireWithin : Cond.static yX0_requireWithin ∈ kTb := kTb_in (List.mem_append_right _ (List.mem_of_getElem? (i := 177) (by decide +kernel))) rfl
set_option maxRecDepth 100000 in
theorem cd_X0_requireWithin : Cond.code yX0_requireWithin cX0_requireWithin 3 none ∈ kTb := kTb_in (List.mem_append_right _ (List.mem_of_getElem? (i := 178) rfl)) rfl
theorem sm_L_costs : Cond.static yL_costs ∈ kTb := kTb_in (List.mem_append_right _ (List.mem_of_getElem? (i := 248) (by decide +kernel))) rfl
theorem im_X0_costs : Cond.instanceMethod yX0_costs ∈ kTb := kTb_in (List.mem_append_right _ (List.mem_of_getElem? (i := 251) (by decide +kernel))) rfl
set_option maxRecDepth 100000 in
theorem cd_X0_costs : Cond.code yX0_costs cX0_costs 5 (some .int) ∈ kTb := kTb_in (List.mem_append_right _ (List.mem_of_getElem? (i := 253) rfl)) rfl
theorem sm_L_slice : Cond.static yL_slice ∈ kTb := kTb_in (List.mem_append_right _ (List.mem_of_getElem? (i := 255) (by decide +kernel))) rfl
theorem im_X0_slice : Cond.instanceMethod yX0_slice ∈ kTb := kTb_in (List.mem_append_right _ (List.mem_of_getElem? (i := 259) (by decide +kernel))) rfl
set_option maxRecDepth 100000 in
theorem cd_X0_slice : Cond.code yX0_slice cX0_slice 3 (some .int) ∈ kTb := kTb_in (List.mem_append_right _ (List.mem_of_getElem? (i := 261) rfl)) rfl
theorem sm_L_note : Cond.static yL_note ∈ kTb := kTb_in (List.mem_append_right _ (List.mem_of_getElem? (i := 279) (by decide +kernel))) rfl
theorem im_X0_note : Cond.instanceMethod yX0_note ∈ kTb := kTb_in (List.mem_append_right _ (List.mem_of_getElem? (i := 282) (by decide +kernel))) rfl
set_option maxRecDepth 100000 in
theorem cd_X0_note : Cond.code yX0_note cX0_note 6 (some .int) ∈ kTb := kTb_in (List.mem_append_right _ (List.mem_of_getElem? (i := 284) rfl)) rfl
theorem im_X0_requireSlice : Cond.instanceMethod yX0_requireSlice ∈ kTb := kTb_in (List.mem_append_right _ (List.mem_of_getElem? (i := 287) (by decide +kernel))) rfl
set_option maxRecDepth 100000 in
theorem cd_X0_requireSlice : Cond.code yX0_requireSlice cX0_requireSlice 2 none ∈ kTb := kTb_in (List.mem_append_right _ (List.mem_of_getElem? (i := 288) rfl)) rfl
theorem sm_L_drop : Cond.static yL_drop ∈ kTb := kTb_in (List.mem_append_right _ (List.mem_of_getElem? (i := 291) (by decide +kernel))) rfl
theorem im_X0_drop : Cond.instanceMethod yX0_drop ∈ kTb := kTb_in (List.mem_append_right _ (List.mem_of_getElem? (i := 294) (by decide +kernel))) rfl
set_option maxRecDepth 100000 in
theorem cd_X0_drop : Cond.code yX0_drop cX0_drop 1 (some .int) ∈ kTb := kTb_in (List.mem_append_right _ (List.mem_of_getElem? (i := 296) rfl)) rfl
theorem sm_L_fit : Cond.static yL_fit ∈ kTb := kTb_in (List.mem_append_right _ (List.mem_of_getElem? (i := 299) (by decide +kernel))) rfl
theorem im_X0_fit : Cond.instanceMethod yX0_fit ∈ kTb := kTb_in (List.mem_append_right _ (List.mem_of_getElem? (i := 302) (by decide +kernel))) rfl
set_option maxRecDepth 100000 in
theorem cd_X0_fit : Cond.code yX0_fit cX0_fit 3 (some .int) ∈ kTb := kTb_in (List.mem_append_right _ (List.mem_of_getElem? (i := 304) rfl)) rfl
theorem sm_X0_requireKey : Cond.static yX0_requireKey ∈ kTb := kTb_in (List.mem_append_right _ (List.mem_of_getElem? (i := 306) (by decide +kernel))) rfl
set_option maxRecDepth 100000 in
theorem cd_X0_requireKey : Cond.code yX0_requireKey cX0_requireKey 1 none ∈ kTb := kTb_in (List.mem_append_right _ (List.mem_of_getElem? (i := 307) rfl)) rfl
theorem sm_L_cost : Cond.static yL_cost ∈ kTb := kTb_in (List.mem_append_right _ (List.mem_of_getElem? (i := 309) (by decide +kernel))) rfl
theorem im_X0_cost : Cond.instanceMethod yX0_cost ∈ kTb := kTb_in (List.mem_append_right _ (List.mem_of_getElem? (i := 312) (by decide +kernel))) rfl
set_option maxRecDepth 100000 in
theorem cd_X0_cost : Cond.code yX0_cost cX0_cost 3 (some .int) ∈ kTb := kTb_in (List.mem_append_right _ (List.mem_of_getElem? (i := 314) rfl)) rfl
theorem im_X0_greatestFit : Cond.instanceMethod yX0_greatestFit ∈ kTb := kTb_in (List.mem_append_right _ (List.mem_of_getElem? (i := 317) (by decide +kernel))) rfl
set_option maxRecDepth 100000 in
theorem cd_X0_greatestFit : Cond.code yX0_greatestFit cX0_greatestFit 4 (some .int) ∈ kTb := kTb_in (List.mem_append_right _ (List.mem_of_getElem? (i := 318) rfl)) rfl
theorem sm_L_turn : Cond.static yL_turn ∈ kTb := kTb_in (List.mem_append_right _ (List.mem_of_getElem? (i := 320) (by decide +kernel))) rfl
theorem im_X0_turn : Cond.instanceMethod yX0_turn ∈ kTb := kTb_in (List.mem_append_right _ (List.mem_of_getElem? (i := 323) (by decide +kernel))) rfl
set_option maxRecDepth 100000 in
theorem cd_X0_turn : Cond.code yX0_turn cX0_turn 3 (some .int) ∈ kTb := kTb_in (List.mem_append_right _ (List.mem_of_getElem? (i := 325) rfl)) rfl
theorem sm_L_key : Cond.static yL_key ∈ kTb := kTb_in (List.mem_append_right _ (List.mem_of_getElem? (i := 327) (by decide +kernel))) rfl
theorem im_X0_key : Cond.instanceMethod yX0_key ∈ kTb := kTb_in (List.mem_append_right _ (List.mem_of_getElem? (i := 330) (by decide +kernel))) rfl
set_option maxRecDepth 100000 in
theorem cd_X0_key : Cond.code yX0_key cX0_key 2 (some .int) ∈ kTb := kTb_in (List.mem_append_right _ (List.mem_of_getElem? (i := 332) rfl)) rfl
theorem sm_L_pick : Cond.static yL_pick ∈ kTb := kTb_in (List.mem_append_right _ (List.mem_of_getElem? (i := 334) (by decide +kernel))) rfl
theorem im_X0_pick : Cond.instanceMethod yX0_pick ∈ kTb := kTb_in (List.mem_append_right _ (List.mem_of_getElem? (i := 337) (by decide +kernel))) rfl
set_option maxRecDepth 100000 in
theorem cd_X0_pick : Cond.code yX0_pick cX0_pick 4 (some .int) ∈ kTb := kTb_in (List.mem_append_right _ (List.mem_of_getElem? (i := 339) rfl)) rfl
theorem sm_L_through : Cond.static yL_through ∈ kTb := kTb_in (List.mem_append_right _ (List.mem_of_getElem? (i := 342) (by decide +kernel))) rfl
theorem im_X0_through : Cond.instanceMethod yX0_through ∈ kTb := kTb_in (List.mem_append_right _ (List.mem_of_getElem? (i := 345) (by decide +kernel))) rfl
set_option maxRecDepth 100000 in
theorem cd_X0_through : Cond.code yX0_through cX0_through 3 (some .int) ∈ kTb := kTb_in (List.mem_append_right _ (List.mem_of_getElem? (i := 347) rfl)) rfl
theorem im_X0_knowHeads : Cond.instanceMethod yX0_knowHeads ∈ kTb := kTb_in (List.mem_append_right _ (List.mem_of_getElem? (i := 350) (by decide +kernel))) rfl
set_option maxRecDepth 100000 in
theorem cd_X0_knowHeads : Cond.code yX0_knowHeads cX0_knowHeads 4 none ∈ kTb := kTb_in (List.mem_append_right _ (List.mem_of_getElem? (i := 351) rfl)) rfl
theorem im_X0_leastInto : Cond.instanceMethod yX0_leastInto ∈ kTb := kTb_in (List.mem_append_right _ (List.mem_of_getElem? (i := 354) (by decide +kernel))) rfl
set_option maxRecDepth 100000 in
theorem cd_X0_leastInto : Cond.code yX0_leastInto cX0_leastInto 5 (some .int) ∈ kTb := kTb_in (List.mem_append_right _ (List.mem_of_getElem? (i := 355) rfl)) rfl
theorem im_X0_leastThrough : Cond.instanceMethod yX0_leastThrough ∈ kTb := kTb_in (List.mem_append_right _ (List.mem_of_getElem? (i := 358) (by decide +kernel))) rfl
set_option maxRecDepth 100000 in
theorem cd_X0_leastThrough : Cond.code yX0_leastThrough cX0_leastThrough 4 (some .int) ∈ kTb := kTb_in (List.mem_append_right _ (List.mem_of_getElem? (i := 359) rfl)) rfl
theorem sm_L_near : Cond.static yL_near ∈ kTb := kTb_in (List.mem_append_right _ (List.mem_of_getElem? (i := 361) (by decide +kernel))) rfl
theorem im_X0_near : Cond.instanceMethod yX0_near ∈ kTb := kTb_in (List.mem_append_right _ (List.mem_of_getElem? (i := 364) (by decide +kernel))) rfl
set_option maxRecDepth 100000 in
theorem cd_X0_near : Cond.code yX0_near cX0_near 5 (some .int) ∈ kTb := kTb_in (List.mem_append_right _ (List.mem_of_getElem? (i := 366) rfl)) rfl
theorem kc0_117 : Cond.constant RX0 117 (nI 100000) ∈ kTb := kTb_in (List.mem_append_right _ (List.mem_of_getElem? (i := 367) (by decide +kernel))) rfl
theorem sm_L_sure : Cond.static yL_sure ∈ kTb := kTb_in (List.mem_append_right _ (List.mem_of_getElem? (i := 369) (by decide +kernel))) rfl
theorem im_X0_sure : Cond.instanceMethod yX0_sure ∈ kTb := kTb_in (List.mem_append_right _ (List.mem_of_getElem? (i := 373) (by decide +kernel))) rfl
set_option maxRecDepth 100000 in
theorem cd_X0_sure : Cond.code yX0_sure cX0_sure 3 (some .int) ∈ kTb := kTb_in (List.mem_append_right _ (List.mem_of_getElem? (i := 375) rfl)) rfl
theorem im_X0_nextCost : Cond.instanceMethod yX0_nextCost ∈ kTb := kTb_in (List.mem_append_right _ (List.mem_of_getElem? (i := 378) (by decide +kernel))) rfl
set_option maxRecDepth 100000 in
theorem cd_X0_nextCost : Cond.code yX0_nextCost cX0_nextCost 4 (some .int) ∈ kTb := kTb_in (List.mem_append_right _ (List.mem_of_getElem? (i := 379) rfl)) rfl
theorem sm_L_change : Cond.static yL_change ∈ kTb := kTb_in (List.mem_append_right _ (List.mem_of_getElem? (i := 397) (by decide +kernel))) rfl
theorem im_X0_change : Cond.instanceMethod yX0_change ∈ kTb := kTb_in (List.mem_append_right _ (List.mem_of_getElem? (i := 400) (by decide +kernel))) rfl
set_option maxRecDepth 100000 in
theorem cd_X0_change : Cond.code yX0_change cX0_change 4 (some .int) ∈ kTb := kTb_in (List.mem_append_right _ (List.mem_of_getElem? (i := 402) rfl)) rfl
theorem im_X0_changesAt : Cond.instanceMethod yX0_changesAt ∈ kTb := kTb_in (List.mem_append_right _ (List.mem_of_getElem? (i := 406) (by decide +kernel))) rfl
set_option maxRecDepth 100000 in
theorem cd_X0_changesAt : Cond.code yX0_changesAt cX0_changesAt 2 (some .boolean) ∈ kTb := kTb_in (List.mem_append_right _ (List.mem_of_getElem? (i := 407) rfl)) rfl
theorem sm_L_pivot : Cond.static yL_pivot ∈ kTb := kTb_in (List.mem_append_right _ (List.mem_of_getElem? (i := 409) (by decide +kernel))) rfl
theorem im_X0_pivot : Cond.instanceMethod yX0_pivot ∈ kTb := kTb_in (List.mem_append_right _ (List.mem_of_getElem? (i := 412) (by decide +kernel))) rfl
set_option maxRecDepth 100000 in
theorem cd_X0_pivot : Cond.code yX0_pivot cX0_pivot 6 (some .boolean) ∈ kTb := kTb_in (List.mem_append_right _ (List.mem_of_getElem? (i := 414) rfl)) rfl
theorem sm_L_whole : Cond.static yL_whole ∈ kTb := kTb_in (List.mem_append_right _ (List.mem_of_getElem? (i := 416) (by decide +kernel))) rfl
theorem im_X0_whole : Cond.instanceMethod yX0_whole ∈ kTb := kTb_in (List.mem_append_right _ (List.mem_of_getElem? (i := 419) (by decide +kernel))) rfl
set_option maxRecDepth 100000 in
theorem cd_X0_whole : Cond.code yX0_whole cX0_whole 7 (some .int) ∈ kTb := kTb_in (List.mem_append_right _ (List.mem_of_getElem? (i := 421) rfl)) rfl
theorem im_X0_fitTogether : Cond.instanceMethod yX0_fitTogether ∈ kTb := kTb_in (List.mem_append_right _ (List.mem_of_getElem? (i := 425) (by decide +kernel))) rfl
set_option maxRecDepth 100000 in
theorem cd_X0_fitTogether : Cond.code yX0_fitTogether cX0_fitTogether 6 (some .int) ∈ kTb := kTb_in (List.mem_append_right _ (List.mem_of_getElem? (i := 426) rfl)) rfl
theorem sm_L_of : Cond.static yL_of ∈ kTb := kTb_in (List.mem_append_right _ (List.mem_of_getElem? (i := 428) (by decide +kernel))) rfl
theorem im_X0_of : Cond.instanceMethod yX0_of ∈ kTb := kTb_in (List.mem_append_right _ (List.mem_of_getElem? (i := 431) (by decide +kernel))) rfl
set_option maxRecDepth 100000 in
theorem cd_X0_of : Cond.code yX0_of cX0_of 2 (some .int) ∈ kTb := kTb_in (List.mem_append_right _ (List.mem_of_getElem? (i := 433) rfl)) rfl
theorem im_X0_changesOfFirst : Cond.instanceMethod yX0_changesOfFirst ∈ kTb := kTb_in (List.mem_append_right _ (List.mem_of_getElem? (i := 436) (by decide +kernel))) rfl
set_option maxRecDepth 100000 in
theorem cd_X0_changesOfFirst : Cond.code yX0_changesOfFirst cX0_changesOfFirst 3 (some .int) ∈ kTb := kTb_in (List.mem_append_right _ (List.mem_of_getElem? (i := 437) rfl)) rfl
theorem im_X1_init : Cond.instanceMethod yX1_init ∈ kTb := kTb_in (List.mem_append_right _ (List.mem_of_getElem? (i := 442) (by decide +kernel))) rfl
set_option maxRecDepth 100000 in
theorem cd_X1_init : Cond.code yX1_init cX1_init 1 none ∈ kTb := kTb_in (List.mem_append_right _ (List.mem_of_getElem? (i := 443) rfl)) rfl
theorem im_X1_begin : Cond.instanceMethod yX1_begin ∈ kTb := kTb_in (List.mem_append_right _ (List.mem_of_getElem? (i := 447) (by decide +kernel))) rfl
set_option maxRecDepth 100000 in
theorem cd_X1_begin : Cond.code yX1_begin cX1_begin 2 none ∈ kTb := kTb_in (List.mem_append_right _ (List.mem_of_getElem? (i := 448) rfl)) rfl
theorem fl1_35 : Cond.fieldLink RX1 35 "KeyWalksModel" "code" "I" ∈ kTb := kTb_in (List.mem_append_right _ (List.mem_of_getElem? (i := 449) (by decide +kernel))) rfl
theorem fl1_39 : Cond.fieldLink RX1 39 "KeyWalksModel" "slices" "I" ∈ kTb := kTb_in (List.mem_append_right _ (List.mem_of_getElem? (i := 450) (by decide +kernel))) rfl
theorem fl1_7 : Cond.fieldLink RX1 7 "KeyWalksModel" "weight" "[I" ∈ kTb := kTb_in (List.mem_append_right _ (List.mem_of_getElem? (i := 451) (by decide +kernel))) rfl
theorem fl1_13 : Cond.fieldLink RX1 13 "KeyWalksModel" "profile" "[I" ∈ kTb := kTb_in (List.mem_append_right _ (List.mem_of_getElem? (i := 452) (by decide +kernel))) rfl
theorem fl1_42 : Cond.fieldLink RX1 42 "KeyWalksModel" "base" "I" ∈ kTb := kTb_in (List.mem_append_right _ (List.mem_of_getElem? (i := 453) (by decide +kernel))) rfl
theorem fl1_45 : Cond.fieldLink RX1 45 "KeyWalksModel" "by" "I" ∈ kTb := kTb_in (List.mem_append_right _ (List.mem_of_getElem? (i := 454) (by decide +kernel))) rfl
theorem fl1_48 : Cond.fieldLink RX1 48 "KeyWalksModel" "over" "I" ∈ kTb := kTb_in (List.mem_append_right _ (List.mem_of_getElem? (i := 455) (by decide +kernel))) rfl
theorem fl1_16 : Cond.fieldLink RX1 16 "KeyWalksModel" "rest" "[I" ∈ kTb := kTb_in (List.mem_append_right _ (List.mem_of_getElem? (i := 456) (by decide +kernel))) rfl
theorem fl1_19 : Cond.fieldLink RX1 19 "KeyWalksModel" "ways" "[J" ∈ kTb := kTb_in (List.mem_append_right _ (List.mem_of_getElem? (i := 457) (by decide +kernel))) rfl
theorem fl1_23 : Cond.fieldLink RX1 23 "KeyWalksModel" "turns" "[I" ∈ kTb := kTb_in (List.mem_append_right _ (List.mem_of_getElem? (i := 458) (by decide +kernel))) rfl
theorem fl1_26 : Cond.fieldLink RX1 26 "KeyWalksModel" "costs" "[I" ∈ kTb := kTb_in (List.mem_append_right _ (List.mem_of_getElem? (i := 459) (by decide +kernel))) rfl
theorem fl1_29 : Cond.fieldLink RX1 29 "KeyWalksModel" "walk" "[I" ∈ kTb := kTb_in (List.mem_append_right _ (List.mem_of_getElem? (i := 460) (by decide +kernel))) rfl
theorem im_X1_thrown : Cond.instanceMethod yX1_thrown ∈ kTb := kTb_in (List.mem_append_right _ (List.mem_of_getElem? (i := 487) (by decide +kernel))) rfl
set_option maxRecDepth 100000 in
theorem cd_X1_thrown : Cond.code yX1_thrown cX1_thrown 1 (some .int) ∈ kTb := kTb_in (List.mem_append_right _ (List.mem_of_getElem? (i := 489) rfl)) rfl
theorem im_X1_clear : Cond.instanceMethod yX1_clear ∈ kTb := kTb_in (List.mem_append_right _ (List.mem_of_getElem? (i := 491) (by decide +kernel))) rfl
set_option maxRecDepth 100000 in
theorem cd_X1_clear : Cond.code yX1_clear cX1_clear 2 (some .int) ∈ kTb := kTb_in (List.mem_append_right _ (List.mem_of_getElem? (i := 493) rfl)) rfl
theorem im_X1_profile : Cond.instanceMethod yX1_profile ∈ kTb := kTb_in (List.mem_append_right _ (List.mem_of_getElem? (i := 495) (by decide +kernel))) rfl
set_option maxRecDepth 100000 in
theorem cd_X1_profile : Cond.code yX1_profile cX1_profile 5 (some .int) ∈ kTb := kTb_in (List.mem_append_right _ (List.mem_of_getElem? (i := 497) rfl)) rfl
theorem sm_X1_isIn : Cond.static yX1_isIn ∈ kTb := kTb_in (List.mem_append_right _ (List.mem_of_getElem? (i := 499) (by decide +kernel))) rfl
set_option maxRecDepth 100000 in
theorem cd_X1_isIn : Cond.code yX1_isIn cX1_isIn 6 (some .boolean) ∈ kTb := kTb_in (List.mem_append_right _ (List.mem_of_getElem? (i := 500) rfl)) rfl
theorem kc1_57 : Cond.constantLong RX1 57 (lN 11) ∈ kTb := kTb_in (List.mem_append_right _ (List.mem_of_getElem? (i := 501) (by decide +kernel))) rfl
theorem kc1_59 : Cond.constantLong RX1 59 (lN 99) ∈ kTb := kTb_in (List.mem_append_right _ (List.mem_of_getElem? (i := 502) (by decide +kernel))) rfl
theorem im_X1_isGood : Cond.instanceMethod yX1_isGood ∈ kTb := kTb_in (List.mem_append_right _ (List.mem_of_getElem? (i := 505) (by decide +kernel))) rfl
set_option maxRecDepth 100000 in
theorem cd_X1_isGood : Cond.code yX1_isGood cX1_isGood 2 (some .boolean) ∈ kTb := kTb_in (List.mem_append_right _ (List.mem_of_getElem? (i := 506) rfl)) rfl
theorem im_X1_costs : Cond.instanceMethod yX1_costs ∈ kTb := kTb_in (List.mem_append_right _ (List.mem_of_getElem? (i := 508) (by decide +kernel))) rfl
set_option maxRecDepth 100000 in
theorem cd_X1_costs : Cond.code yX1_costs cX1_costs 5 (some .int) ∈ kTb := kTb_in (List.mem_append_right _ (List.mem_of_getElem? (i := 510) rfl)) rfl
theorem kc1_65 : Cond.constantLong RX1 65 (lN 1000) ∈ kTb := kTb_in (List.mem_append_right _ (List.mem_of_getElem? (i := 511) (by decide +kernel))) rfl
theorem im_X1_slice : Cond.instanceMethod yX1_slice ∈ kTb := kTb_in (List.mem_append_right _ (List.mem_of_getElem? (i := 513) (by decide +kernel))) rfl
set_option maxRecDepth 100000 in
theorem cd_X1_slice : Cond.code yX1_slice cX1_slice 2 (some .int) ∈ kTb := kTb_in (List.mem_append_right _ (List.mem_of_getElem? (i := 515) rfl)) rfl
theorem im_X1_note : Cond.instanceMethod yX1_note ∈ kTb := kTb_in (List.mem_append_right _ (List.mem_of_getElem? (i := 517) (by decide +kernel))) rfl
set_option maxRecDepth 100000 in
theorem cd_X1_note : Cond.code yX1_note cX1_note 5 (some .int) ∈ kTb := kTb_in (List.mem_append_right _ (List.mem_of_getElem? (i := 519) rfl)) rfl
theorem im_X1_isSlice : Cond.instanceMethod yX1_isSlice ∈ kTb := kTb_in (List.mem_append_right _ (List.mem_of_getElem? (i := 522) (by decide +kernel))) rfl
set_option maxRecDepth 100000 in
theorem cd_X1_isSlice : Cond.code yX1_isSlice cX1_isSlice 2 (some .boolean) ∈ kTb := kTb_in (List.mem_append_right _ (List.mem_of_getElem? (i := 523) rfl)) rfl
theorem kc1_70 : Cond.constantLong RX1 70 (lN 200) ∈ kTb := kTb_in (List.mem_append_right _ (List.mem_of_getElem? (i := 524) (by decide +kernel))) rfl
theorem im_X1_drop : Cond.instanceMethod yX1_drop ∈ kTb := kTb_in (List.mem_append_right _ (List.mem_of_getElem? (i := 526) (by decide +kernel))) rfl
set_option maxRecDepth 100000 in
theorem cd_X1_drop : Cond.code yX1_drop cX1_drop 1 (some .int) ∈ kTb := kTb_in (List.mem_append_right _ (List.mem_of_getElem? (i := 528) rfl)) rfl
theorem im_X1_fit : Cond.instanceMethod yX1_fit ∈ kTb := kTb_in (List.mem_append_right _ (List.mem_of_getElem? (i := 530) (by decide +kernel))) rfl
set_option maxRecDepth 100000 in
theorem cd_X1_fit : Cond.code yX1_fit cX1_fit 3 (some .int) ∈ kTb := kTb_in (List.mem_append_right _ (List.mem_of_getElem? (i := 532) rfl)) rfl
theorem sm_X1_isKey : Cond.static yX1_isKey ∈ kTb := kTb_in (List.mem_append_right _ (List.mem_of_getElem? (i := 534) (by decide +kernel))) rfl
set_option maxRecDepth 100000 in
theorem cd_X1_isKey : Cond.code yX1_isKey cX1_isKey 1 (some .boolean) ∈ kTb := kTb_in (List.mem_append_right _ (List.mem_of_getElem? (i := 535) rfl)) rfl
theorem kc1_55 : Cond.constantLong RX1 55 (lN 23) ∈ kTb := kTb_in (List.mem_append_right _ (List.mem_of_getElem? (i := 536) (by decide +kernel))) rfl
theorem im_X1_fitOf : Cond.instanceMethod yX1_fitOf ∈ kTb := kTb_in (List.mem_append_right _ (List.mem_of_getElem? (i := 539) (by decide +kernel))) rfl
set_option maxRecDepth 100000 in
theorem cd_X1_fitOf : Cond.code yX1_fitOf cX1_fitOf 5 (some .int) ∈ kTb := kTb_in (List.mem_append_right _ (List.mem_of_getElem? (i := 540) rfl)) rfl
theorem im_X1_numberOf : Cond.instanceMethod yX1_numberOf ∈ kTb := kTb_in (List.mem_append_right _ (List.mem_of_getElem? (i := 543) (by decide +kernel))) rfl
set_option maxRecDepth 100000 in
theorem cd_X1_numberOf : Cond.code yX1_numberOf cX1_numberOf 3 (some .int) ∈ kTb := kTb_in (List.mem_append_right _ (List.mem_of_getElem? (i := 544) rfl)) rfl
theorem im_X1_cost : Cond.instanceMethod yX1_cost ∈ kTb := kTb_in (List.mem_append_right _ (List.mem_of_getElem? (i := 546) (by decide +kernel))) rfl
set_option maxRecDepth 100000 in
theorem cd_X1_cost : Cond.code yX1_cost cX1_cost 3 (some .int) ∈ kTb := kTb_in (List.mem_append_right _ (List.mem_of_getElem? (i := 548) rfl)) rfl
theorem im_X1_costOf : Cond.instanceMethod yX1_costOf ∈ kTb := kTb_in (List.mem_append_right _ (List.mem_of_getElem? (i := 551) (by decide +kernel))) rfl
set_option maxRecDepth 100000 in
theorem cd_X1_costOf : Cond.code yX1_costOf cX1_costOf 5 (some .int) ∈ kTb := kTb_in (List.mem_append_right _ (List.mem_of_getElem? (i := 552) rfl)) rfl
theorem im_X1_turn : Cond.instanceMethod yX1_turn ∈ kTb := kTb_in (List.mem_append_right _ (List.mem_of_getElem? (i := 554) (by decide +kernel))) rfl
set_option maxRecDepth 100000 in
theorem cd_X1_turn : Cond.code yX1_turn cX1_turn 3 (some .int) ∈ kTb := kTb_in (List.mem_append_right _ (List.mem_of_getElem? (i := 556) rfl)) rfl
theorem im_X1_turnOf : Cond.instanceMethod yX1_turnOf ∈ kTb := kTb_in (List.mem_append_right _ (List.mem_of_getElem? (i := 559) (by decide +kernel))) rfl
set_option maxRecDepth 100000 in
theorem cd_X1_turnOf : Cond.code yX1_turnOf cX1_turnOf 4 (some .int) ∈ kTb := kTb_in (List.mem_append_right _ (List.mem_of_getElem? (i := 560) rfl)) rfl
theorem sm_X1_placeOf : Cond.static yX1_placeOf ∈ kTb := kTb_in (List.mem_append_right _ (List.mem_of_getElem? (i := 562) (by decide +kernel))) rfl
set_option maxRecDepth 100000 in
theorem cd_X1_placeOf : Cond.code yX1_placeOf cX1_placeOf 1 (some .int) ∈ kTb := kTb_in (List.mem_append_right _ (List.mem_of_getElem? (i := 563) rfl)) rfl
theorem im_X1_least : Cond.instanceMethod yX1_least ∈ kTb := kTb_in (List.mem_append_right _ (List.mem_of_getElem? (i := 565) (by decide +kernel))) rfl
set_option maxRecDepth 100000 in
theorem cd_X1_least : Cond.code yX1_least cX1_least 1 (some .int) ∈ kTb := kTb_in (List.mem_append_right _ (List.mem_of_getElem? (i := 567) rfl)) rfl
theorem im_X1_lay : Cond.instanceMethod yX1_lay ∈ kTb := kTb_in (List.mem_append_right _ (List.mem_of_getElem? (i := 570) (by decide +kernel))) rfl
set_option maxRecDepth 100000 in
theorem cd_X1_lay : Cond.code yX1_lay cX1_lay 4 none ∈ kTb := kTb_in (List.mem_append_right _ (List.mem_of_getElem? (i := 571) rfl)) rfl
theorem im_X1_weigh : Cond.instanceMethod yX1_weigh ∈ kTb := kTb_in (List.mem_append_right _ (List.mem_of_getElem? (i := 574) (by decide +kernel))) rfl
set_option maxRecDepth 100000 in
theorem cd_X1_weigh : Cond.code yX1_weigh cX1_weigh 10 (some .int) ∈ kTb := kTb_in (List.mem_append_right _ (List.mem_of_getElem? (i := 575) rfl)) rfl
theorem kc1_92 : Cond.constant RX1 92 (nI 1000000000) ∈ kTb := kTb_in (List.mem_append_right _ (List.mem_of_getElem? (i := 576) (by decide +kernel))) rfl
theorem kc1_93 : Cond.constantLong RX1 93 (lN 1000000000000000000) ∈ kTb := kTb_in (List.mem_append_right _ (List.mem_of_getElem? (i := 577) (by decide +kernel))) rfl
theorem im_X1_count : Cond.instanceMethod yX1_count ∈ kTb := kTb_in (List.mem_append_right _ (List.mem_of_getElem? (i := 579) (by decide +kernel))) rfl
set_option maxRecDepth 100000 in
theorem cd_X1_count : Cond.code yX1_count cX1_count 5 (some .long) ∈ kTb := kTb_in (List.mem_append_right _ (List.mem_of_getElem? (i := 581) rfl)) rfl
theorem im_X1_key : Cond.instanceMethod yX1_key ∈ kTb := kTb_in (List.mem_append_right _ (List.mem_of_getElem? (i := 583) (by decide +kernel))) rfl
set_option maxRecDepth 100000 in
theorem cd_X1_key : Cond.code yX1_key cX1_key 2 (some .int) ∈ kTb := kTb_in (List.mem_append_right _ (List.mem_of_getElem? (i := 585) rfl)) rfl
theorem im_X1_walkBehind : Cond.instanceMethod yX1_walkBehind ∈ kTb := kTb_in (List.mem_append_right _ (List.mem_of_getElem? (i := 588) (by decide +kernel))) rfl
set_option maxRecDepth 100000 in
theorem cd_X1_walkBehind : Cond.code yX1_walkBehind cX1_walkBehind 11 (some .boolean) ∈ kTb := kTb_in (List.mem_append_right _ (List.mem_of_getElem? (i := 589) rfl)) rfl
theorem im_X1_pick : Cond.instanceMethod yX1_pick ∈ kTb := kTb_in (List.mem_append_right _ (List.mem_of_getElem? (i := 591) (by decide +kernel))) rfl
set_option maxRecDepth 100000 in
theorem cd_X1_pick : Cond.code yX1_pick cX1_pick 4 (some .int) ∈ kTb := kTb_in (List.mem_append_right _ (List.mem_of_getElem? (i := 593) rfl)) rfl
theorem kc1_105 : Cond.constantLong RX1 105 (lN 999999999999999999) ∈ kTb := kTb_in (List.mem_append_right _ (List.mem_of_getElem? (i := 594) (by decide +kernel))) rfl
theorem im_X1_through : Cond.instanceMethod yX1_through ∈ kTb := kTb_in (List.mem_append_right _ (List.mem_of_getElem? (i := 596) (by decide +kernel))) rfl
set_option maxRecDepth 100000 in
theorem cd_X1_through : Cond.code yX1_through cX1_through 3 (some .int) ∈ kTb := kTb_in (List.mem_append_right _ (List.mem_of_getElem? (i := 598) rfl)) rfl
theorem im_X1_near : Cond.instanceMethod yX1_near ∈ kTb := kTb_in (List.mem_append_right _ (List.mem_of_getElem? (i := 600) (by decide +kernel))) rfl
set_option maxRecDepth 100000 in
theorem cd_X1_near : Cond.code yX1_near cX1_near 6 (some .int) ∈ kTb := kTb_in (List.mem_append_right _ (List.mem_of_getElem? (i := 602) rfl)) rfl
theorem kc1_107 : Cond.constantLong RX1 107 (lN 100000) ∈ kTb := kTb_in (List.mem_append_right _ (List.mem_of_getElem? (i := 603) (by decide +kernel))) rfl
theorem im_X1_sure : Cond.instanceMethod yX1_sure ∈ kTb := kTb_in (List.mem_append_right _ (List.mem_of_getElem? (i := 605) (by decide +kernel))) rfl
set_option maxRecDepth 100000 in
theorem cd_X1_sure : Cond.code yX1_sure cX1_sure 4 (some .int) ∈ kTb := kTb_in (List.mem_append_right _ (List.mem_of_getElem? (i := 607) rfl)) rfl
theorem kc1_109 : Cond.constantLong RX1 109 (lN 100) ∈ kTb := kTb_in (List.mem_append_right _ (List.mem_of_getElem? (i := 608) (by decide +kernel))) rfl
theorem im_X1_change : Cond.instanceMethod yX1_change ∈ kTb := kTb_in (List.mem_append_right _ (List.mem_of_getElem? (i := 610) (by decide +kernel))) rfl
set_option maxRecDepth 100000 in
theorem cd_X1_change : Cond.code yX1_change cX1_change 2 (some .int) ∈ kTb := kTb_in (List.mem_append_right _ (List.mem_of_getElem? (i := 612) rfl)) rfl
theorem im_X1_changeAt : Cond.instanceMethod yX1_changeAt ∈ kTb := kTb_in (List.mem_append_right _ (List.mem_of_getElem? (i := 615) (by decide +kernel))) rfl
set_option maxRecDepth 100000 in
theorem cd_X1_changeAt : Cond.code yX1_changeAt cX1_changeAt 4 (some .int) ∈ kTb := kTb_in (List.mem_append_right _ (List.mem_of_getElem? (i := 616) rfl)) rfl
theorem im_X1_pivot : Cond.instanceMethod yX1_pivot ∈ kTb := kTb_in (List.mem_append_right _ (List.mem_of_getElem? (i := 618) (by decide +kernel))) rfl
set_option maxRecDepth 100000 in
theorem cd_X1_pivot : Cond.code yX1_pivot cX1_pivot 6 (some .boolean) ∈ kTb := kTb_in (List.mem_append_right _ (List.mem_of_getElem? (i := 620) rfl)) rfl
theorem im_X1_whole : Cond.instanceMethod yX1_whole ∈ kTb := kTb_in (List.mem_append_right _ (List.mem_of_getElem? (i := 622) (by decide +kernel))) rfl
set_option maxRecDepth 100000 in
theorem cd_X1_whole : Cond.code yX1_whole cX1_whole 8 (some .int) ∈ kTb := kTb_in (List.mem_append_right _ (List.mem_of_getElem? (i := 624) rfl)) rfl
theorem im_X1_of : Cond.instanceMethod yX1_of ∈ kTb := kTb_in (List.mem_append_right _ (List.mem_of_getElem? (i := 626) (by decide +kernel))) rfl
set_option maxRecDepth 100000 in
theorem cd_X1_of : Cond.code yX1_of cX1_of 4 (some .int) ∈ kTb := kTb_in (List.mem_append_right _ (List.mem_of_getElem? (i := 628) rfl)) rfl
theorem kc1_114 : Cond.constantLong RX1 114 (lN 4) ∈ kTb := kTb_in (List.mem_append_right _ (List.mem_of_getElem? (i := 629) (by decide +kernel))) rfl
theorem kcL_125 : Cond.constantLong RL 125 (lN 4294967295) ∈ kTb := kTb_in (List.mem_append_right _ (List.mem_of_getElem? (i := 630) (by decide +kernel))) rfl
theorem mL_72 : Cond.methodLink RL 72 yX0_init ∈ kTb := kTb_in (List.mem_append_right _ (List.mem_of_getElem? (i := 13) (by decide +kernel))) rfl
theorem m0_1 : Cond.methodLink RX0 1 ⟨"java/lang/Object", "<init>", "()V"⟩ ∈ kTb := kTb_in (List.mem_append_right _ (List.mem_of_getElem? (i := 16) (by decide +kernel))) rfl
theorem m0_38 : Cond.methodLink RX0 38 yX0_setFirst ∈ kTb := kTb_in (List.mem_append_right _ (List.mem_of_getElem? (i := 19) (by decide +kernel))) rfl
theorem g0_38 : GoodIn kTb (wsV RX0 38 RX0 yX0_setFirst (Cond.code yX0_setFirst cX0_setFirst 1 none :: kTb)) := kgV m0_38 im_X0_setFirst (kTb_in (by decide +kernel) rfl) ini_KeyWalks cd_X0_setFirst
theorem m0_150 : Cond.methodLink RX0 150 arraycopyName ∈ kTb := kTb_in (List.mem_append_right _ (List.mem_of_getElem? (i := 25) (by decide +kernel))) rfl
theorem m0_49 : Cond.methodLink RX0 49 yX0_forget ∈ kTb := kTb_in (List.mem_append_right _ (List.mem_of_getElem? (i := 28) (by decide +kernel))) rfl
theorem g0_49 : GoodIn kTb (wsV RX0 49 RX0 yX0_forget (Cond.code yX0_forget cX0_forget 1 none :: kTb)) := kgV m0_49 im_X0_forget (kTb_in (by decide +kernel) rfl) ini_KeyWalks cd_X0_forget
theorem mL_76 : Cond.methodLink RL 76 yX0_clear ∈ kTb := kTb_in (List.mem_append_right _ (List.mem_of_getElem? (i := 86) (by decide +kernel))) rfl
theorem gL_76 : GoodIn kTb (wsV RL 76 RX0 yX0_clear (Cond.code yX0_clear cX0_clear 2 (some .int) :: kTb)) := kgV mL_76 im_X0_clear (kTb_in (by decide +kernel) rfl) ini_KeyWalks cd_X0_clear
theorem mL_112 : Cond.methodLink RL 112 yX0_least ∈ kTb := kTb_in (List.mem_append_right _ (List.mem_of_getElem? (i := 90) (by decide +kernel))) rfl
theorem gL_112 : GoodIn kTb (wsV RL 112 RX0 yX0_least (Cond.code yX0_least cX0_least 1 (some .int) :: kTb)) := kgV mL_112 im_X0_least (kTb_in (by decide +kernel) rfl) ini_KeyWalks cd_X0_least
theorem m0_90 : Cond.methodLink RX0 90 yX0_knowTails ∈ kTb := kTb_in (List.mem_append_right _ (List.mem_of_getElem? (i := 94) (by decide +kernel))) rfl
theorem g0_90 : GoodIn kTb (wsV RX0 90 RX0 yX0_knowTails (Cond.code yX0_knowTails cX0_knowTails 3 none :: kTb)) := kgV m0_90 im_X0_knowTails (kTb_in (by decide +kernel) rfl) ini_KeyWalks cd_X0_knowTails
theorem m0_185 : Cond.methodLink RX0 185 yX0_fillTurns ∈ kTb := kTb_in (List.mem_append_right _ (List.mem_of_getElem? (i := 98) (by decide +kernel))) rfl
theorem g0_185 : GoodIn kTb (wsV RX0 185 RX0 yX0_fillTurns (Cond.code yX0_fillTurns cX0_fillTurns 3 none :: kTb)) := kgV m0_185 im_X0_fillTurns (kTb_in (by decide +kernel) rfl) ini_KeyWalks cd_X0_fillTurns
theorem m0_87 : Cond.methodLink RX0 87 yX0_turnBetween ∈ kTb := kTb_in (List.mem_append_right _ (List.mem_of_getElem? (i := 102) (by decide +kernel))) rfl
theorem g0_87 : GoodIn kTb (wsV RX0 87 RX0 yX0_turnBetween (Cond.code yX0_turnBetween cX0_turnBetween 5 (some .int) :: kTb)) := kgV m0_87 im_X0_turnBetween (kTb_in (by decide +kernel) rfl) ini_KeyWalks cd_X0_turnBetween
theorem m0_176 : Cond.methodLink RX0 176 yX0_placeOf ∈ kTb := kTb_in (List.mem_append_right _ (List.mem_of_getElem? (i := 106) (by decide +kernel))) rfl
theorem g0_176 : GoodIn kTb (va_wsS RX0 176 yX0_placeOf (Cond.code yX0_placeOf cX0_placeOf 2 (some .int) :: kTb)) := kgS m0_176 sm_X0_placeOf ini_KeyWalks cd_X0_placeOf
theorem m0_165 : Cond.methodLink RX0 165 yX0_modeOf ∈ kTb := kTb_in (List.mem_append_right _ (List.mem_of_getElem? (i := 109) (by decide +kernel))) rfl
theorem g0_165 : GoodIn kTb (va_wsS RX0 165 yX0_modeOf (Cond.code yX0_modeOf cX0_modeOf 1 (some .int) :: kTb)) := kgS m0_165 sm_X0_modeOf ini_KeyWalks cd_X0_modeOf
theorem m0_168 : Cond.methodLink RX0 168 yX0_tonicOf ∈ kTb := kTb_in (List.mem_append_right _ (List.mem_of_getElem? (i := 112) (by decide +kernel))) rfl
theorem g0_168 : GoodIn kTb (va_wsS RX0 168 yX0_tonicOf (Cond.code yX0_tonicOf cX0_tonicOf 1 (some .int) :: kTb)) := kgS m0_168 sm_X0_tonicOf ini_KeyWalks cd_X0_tonicOf
theorem m0_179 : Cond.methodLink RX0 179 Lib.Math.abs.name ∈ kTb := kTb_in (List.mem_append_right _ (List.mem_of_getElem? (i := 115) (by decide +kernel))) rfl
theorem m0_182 : Cond.methodLink RX0 182 Lib.Math.min.name ∈ kTb := kTb_in (List.mem_append_right _ (List.mem_of_getElem? (i := 118) (by decide +kernel))) rfl
theorem m0_188 : Cond.methodLink RX0 188 yX0_fillSliceCosts ∈ kTb := kTb_in (List.mem_append_right _ (List.mem_of_getElem? (i := 121) (by decide +kernel))) rfl
theorem g0_188 : GoodIn kTb (wsV RX0 188 RX0 yX0_fillSliceCosts (Cond.code yX0_fillSliceCosts cX0_fillSliceCosts 5 none :: kTb)) := kgV m0_188 im_X0_fillSliceCosts (kTb_in (by decide +kernel) rfl) ini_KeyWalks cd_X0_fillSliceCosts
theorem m0_79 : Cond.methodLink RX0 79 yX0_fitIn ∈ kTb := kTb_in (List.mem_append_right _ (List.mem_of_getElem? (i := 125) (by decide +kernel))) rfl
theorem g0_79 : GoodIn kTb (wsV RX0 79 RX0 yX0_fitIn (Cond.code yX0_fitIn cX0_fitIn 5 (some .int) :: kTb)) := kgV m0_79 im_X0_fitIn (kTb_in (by decide +kernel) rfl) ini_KeyWalks cd_X0_fitIn
theorem m0_132 : Cond.methodLink RX0 132 yX0_numberOf ∈ kTb := kTb_in (List.mem_append_right _ (List.mem_of_getElem? (i := 129) (by decide +kernel))) rfl
theorem g0_132 : GoodIn kTb (wsV RX0 132 RX0 yX0_numberOf (Cond.code yX0_numberOf cX0_numberOf 4 (some .int) :: kTb)) := kgV m0_132 im_X0_numberOf (kTb_in (by decide +kernel) rfl) ini_KeyWalks cd_X0_numberOf
theorem m0_171 : Cond.methodLink RX0 171 Lib.Math.max.name ∈ kTb := kTb_in (List.mem_append_right _ (List.mem_of_getElem? (i := 133) (by decide +kernel))) rfl
theorem m0_191 : Cond.methodLink RX0 191 yX0_fillTail ∈ kTb := kTb_in (List.mem_append_right _ (List.mem_of_getElem? (i := 136) (by decide +kernel))) rfl
theorem g0_191 : GoodIn kTb (wsV RX0 191 RX0 yX0_fillTail (Cond.code yX0_fillTail cX0_fillTail 10 none :: kTb)) := kgV m0_191 im_X0_fillTail (kTb_in (by decide +kernel) rfl) ini_KeyWalks cd_X0_fillTail
theorem m0_199 : Cond.methodLink RX0 199 yX0_cappedSum ∈ kTb := kTb_in (List.mem_append_right _ (List.mem_of_getElem? (i := 141) (by decide +kernel))) rfl
theorem g0_199 : GoodIn kTb (va_wsS RX0 199 yX0_cappedSum (Cond.code yX0_cappedSum cX0_cappedSum 4 (some .long) :: kTb)) := kgS m0_199 sm_X0_cappedSum ini_KeyWalks cd_X0_cappedSum
theorem m0_203 : Cond.methodLink RX0 203 Lib.MathLoose.min_long.x ∈ kTb := kTb_in (List.mem_append_right _ (List.mem_of_getElem? (i := 145) (by decide +kernel))) rfl
theorem m0_195 : Cond.methodLink RX0 195 yX0_fillLeast ∈ kTb := kTb_in (List.mem_append_right _ (List.mem_of_getElem? (i := 148) (by decide +kernel))) rfl
theorem g0_195 : GoodIn kTb (wsV RX0 195 RX0 yX0_fillLeast (Cond.code yX0_fillLeast cX0_fillLeast 2 none :: kTb)) := kgV m0_195 im_X0_fillLeast (kTb_in (by decide +kernel) rfl) ini_KeyWalks cd_X0_fillLeast
theorem m0_107 : Cond.methodLink RX0 107 yX0_followBest ∈ kTb := kTb_in (List.mem_append_right _ (List.mem_of_getElem? (i := 152) (by decide +kernel))) rfl
theorem g0_107 : GoodIn kTb (wsV RX0 107 RX0 yX0_followBest (Cond.code yX0_followBest cX0_followBest 13 (some .int) :: kTb)) := kgV m0_107 im_X0_followBest (kTb_in (by decide +kernel) rfl) ini_KeyWalks cd_X0_followBest
theorem m0_205 : Cond.methodLink RX0 205 yX0_restAfter ∈ kTb := kTb_in (List.mem_append_right _ (List.mem_of_getElem? (i := 156) (by decide +kernel))) rfl
theorem g0_205 : GoodIn kTb (wsV RX0 205 RX0 yX0_restAfter (Cond.code yX0_restAfter cX0_restAfter 3 (some .int) :: kTb)) := kgV m0_205 im_X0_restAfter (kTb_in (by decide +kernel) rfl) ini_KeyWalks cd_X0_restAfter
theorem m0_208 : Cond.methodLink RX0 208 yX0_turnInto ∈ kTb := kTb_in (List.mem_append_right _ (List.mem_of_getElem? (i := 160) (by decide +kernel))) rfl
theorem g0_208 : GoodIn kTb (wsV RX0 208 RX0 yX0_turnInto (Cond.code yX0_turnInto cX0_turnInto 3 (some .int) :: kTb)) := kgV m0_208 im_X0_turnInto (kTb_in (by decide +kernel) rfl) ini_KeyWalks cd_X0_turnInto
theorem mL_120 : Cond.methodLink RL 120 yX0_count ∈ kTb := kTb_in (List.mem_append_right _ (List.mem_of_getElem? (i := 164) (by decide +kernel))) rfl
theorem gL_120 : GoodIn kTb (wsV RL 120 RX0 yX0_count (Cond.code yX0_count cX0_count 1 (some .long) :: kTb)) := kgV mL_120 im_X0_count (kTb_in (by decide +kernel) rfl) ini_KeyWalks cd_X0_count
theorem mL_80 : Cond.methodLink RL 80 yL_profile ∈ kTb := kTb_in (List.mem_append_right _ (List.mem_of_getElem? (i := 168) (by decide +kernel))) rfl
theorem mL_7 : Cond.methodLink RL 7 yX0_profile ∈ kTb := kTb_in (List.mem_append_right _ (List.mem_of_getElem? (i := 172) (by decide +kernel))) rfl
theorem gL_7 : GoodIn kTb (wsV RL 7 RX0 yX0_profile (Cond.code yX0_profile cX0_profile 6 (some .int) :: kTb)) := kgV mL_7 im_X0_profile (kTb_in (by decide +kernel) rfl) ini_KeyWalks cd_X0_profile
theorem m0_45 : Cond.methodLink RX0 45 yX0_requireWithin ∈ kTb := kTb_in (List.mem_append_right _ (List.mem_of_getElem? (i := 176) (by decide +kernel))) rfl
theorem g0_45 : GoodIn kTb (va_wsS RX0 45 yX0_requireWithin (Cond.code yX0_requireWithin cX0_requireWithin 3 none :: kTb)) := kgS m0_45 sm_X0_requireWithin ini_KeyWalks cd_X0_requireWithin
theorem m0_106 : Cond.methodLink RX0 106 ⟨"java/lang/IllegalArgumentException", "<init>", "(Ljava/lang/String;)V"⟩ ∈ kTb := kTb_in (List.mem_append_right _ (List.mem_of_getElem? (i := 221) (by decide +kernel))) rfl
theorem mL_89 : Cond.methodLink RL 89 yL_costs ∈ kTb := kTb_in (List.mem_append_right _ (List.mem_of_getElem? (i := 247) (by decide +kernel))) rfl
theorem mL_15 : Cond.methodLink RL 15 yX0_costs ∈ kTb := kTb_in (List.mem_append_right _ (List.mem_of_getElem? (i := 250) (by decide +kernel))) rfl
theorem gL_15 : GoodIn kTb (wsV RL 15 RX0 yX0_costs (Cond.code yX0_costs cX0_costs 5 (some .int) :: kTb)) := kgV mL_15 im_X0_costs (kTb_in (by decide +kernel) rfl) ini_KeyWalks cd_X0_costs
theorem mL_92 : Cond.methodLink RL 92 yL_slice ∈ kTb := kTb_in (List.mem_append_right _ (List.mem_of_getElem? (i := 254) (by decide +kernel))) rfl
theorem mL_18 : Cond.methodLink RL 18 yX0_slice ∈ kTb := kTb_in (List.mem_append_right _ (List.mem_of_getElem? (i := 258) (by decide +kernel))) rfl
theorem gL_18 : GoodIn kTb (wsV RL 18 RX0 yX0_slice (Cond.code yX0_slice cX0_slice 3 (some .int) :: kTb)) := kgV mL_18 im_X0_slice (kTb_in (by decide +kernel) rfl) ini_KeyWalks cd_X0_slice
theorem m0_65 : Cond.methodLink RX0 65 ⟨"java/lang/IllegalStateException", "<init>", "(Ljava/lang/String;)V"⟩ ∈ kTb := kTb_in (List.mem_append_right _ (List.mem_of_getElem? (i := 272) (by decide +kernel))) rfl
theorem mL_96 : Cond.methodLink RL 96 yL_note ∈ kTb := kTb_in (List.mem_append_right _ (List.mem_of_getElem? (i := 278) (by decide +kernel))) rfl
theorem mL_24 : Cond.methodLink RL 24 yX0_note ∈ kTb := kTb_in (List.mem_append_right _ (List.mem_of_getElem? (i := 281) (by decide +kernel))) rfl
theorem gL_24 : GoodIn kTb (wsV RL 24 RX0 yX0_note (Cond.code yX0_note cX0_note 6 (some .int) :: kTb)) := kgV mL_24 im_X0_note (kTb_in (by decide +kernel) rfl) ini_KeyWalks cd_X0_note
theorem m0_68 : Cond.methodLink RX0 68 yX0_requireSlice ∈ kTb := kTb_in (List.mem_append_right _ (List.mem_of_getElem? (i := 285) (by decide +kernel))) rfl
theorem g0_68 : GoodIn kTb (wsV RX0 68 RX0 yX0_requireSlice (Cond.code yX0_requireSlice cX0_requireSlice 2 none :: kTb)) := kgV m0_68 im_X0_requireSlice (kTb_in (by decide +kernel) rfl) ini_KeyWalks cd_X0_requireSlice
theorem mL_99 : Cond.methodLink RL 99 yL_drop ∈ kTb := kTb_in (List.mem_append_right _ (List.mem_of_getElem? (i := 290) (by decide +kernel))) rfl
theorem mL_27 : Cond.methodLink RL 27 yX0_drop ∈ kTb := kTb_in (List.mem_append_right _ (List.mem_of_getElem? (i := 293) (by decide +kernel))) rfl
theorem gL_27 : GoodIn kTb (wsV RL 27 RX0 yX0_drop (Cond.code yX0_drop cX0_drop 1 (some .int) :: kTb)) := kgV mL_27 im_X0_drop (kTb_in (by decide +kernel) rfl) ini_KeyWalks cd_X0_drop
theorem mL_102 : Cond.methodLink RL 102 yL_fit ∈ kTb := kTb_in (List.mem_append_right _ (List.mem_of_getElem? (i := 298) (by decide +kernel))) rfl
theorem mL_30 : Cond.methodLink RL 30 yX0_fit ∈ kTb := kTb_in (List.mem_append_right _ (List.mem_of_getElem? (i := 301) (by decide +kernel))) rfl
theorem gL_30 : GoodIn kTb (wsV RL 30 RX0 yX0_fit (Cond.code yX0_fit cX0_fit 3 (some .int) :: kTb)) := kgV mL_30 im_X0_fit (kTb_in (by decide +kernel) rfl) ini_KeyWalks cd_X0_fit
theorem m0_76 : Cond.methodLink RX0 76 yX0_requireKey ∈ kTb := kTb_in (List.mem_append_right _ (List.mem_of_getElem? (i := 305) (by decide +kernel))) rfl
theorem g0_76 : GoodIn kTb (va_wsS RX0 76 yX0_requireKey (Cond.code yX0_requireKey cX0_requireKey 1 none :: kTb)) := kgS m0_76 sm_X0_requireKey ini_KeyWalks cd_X0_requireKey
theorem mL_106 : Cond.methodLink RL 106 yL_cost ∈ kTb := kTb_in (List.mem_append_right _ (List.mem_of_getElem? (i := 308) (by decide +kernel))) rfl
theorem mL_34 : Cond.methodLink RL 34 yX0_cost ∈ kTb := kTb_in (List.mem_append_right _ (List.mem_of_getElem? (i := 311) (by decide +kernel))) rfl
theorem gL_34 : GoodIn kTb (wsV RL 34 RX0 yX0_cost (Cond.code yX0_cost cX0_cost 3 (some .int) :: kTb)) := kgV mL_34 im_X0_cost (kTb_in (by decide +kernel) rfl) ini_KeyWalks cd_X0_cost
theorem m0_83 : Cond.methodLink RX0 83 yX0_greatestFit ∈ kTb := kTb_in (List.mem_append_right _ (List.mem_of_getElem? (i := 315) (by decide +kernel))) rfl
theorem g0_83 : GoodIn kTb (wsV RX0 83 RX0 yX0_greatestFit (Cond.code yX0_greatestFit cX0_greatestFit 4 (some .int) :: kTb)) := kgV m0_83 im_X0_greatestFit (kTb_in (by decide +kernel) rfl) ini_KeyWalks cd_X0_greatestFit
theorem mL_109 : Cond.methodLink RL 109 yL_turn ∈ kTb := kTb_in (List.mem_append_right _ (List.mem_of_getElem? (i := 319) (by decide +kernel))) rfl
theorem mL_37 : Cond.methodLink RL 37 yX0_turn ∈ kTb := kTb_in (List.mem_append_right _ (List.mem_of_getElem? (i := 322) (by decide +kernel))) rfl
theorem gL_37 : GoodIn kTb (wsV RL 37 RX0 yX0_turn (Cond.code yX0_turn cX0_turn 3 (some .int) :: kTb)) := kgV mL_37 im_X0_turn (kTb_in (by decide +kernel) rfl) ini_KeyWalks cd_X0_turn
theorem mL_116 : Cond.methodLink RL 116 yL_key ∈ kTb := kTb_in (List.mem_append_right _ (List.mem_of_getElem? (i := 326) (by decide +kernel))) rfl
theorem mL_40 : Cond.methodLink RL 40 yX0_key ∈ kTb := kTb_in (List.mem_append_right _ (List.mem_of_getElem? (i := 329) (by decide +kernel))) rfl
theorem gL_40 : GoodIn kTb (wsV RL 40 RX0 yX0_key (Cond.code yX0_key cX0_key 2 (some .int) :: kTb)) := kgV mL_40 im_X0_key (kTb_in (by decide +kernel) rfl) ini_KeyWalks cd_X0_key
theorem mL_127 : Cond.methodLink RL 127 yL_pick ∈ kTb := kTb_in (List.mem_append_right _ (List.mem_of_getElem? (i := 333) (by decide +kernel))) rfl
theorem mL_44 : Cond.methodLink RL 44 yX0_pick ∈ kTb := kTb_in (List.mem_append_right _ (List.mem_of_getElem? (i := 336) (by decide +kernel))) rfl
theorem gL_44 : GoodIn kTb (wsV RL 44 RX0 yX0_pick (Cond.code yX0_pick cX0_pick 4 (some .int) :: kTb)) := kgV mL_44 im_X0_pick (kTb_in (by decide +kernel) rfl) ini_KeyWalks cd_X0_pick
theorem mL_131 : Cond.methodLink RL 131 yL_through ∈ kTb := kTb_in (List.mem_append_right _ (List.mem_of_getElem? (i := 341) (by decide +kernel))) rfl
theorem mL_48 : Cond.methodLink RL 48 yX0_through ∈ kTb := kTb_in (List.mem_append_right _ (List.mem_of_getElem? (i := 344) (by decide +kernel))) rfl
theorem gL_48 : GoodIn kTb (wsV RL 48 RX0 yX0_through (Cond.code yX0_through cX0_through 3 (some .int) :: kTb)) := kgV mL_48 im_X0_through (kTb_in (by decide +kernel) rfl) ini_KeyWalks cd_X0_through
theorem m0_111 : Cond.methodLink RX0 111 yX0_knowHeads ∈ kTb := kTb_in (List.mem_append_right _ (List.mem_of_getElem? (i := 348) (by decide +kernel))) rfl
theorem g0_111 : GoodIn kTb (wsV RX0 111 RX0 yX0_knowHeads (Cond.code yX0_knowHeads cX0_knowHeads 4 none :: kTb)) := kgV m0_111 im_X0_knowHeads (kTb_in (by decide +kernel) rfl) ini_KeyWalks cd_X0_knowHeads
theorem m0_211 : Cond.methodLink RX0 211 yX0_leastInto ∈ kTb := kTb_in (List.mem_append_right _ (List.mem_of_getElem? (i := 352) (by decide +kernel))) rfl
theorem g0_211 : GoodIn kTb (wsV RX0 211 RX0 yX0_leastInto (Cond.code yX0_leastInto cX0_leastInto 5 (some .int) :: kTb)) := kgV m0_211 im_X0_leastInto (kTb_in (by decide +kernel) rfl) ini_KeyWalks cd_X0_leastInto
theorem m0_114 : Cond.methodLink RX0 114 yX0_leastThrough ∈ kTb := kTb_in (List.mem_append_right _ (List.mem_of_getElem? (i := 356) (by decide +kernel))) rfl
theorem g0_114 : GoodIn kTb (wsV RX0 114 RX0 yX0_leastThrough (Cond.code yX0_leastThrough cX0_leastThrough 4 (some .int) :: kTb)) := kgV m0_114 im_X0_leastThrough (kTb_in (by decide +kernel) rfl) ini_KeyWalks cd_X0_leastThrough
theorem mL_134 : Cond.methodLink RL 134 yL_near ∈ kTb := kTb_in (List.mem_append_right _ (List.mem_of_getElem? (i := 360) (by decide +kernel))) rfl
theorem mL_51 : Cond.methodLink RL 51 yX0_near ∈ kTb := kTb_in (List.mem_append_right _ (List.mem_of_getElem? (i := 363) (by decide +kernel))) rfl
theorem gL_51 : GoodIn kTb (wsV RL 51 RX0 yX0_near (Cond.code yX0_near cX0_near 5 (some .int) :: kTb)) := kgV mL_51 im_X0_near (kTb_in (by decide +kernel) rfl) ini_KeyWalks cd_X0_near
theorem mL_137 : Cond.methodLink RL 137 yL_sure ∈ kTb := kTb_in (List.mem_append_right _ (List.mem_of_getElem? (i := 368) (by decide +kernel))) rfl
theorem mL_54 : Cond.methodLink RL 54 yX0_sure ∈ kTb := kTb_in (List.mem_append_right _ (List.mem_of_getElem? (i := 372) (by decide +kernel))) rfl
theorem gL_54 : GoodIn kTb (wsV RL 54 RX0 yX0_sure (Cond.code yX0_sure cX0_sure 3 (some .int) :: kTb)) := kgV mL_54 im_X0_sure (kTb_in (by decide +kernel) rfl) ini_KeyWalks cd_X0_sure
theorem m0_118 : Cond.methodLink RX0 118 yX0_nextCost ∈ kTb := kTb_in (List.mem_append_right _ (List.mem_of_getElem? (i := 376) (by decide +kernel))) rfl
theorem g0_118 : GoodIn kTb (wsV RX0 118 RX0 yX0_nextCost (Cond.code yX0_nextCost cX0_nextCost 4 (some .int) :: kTb)) := kgV m0_118 im_X0_nextCost (kTb_in (by decide +kernel) rfl) ini_KeyWalks cd_X0_nextCost
theorem m0_125 : Cond.methodLink RX0 125 ⟨"java/lang/ArithmeticException", "<init>", "(Ljava/lang/String;)V"⟩ ∈ kTb := kTb_in (List.mem_append_right _ (List.mem_of_getElem? (i := 390) (by decide +kernel))) rfl
theorem mL_140 : Cond.methodLink RL 140 yL_change ∈ kTb := kTb_in (List.mem_append_right _ (List.mem_of_getElem? (i := 396) (by decide +kernel))) rfl
theorem mL_59 : Cond.methodLink RL 59 yX0_change ∈ kTb := kTb_in (List.mem_append_right _ (List.mem_of_getElem? (i := 399) (by decide +kernel))) rfl
theorem gL_59 : GoodIn kTb (wsV RL 59 RX0 yX0_change (Cond.code yX0_change cX0_change 4 (some .int) :: kTb)) := kgV mL_59 im_X0_change (kTb_in (by decide +kernel) rfl) ini_KeyWalks cd_X0_change
theorem m0_128 : Cond.methodLink RX0 128 yX0_changesAt ∈ kTb := kTb_in (List.mem_append_right _ (List.mem_of_getElem? (i := 404) (by decide +kernel))) rfl
theorem g0_128 : GoodIn kTb (wsV RX0 128 RX0 yX0_changesAt (Cond.code yX0_changesAt cX0_changesAt 2 (some .boolean) :: kTb)) := kgV m0_128 im_X0_changesAt (kTb_in (by decide +kernel) rfl) ini_KeyWalks cd_X0_changesAt
theorem mL_143 : Cond.methodLink RL 143 yL_pivot ∈ kTb := kTb_in (List.mem_append_right _ (List.mem_of_getElem? (i := 408) (by decide +kernel))) rfl
theorem mL_62 : Cond.methodLink RL 62 yX0_pivot ∈ kTb := kTb_in (List.mem_append_right _ (List.mem_of_getElem? (i := 411) (by decide +kernel))) rfl
theorem gL_62 : GoodIn kTb (wsV RL 62 RX0 yX0_pivot (Cond.code yX0_pivot cX0_pivot 6 (some .boolean) :: kTb)) := kgV mL_62 im_X0_pivot (kTb_in (by decide +kernel) rfl) ini_KeyWalks cd_X0_pivot
theorem mL_146 : Cond.methodLink RL 146 yL_whole ∈ kTb := kTb_in (List.mem_append_right _ (List.mem_of_getElem? (i := 415) (by decide +kernel))) rfl
theorem mL_66 : Cond.methodLink RL 66 yX0_whole ∈ kTb := kTb_in (List.mem_append_right _ (List.mem_of_getElem? (i := 418) (by decide +kernel))) rfl
theorem gL_66 : GoodIn kTb (wsV RL 66 RX0 yX0_whole (Cond.code yX0_whole cX0_whole 7 (some .int) :: kTb)) := kgV mL_66 im_X0_whole (kTb_in (by decide +kernel) rfl) ini_KeyWalks cd_X0_whole
theorem m0_137 : Cond.methodLink RX0 137 yX0_fitTogether ∈ kTb := kTb_in (List.mem_append_right _ (List.mem_of_getElem? (i := 423) (by decide +kernel))) rfl
theorem g0_137 : GoodIn kTb (wsV RX0 137 RX0 yX0_fitTogether (Cond.code yX0_fitTogether cX0_fitTogether 6 (some .int) :: kTb)) := kgV m0_137 im_X0_fitTogether (kTb_in (by decide +kernel) rfl) ini_KeyWalks cd_X0_fitTogether
theorem mL_149 : Cond.methodLink RL 149 yL_of ∈ kTb := kTb_in (List.mem_append_right _ (List.mem_of_getElem? (i := 427) (by decide +kernel))) rfl
theorem mL_69 : Cond.methodLink RL 69 yX0_of ∈ kTb := kTb_in (List.mem_append_right _ (List.mem_of_getElem? (i := 430) (by decide +kernel))) rfl
theorem gL_69 : GoodIn kTb (wsV RL 69 RX0 yX0_of (Cond.code yX0_of cX0_of 2 (some .int) :: kTb)) := kgV mL_69 im_X0_of (kTb_in (by decide +kernel) rfl) ini_KeyWalks cd_X0_of
theorem m0_141 : Cond.methodLink RX0 141 yX0_changesOfFirst ∈ kTb := kTb_in (List.mem_append_right _ (List.mem_of_getElem? (i := 434) (by decide +kernel))) rfl
theorem g0_141 : GoodIn kTb (wsV RX0 141 RX0 yX0_changesOfFirst (Cond.code yX0_changesOfFirst cX0_changesOfFirst 3 (some .int) :: kTb)) := kgV m0_141 im_X0_changesOfFirst (kTb_in (by decide +kernel) rfl) ini_KeyWalks cd_X0_changesOfFirst
theorem mL_75 : Cond.methodLink RL 75 yX1_init ∈ kTb := kTb_in (List.mem_append_right _ (List.mem_of_getElem? (i := 441) (by decide +kernel))) rfl
theorem m1_1 : Cond.methodLink RX1 1 ⟨"java/lang/Object", "<init>", "()V"⟩ ∈ kTb := kTb_in (List.mem_append_right _ (List.mem_of_getElem? (i := 444) (by decide +kernel))) rfl
theorem m1_32 : Cond.methodLink RX1 32 yX1_begin ∈ kTb := kTb_in (List.mem_append_right _ (List.mem_of_getElem? (i := 445) (by decide +kernel))) rfl
theorem g1_32 : GoodIn kTb (wsV RX1 32 RX1 yX1_begin (Cond.code yX1_begin cX1_begin 2 none :: kTb)) := kgV m1_32 im_X1_begin (kTb_in (by decide +kernel) rfl) ini_KeyWalksModel cd_X1_begin
theorem mL_86 : Cond.methodLink RL 86 yX1_thrown ∈ kTb := kTb_in (List.mem_append_right _ (List.mem_of_getElem? (i := 486) (by decide +kernel))) rfl
theorem gL_86 : GoodIn kTb (wsV RL 86 RX1 yX1_thrown (Cond.code yX1_thrown cX1_thrown 1 (some .int) :: kTb)) := kgV mL_86 im_X1_thrown (kTb_in (by decide +kernel) rfl) ini_KeyWalksModel cd_X1_thrown
theorem mL_79 : Cond.methodLink RL 79 yX1_clear ∈ kTb := kTb_in (List.mem_append_right _ (List.mem_of_getElem? (i := 490) (by decide +kernel))) rfl
theorem gL_79 : GoodIn kTb (wsV RL 79 RX1 yX1_clear (Cond.code yX1_clear cX1_clear 2 (some .int) :: kTb)) := kgV mL_79 im_X1_clear (kTb_in (by decide +kernel) rfl) ini_KeyWalksModel cd_X1_clear
theorem mL_85 : Cond.methodLink RL 85 yX1_profile ∈ kTb := kTb_in (List.mem_append_right _ (List.mem_of_getElem? (i := 494) (by decide +kernel))) rfl
theorem gL_85 : GoodIn kTb (wsV RL 85 RX1 yX1_profile (Cond.code yX1_profile cX1_profile 5 (some .int) :: kTb)) := kgV mL_85 im_X1_profile (kTb_in (by decide +kernel) rfl) ini_KeyWalksModel cd_X1_profile
theorem m1_51 : Cond.methodLink RX1 51 yX1_isIn ∈ kTb := kTb_in (List.mem_append_right _ (List.mem_of_getElem? (i := 498) (by decide +kernel))) rfl
theorem g1_51 : GoodIn kTb (va_wsS RX1 51 yX1_isIn (Cond.code yX1_isIn cX1_isIn 6 (some .boolean) :: kTb)) := kgS m1_51 sm_X1_isIn ini_KeyWalksModel cd_X1_isIn
theorem m1_61 : Cond.methodLink RX1 61 yX1_isGood ∈ kTb := kTb_in (List.mem_append_right _ (List.mem_of_getElem? (i := 503) (by decide +kernel))) rfl
theorem g1_61 : GoodIn kTb (wsV RX1 61 RX1 yX1_isGood (Cond.code yX1_isGood cX1_isGood 2 (some .boolean) :: kTb)) := kgV m1_61 im_X1_isGood (kTb_in (by decide +kernel) rfl) ini_KeyWalksModel cd_X1_isGood
theorem mL_91 : Cond.methodLink RL 91 yX1_costs ∈ kTb := kTb_in (List.mem_append_right _ (List.mem_of_getElem? (i := 507) (by decide +kernel))) rfl
theorem gL_91 : GoodIn kTb (wsV RL 91 RX1 yX1_costs (Cond.code yX1_costs cX1_costs 5 (some .int) :: kTb)) := kgV mL_91 im_X1_costs (kTb_in (by decide +kernel) rfl) ini_KeyWalksModel cd_X1_costs
theorem mL_95 : Cond.methodLink RL 95 yX1_slice ∈ kTb := kTb_in (List.mem_append_right _ (List.mem_of_getElem? (i := 512) (by decide +kernel))) rfl
theorem gL_95 : GoodIn kTb (wsV RL 95 RX1 yX1_slice (Cond.code yX1_slice cX1_slice 2 (some .int) :: kTb)) := kgV mL_95 im_X1_slice (kTb_in (by decide +kernel) rfl) ini_KeyWalksModel cd_X1_slice
theorem mL_98 : Cond.methodLink RL 98 yX1_note ∈ kTb := kTb_in (List.mem_append_right _ (List.mem_of_getElem? (i := 516) (by decide +kernel))) rfl
theorem gL_98 : GoodIn kTb (wsV RL 98 RX1 yX1_note (Cond.code yX1_note cX1_note 5 (some .int) :: kTb)) := kgV mL_98 im_X1_note (kTb_in (by decide +kernel) rfl) ini_KeyWalksModel cd_X1_note
theorem m1_67 : Cond.methodLink RX1 67 yX1_isSlice ∈ kTb := kTb_in (List.mem_append_right _ (List.mem_of_getElem? (i := 520) (by decide +kernel))) rfl
theorem g1_67 : GoodIn kTb (wsV RX1 67 RX1 yX1_isSlice (Cond.code yX1_isSlice cX1_isSlice 2 (some .boolean) :: kTb)) := kgV m1_67 im_X1_isSlice (kTb_in (by decide +kernel) rfl) ini_KeyWalksModel cd_X1_isSlice
theorem mL_101 : Cond.methodLink RL 101 yX1_drop ∈ kTb := kTb_in (List.mem_append_right _ (List.mem_of_getElem? (i := 525) (by decide +kernel))) rfl
theorem gL_101 : GoodIn kTb (wsV RL 101 RX1 yX1_drop (Cond.code yX1_drop cX1_drop 1 (some .int) :: kTb)) := kgV mL_101 im_X1_drop (kTb_in (by decide +kernel) rfl) ini_KeyWalksModel cd_X1_drop
theorem mL_105 : Cond.methodLink RL 105 yX1_fit ∈ kTb := kTb_in (List.mem_append_right _ (List.mem_of_getElem? (i := 529) (by decide +kernel))) rfl
theorem gL_105 : GoodIn kTb (wsV RL 105 RX1 yX1_fit (Cond.code yX1_fit cX1_fit 3 (some .int) :: kTb)) := kgV mL_105 im_X1_fit (kTb_in (by decide +kernel) rfl) ini_KeyWalksModel cd_X1_fit
theorem m1_83 : Cond.methodLink RX1 83 yX1_isKey ∈ kTb := kTb_in (List.mem_append_right _ (List.mem_of_getElem? (i := 533) (by decide +kernel))) rfl
theorem g1_83 : GoodIn kTb (va_wsS RX1 83 yX1_isKey (Cond.code yX1_isKey cX1_isKey 1 (some .boolean) :: kTb)) := kgS m1_83 sm_X1_isKey ini_KeyWalksModel cd_X1_isKey
theorem m1_76 : Cond.methodLink RX1 76 yX1_fitOf ∈ kTb := kTb_in (List.mem_append_right _ (List.mem_of_getElem? (i := 537) (by decide +kernel))) rfl
theorem g1_76 : GoodIn kTb (wsV RX1 76 RX1 yX1_fitOf (Cond.code yX1_fitOf cX1_fitOf 5 (some .int) :: kTb)) := kgV m1_76 im_X1_fitOf (kTb_in (by decide +kernel) rfl) ini_KeyWalksModel cd_X1_fitOf
theorem m1_72 : Cond.methodLink RX1 72 yX1_numberOf ∈ kTb := kTb_in (List.mem_append_right _ (List.mem_of_getElem? (i := 541) (by decide +kernel))) rfl
theorem g1_72 : GoodIn kTb (wsV RX1 72 RX1 yX1_numberOf (Cond.code yX1_numberOf cX1_numberOf 3 (some .int) :: kTb)) := kgV m1_72 im_X1_numberOf (kTb_in (by decide +kernel) rfl) ini_KeyWalksModel cd_X1_numberOf
theorem mL_108 : Cond.methodLink RL 108 yX1_cost ∈ kTb := kTb_in (List.mem_append_right _ (List.mem_of_getElem? (i := 545) (by decide +kernel))) rfl
theorem gL_108 : GoodIn kTb (wsV RL 108 RX1 yX1_cost (Cond.code yX1_cost cX1_cost 3 (some .int) :: kTb)) := kgV mL_108 im_X1_cost (kTb_in (by decide +kernel) rfl) ini_KeyWalksModel cd_X1_cost
theorem m1_86 : Cond.methodLink RX1 86 yX1_costOf ∈ kTb := kTb_in (List.mem_append_right _ (List.mem_of_getElem? (i := 549) (by decide +kernel))) rfl
theorem g1_86 : GoodIn kTb (wsV RX1 86 RX1 yX1_costOf (Cond.code yX1_costOf cX1_costOf 5 (some .int) :: kTb)) := kgV m1_86 im_X1_costOf (kTb_in (by decide +kernel) rfl) ini_KeyWalksModel cd_X1_costOf
theorem mL_111 : Cond.methodLink RL 111 yX1_turn ∈ kTb := kTb_in (List.mem_append_right _ (List.mem_of_getElem? (i := 553) (by decide +kernel))) rfl
theorem gL_111 : GoodIn kTb (wsV RL 111 RX1 yX1_turn (Cond.code yX1_turn cX1_turn 3 (some .int) :: kTb)) := kgV mL_111 im_X1_turn (kTb_in (by decide +kernel) rfl) ini_KeyWalksModel cd_X1_turn
theorem m1_89 : Cond.methodLink RX1 89 yX1_turnOf ∈ kTb := kTb_in (List.mem_append_right _ (List.mem_of_getElem? (i := 557) (by decide +kernel))) rfl
theorem g1_89 : GoodIn kTb (wsV RX1 89 RX1 yX1_turnOf (Cond.code yX1_turnOf cX1_turnOf 4 (some .int) :: kTb)) := kgV m1_89 im_X1_turnOf (kTb_in (by decide +kernel) rfl) ini_KeyWalksModel cd_X1_turnOf
theorem m1_79 : Cond.methodLink RX1 79 yX1_placeOf ∈ kTb := kTb_in (List.mem_append_right _ (List.mem_of_getElem? (i := 561) (by decide +kernel))) rfl
theorem g1_79 : GoodIn kTb (va_wsS RX1 79 yX1_placeOf (Cond.code yX1_placeOf cX1_placeOf 1 (some .int) :: kTb)) := kgS m1_79 sm_X1_placeOf ini_KeyWalksModel cd_X1_placeOf
theorem mL_115 : Cond.methodLink RL 115 yX1_least ∈ kTb := kTb_in (List.mem_append_right _ (List.mem_of_getElem? (i := 564) (by decide +kernel))) rfl
theorem gL_115 : GoodIn kTb (wsV RL 115 RX1 yX1_least (Cond.code yX1_least cX1_least 1 (some .int) :: kTb)) := kgV mL_115 im_X1_least (kTb_in (by decide +kernel) rfl) ini_KeyWalksModel cd_X1_least
theorem m1_95 : Cond.methodLink RX1 95 yX1_lay ∈ kTb := kTb_in (List.mem_append_right _ (List.mem_of_getElem? (i := 568) (by decide +kernel))) rfl
theorem g1_95 : GoodIn kTb (wsV RX1 95 RX1 yX1_lay (Cond.code yX1_lay cX1_lay 4 none :: kTb)) := kgV m1_95 im_X1_lay (kTb_in (by decide +kernel) rfl) ini_KeyWalksModel cd_X1_lay
theorem m1_98 : Cond.methodLink RX1 98 yX1_weigh ∈ kTb := kTb_in (List.mem_append_right _ (List.mem_of_getElem? (i := 572) (by decide +kernel))) rfl
theorem g1_98 : GoodIn kTb (wsV RX1 98 RX1 yX1_weigh (Cond.code yX1_weigh cX1_weigh 10 (some .int) :: kTb)) := kgV m1_98 im_X1_weigh (kTb_in (by decide +kernel) rfl) ini_KeyWalksModel cd_X1_weigh
theorem mL_124 : Cond.methodLink RL 124 yX1_count ∈ kTb := kTb_in (List.mem_append_right _ (List.mem_of_getElem? (i := 578) (by decide +kernel))) rfl
theorem gL_124 : GoodIn kTb (wsV RL 124 RX1 yX1_count (Cond.code yX1_count cX1_count 5 (some .long) :: kTb)) := kgV mL_124 im_X1_count (kTb_in (by decide +kernel) rfl) ini_KeyWalksModel cd_X1_count
theorem mL_119 : Cond.methodLink RL 119 yX1_key ∈ kTb := kTb_in (List.mem_append_right _ (List.mem_of_getElem? (i := 582) (by decide +kernel))) rfl
theorem gL_119 : GoodIn kTb (wsV RL 119 RX1 yX1_key (Cond.code yX1_key cX1_key 2 (some .int) :: kTb)) := kgV mL_119 im_X1_key (kTb_in (by decide +kernel) rfl) ini_KeyWalksModel cd_X1_key
theorem m1_101 : Cond.methodLink RX1 101 yX1_walkBehind ∈ kTb := kTb_in (List.mem_append_right _ (List.mem_of_getElem? (i := 586) (by decide +kernel))) rfl
theorem g1_101 : GoodIn kTb (wsV RX1 101 RX1 yX1_walkBehind (Cond.code yX1_walkBehind cX1_walkBehind 11 (some .boolean) :: kTb)) := kgV m1_101 im_X1_walkBehind (kTb_in (by decide +kernel) rfl) ini_KeyWalksModel cd_X1_walkBehind
theorem mL_130 : Cond.methodLink RL 130 yX1_pick ∈ kTb := kTb_in (List.mem_append_right _ (List.mem_of_getElem? (i := 590) (by decide +kernel))) rfl
theorem gL_130 : GoodIn kTb (wsV RL 130 RX1 yX1_pick (Cond.code yX1_pick cX1_pick 4 (some .int) :: kTb)) := kgV mL_130 im_X1_pick (kTb_in (by decide +kernel) rfl) ini_KeyWalksModel cd_X1_pick
theorem mL_133 : Cond.methodLink RL 133 yX1_through ∈ kTb := kTb_in (List.mem_append_right _ (List.mem_of_getElem? (i := 595) (by decide +kernel))) rfl
theorem gL_133 : GoodIn kTb (wsV RL 133 RX1 yX1_through (Cond.code yX1_through cX1_through 3 (some .int) :: kTb)) := kgV mL_133 im_X1_through (kTb_in (by decide +kernel) rfl) ini_KeyWalksModel cd_X1_through
theorem mL_136 : Cond.methodLink RL 136 yX1_near ∈ kTb := kTb_in (List.mem_append_right _ (List.mem_of_getElem? (i := 599) (by decide +kernel))) rfl
theorem gL_136 : GoodIn kTb (wsV RL 136 RX1 yX1_near (Cond.code yX1_near cX1_near 6 (some .int) :: kTb)) := kgV mL_136 im_X1_near (kTb_in (by decide +kernel) rfl) ini_KeyWalksModel cd_X1_near
theorem mL_139 : Cond.methodLink RL 139 yX1_sure ∈ kTb := kTb_in (List.mem_append_right _ (List.mem_of_getElem? (i := 604) (by decide +kernel))) rfl
theorem gL_139 : GoodIn kTb (wsV RL 139 RX1 yX1_sure (Cond.code yX1_sure cX1_sure 4 (some .int) :: kTb)) := kgV mL_139 im_X1_sure (kTb_in (by decide +kernel) rfl) ini_KeyWalksModel cd_X1_sure
theorem mL_142 : Cond.methodLink RL 142 yX1_change ∈ kTb := kTb_in (List.mem_append_right _ (List.mem_of_getElem? (i := 609) (by decide +kernel))) rfl
theorem gL_142 : GoodIn kTb (wsV RL 142 RX1 yX1_change (Cond.code yX1_change cX1_change 2 (some .int) :: kTb)) := kgV mL_142 im_X1_change (kTb_in (by decide +kernel) rfl) ini_KeyWalksModel cd_X1_change
theorem m1_111 : Cond.methodLink RX1 111 yX1_changeAt ∈ kTb := kTb_in (List.mem_append_right _ (List.mem_of_getElem? (i := 613) (by decide +kernel))) rfl
theorem g1_111 : GoodIn kTb (wsV RX1 111 RX1 yX1_changeAt (Cond.code yX1_changeAt cX1_changeAt 4 (some .int) :: kTb)) := kgV m1_111 im_X1_changeAt (kTb_in (by decide +kernel) rfl) ini_KeyWalksModel cd_X1_changeAt
theorem mL_145 : Cond.methodLink RL 145 yX1_pivot ∈ kTb := kTb_in (List.mem_append_right _ (List.mem_of_getElem? (i := 617) (by decide +kernel))) rfl
theorem gL_145 : GoodIn kTb (wsV RL 145 RX1 yX1_pivot (Cond.code yX1_pivot cX1_pivot 6 (some .boolean) :: kTb)) := kgV mL_145 im_X1_pivot (kTb_in (by decide +kernel) rfl) ini_KeyWalksModel cd_X1_pivot
theorem mL_148 : Cond.methodLink RL 148 yX1_whole ∈ kTb := kTb_in (List.mem_append_right _ (List.mem_of_getElem? (i := 621) (by decide +kernel))) rfl
theorem gL_148 : GoodIn kTb (wsV RL 148 RX1 yX1_whole (Cond.code yX1_whole cX1_whole 8 (some .int) :: kTb)) := kgV mL_148 im_X1_whole (kTb_in (by decide +kernel) rfl) ini_KeyWalksModel cd_X1_whole
theorem mL_151 : Cond.methodLink RL 151 yX1_of ∈ kTb := kTb_in (List.mem_append_right _ (List.mem_of_getElem? (i := 625) (by decide +kernel))) rfl
theorem gL_151 : GoodIn kTb (wsV RL 151 RX1 yX1_of (Cond.code yX1_of cX1_of 4 (some .int) :: kTb)) := kgV mL_151 im_X1_of (kTb_in (by decide +kernel) rfl) ini_KeyWalksModel cd_X1_of
theorem m_mmaxs : Cond.static Lib.Math.max.name ∈ kTb := kTb_in (by decide +kernel) rfl
theorem m_mmaxc : Cond.code Lib.Math.max.name Lib.Math.max.code 2 (some .int) ∈ kTb := kTb_in (by decide +kernel) rfl
theorem m_mmins : Cond.static Lib.Math.min.name ∈ kTb := kTb_in (by decide +kernel) rfl
theorem m_mminc : Cond.code Lib.Math.min.name Lib.Math.min.code 2 (some .int) ∈ kTb := kTb_in (by decide +kernel) rfl
theorem m_mabss : Cond.static Lib.Math.abs.name ∈ kTb := kTb_in (by decide +kernel) rfl
theorem m_mabsc : Cond.code Lib.Math.abs.name Lib.Math.abs.code 1 (some .int) ∈ kTb := kTb_in (by decide +kernel) rfl
theorem m_mminLs : Cond.static Lib.MathLoose.min_long.x ∈ kTb := kTb_in (by decide +kernel) rfl
theorem m_mminLc : Cond.code Lib.MathLoose.min_long.x Lib.MathLoose.min_long.code 4 (some .long) ∈ kTb := kTb_in (by decide +kernel) rfl
theorem m_math : Cond.initialized "java/lang/Math" ∈ kTb := ini_java_lang_Math
abbrev kTx_163 : String := "a number is outside what is told"
abbrev kTx_63 : String := "there are 40 slices"
abbrev kTx_72 : String := "the weight would be above 200"
abbrev kTx_74 : String := "there is no slice"
abbrev kTx_104 : String := "there is no such place among the best walks"
abbrev kTx_123 : String := "the next cost is 0"
abbrev kTx_126 : String := "there is no change below 0"
abbrev kTx_135 : String := "the first slice is behind the last one"
abbrev kTx_145 : String := "there is no such number to tell"
abbrev kEx_102 : String := "java/lang/IllegalArgumentException"
abbrev kNm_102 : List String := ["java/lang/RuntimeException", "java/lang/Exception"]
theorem kcl0_102 : Cond.classLink RX0 102 kEx_102 ∈ kTb := kTb_in (List.mem_append_right _ (List.mem_of_getElem? (i := 179) (by decide +kernel))) rfl
theorem kini_102 : Cond.initialized kEx_102 ∈ kTb := ini_java_lang_IllegalArgumentException
abbrev kEx_61 : String := "java/lang/IllegalStateException"
abbrev kNm_61 : List String := ["java/lang/RuntimeException", "java/lang/Exception"]
theorem kcl0_61 : Cond.classLink RX0 61 kEx_61 ∈ kTb := kTb_in (List.mem_append_right _ (List.mem_of_getElem? (i := 262) (by decide +kernel))) rfl
theorem kini_61 : Cond.initialized kEx_61 ∈ kTb := ini_java_lang_IllegalStateException
abbrev kEx_121 : String := "java/lang/ArithmeticException"
abbrev kNm_121 : List String := ["java/lang/RuntimeException", "java/lang/Exception"]
theorem kcl0_121 : Cond.classLink RX0 121 kEx_121 ∈ kTb := kTb_in (List.mem_append_right _ (List.mem_of_getElem? (i := 380) (by decide +kernel))) rfl
theorem kini_121 : Cond.initialized kEx_121 ∈ kTb := ini_java_lang_ArithmeticException
theorem kat_102_106 : ∀ w ∈ vx_atS RX0 106 kEx_102 kNm_102, w ∈ kTb ∨ w ∈ kFa := by decide +kernel
theorem kot_102_106 : ∀ w ∈ Cond.classLink RX0 102 kEx_102 :: Cond.initialized kEx_102 :: vx_atS RX0 106 kEx_102 kNm_102, vx_ot w = true := by decide +kernel
theorem kat_61_65 : ∀ w ∈ vx_atS RX0 65 kEx_61 kNm_61, w ∈ kTb ∨ w ∈ kFa := by decide +kernel
theorem kot_61_65 : ∀ w ∈ Cond.classLink RX0 61 kEx_61 :: Cond.initialized kEx_61 :: vx_atS RX0 65 kEx_61 kNm_61, vx_ot w = true := by decide +kernel
theorem kat_121_125 : ∀ w ∈ vx_atS RX0 125 kEx_121 kNm_121, w ∈ kTb ∨ w ∈ kFa := by decide +kernel
theorem kot_121_125 : ∀ w ∈ Cond.classLink RX0 121 kEx_121 :: Cond.initialized kEx_121 :: vx_atS RX0 125 kEx_121 kNm_121, vx_ot w = true := by decide +kernel
end
section
/-! rows of our own: one judgement kx over a world (list of cells) and a list of locals, kept as lists; numbers as Nat where they are none below 0 -/
abbrev KE : Type := Launch × va_G × Nat × Nat × Nat
def kI (E : KE) : Nat := E.2.2.1
def kL (E : KE) : Nat := E.2.2.2.1
def kN (E : KE) : Nat := E.2.2.2.2
def kT (E : KE) : List (ClassId × FieldType) := [(kI E, .int), (kL E, .long)]
abbrev KG : Type := Program × Env × State × MethodId × Array Value × List Frame × Method × Code × (Nat → Prop) × (State → Prop)
/-- what stays through a walk: the machine, the code, the words, the tables, the cells that may change -/
def kc (E : KE) (G : KG) (cc : ByteArray) (nL : Nat) (own : String) : Prop :=
  match G with
  | (p, _, s, m, args, _, meth, c, A, _) => p.tables.exec = Jvm.exec ∧ c.code = cc ∧ c.maxLocals = nL ∧ s.vm.findClass own = some m.cls ∧ (∀ w ∈ kTb, w.before args s = true) ∧ va_K E.2.1 kCl (kT E) s ∧ (∀ q : Nat, s.heap.size ≤ q → A q) ∧ (∀ q : Nat, A q → kN E ≤ q) ∧ amb (kN E) s s.heap ∧ kN E ≤ s.heap.size ∧ meth.locks = false
/-- the walk at pc, with the world ws, the locals lv, the stack st -/
def kx (E : KE) (R : Room) (G : KG) (nL cells slots : Nat) (ws : va_W) (lv : List (Nat × Value)) (pc : Nat) (st : List Value) : Prop :=
  match G with
  | (p, e, s, m, args, below, meth, c, A, Q) => ∀ (H : Heap) (locs : List Loc) (ls : Array Slot), va_P E.2.1 kCl ws H → va_D A ws → va_S A s.heap H locs → lv_has ls nL lv → W p E.1 e R s m args below meth c H locs cells slots Q (F0 m pc ls st)
theorem kI1 (a : Nat) : nI a + Int32.ofInt 1 = nI (a + 1) := nI_1 a
theorem kIm (a : Nat) : nI (a + 1) + Int32.ofInt (-1) = nI a := pk_m1 a
section KR
variable {E : KE} {R : Room} {G : KG} {cc : ByteArray} {nL : Nat} {own : String} {cells slots : Nat} {ws : va_W} {lv : List (Nat × Value)} {pc : Nat} {st : List Value}
theorem kx_iconst (C : kc E G cc nL own) {n : Int} {v : Int32} (hd : decode cc pc = .ok (.iconst n, 1)) (hv : Int32.ofInt n = v) (kk : kx E R G nL cells slots ws lv (pc + 1) (.int v :: st)) : kx E R G nL cells slots ws lv (pc) (st) := by
  obtain ⟨p, e, s, m, args, below, meth, c, A, Q⟩ := G
  obtain ⟨hx, hb, hml, hown, hts, hK, hA, hN, ham, hNs, hlk⟩ := C
  intro H locs ls hP hD hS hl
  exact lv_iconst hx hb hd hv (kk H locs ls hP hD hS hl)
theorem kx_bipush (C : kc E G cc nL own) {n : Int} {v : Int32} (hd : decode cc pc = .ok (.bipush n, 2)) (hv : (Int8.ofInt n).toInt32 = v) (kk : kx E R G nL cells slots ws lv (pc + 2) (.int v :: st)) : kx E R G nL cells slots ws lv (pc) (st) := by
  obtain ⟨p, e, s, m, args, below, meth, c, A, Q⟩ := G
  obtain ⟨hx, hb, hml, hown, hts, hK, hA, hN, ham, hNs, hlk⟩ := C
  intro H locs ls hP hD hS hl
  exact lv_bipush hx hb hd hv (kk H locs ls hP hD hS hl)
theorem kx_sipush (C : kc E G cc nL own) {n : Int} {v : Int32} (hd : decode cc pc = .ok (.sipush n, 3)) (hv : (Int16.ofInt n).toInt32 = v) (kk : kx E R G nL cells slots ws lv (pc + 3) (.int v :: st)) : kx E R G nL cells slots ws lv (pc) (st) := by
  obtain ⟨p, e, s, m, args, below, meth, c, A, Q⟩ := G
  obtain ⟨hx, hb, hml, hown, hts, hK, hA, hN, ham, hNs, hlk⟩ := C
  intro H locs ls hP hD hS hl
  exact lv_sipush hx hb hd hv (kk H locs ls hP hD hS hl)
theorem kx_lconst (C : kc E G cc nL own) {n : Fin 2} {v : Int64} (hd : decode cc pc = .ok (.lconst n, 1)) (hv : Int64.ofNat (n : Nat) = v) (kk : kx E R G nL cells slots ws lv (pc + 1) (.long v :: st)) : kx E R G nL cells slots ws lv (pc) (st) := by
  obtain ⟨p, e, s, m, args, below, meth, c, A, Q⟩ := G
  obtain ⟨hx, hb, hml, hown, hts, hK, hA, hN, ham, hNs, hlk⟩ := C
  intro H locs ls hP hD hS hl
  exact lv_lconst hx hb hd hv (kk H locs ls hP hD hS hl)
theorem kx_ldc (C : kc E G cc nL own) {index : Nat} {v : Int32} (hc : Cond.constant own index v ∈ kTb) (hd : decode cc pc = .ok (.ldc index, 2)) (kk : kx E R G nL cells slots ws lv (pc + 2) (.int v :: st)) : kx E R G nL cells slots ws lv (pc) (st) := by
  obtain ⟨p, e, s, m, args, below, meth, c, A, Q⟩ := G
  obtain ⟨hx, hb, hml, hown, hts, hK, hA, hN, ham, hNs, hlk⟩ := C
  intro H locs ls hP hD hS hl
  exact lv_ldc hx hb hown (hts _ hc) hd (kk H locs ls hP hD hS hl)
theorem kx_ldc2 (C : kc E G cc nL own) {index : Nat} {v : Int64} (hc : Cond.constantLong own index v ∈ kTb) (hd : decode cc pc = .ok (.ldc2_w index, 3)) (kk : kx E R G nL cells slots ws lv (pc + 3) (.long v :: st)) : kx E R G nL cells slots ws lv (pc) (st) := by
  obtain ⟨p, e, s, m, args, below, meth, c, A, Q⟩ := G
  obtain ⟨hx, hb, hml, hown, hts, hK, hA, hN, ham, hNs, hlk⟩ := C
  intro H locs ls hP hD hS hl
  exact lv_ldc2 hx hb hown (hts _ hc) hd (kk H locs ls hP hD hS hl)
theorem kx_iload_n (C : kc E G cc nL own) {f : Fin 4} {i : Nat} {x : Int32} (hd : decode cc pc = .ok (.iload_n f, 1)) (hi : (f : Nat) = i) (k : Nat) (hk : lv[k]? = some (i, .int x)) (kk : kx E R G nL cells slots ws lv (pc + 1) (.int x :: st)) : kx E R G nL cells slots ws lv (pc) (st) := by
  obtain ⟨p, e, s, m, args, below, meth, c, A, Q⟩ := G
  obtain ⟨hx, hb, hml, hown, hts, hK, hA, hN, ham, hNs, hlk⟩ := C
  intro H locs ls hP hD hS hl
  exact lv_iload_n hx hb hd hi (lv_at hl k hk) (kk H locs ls hP hD hS hl)
theorem kx_iload (C : kc E G cc nL own) {i : Nat} {x : Int32} (hd : decode cc pc = .ok (.iload i, 2)) (k : Nat) (hk : lv[k]? = some (i, .int x)) (kk : kx E R G nL cells slots ws lv (pc + 2) (.int x :: st)) : kx E R G nL cells slots ws lv (pc) (st) := by
  obtain ⟨p, e, s, m, args, below, meth, c, A, Q⟩ := G
  obtain ⟨hx, hb, hml, hown, hts, hK, hA, hN, ham, hNs, hlk⟩ := C
  intro H locs ls hP hD hS hl
  exact lv_iload hx hb hd (lv_at hl k hk) (kk H locs ls hP hD hS hl)
theorem kx_istore_n (C : kc E G cc nL own) {f : Fin 4} {i : Nat} {x : Int32} {lv2 : List (Nat × Value)} (hd : decode cc pc = .ok (.istore_n f, 1)) (hi : (f : Nat) = i) (hn : i < nL) (h2 : (i, Value.int x) :: lv.filter (fun q => !(q.1 == i) && !(q.1 + 1 == i && q.2.category == 2)) = lv2) (kk : kx E R G nL cells slots ws lv2 (pc + 1) (st)) : kx E R G nL cells slots ws lv (pc) (.int x :: st) := by
  obtain ⟨p, e, s, m, args, below, meth, c, A, Q⟩ := G
  obtain ⟨hx, hb, hml, hown, hts, hK, hA, hN, ham, hNs, hlk⟩ := C
  intro H locs ls hP hD hS hl
  exact lv_istore_n hx hb hd hi hl hn h2 (fun ls2 hl2 => kk H locs ls2 hP hD hS hl2)
theorem kx_istore (C : kc E G cc nL own) {i : Nat} {x : Int32} {lv2 : List (Nat × Value)} (hd : decode cc pc = .ok (.istore i, 2)) (hn : i < nL) (h2 : (i, Value.int x) :: lv.filter (fun q => !(q.1 == i) && !(q.1 + 1 == i && q.2.category == 2)) = lv2) (kk : kx E R G nL cells slots ws lv2 (pc + 2) (st)) : kx E R G nL cells slots ws lv (pc) (.int x :: st) := by
  obtain ⟨p, e, s, m, args, below, meth, c, A, Q⟩ := G
  obtain ⟨hx, hb, hml, hown, hts, hK, hA, hN, ham, hNs, hlk⟩ := C
  intro H locs ls hP hD hS hl
  exact lv_istore hx hb hd hl hn h2 (fun ls2 hl2 => kk H locs ls2 hP hD hS hl2)
theorem kx_lload_n (C : kc E G cc nL own) {f : Fin 4} {i : Nat} {x : Int64} (hd : decode cc pc = .ok (.lload_n f, 1)) (hi : (f : Nat) = i) (k : Nat) (hk : lv[k]? = some (i, .long x)) (kk : kx E R G nL cells slots ws lv (pc + 1) (.long x :: st)) : kx E R G nL cells slots ws lv (pc) (st) := by
  obtain ⟨p, e, s, m, args, below, meth, c, A, Q⟩ := G
  obtain ⟨hx, hb, hml, hown, hts, hK, hA, hN, ham, hNs, hlk⟩ := C
  intro H locs ls hP hD hS hl
  exact lv_lload_n hx hb hd hi (lv_at hl k hk) (kk H locs ls hP hD hS hl)
theorem kx_lload (C : kc E G cc nL own) {i : Nat} {x : Int64} (hd : decode cc pc = .ok (.lload i, 2)) (k : Nat) (hk : lv[k]? = some (i, .long x)) (kk : kx E R G nL cells slots ws lv (pc + 2) (.long x :: st)) : kx E R G nL cells slots ws lv (pc) (st) := by
  obtain ⟨p, e, s, m, args, below, meth, c, A, Q⟩ := G
  obtain ⟨hx, hb, hml, hown, hts, hK, hA, hN, ham, hNs, hlk⟩ := C
  intro H locs ls hP hD hS hl
  exact lv_lload hx hb hd (lv_at hl k hk) (kk H locs ls hP hD hS hl)
theorem kx_lstore_n (C : kc E G cc nL own) {f : Fin 4} {i : Nat} {x : Int64} {lv2 : List (Nat × Value)} (hd : decode cc pc = .ok (.lstore_n f, 1)) (hi : (f : Nat) = i) (hn : i + 1 < nL) (h2 : (i, Value.long x) :: lv.filter (fun q => !(q.1 == i) && (!(q.1 == i + 1) && !(q.1 + 1 == i && q.2.category == 2))) = lv2) (kk : kx E R G nL cells slots ws lv2 (pc + 1) (st)) : kx E R G nL cells slots ws lv (pc) (.long x :: st) := by
  obtain ⟨p, e, s, m, args, below, meth, c, A, Q⟩ := G
  obtain ⟨hx, hb, hml, hown, hts, hK, hA, hN, ham, hNs, hlk⟩ := C
  intro H locs ls hP hD hS hl
  exact lv_lstore_n hx hb hd hi hl hn h2 (fun ls2 hl2 => kk H locs ls2 hP hD hS hl2)
theorem kx_lstore (C : kc E G cc nL own) {i : Nat} {x : Int64} {lv2 : List (Nat × Value)} (hd : decode cc pc = .ok (.lstore i, 2)) (hn : i + 1 < nL) (h2 : (i, Value.long x) :: lv.filter (fun q => !(q.1 == i) && (!(q.1 == i + 1) && !(q.1 + 1 == i && q.2.category == 2))) = lv2) (kk : kx E R G nL cells slots ws lv2 (pc + 2) (st)) : kx E R G nL cells slots ws lv (pc) (.long x :: st) := by
  obtain ⟨p, e, s, m, args, below, meth, c, A, Q⟩ := G
  obtain ⟨hx, hb, hml, hown, hts, hK, hA, hN, ham, hNs, hlk⟩ := C
  intro H locs ls hP hD hS hl
  exact lv_lstore hx hb hd hl hn h2 (fun ls2 hl2 => kk H locs ls2 hP hD hS hl2)
theorem kx_aload_n (C : kc E G cc nL own) {f : Fin 4} {i : Nat} {x : Nat} (hd : decode cc pc = .ok (.aload_n f, 1)) (hi : (f : Nat) = i) (k : Nat) (hk : lv[k]? = some (i, .ref x)) (kk : kx E R G nL cells slots ws lv (pc + 1) (.ref x :: st)) : kx E R G nL cells slots ws lv (pc) (st) := by
  obtain ⟨p, e, s, m, args, below, meth, c, A, Q⟩ := G
  obtain ⟨hx, hb, hml, hown, hts, hK, hA, hN, ham, hNs, hlk⟩ := C
  intro H locs ls hP hD hS hl
  exact lv_aload_n hx hb hd hi (lv_at hl k hk) (kk H locs ls hP hD hS hl)
theorem kx_aload (C : kc E G cc nL own) {i : Nat} {x : Nat} (hd : decode cc pc = .ok (.aload i, 2)) (k : Nat) (hk : lv[k]? = some (i, .ref x)) (kk : kx E R G nL cells slots ws lv (pc + 2) (.ref x :: st)) : kx E R G nL cells slots ws lv (pc) (st) := by
  obtain ⟨p, e, s, m, args, below, meth, c, A, Q⟩ := G
  obtain ⟨hx, hb, hml, hown, hts, hK, hA, hN, ham, hNs, hlk⟩ := C
  intro H locs ls hP hD hS hl
  exact lv_aload hx hb hd (lv_at hl k hk) (kk H locs ls hP hD hS hl)
theorem kx_astore_n (C : kc E G cc nL own) {f : Fin 4} {i : Nat} {x : Nat} {lv2 : List (Nat × Value)} (hd : decode cc pc = .ok (.astore_n f, 1)) (hi : (f : Nat) = i) (hn : i < nL) (h2 : (i, Value.ref x) :: lv.filter (fun q => !(q.1 == i) && !(q.1 + 1 == i && q.2.category == 2)) = lv2) (kk : kx E R G nL cells slots ws lv2 (pc + 1) (st)) : kx E R G nL cells slots ws lv (pc) (.ref x :: st) := by
  obtain ⟨p, e, s, m, args, below, meth, c, A, Q⟩ := G
  obtain ⟨hx, hb, hml, hown, hts, hK, hA, hN, ham, hNs, hlk⟩ := C
  intro H locs ls hP hD hS hl
  exact lv_astore_n hx hb hd hi hl hn h2 (fun ls2 hl2 => kk H locs ls2 hP hD hS hl2)
theorem kx_astore (C : kc E G cc nL own) {i : Nat} {x : Nat} {lv2 : List (Nat × Value)} (hd : decode cc pc = .ok (.astore i, 2)) (hn : i < nL) (h2 : (i, Value.ref x) :: lv.filter (fun q => !(q.1 == i) && !(q.1 + 1 == i && q.2.category == 2)) = lv2) (kk : kx E R G nL cells slots ws lv2 (pc + 2) (st)) : kx E R G nL cells slots ws lv (pc) (.ref x :: st) := by
  obtain ⟨p, e, s, m, args, below, meth, c, A, Q⟩ := G
  obtain ⟨hx, hb, hml, hown, hts, hK, hA, hN, ham, hNs, hlk⟩ := C
  intro H locs ls hP hD hS hl
  exact lv_astore hx hb hd hl hn h2 (fun ls2 hl2 => kk H locs ls2 hP hD hS hl2)
theorem kx_iinc (C : kc E G cc nL own) {i : Nat} {n : Int} {x v : Int32} {lv2 : List (Nat × Value)} (hd : decode cc pc = .ok (.iinc i n, 3)) (k : Nat) (hk : lv[k]? = some (i, .int x)) (hv : x + Int32.ofInt n = v) (hn : i < nL) (h2 : (i, Value.int v) :: lv.filter (fun q => !(q.1 == i) && !(q.1 + 1 == i && q.2.category == 2)) = lv2) (kk : kx E R G nL cells slots ws lv2 (pc + 3) (st)) : kx E R G nL cells slots ws lv (pc) (st) := by
  obtain ⟨p, e, s, m, args, below, meth, c, A, Q⟩ := G
  obtain ⟨hx, hb, hml, hown, hts, hK, hA, hN, ham, hNs, hlk⟩ := C
  intro H locs ls hP hD hS hl
  exact lv_iinc hx hb hd hl hk hv hn h2 (fun ls2 hl2 => kk H locs ls2 hP hD hS hl2)
theorem kx_lv {lv2 : List (Nat × Value)} (ks : List Nat) (h : lv_pick lv ks = lv2) (kk : kx E R G nL cells slots ws lv2 (pc) (st)) : kx E R G nL cells slots ws lv (pc) (st) := by
  obtain ⟨p, e, s, m, args, below, meth, c, A, Q⟩ := G
  intro H locs ls hP hD hS hl
  exact kk H locs ls hP hD hS (lv_sub hl ks h)
theorem kx_ws {ws2 : va_W} (is : List Nat) (hn : va_nd is = true) (h1 : is.filterMap (fun i => ws[i]?) = ws2) (h2 : is.map (fun i => ws[i]?) = ws2.map some) (kk : kx E R G nL cells slots ws2 lv (pc) (st)) : kx E R G nL cells slots ws lv (pc) (st) := by
  obtain ⟨p, e, s, m, args, below, meth, c, A, Q⟩ := G
  intro H locs ls hP hD hS hl
  exact kk H locs ls (hP.sub is h1) (hD.sub is hn h2) hS hl
theorem kx_eqw {ws2 : va_W} (h : ws = ws2) (kk : kx E R G nL cells slots ws2 lv (pc) (st)) : kx E R G nL cells slots ws lv (pc) (st) := h ▸ kk
theorem kx_eqs {st2 : List Value} (h : st = st2) (kk : kx E R G nL cells slots ws lv (pc) (st2)) : kx E R G nL cells slots ws lv (pc) (st) := h ▸ kk
theorem kx_widen {k n : Nat} (h1 : cells ≤ k) (h2 : slots ≤ n) (kk : kx E R G nL k n ws lv (pc) (st)) : kx E R G nL cells slots ws lv (pc) (st) := by
  obtain ⟨p, e, s, m, args, below, meth, c, A, Q⟩ := G
  intro H locs ls hP hD hS hl
  exact W.widen h1 h2 (kk H locs ls hP hD hS hl)
theorem kx_dup (C : kc E G cc nL own) {va : Value} (hd : decode cc pc = .ok (.dup, 1)) (hva : va.category = 1) (kk : kx E R G nL cells slots ws lv (pc + 1) (va :: va :: st)) : kx E R G nL cells slots ws lv (pc) (va :: st) := by
  obtain ⟨p, e, s, m, args, below, meth, c, A, Q⟩ := G
  obtain ⟨hx, hb, hml, hown, hts, hK, hA, hN, ham, hNs, hlk⟩ := C
  intro H locs ls hP hD hS hl
  exact lv_dup hx hb hd hva (kk H locs ls hP hD hS hl)
theorem kx_dup2 (C : kc E G cc nL own) {va vb : Value} (hd : decode cc pc = .ok (.dup2, 1)) (hva : va.category = 1) (hvb : vb.category = 1) (kk : kx E R G nL cells slots ws lv (pc + 1) (va :: vb :: va :: vb :: st)) : kx E R G nL cells slots ws lv (pc) (va :: vb :: st) := by
  obtain ⟨p, e, s, m, args, below, meth, c, A, Q⟩ := G
  obtain ⟨hx, hb, hml, hown, hts, hK, hA, hN, ham, hNs, hlk⟩ := C
  intro H locs ls hP hD hS hl
  exact lv_dup2_11 hx hb hd hva hvb (kk H locs ls hP hD hS hl)
theorem kx_pop (C : kc E G cc nL own) {va : Value} (hd : decode cc pc = .ok (.pop, 1)) (hva : va.category = 1) (kk : kx E R G nL cells slots ws lv (pc + 1) (st)) : kx E R G nL cells slots ws lv (pc) (va :: st) := by
  obtain ⟨p, e, s, m, args, below, meth, c, A, Q⟩ := G
  obtain ⟨hx, hb, hml, hown, hts, hK, hA, hN, ham, hNs, hlk⟩ := C
  intro H locs ls hP hD hS hl
  exact lv_pop hx hb hd hva (kk H locs ls hP hD hS hl)
theorem kx_goto (C : kc E G cc nL own) {off : Int} {tgt : Nat} (hd : decode cc pc = .ok (.goto off, 3)) (ht : (pc : Int) + off = (tgt : Int)) (kk : kx E R G nL cells slots ws lv (tgt) (st)) : kx E R G nL cells slots ws lv (pc) (st) := by
  obtain ⟨p, e, s, m, args, below, meth, c, A, Q⟩ := G
  obtain ⟨hx, hb, hml, hown, hts, hK, hA, hN, ham, hNs, hlk⟩ := C
  intro H locs ls hP hD hS hl
  exact lv_goto hx hb hd ht (kk H locs ls hP hD hS hl)
theorem kx_iaddR (C : kc E G cc nL own) {x y : Int32} (hd : decode cc pc = .ok (.iadd, 1)) (kk : kx E R G nL cells slots ws lv (pc + 1) (.int (x + y) :: st)) : kx E R G nL cells slots ws lv (pc) (.int y :: .int x :: st) := by
  obtain ⟨p, e, s, m, args, below, meth, c, A, Q⟩ := G
  obtain ⟨hx, hb, hml, hown, hts, hK, hA, hN, ham, hNs, hlk⟩ := C
  intro H locs ls hP hD hS hl
  exact lv_iadd hx hb hd (kk H locs ls hP hD hS hl)
theorem kx_isubR (C : kc E G cc nL own) {x y : Int32} (hd : decode cc pc = .ok (.isub, 1)) (kk : kx E R G nL cells slots ws lv (pc + 1) (.int (x - y) :: st)) : kx E R G nL cells slots ws lv (pc) (.int y :: .int x :: st) := by
  obtain ⟨p, e, s, m, args, below, meth, c, A, Q⟩ := G
  obtain ⟨hx, hb, hml, hown, hts, hK, hA, hN, ham, hNs, hlk⟩ := C
  intro H locs ls hP hD hS hl
  exact lv_isub hx hb hd (kk H locs ls hP hD hS hl)
theorem kx_imulR (C : kc E G cc nL own) {x y : Int32} (hd : decode cc pc = .ok (.imul, 1)) (kk : kx E R G nL cells slots ws lv (pc + 1) (.int (x * y) :: st)) : kx E R G nL cells slots ws lv (pc) (.int y :: .int x :: st) := by
  obtain ⟨p, e, s, m, args, below, meth, c, A, Q⟩ := G
  obtain ⟨hx, hb, hml, hown, hts, hK, hA, hN, ham, hNs, hlk⟩ := C
  intro H locs ls hP hD hS hl
  exact lv_imul hx hb hd (kk H locs ls hP hD hS hl)
theorem kx_iandR (C : kc E G cc nL own) {x y : Int32} (hd : decode cc pc = .ok (.iand, 1)) (kk : kx E R G nL cells slots ws lv (pc + 1) (.int (x &&& y) :: st)) : kx E R G nL cells slots ws lv (pc) (.int y :: .int x :: st) := by
  obtain ⟨p, e, s, m, args, below, meth, c, A, Q⟩ := G
  obtain ⟨hx, hb, hml, hown, hts, hK, hA, hN, ham, hNs, hlk⟩ := C
  intro H locs ls hP hD hS hl
  exact lv_iand hx hb hd (kk H locs ls hP hD hS hl)
theorem kx_iorR (C : kc E G cc nL own) {x y : Int32} (hd : decode cc pc = .ok (.ior, 1)) (kk : kx E R G nL cells slots ws lv (pc + 1) (.int (x ||| y) :: st)) : kx E R G nL cells slots ws lv (pc) (.int y :: .int x :: st) := by
  obtain ⟨p, e, s, m, args, below, meth, c, A, Q⟩ := G
  obtain ⟨hx, hb, hml, hown, hts, hK, hA, hN, ham, hNs, hlk⟩ := C
  intro H locs ls hP hD hS hl
  exact lv_ior hx hb hd (kk H locs ls hP hD hS hl)
theorem kx_ishlR (C : kc E G cc nL own) {x y : Int32} (hd : decode cc pc = .ok (.ishl, 1)) (kk : kx E R G nL cells slots ws lv (pc + 1) (.int (x <<< (y &&& 31)) :: st)) : kx E R G nL cells slots ws lv (pc) (.int y :: .int x :: st) := by
  obtain ⟨p, e, s, m, args, below, meth, c, A, Q⟩ := G
  obtain ⟨hx, hb, hml, hown, hts, hK, hA, hN, ham, hNs, hlk⟩ := C
  intro H locs ls hP hD hS hl
  exact lv_ishl hx hb hd (kk H locs ls hP hD hS hl)
theorem kx_laddR (C : kc E G cc nL own) {x y : Int64} (hd : decode cc pc = .ok (.ladd, 1)) (kk : kx E R G nL cells slots ws lv (pc + 1) (.long (x + y) :: st)) : kx E R G nL cells slots ws lv (pc) (.long y :: .long x :: st) := by
  obtain ⟨p, e, s, m, args, below, meth, c, A, Q⟩ := G
  obtain ⟨hx, hb, hml, hown, hts, hK, hA, hN, ham, hNs, hlk⟩ := C
  intro H locs ls hP hD hS hl
  exact lv_ladd hx hb hd (kk H locs ls hP hD hS hl)
theorem kx_lsubR (C : kc E G cc nL own) {x y : Int64} (hd : decode cc pc = .ok (.lsub, 1)) (kk : kx E R G nL cells slots ws lv (pc + 1) (.long (x - y) :: st)) : kx E R G nL cells slots ws lv (pc) (.long y :: .long x :: st) := by
  obtain ⟨p, e, s, m, args, below, meth, c, A, Q⟩ := G
  obtain ⟨hx, hb, hml, hown, hts, hK, hA, hN, ham, hNs, hlk⟩ := C
  intro H locs ls hP hD hS hl
  exact lv_lsub hx hb hd (kk H locs ls hP hD hS hl)
theorem kx_landR (C : kc E G cc nL own) {x y : Int64} (hd : decode cc pc = .ok (.land, 1)) (kk : kx E R G nL cells slots ws lv (pc + 1) (.long (x &&& y) :: st)) : kx E R G nL cells slots ws lv (pc) (.long y :: .long x :: st) := by
  obtain ⟨p, e, s, m, args, below, meth, c, A, Q⟩ := G
  obtain ⟨hx, hb, hml, hown, hts, hK, hA, hN, ham, hNs, hlk⟩ := C
  intro H locs ls hP hD hS hl
  exact lv_land hx hb hd (kk H locs ls hP hD hS hl)
theorem kx_lorR (C : kc E G cc nL own) {x y : Int64} (hd : decode cc pc = .ok (.lor, 1)) (kk : kx E R G nL cells slots ws lv (pc + 1) (.long (x ||| y) :: st)) : kx E R G nL cells slots ws lv (pc) (.long y :: .long x :: st) := by
  obtain ⟨p, e, s, m, args, below, meth, c, A, Q⟩ := G
  obtain ⟨hx, hb, hml, hown, hts, hK, hA, hN, ham, hNs, hlk⟩ := C
  intro H locs ls hP hD hS hl
  exact lv_lor hx hb hd (kk H locs ls hP hD hS hl)
theorem kx_i2l (C : kc E G cc nL own) {x : Int32} {v : Int64} (hd : decode cc pc = .ok (.i2l, 1)) (hv : x.toInt64 = v) (kk : kx E R G nL cells slots ws lv (pc + 1) (.long v :: st)) : kx E R G nL cells slots ws lv (pc) (.int x :: st) := by
  obtain ⟨p, e, s, m, args, below, meth, c, A, Q⟩ := G
  obtain ⟨hx, hb, hml, hown, hts, hK, hA, hN, ham, hNs, hlk⟩ := C
  intro H locs ls hP hD hS hl
  exact lv_i2l hx hb hd hv (kk H locs ls hP hD hS hl)
theorem kx_lshl (C : kc E G cc nL own) {x : Int64} {y : Int32} {v : Int64} (hd : decode cc pc = .ok (.lshl, 1)) (hv : x <<< (y.toInt64 &&& 63) = v) (kk : kx E R G nL cells slots ws lv (pc + 1) (.long v :: st)) : kx E R G nL cells slots ws lv (pc) (.int y :: .long x :: st) := by
  obtain ⟨p, e, s, m, args, below, meth, c, A, Q⟩ := G
  obtain ⟨hx, hb, hml, hown, hts, hK, hA, hN, ham, hNs, hlk⟩ := C
  intro H locs ls hP hD hS hl
  exact lv_lshl hx hb hd hv (kk H locs ls hP hD hS hl)
theorem kx_iadd (C : kc E G cc nL own) {a b : Nat} (hd : decode cc pc = .ok (.iadd, 1)) (kk : kx E R G nL cells slots ws lv (pc + 1) (.int (nI (a + b)) :: st)) : kx E R G nL cells slots ws lv (pc) (.int (nI b) :: .int (nI a) :: st) := by
  obtain ⟨p, e, s, m, args, below, meth, c, A, Q⟩ := G
  obtain ⟨hx, hb, hml, hown, hts, hK, hA, hN, ham, hNs, hlk⟩ := C
  intro H locs ls hP hD hS hl
  refine lv_iadd hx hb hd ?_
  rw [nI_add]
  exact (kk H locs ls hP hD hS hl)
theorem kx_imul (C : kc E G cc nL own) {a b : Nat} (hd : decode cc pc = .ok (.imul, 1)) (kk : kx E R G nL cells slots ws lv (pc + 1) (.int (nI (a * b)) :: st)) : kx E R G nL cells slots ws lv (pc) (.int (nI b) :: .int (nI a) :: st) := by
  obtain ⟨p, e, s, m, args, below, meth, c, A, Q⟩ := G
  obtain ⟨hx, hb, hml, hown, hts, hK, hA, hN, ham, hNs, hlk⟩ := C
  intro H locs ls hP hD hS hl
  refine lv_imul hx hb hd ?_
  rw [pk_mul]
  exact (kk H locs ls hP hD hS hl)
theorem kx_isub (C : kc E G cc nL own) {a b : Nat} (h : b ≤ a) (hd : decode cc pc = .ok (.isub, 1)) (kk : kx E R G nL cells slots ws lv (pc + 1) (.int (nI (a - b)) :: st)) : kx E R G nL cells slots ws lv (pc) (.int (nI b) :: .int (nI a) :: st) := by
  obtain ⟨p, e, s, m, args, below, meth, c, A, Q⟩ := G
  obtain ⟨hx, hb, hml, hown, hts, hK, hA, hN, ham, hNs, hlk⟩ := C
  intro H locs ls hP hD hS hl
  refine lv_isub hx hb hd ?_
  rw [pk_sub h]
  exact (kk H locs ls hP hD hS hl)
theorem kx_idiv (C : kc E G cc nL own) {a b : Nat} (ha : a < 2 ^ 31) (h0 : 0 < b) (hb2 : b < 2 ^ 31) (hd : decode cc pc = .ok (.idiv, 1)) (kk : kx E R G nL cells slots ws lv (pc + 1) (.int (nI (a / b)) :: st)) : kx E R G nL cells slots ws lv (pc) (.int (nI b) :: .int (nI a) :: st) := by
  obtain ⟨p, e, s, m, args, below, meth, c, A, Q⟩ := G
  obtain ⟨hx, hb, hml, hown, hts, hK, hA, hN, ham, hNs, hlk⟩ := C
  intro H locs ls hP hD hS hl
  refine lv_idiv hx hb hd (nI_ne0 h0 hb2) ?_
  rw [pk_div ha h0 hb2]
  exact (kk H locs ls hP hD hS hl)
theorem kx_irem (C : kc E G cc nL own) {a b : Nat} (ha : a < 2 ^ 31) (h0 : 0 < b) (hb2 : b < 2 ^ 31) (hd : decode cc pc = .ok (.irem, 1)) (kk : kx E R G nL cells slots ws lv (pc + 1) (.int (nI (a % b)) :: st)) : kx E R G nL cells slots ws lv (pc) (.int (nI b) :: .int (nI a) :: st) := by
  obtain ⟨p, e, s, m, args, below, meth, c, A, Q⟩ := G
  obtain ⟨hx, hb, hml, hown, hts, hK, hA, hN, ham, hNs, hlk⟩ := C
  intro H locs ls hP hD hS hl
  refine lv_irem hx hb hd (nI_ne0 h0 hb2) ?_
  rw [pk_rem ha h0 hb2]
  exact (kk H locs ls hP hD hS hl)
theorem kx_ladd (C : kc E G cc nL own) {a b : Nat} (hd : decode cc pc = .ok (.ladd, 1)) (kk : kx E R G nL cells slots ws lv (pc + 1) (.long (lN (a + b)) :: st)) : kx E R G nL cells slots ws lv (pc) (.long (lN b) :: .long (lN a) :: st) := by
  obtain ⟨p, e, s, m, args, below, meth, c, A, Q⟩ := G
  obtain ⟨hx, hb, hml, hown, hts, hK, hA, hN, ham, hNs, hlk⟩ := C
  intro H locs ls hP hD hS hl
  refine lv_ladd hx hb hd ?_
  rw [lN_add]
  exact (kk H locs ls hP hD hS hl)
theorem kx_lsub (C : kc E G cc nL own) {a b : Nat} (h : b ≤ a) (hd : decode cc pc = .ok (.lsub, 1)) (kk : kx E R G nL cells slots ws lv (pc + 1) (.long (lN (a - b)) :: st)) : kx E R G nL cells slots ws lv (pc) (.long (lN b) :: .long (lN a) :: st) := by
  obtain ⟨p, e, s, m, args, below, meth, c, A, Q⟩ := G
  obtain ⟨hx, hb, hml, hown, hts, hK, hA, hN, ham, hNs, hlk⟩ := C
  intro H locs ls hP hD hS hl
  refine lv_lsub hx hb hd ?_
  rw [lN_sub h]
  exact (kk H locs ls hP hD hS hl)
theorem kx_icmp_eqR (C : kc E G cc nL own) {x y : Int32} {off : Int} {tgt : Nat} (hd : decode cc pc = .ok (.if_icmp .eq off, 3)) (ht : (pc : Int) + off = (tgt : Int)) (kt : x = y → kx E R G nL cells slots ws lv (tgt) (st)) (kf : ¬ x = y → kx E R G nL cells slots ws lv (pc + 3) (st)) : kx E R G nL cells slots ws lv (pc) (.int y :: .int x :: st) := by
  obtain ⟨p, e, s, m, args, below, meth, c, A, Q⟩ := G
  obtain ⟨hx, hb, hml, hown, hts, hK, hA, hN, ham, hNs, hlk⟩ := C
  intro H locs ls hP hD hS hl
  exact lv_icmp_eq hx hb hd ht (fun h => kt h H locs ls hP hD hS hl) (fun h => kf h H locs ls hP hD hS hl)
theorem kx_if_eqR (C : kc E G cc nL own) {x : Int32} {off : Int} {tgt : Nat} (hd : decode cc pc = .ok (.ifCond .eq off, 3)) (ht : (pc : Int) + off = (tgt : Int)) (kt : x = 0 → kx E R G nL cells slots ws lv (tgt) (st)) (kf : ¬ x = 0 → kx E R G nL cells slots ws lv (pc + 3) (st)) : kx E R G nL cells slots ws lv (pc) (.int x :: st) := by
  obtain ⟨p, e, s, m, args, below, meth, c, A, Q⟩ := G
  obtain ⟨hx, hb, hml, hown, hts, hK, hA, hN, ham, hNs, hlk⟩ := C
  intro H locs ls hP hD hS hl
  exact lv_if_eq hx hb hd ht (fun h => kt h H locs ls hP hD hS hl) (fun h => kf h H locs ls hP hD hS hl)
theorem kx_icmp_eq (C : kc E G cc nL own) {a b : Nat} {off : Int} {tgt : Nat} (ha : a < 2 ^ 31) (hb2 : b < 2 ^ 31) (hd : decode cc pc = .ok (.if_icmp .eq off, 3)) (ht : (pc : Int) + off = (tgt : Int)) (kt : a = b → kx E R G nL cells slots ws lv (tgt) (st)) (kf : a ≠ b → kx E R G nL cells slots ws lv (pc + 3) (st)) : kx E R G nL cells slots ws lv (pc) (.int (nI b) :: .int (nI a) :: st) := by
  obtain ⟨p, e, s, m, args, below, meth, c, A, Q⟩ := G
  obtain ⟨hx, hb, hml, hown, hts, hK, hA, hN, ham, hNs, hlk⟩ := C
  intro H locs ls hP hD hS hl
  exact lv_icmp_eq hx hb hd ht (fun h => kt ((nI_eq ha hb2).mp h) H locs ls hP hD hS hl) (fun h => kf (fun z => h ((nI_eq ha hb2).mpr z)) H locs ls hP hD hS hl)
theorem kx_icmp_neR (C : kc E G cc nL own) {x y : Int32} {off : Int} {tgt : Nat} (hd : decode cc pc = .ok (.if_icmp .ne off, 3)) (ht : (pc : Int) + off = (tgt : Int)) (kt : ¬ x = y → kx E R G nL cells slots ws lv (tgt) (st)) (kf : x = y → kx E R G nL cells slots ws lv (pc + 3) (st)) : kx E R G nL cells slots ws lv (pc) (.int y :: .int x :: st) := by
  obtain ⟨p, e, s, m, args, below, meth, c, A, Q⟩ := G
  obtain ⟨hx, hb, hml, hown, hts, hK, hA, hN, ham, hNs, hlk⟩ := C
  intro H locs ls hP hD hS hl
  exact lv_icmp_ne hx hb hd ht (fun h => kt h H locs ls hP hD hS hl) (fun h => kf h H locs ls hP hD hS hl)
theorem kx_if_neR (C : kc E G cc nL own) {x : Int32} {off : Int} {tgt : Nat} (hd : decode cc pc = .ok (.ifCond .ne off, 3)) (ht : (pc : Int) + off = (tgt : Int)) (kt : ¬ x = 0 → kx E R G nL cells slots ws lv (tgt) (st)) (kf : x = 0 → kx E R G nL cells slots ws lv (pc + 3) (st)) : kx E R G nL cells slots ws lv (pc) (.int x :: st) := by
  obtain ⟨p, e, s, m, args, below, meth, c, A, Q⟩ := G
  obtain ⟨hx, hb, hml, hown, hts, hK, hA, hN, ham, hNs, hlk⟩ := C
  intro H locs ls hP hD hS hl
  exact lv_if_ne hx hb hd ht (fun h => kt h H locs ls hP hD hS hl) (fun h => kf h H locs ls hP hD hS hl)
theorem kx_icmp_ne (C : kc E G cc nL own) {a b : Nat} {off : Int} {tgt : Nat} (ha : a < 2 ^ 31) (hb2 : b < 2 ^ 31) (hd : decode cc pc = .ok (.if_icmp .ne off, 3)) (ht : (pc : Int) + off = (tgt : Int)) (kt : a ≠ b → kx E R G nL cells slots ws lv (tgt) (st)) (kf : a = b → kx E R G nL cells slots ws lv (pc + 3) (st)) : kx E R G nL cells slots ws lv (pc) (.int (nI b) :: .int (nI a) :: st) := by
  obtain ⟨p, e, s, m, args, below, meth, c, A, Q⟩ := G
  obtain ⟨hx, hb, hml, hown, hts, hK, hA, hN, ham, hNs, hlk⟩ := C
  intro H locs ls hP hD hS hl
  exact lv_icmp_ne hx hb hd ht (fun h => kt (fun z => h ((nI_eq ha hb2).mpr z)) H locs ls hP hD hS hl) (fun h => kf ((nI_eq ha hb2).mp h) H locs ls hP hD hS hl)
theorem kx_icmp_ltR (C : kc E G cc nL own) {x y : Int32} {off : Int} {tgt : Nat} (hd : decode cc pc = .ok (.if_icmp .lt off, 3)) (ht : (pc : Int) + off = (tgt : Int)) (kt : x < y → kx E R G nL cells slots ws lv (tgt) (st)) (kf : ¬ x < y → kx E R G nL cells slots ws lv (pc + 3) (st)) : kx E R G nL cells slots ws lv (pc) (.int y :: .int x :: st) := by
  obtain ⟨p, e, s, m, args, below, meth, c, A, Q⟩ := G
  obtain ⟨hx, hb, hml, hown, hts, hK, hA, hN, ham, hNs, hlk⟩ := C
  intro H locs ls hP hD hS hl
  exact lv_icmp_lt hx hb hd ht (fun h => kt h H locs ls hP hD hS hl) (fun h => kf h H locs ls hP hD hS hl)
theorem kx_if_ltR (C : kc E G cc nL own) {x : Int32} {off : Int} {tgt : Nat} (hd : decode cc pc = .ok (.ifCond .lt off, 3)) (ht : (pc : Int) + off = (tgt : Int)) (kt : x < 0 → kx E R G nL cells slots ws lv (tgt) (st)) (kf : ¬ x < 0 → kx E R G nL cells slots ws lv (pc + 3) (st)) : kx E R G nL cells slots ws lv (pc) (.int x :: st) := by
  obtain ⟨p, e, s, m, args, below, meth, c, A, Q⟩ := G
  obtain ⟨hx, hb, hml, hown, hts, hK, hA, hN, ham, hNs, hlk⟩ := C
  intro H locs ls hP hD hS hl
  exact lv_if_lt hx hb hd ht (fun h => kt h H locs ls hP hD hS hl) (fun h => kf h H locs ls hP hD hS hl)
theorem kx_icmp_lt (C : kc E G cc nL own) {a b : Nat} {off : Int} {tgt : Nat} (ha : a < 2 ^ 31) (hb2 : b < 2 ^ 31) (hd : decode cc pc = .ok (.if_icmp .lt off, 3)) (ht : (pc : Int) + off = (tgt : Int)) (kt : a < b → kx E R G nL cells slots ws lv (tgt) (st)) (kf : b ≤ a → kx E R G nL cells slots ws lv (pc + 3) (st)) : kx E R G nL cells slots ws lv (pc) (.int (nI b) :: .int (nI a) :: st) := by
  obtain ⟨p, e, s, m, args, below, meth, c, A, Q⟩ := G
  obtain ⟨hx, hb, hml, hown, hts, hK, hA, hN, ham, hNs, hlk⟩ := C
  intro H locs ls hP hD hS hl
  exact lv_icmp_lt hx hb hd ht (fun h => kt ((nI_ltI ha hb2).mp h) H locs ls hP hD hS hl) (fun h => kf (Nat.not_lt.mp fun z => h ((nI_ltI ha hb2).mpr z)) H locs ls hP hD hS hl)
theorem kx_icmp_geR (C : kc E G cc nL own) {x y : Int32} {off : Int} {tgt : Nat} (hd : decode cc pc = .ok (.if_icmp .ge off, 3)) (ht : (pc : Int) + off = (tgt : Int)) (kt : y ≤ x → kx E R G nL cells slots ws lv (tgt) (st)) (kf : ¬ y ≤ x → kx E R G nL cells slots ws lv (pc + 3) (st)) : kx E R G nL cells slots ws lv (pc) (.int y :: .int x :: st) := by
  obtain ⟨p, e, s, m, args, below, meth, c, A, Q⟩ := G
  obtain ⟨hx, hb, hml, hown, hts, hK, hA, hN, ham, hNs, hlk⟩ := C
  intro H locs ls hP hD hS hl
  exact lv_icmp_ge hx hb hd ht (fun h => kt h H locs ls hP hD hS hl) (fun h => kf h H locs ls hP hD hS hl)
theorem kx_if_geR (C : kc E G cc nL own) {x : Int32} {off : Int} {tgt : Nat} (hd : decode cc pc = .ok (.ifCond .ge off, 3)) (ht : (pc : Int) + off = (tgt : Int)) (kt : 0 ≤ x → kx E R G nL cells slots ws lv (tgt) (st)) (kf : ¬ 0 ≤ x → kx E R G nL cells slots ws lv (pc + 3) (st)) : kx E R G nL cells slots ws lv (pc) (.int x :: st) := by
  obtain ⟨p, e, s, m, args, below, meth, c, A, Q⟩ := G
  obtain ⟨hx, hb, hml, hown, hts, hK, hA, hN, ham, hNs, hlk⟩ := C
  intro H locs ls hP hD hS hl
  exact lv_if_ge hx hb hd ht (fun h => kt h H locs ls hP hD hS hl) (fun h => kf h H locs ls hP hD hS hl)
theorem kx_icmp_ge (C : kc E G cc nL own) {a b : Nat} {off : Int} {tgt : Nat} (ha : a < 2 ^ 31) (hb2 : b < 2 ^ 31) (hd : decode cc pc = .ok (.if_icmp .ge off, 3)) (ht : (pc : Int) + off = (tgt : Int)) (kt : b ≤ a → kx E R G nL cells slots ws lv (tgt) (st)) (kf : a < b → kx E R G nL cells slots ws lv (pc + 3) (st)) : kx E R G nL cells slots ws lv (pc) (.int (nI b) :: .int (nI a) :: st) := by
  obtain ⟨p, e, s, m, args, below, meth, c, A, Q⟩ := G
  obtain ⟨hx, hb, hml, hown, hts, hK, hA, hN, ham, hNs, hlk⟩ := C
  intro H locs ls hP hD hS hl
  exact lv_icmp_ge hx hb hd ht (fun h => kt ((nI_leI hb2 ha).mp h) H locs ls hP hD hS hl) (fun h => kf (Nat.not_le.mp fun z => h ((nI_leI hb2 ha).mpr z)) H locs ls hP hD hS hl)
theorem kx_icmp_gtR (C : kc E G cc nL own) {x y : Int32} {off : Int} {tgt : Nat} (hd : decode cc pc = .ok (.if_icmp .gt off, 3)) (ht : (pc : Int) + off = (tgt : Int)) (kt : y < x → kx E R G nL cells slots ws lv (tgt) (st)) (kf : ¬ y < x → kx E R G nL cells slots ws lv (pc + 3) (st)) : kx E R G nL cells slots ws lv (pc) (.int y :: .int x :: st) := by
  obtain ⟨p, e, s, m, args, below, meth, c, A, Q⟩ := G
  obtain ⟨hx, hb, hml, hown, hts, hK, hA, hN, ham, hNs, hlk⟩ := C
  intro H locs ls hP hD hS hl
  exact lv_icmp_gt hx hb hd ht (fun h => kt h H locs ls hP hD hS hl) (fun h => kf h H locs ls hP hD hS hl)
theorem kx_if_gtR (C : kc E G cc nL own) {x : Int32} {off : Int} {tgt : Nat} (hd : decode cc pc = .ok (.ifCond .gt off, 3)) (ht : (pc : Int) + off = (tgt : Int)) (kt : 0 < x → kx E R G nL cells slots ws lv (tgt) (st)) (kf : ¬ 0 < x → kx E R G nL cells slots ws lv (pc + 3) (st)) : kx E R G nL cells slots ws lv (pc) (.int x :: st) := by
  obtain ⟨p, e, s, m, args, below, meth, c, A, Q⟩ := G
  obtain ⟨hx, hb, hml, hown, hts, hK, hA, hN, ham, hNs, hlk⟩ := C
  intro H locs ls hP hD hS hl
  exact lv_if_gt hx hb hd ht (fun h => kt h H locs ls hP hD hS hl) (fun h => kf h H locs ls hP hD hS hl)
theorem kx_icmp_gt (C : kc E G cc nL own) {a b : Nat} {off : Int} {tgt : Nat} (ha : a < 2 ^ 31) (hb2 : b < 2 ^ 31) (hd : decode cc pc = .ok (.if_icmp .gt off, 3)) (ht : (pc : Int) + off = (tgt : Int)) (kt : b < a → kx E R G nL cells slots ws lv (tgt) (st)) (kf : a ≤ b → kx E R G nL cells slots ws lv (pc + 3) (st)) : kx E R G nL cells slots ws lv (pc) (.int (nI b) :: .int (nI a) :: st) := by
  obtain ⟨p, e, s, m, args, below, meth, c, A, Q⟩ := G
  obtain ⟨hx, hb, hml, hown, hts, hK, hA, hN, ham, hNs, hlk⟩ := C
  intro H locs ls hP hD hS hl
  exact lv_icmp_gt hx hb hd ht (fun h => kt ((nI_ltI hb2 ha).mp h) H locs ls hP hD hS hl) (fun h => kf (Nat.not_lt.mp fun z => h ((nI_ltI hb2 ha).mpr z)) H locs ls hP hD hS hl)
theorem kx_icmp_leR (C : kc E G cc nL own) {x y : Int32} {off : Int} {tgt : Nat} (hd : decode cc pc = .ok (.if_icmp .le off, 3)) (ht : (pc : Int) + off = (tgt : Int)) (kt : x ≤ y → kx E R G nL cells slots ws lv (tgt) (st)) (kf : ¬ x ≤ y → kx E R G nL cells slots ws lv (pc + 3) (st)) : kx E R G nL cells slots ws lv (pc) (.int y :: .int x :: st) := by
  obtain ⟨p, e, s, m, args, below, meth, c, A, Q⟩ := G
  obtain ⟨hx, hb, hml, hown, hts, hK, hA, hN, ham, hNs, hlk⟩ := C
  intro H locs ls hP hD hS hl
  exact lv_icmp_le hx hb hd ht (fun h => kt h H locs ls hP hD hS hl) (fun h => kf h H locs ls hP hD hS hl)
theorem kx_if_leR (C : kc E G cc nL own) {x : Int32} {off : Int} {tgt : Nat} (hd : decode cc pc = .ok (.ifCond .le off, 3)) (ht : (pc : Int) + off = (tgt : Int)) (kt : x ≤ 0 → kx E R G nL cells slots ws lv (tgt) (st)) (kf : ¬ x ≤ 0 → kx E R G nL cells slots ws lv (pc + 3) (st)) : kx E R G nL cells slots ws lv (pc) (.int x :: st) := by
  obtain ⟨p, e, s, m, args, below, meth, c, A, Q⟩ := G
  obtain ⟨hx, hb, hml, hown, hts, hK, hA, hN, ham, hNs, hlk⟩ := C
  intro H locs ls hP hD hS hl
  exact lv_if_le hx hb hd ht (fun h => kt h H locs ls hP hD hS hl) (fun h => kf h H locs ls hP hD hS hl)
theorem kx_icmp_le (C : kc E G cc nL own) {a b : Nat} {off : Int} {tgt : Nat} (ha : a < 2 ^ 31) (hb2 : b < 2 ^ 31) (hd : decode cc pc = .ok (.if_icmp .le off, 3)) (ht : (pc : Int) + off = (tgt : Int)) (kt : a ≤ b → kx E R G nL cells slots ws lv (tgt) (st)) (kf : b < a → kx E R G nL cells slots ws lv (pc + 3) (st)) : kx E R G nL cells slots ws lv (pc) (.int (nI b) :: .int (nI a) :: st) := by
  obtain ⟨p, e, s, m, args, below, meth, c, A, Q⟩ := G
  obtain ⟨hx, hb, hml, hown, hts, hK, hA, hN, ham, hNs, hlk⟩ := C
  intro H locs ls hP hD hS hl
  exact lv_icmp_le hx hb hd ht (fun h => kt ((nI_leI ha hb2).mp h) H locs ls hP hD hS hl) (fun h => kf (Nat.not_le.mp fun z => h ((nI_leI ha hb2).mpr z)) H locs ls hP hD hS hl)
end KR
theorem k_nI0 {a : Nat} (ha : a < 2 ^ 31) : nI a = 0 ↔ a = 0 := by
  rw [← nI_0]
  exact nI_eq ha (by decide)
theorem k_nIp {a : Nat} (ha : a < 2 ^ 31) : 0 < nI a ↔ 0 < a := by
  rw [← nI_0]
  exact nI_ltI (by decide) ha
theorem k_nIl {a : Nat} (ha : a < 2 ^ 31) : nI a ≤ 0 ↔ a = 0 := by
  rw [← nI_0]
  rw [nI_leI ha (by decide)]
  omega
section KR2
variable {E : KE} {R : Room} {G : KG} {cc : ByteArray} {nL : Nat} {own : String} {cells slots : Nat} {ws : va_W} {lv : List (Nat × Value)} {pc : Nat} {st : List Value}
theorem kx_if_eq (C : kc E G cc nL own) {a : Nat} {off : Int} {tgt : Nat} (ha : a < 2 ^ 31) (hd : decode cc pc = .ok (.ifCond .eq off, 3)) (ht : (pc : Int) + off = (tgt : Int)) (kt : a = 0 → kx E R G nL cells slots ws lv (tgt) (st)) (kf : a ≠ 0 → kx E R G nL cells slots ws lv (pc + 3) (st)) : kx E R G nL cells slots ws lv (pc) (.int (nI a) :: st) := by
  obtain ⟨p, e, s, m, args, below, meth, c, A, Q⟩ := G
  obtain ⟨hx, hb, hml, hown, hts, hK, hA, hN, ham, hNs, hlk⟩ := C
  intro H locs ls hP hD hS hl
  exact lv_if_eq hx hb hd ht (fun h => kt ((k_nI0 ha).mp h) H locs ls hP hD hS hl) (fun h => kf (fun z => h ((k_nI0 ha).mpr z)) H locs ls hP hD hS hl)
theorem kx_if_ne (C : kc E G cc nL own) {a : Nat} {off : Int} {tgt : Nat} (ha : a < 2 ^ 31) (hd : decode cc pc = .ok (.ifCond .ne off, 3)) (ht : (pc : Int) + off = (tgt : Int)) (kt : a ≠ 0 → kx E R G nL cells slots ws lv (tgt) (st)) (kf : a = 0 → kx E R G nL cells slots ws lv (pc + 3) (st)) : kx E R G nL cells slots ws lv (pc) (.int (nI a) :: st) := by
  obtain ⟨p, e, s, m, args, below, meth, c, A, Q⟩ := G
  obtain ⟨hx, hb, hml, hown, hts, hK, hA, hN, ham, hNs, hlk⟩ := C
  intro H locs ls hP hD hS hl
  exact lv_if_ne hx hb hd ht (fun h => kt (fun z => h ((k_nI0 ha).mpr z)) H locs ls hP hD hS hl) (fun h => kf ((k_nI0 ha).mp h) H locs ls hP hD hS hl)
theorem kx_if_gt (C : kc E G cc nL own) {a : Nat} {off : Int} {tgt : Nat} (ha : a < 2 ^ 31) (hd : decode cc pc = .ok (.ifCond .gt off, 3)) (ht : (pc : Int) + off = (tgt : Int)) (kt : 0 < a → kx E R G nL cells slots ws lv (tgt) (st)) (kf : a = 0 → kx E R G nL cells slots ws lv (pc + 3) (st)) : kx E R G nL cells slots ws lv (pc) (.int (nI a) :: st) := by
  obtain ⟨p, e, s, m, args, below, meth, c, A, Q⟩ := G
  obtain ⟨hx, hb, hml, hown, hts, hK, hA, hN, ham, hNs, hlk⟩ := C
  intro H locs ls hP hD hS hl
  exact lv_if_gt hx hb hd ht (fun h => kt ((k_nIp ha).mp h) H locs ls hP hD hS hl) (fun h => kf (Nat.eq_zero_of_not_pos fun z => h ((k_nIp ha).mpr z)) H locs ls hP hD hS hl)
theorem kx_if_le (C : kc E G cc nL own) {a : Nat} {off : Int} {tgt : Nat} (ha : a < 2 ^ 31) (hd : decode cc pc = .ok (.ifCond .le off, 3)) (ht : (pc : Int) + off = (tgt : Int)) (kt : a = 0 → kx E R G nL cells slots ws lv (tgt) (st)) (kf : 0 < a → kx E R G nL cells slots ws lv (pc + 3) (st)) : kx E R G nL cells slots ws lv (pc) (.int (nI a) :: st) := by
  obtain ⟨p, e, s, m, args, below, meth, c, A, Q⟩ := G
  obtain ⟨hx, hb, hml, hown, hts, hK, hA, hN, ham, hNs, hlk⟩ := C
  intro H locs ls hP hD hS hl
  exact lv_if_le hx hb hd ht (fun h => kt ((k_nIl ha).mp h) H locs ls hP hD hS hl) (fun h => kf (Nat.pos_of_ne_zero fun z => h ((k_nIl ha).mpr z)) H locs ls hP hD hS hl)
theorem kx_lcmp_ltR (C : kc E G cc nL own) {x y : Int64} {off : Int} {tgt : Nat} (hd : decode cc pc = .ok (.lcmp, 1)) (hd2 : decode cc (pc + 1) = .ok (.ifCond .lt off, 3)) (ht : ((pc + 1 : Nat) : Int) + off = (tgt : Int)) (kt : x < y → kx E R G nL cells slots ws lv (tgt) (st)) (kf : ¬ x < y → kx E R G nL cells slots ws lv (pc + 1 + 3) (st)) : kx E R G nL cells slots ws lv (pc) (.long y :: .long x :: st) := by
  obtain ⟨p, e, s, m, args, below, meth, c, A, Q⟩ := G
  obtain ⟨hx, hb, hml, hown, hts, hK, hA, hN, ham, hNs, hlk⟩ := C
  intro H locs ls hP hD hS hl
  refine W.lcmp hx hb hd ?_
  exact lv_if_lt hx hb hd2 ht (fun h => kt ((lg_cmp_lt x y).mp h) H locs ls hP hD hS hl) (fun h => kf (fun z => h ((lg_cmp_lt x y).mpr z)) H locs ls hP hD hS hl)
theorem kx_lcmp_lt (C : kc E G cc nL own) {a b : Nat} {off : Int} {tgt : Nat} (ha : a < 2 ^ 63) (hb2 : b < 2 ^ 63) (hd : decode cc pc = .ok (.lcmp, 1)) (hd2 : decode cc (pc + 1) = .ok (.ifCond .lt off, 3)) (ht : ((pc + 1 : Nat) : Int) + off = (tgt : Int)) (kt : a < b → kx E R G nL cells slots ws lv (tgt) (st)) (kf : b ≤ a → kx E R G nL cells slots ws lv (pc + 1 + 3) (st)) : kx E R G nL cells slots ws lv (pc) (.long (lN b) :: .long (lN a) :: st) := by
  obtain ⟨p, e, s, m, args, below, meth, c, A, Q⟩ := G
  obtain ⟨hx, hb, hml, hown, hts, hK, hA, hN, ham, hNs, hlk⟩ := C
  intro H locs ls hP hD hS hl
  refine W.lcmp hx hb hd ?_
  exact lv_if_lt hx hb hd2 ht (fun h => kt ((pk_lLT ha hb2).mp ((lg_cmp_lt _ _).mp h)) H locs ls hP hD hS hl) (fun h => kf (Nat.not_lt.mp fun z => h ((lg_cmp_lt _ _).mpr ((pk_lLT ha hb2).mpr z))) H locs ls hP hD hS hl)
theorem kx_lcmp_geR (C : kc E G cc nL own) {x y : Int64} {off : Int} {tgt : Nat} (hd : decode cc pc = .ok (.lcmp, 1)) (hd2 : decode cc (pc + 1) = .ok (.ifCond .ge off, 3)) (ht : ((pc + 1 : Nat) : Int) + off = (tgt : Int)) (kt : y ≤ x → kx E R G nL cells slots ws lv (tgt) (st)) (kf : ¬ y ≤ x → kx E R G nL cells slots ws lv (pc + 1 + 3) (st)) : kx E R G nL cells slots ws lv (pc) (.long y :: .long x :: st) := by
  obtain ⟨p, e, s, m, args, below, meth, c, A, Q⟩ := G
  obtain ⟨hx, hb, hml, hown, hts, hK, hA, hN, ham, hNs, hlk⟩ := C
  intro H locs ls hP hD hS hl
  refine W.lcmp hx hb hd ?_
  exact lv_if_ge hx hb hd2 ht (fun h => kt ((lg_cmp_ge x y).mp h) H locs ls hP hD hS hl) (fun h => kf (fun z => h ((lg_cmp_ge x y).mpr z)) H locs ls hP hD hS hl)
theorem kx_lcmp_ge (C : kc E G cc nL own) {a b : Nat} {off : Int} {tgt : Nat} (ha : a < 2 ^ 63) (hb2 : b < 2 ^ 63) (hd : decode cc pc = .ok (.lcmp, 1)) (hd2 : decode cc (pc + 1) = .ok (.ifCond .ge off, 3)) (ht : ((pc + 1 : Nat) : Int) + off = (tgt : Int)) (kt : b ≤ a → kx E R G nL cells slots ws lv (tgt) (st)) (kf : a < b → kx E R G nL cells slots ws lv (pc + 1 + 3) (st)) : kx E R G nL cells slots ws lv (pc) (.long (lN b) :: .long (lN a) :: st) := by
  obtain ⟨p, e, s, m, args, below, meth, c, A, Q⟩ := G
  obtain ⟨hx, hb, hml, hown, hts, hK, hA, hN, ham, hNs, hlk⟩ := C
  intro H locs ls hP hD hS hl
  refine W.lcmp hx hb hd ?_
  exact lv_if_ge hx hb hd2 ht (fun h => kt ((pk_lLE hb2 ha).mp ((lg_cmp_ge _ _).mp h)) H locs ls hP hD hS hl) (fun h => kf (Nat.not_le.mp fun z => h ((lg_cmp_ge _ _).mpr ((pk_lLE hb2 ha).mpr z))) H locs ls hP hD hS hl)
end KR2
def nF (P : Nat → Nat) : Nat → Int32 := fun j => nI (P j)
def lF (P : Nat → Nat) : Nat → Int64 := fun j => lN (P j)
theorem nF_up (P : Nat → Nat) (j v : Nat) : upd (nF P) j (nI v) = nF (va_up P j v) := by
  funext q
  by_cases h : q = j
  · simp [upd, nF, va_up, h]
  · simp [upd, nF, va_up, h]
theorem lF_up (P : Nat → Nat) (j v : Nat) : vp_updL (lF P) j (lN v) = lF (va_up P j v) := by
  funext q
  by_cases h : q = j
  · simp [vp_updL, lF, va_up, h]
  · simp [vp_updL, lF, va_up, h]
section KR3
variable {E : KE} {R : Room} {G : KG} {cc : ByteArray} {nL : Nat} {own : String} {cells slots : Nat} {ws : va_W} {lv : List (Nat × Value)} {pc : Nat} {st : List Value}
theorem kx_iald (C : kc E G cc nL own) (q0 : Nat) {a n : Nat} {P : Nat → Nat} (hw : ws[q0]? = some (a, .inl (kI E, n, .inl (nF P)))) {j : Nat} (hj : j < n) (hn : n < 2 ^ 31) (hd : decode cc pc = .ok (.iaload, 1)) (kk : kx E R G nL cells slots ws lv (pc + 1) (.int (nI (P j)) :: st)) : kx E R G nL cells slots ws lv (pc) (.int (nI j) :: .ref a :: st) := by
  obtain ⟨p, e, s, m, args, below, meth, c, A, Q⟩ := G
  obtain ⟨hx, hb, hml, hown, hts, hK, hA, hN, ham, hNs, hlk⟩ := C
  intro H locs ls hP hD hS hl
  refine va_iald hx hb hK hP q0 0 hw rfl (vp_in_nI hj hn) hd ?_
  rw [nI_clamp (Nat.lt_trans hj hn)]
  exact kk H locs ls hP hD hS hl
theorem kx_iast (C : kc E G cc nL own) (q0 : Nat) {a n : Nat} {P : Nat → Nat} (hw : ws[q0]? = some (a, .inl (kI E, n, .inl (nF P)))) {j v : Nat} (hj : j < n) (hn : n < 2 ^ 31) {ws2 : va_W} (h2 : ws.set q0 (a, .inl (kI E, n, .inl (nF (va_up P j v)))) = ws2) (hd : decode cc pc = .ok (.iastore, 1)) (kk : kx E R G nL cells slots ws2 lv (pc + 1) (st)) : kx E R G nL cells slots ws lv (pc) (.int (nI v) :: .int (nI j) :: .ref a :: st) := by
  obtain ⟨p, e, s, m, args, below, meth, c, A, Q⟩ := G
  obtain ⟨hx, hb, hml, hown, hts, hK, hA, hN, ham, hNs, hlk⟩ := C
  intro H locs ls hP hD hS hl
  refine va_iast hx hb hK hP hD hS q0 0 hw rfl (vp_in_nI hj hn) hd ?_
  rw [nI_clamp (Nat.lt_trans hj hn), nF_up, h2]
  exact fun H1 locs1 hP1 hD1 hS1 => kk H1 locs1 ls hP1 hD1 hS1 hl
theorem kx_lald (C : kc E G cc nL own) (q0 : Nat) {a n : Nat} {P : Nat → Nat} (hw : ws[q0]? = some (a, .inl (kL E, n, .inr (.inl (lF P))))) {j : Nat} (hj : j < n) (hn : n < 2 ^ 31) (hd : decode cc pc = .ok (.laload, 1)) (kk : kx E R G nL cells slots ws lv (pc + 1) (.long (lN (P j)) :: st)) : kx E R G nL cells slots ws lv (pc) (.int (nI j) :: .ref a :: st) := by
  obtain ⟨p, e, s, m, args, below, meth, c, A, Q⟩ := G
  obtain ⟨hx, hb, hml, hown, hts, hK, hA, hN, ham, hNs, hlk⟩ := C
  intro H locs ls hP hD hS hl
  refine va_lald hx hb hK hP q0 1 hw rfl (vp_in_nI hj hn) hd ?_
  rw [nI_clamp (Nat.lt_trans hj hn)]
  exact kk H locs ls hP hD hS hl
theorem kx_last (C : kc E G cc nL own) (q0 : Nat) {a n : Nat} {P : Nat → Nat} (hw : ws[q0]? = some (a, .inl (kL E, n, .inr (.inl (lF P))))) {j v : Nat} (hj : j < n) (hn : n < 2 ^ 31) {ws2 : va_W} (h2 : ws.set q0 (a, .inl (kL E, n, .inr (.inl (lF (va_up P j v))))) = ws2) (hd : decode cc pc = .ok (.lastore, 1)) (kk : kx E R G nL cells slots ws2 lv (pc + 1) (st)) : kx E R G nL cells slots ws lv (pc) (.long (lN v) :: .int (nI j) :: .ref a :: st) := by
  obtain ⟨p, e, s, m, args, below, meth, c, A, Q⟩ := G
  obtain ⟨hx, hb, hml, hown, hts, hK, hA, hN, ham, hNs, hlk⟩ := C
  intro H locs ls hP hD hS hl
  refine va_last hx hb hK hP hD hS q0 1 hw rfl (vp_in_nI hj hn) hd ?_
  rw [nI_clamp (Nat.lt_trans hj hn), lF_up, h2]
  exact fun H1 locs1 hP1 hD1 hS1 => kk H1 locs1 ls hP1 hD1 hS1 hl
theorem kx_get (C : kc E G cc nL own) {ref : String} {T : u_T} {N ci index a : Nat} {Cn : String} (hin : ∀ w ∈ u_ws Cn T N, w ∈ kTb) (q0 : Nat) {fs : List Value} (he : ws[q0]? = some (a, .inr (ci, fs))) (hc : kCl[ci]? = some (Cn, T, N)) (k : Nat) (hk : k < N) (hlink : Cond.fieldLink own index ref (T k).2.1 (T k).2.2.1 ∈ kTb) (href : (T k).1 = ref) {v : Value} (hv : fs[k]? = some v) (hd : decode cc pc = .ok (.getfield index, 3)) (kk : kx E R G nL cells slots ws lv (pc + 3) (v :: st)) : kx E R G nL cells slots ws lv (pc) (.ref a :: st) := by
  obtain ⟨p, e, s, m, args, below, meth, c, A, Q⟩ := G
  obtain ⟨hx, hb, hml, hown, hts, hK, hA, hN, ham, hNs, hlk⟩ := C
  intro H locs ls hP hD hS hl
  subst href
  exact va_get hx hb hts hin hown hK hP q0 he hc k hk (hts _ hlink) (fun _ h9 => h9) hv hd (kk H locs ls hP hD hS hl)
theorem kx_put (C : kc E G cc nL own) {ref : String} {T : u_T} {N ci index a : Nat} {Cn : String} (hin : ∀ w ∈ u_ws Cn T N, w ∈ kTb) {ty0 : Nat → FieldType} (hty : ∀ k, k < N → parseFieldDescriptor (T k).2.2.1 = some (ty0 k)) (hnm : ∀ a, a < N → ∀ b, b < N → a ≠ b → (T a).2.1 ≠ (T b).2.1) (q0 : Nat) {fs : List Value} (he : ws[q0]? = some (a, .inr (ci, fs))) (hc : kCl[ci]? = some (Cn, T, N)) (k : Nat) (hk : k < N) (hlink : Cond.fieldLink own index ref (T k).2.1 (T k).2.2.1 ∈ kTb) (href : (T k).1 = ref) (hfin : (T k).2.2.2 = false) {v : Value} (hn : narrow (ty0 k) v = v) (hfit : fits (ty0 k) v = true) (hl2 : k < fs.length) {ws2 : va_W} (h2 : ws.set q0 (a, .inr (ci, fs.set k v)) = ws2) (hd : decode cc pc = .ok (.putfield index, 3)) (kk : kx E R G nL cells slots ws2 lv (pc + 3) (st)) : kx E R G nL cells slots ws lv (pc) (v :: .ref a :: st) := by
  obtain ⟨p, e, s, m, args, below, meth, c, A, Q⟩ := G
  obtain ⟨hx, hb, hml, hown, hts, hK, hA, hN, ham, hNs, hlk⟩ := C
  intro H locs ls hP hD hS hl
  subst href
  subst h2
  exact va_put hx hb hts hin ty0 hty hnm hown hK hP hD hS q0 he hc k hk (hts _ hlink) (fun _ h9 => h9) hfin (hty k hk) hn hfit hl2 hd (fun H1 locs1 hP1 hD1 hS1 => kk H1 locs1 ls hP1 hD1 hS1 hl)
end KR3
theorem k_set_self {α : Type} {l : List α} {k : Nat} {x : α} (h : l[k]? = some x) : l.set k x = l := by
  apply List.ext_getElem?
  intro j
  rw [List.getElem?_set]
  by_cases e : k = j
  · subst e
    rw [if_pos rfl, h]
    have := (List.getElem?_eq_some_iff.mp h).1
    simp [this]
  · rw [if_neg e]
section KR5
variable {E : KE} {R : Room} {G : KG} {cc : ByteArray} {nL : Nat} {own : String} {cells slots : Nat} {ws : va_W} {lv : List (Nat × Value)} {pc : Nat} {st : List Value}
theorem kx_topn {a b : Nat} (h : a = b) (kk : kx E R G nL cells slots ws lv (pc) (.int (nI b) :: st)) : kx E R G nL cells slots ws lv (pc) (.int (nI a) :: st) := h ▸ kk
theorem kx_topL {a b : Nat} (h : a = b) (kk : kx E R G nL cells slots ws lv (pc) (.long (lN b) :: st)) : kx E R G nL cells slots ws lv (pc) (.long (lN a) :: st) := h ▸ kk
theorem kx_topi {a b : Int32} (h : a = b) (kk : kx E R G nL cells slots ws lv (pc) (.int b :: st)) : kx E R G nL cells slots ws lv (pc) (.int a :: st) := h ▸ kk
theorem kx_lvv {i : Nat} {x z : Value} {lv2 : List (Nat × Value)} (h : x = z) (k : Nat) (hk : lv[k]? = some (i, x)) (h2 : lv.set k (i, z) = lv2) (kk : kx E R G nL cells slots ws lv2 (pc) (st)) : kx E R G nL cells slots ws lv (pc) (st) := by
  subst h
  rw [k_set_self hk] at h2
  exact h2 ▸ kk
theorem kx_lvn {i a b : Nat} {lv2 : List (Nat × Value)} (h : a = b) (k : Nat) (hk : lv[k]? = some (i, .int (nI a))) (h2 : lv.set k (i, .int (nI b)) = lv2) (kk : kx E R G nL cells slots ws lv2 (pc) (st)) : kx E R G nL cells slots ws lv (pc) (st) := kx_lvv (by rw [h]) k hk h2 kk
theorem kx_lvL {i a b : Nat} {lv2 : List (Nat × Value)} (h : a = b) (k : Nat) (hk : lv[k]? = some (i, .long (lN a))) (h2 : lv.set k (i, .long (lN b)) = lv2) (kk : kx E R G nL cells slots ws lv2 (pc) (st)) : kx E R G nL cells slots ws lv (pc) (st) := kx_lvv (by rw [h]) k hk h2 kk
end KR5
end
section
/-- room: d frames below, c throws -/
def rk (d c : Nat) : Room := { frames := d, cells := c, slots := 6 * c, locals := 36 * d }
/-! contracts over worlds: what a method answers, and the world behind it -/
def kPre (E : KE) (wc : va_W) (sz : Nat) (U : State) : Prop := U.heap.size = sz ∧ kN E ≤ sz ∧ amb (kN E) U U.heap ∧ va_P E.2.1 kCl wc U.heap ∧ va_K E.2.1 kCl (kT E) U ∧ va_D (fun q : Nat => kN E ≤ q) wc
def kB (E : KE) (A : Nat → Prop) (w : va_W) (t : State) : Prop := va_P E.2.1 kCl w t.heap ∧ va_D A w
def kBX (E : KE) (A : Nat → Prop) (px : String → va_W → Prop) (n : String) (w : va_W) (t : State) : Prop := px n w ∧ kB E A w t
theorem kPre_blind (E : KE) (av : List Value) (wc : va_W) (sz : Nat) : FrameBlind (va_Pc av (kPre E wc sz)) := by
  intro a U g mk q
  obtain ⟨q0, q1, q2, q3, q4, q5, q6⟩ := q
  exact ⟨q0, q1, q2, amb_same (u := U) (U := U.calling g mk a) rfl q3, q4, va_K.moved (u := U) (U := U.calling g mk a) (Vm.Alike.refl U.vm) q5, q6⟩
theorem k_fm {ws wc : va_W} {is : List Nat} (h : is.map (fun i => ws[i]?) = wc.map some) : is.filterMap (fun i => ws[i]?) = wc := by
  have h1 : is.filterMap (fun i => ws[i]?) = (is.map (fun i => ws[i]?)).filterMap id := by rw [List.filterMap_map]; rfl
  rw [h1, h, List.filterMap_map]
  exact List.filterMap_some
/-- q thrown, of the class n, over the frame at pc -/
def kxx (E : KE) (R : Room) (G : KG) (nL cells slots : Nat) (ws : va_W) (n : String) (lv : List (Nat × Value)) (pc : Nat) (st : List Value) : Prop :=
  match G with
  | (p, e, s, m, args, below, meth, c, A, Q) => ∀ (H : Heap) (locs : List Loc) (ls : Array Slot) (q9 : Addr) (ce : Cell), va_P E.2.1 kCl ws H → va_D A ws → va_S A s.heap H locs → lv_has ls nL lv → H[q9]? = some ce → ce.vm = .none → s.vm.findClass n = some ce.cls → vx_W p E.1 e R s m args below meth c H locs cells slots Q (F0 m pc ls st) q9
def kMi (E : KE) (y : MethodName) (cc : ByteArray) (maxL : Nat) (rm : Room) (av : List Value) (wc : va_W) (post : Int32 → va_W → Prop) : Prop := ∀ sz : Nat, Met E.1 y (Cond.code y cc maxL (some .int) :: kTb) rm (va_Pc av (kPre E wc sz)) (va_Qi post (kB E (va_A wc sz)) (va_A wc sz)) rm.cells rm.slots (va_A wc sz)
def kTi (E : KE) (y : MethodName) (cc : ByteArray) (maxL : Nat) (rm : Room) (av : List Value) (wc : va_W) (post : Int32 → va_W → Prop) (px : String → va_W → Prop) : Prop := ∀ sz : Nat, vx_Met E.1 y (Cond.code y cc maxL (some .int) :: kTb) rm (va_Pc av (kPre E wc sz)) (va_Qi post (kB E (va_A wc sz)) (va_A wc sz)) (vx_X (fun _ : va_W => True) (kBX E (va_A wc sz) px) (va_A wc sz)) rm.cells rm.slots (va_A wc sz)
def kMl (E : KE) (y : MethodName) (cc : ByteArray) (maxL : Nat) (rm : Room) (av : List Value) (wc : va_W) (post : Int64 → va_W → Prop) : Prop := ∀ sz : Nat, Met E.1 y (Cond.code y cc maxL (some .long) :: kTb) rm (va_Pc av (kPre E wc sz)) (va_Ql post (kB E (va_A wc sz)) (va_A wc sz)) rm.cells rm.slots (va_A wc sz)
def kTl (E : KE) (y : MethodName) (cc : ByteArray) (maxL : Nat) (rm : Room) (av : List Value) (wc : va_W) (post : Int64 → va_W → Prop) (px : String → va_W → Prop) : Prop := ∀ sz : Nat, vx_Met E.1 y (Cond.code y cc maxL (some .long) :: kTb) rm (va_Pc av (kPre E wc sz)) (va_Ql post (kB E (va_A wc sz)) (va_A wc sz)) (vx_X (fun _ : va_W => True) (kBX E (va_A wc sz) px) (va_A wc sz)) rm.cells rm.slots (va_A wc sz)
def kMv (E : KE) (y : MethodName) (cc : ByteArray) (maxL : Nat) (rm : Room) (av : List Value) (wc : va_W) (post : va_W → Prop) : Prop := ∀ sz : Nat, Met E.1 y (Cond.code y cc maxL (none) :: kTb) rm (va_Pc av (kPre E wc sz)) (va_Qv post (kB E (va_A wc sz)) (va_A wc sz)) rm.cells rm.slots (va_A wc sz)
def kTv (E : KE) (y : MethodName) (cc : ByteArray) (maxL : Nat) (rm : Room) (av : List Value) (wc : va_W) (post : va_W → Prop) (px : String → va_W → Prop) : Prop := ∀ sz : Nat, vx_Met E.1 y (Cond.code y cc maxL (none) :: kTb) rm (va_Pc av (kPre E wc sz)) (va_Qv post (kB E (va_A wc sz)) (va_A wc sz)) (vx_X (fun _ : va_W => True) (kBX E (va_A wc sz) px) (va_A wc sz)) rm.cells rm.slots (va_A wc sz)
def kMz (E : KE) (y : MethodName) (cc : ByteArray) (maxL : Nat) (rm : Room) (av : List Value) (wc : va_W) (post : Int32 → va_W → Prop) : Prop := ∀ sz : Nat, Met E.1 y (Cond.code y cc maxL (some .boolean) :: kTb) rm (va_Pc av (kPre E wc sz)) (va_Qi post (kB E (va_A wc sz)) (va_A wc sz)) rm.cells rm.slots (va_A wc sz)
def kTz (E : KE) (y : MethodName) (cc : ByteArray) (maxL : Nat) (rm : Room) (av : List Value) (wc : va_W) (post : Int32 → va_W → Prop) (px : String → va_W → Prop) : Prop := ∀ sz : Nat, vx_Met E.1 y (Cond.code y cc maxL (some .boolean) :: kTb) rm (va_Pc av (kPre E wc sz)) (va_Qi post (kB E (va_A wc sz)) (va_A wc sz)) (vx_X (fun _ : va_W => True) (kBX E (va_A wc sz) px) (va_A wc sz)) rm.cells rm.slots (va_A wc sz)
theorem kMi_of {E : KE} {y : MethodName} {rm : Room} {av : List Value} {wc : va_W} {post : Int32 → va_W → Prop} {cc : ByteArray} {maxL : Nat} (hy : plainName y.cls = true) (hal : (lg_sl av).length ≤ maxL)
    (body : ∀ G : KG, kc E G cc maxL y.cls → (∀ {cells slots : Nat} {lv : List (Nat × Value)} {pc : Nat} {v : Int32} {w : va_W}, cells ≤ rm.cells → slots ≤ rm.slots → decode cc pc = .ok (.ireturn, 1) → post v w → kx E rm G maxL cells slots w lv pc [(.int v)]) → kx E rm G maxL 0 0 wc (lv_args 0 av) 0 []) : kMi E y cc maxL rm av wc post := by
  intro sz
  refine Met.ofW (cc := cc) (maxL := maxL) (ret := some .int) hy rfl ?_
  intro p e s m args below meth c s₁ B hml hv
  obtain ⟨rfl, hsz, hNs, ham, hP, hK, hD0⟩ := hv
  subst hsz
  have hts0 := atoms_spec (ws := Cond.code y cc maxL (some .int) :: kTb) B.pre
  have hts : ∀ w ∈ kTb, w.before av.toArray s = true := fun w h => hts0 w (List.mem_cons_of_mem _ h)
  have hown : s.vm.findClass y.cls = some m.cls := findClass_of_methodNamed B.named
  have hl := lv_entry av (n := maxL) hal
  rw [lg_entry_eq]
  have hD := hD0.self (sz := s.heap.size)
  refine body (p, e, s, m, av.toArray, below, meth, c, va_A wc s.heap.size, MQ below (va_Qi post (kB E (va_A wc s.heap.size)) (va_A wc s.heap.size)) av.toArray s rm.cells rm.slots (va_A wc s.heap.size)) ⟨B.exec, B.bytes, hml, hown, hts, hK, fun q h => Or.inr h, ?_, ham, hNs, B.notSynchronized⟩ ?_ s.heap [] _ hP hD va_S.rf hl
  · intro q hq
    rcases hq with ⟨k, e9, h⟩ | h
    · exact hD0.2 k _ h
    · exact Nat.le_trans hNs h
  · intro cells slots lv pc v w hc hs hd hpost H locs ls hP hD hS hl
    refine W.widen hc hs ?_
    exact W.iret B.exec B.bytes B.returns (fun t ht hW => ⟨⟨v, w, rfl, hpost, by rw [ht]; exact hP, hD⟩, hS.F ht⟩) hS.2.2 hd B.notSynchronized
/-- what 'throw new E("text")' wants at pc -/
def kThr (E : KE) (R : Room) (cc : ByteArray) (own cls text : String) (names : List String) (ik is ic pc : Nat) (st : List Value) : Prop :=
  E.1.stackTraces = false ∧ Bundle.fit cls = true ∧ (∀ n ∈ names, Bundle.fit n = true) ∧ Cond.classLink own ik cls ∈ kTb ∧ Cond.initialized cls ∈ kTb ∧ (is, text) ∈ kStr ∧ (∀ w ∈ vx_atS own ic cls names, w ∈ kTb ∨ w ∈ kFa) ∧ (∀ w ∈ Cond.classLink own ik cls :: Cond.initialized cls :: vx_atS own ic cls names, vx_ot w = true) ∧
  decode cc pc = .ok (.new ik, 3) ∧ decode cc (pc + 3) = .ok (.dup, 1) ∧ decode cc (pc + 4) = .ok (.ldc is, 2) ∧ decode cc (pc + 6) = .ok (.invokespecial ic, 3) ∧ decode cc (pc + 9) = .ok (.athrow, 1) ∧
  names.length + 3 < R.frames ∧ (st.map fun v => v.category).sum + (13 * (names.length + 1) + 43) ≤ R.locals ∧ own = kOwn
theorem kTi_of {E : KE} {y : MethodName} {rm : Room} {av : List Value} {wc : va_W} {post : Int32 → va_W → Prop} {px : String → va_W → Prop} {cc : ByteArray} {maxL : Nat} (hy : plainName y.cls = true) (hal : (lg_sl av).length ≤ maxL)
    (body : ∀ G : KG, kc E G cc maxL y.cls → (∀ {cells slots : Nat} {lv : List (Nat × Value)} {pc : Nat} {v : Int32} {w : va_W}, cells ≤ rm.cells → slots ≤ rm.slots → decode cc pc = .ok (.ireturn, 1) → post v w → kx E rm G maxL cells slots w lv pc [(.int v)]) → (∀ {cells slots : Nat} {lv : List (Nat × Value)} {pc : Nat} {st : List Value} {n : String} {w : va_W}, cells ≤ rm.cells → slots ≤ rm.slots → px n w → kxx E rm G maxL cells slots w n lv pc st) → (∀ {cells slots : Nat} {lv : List (Nat × Value)} {pc : Nat} {st : List Value} {cls text : String} {names : List String} {ik is ic : Nat} {w : va_W}, kThr E rm cc y.cls cls text names ik is ic pc st → cells + 1 ≤ rm.cells → slots + 6 ≤ rm.slots → px cls w → kx E rm G maxL cells slots w lv pc st) → kx E rm G maxL 0 0 wc (lv_args 0 av) 0 []) : kTi E y cc maxL rm av wc post px := by
  intro sz
  refine vx_ofW (cc := cc) (maxL := maxL) (ret := some .int) hy rfl ?_
  intro p e s m args below meth c s₁ B hml htb hv
  obtain ⟨rfl, hsz, hNs, ham, hP, hK, hD0⟩ := hv
  subst hsz
  have hts0 := atoms_spec (ws := Cond.code y cc maxL (some .int) :: kTb) B.pre
  have hts : ∀ w ∈ kTb, w.before av.toArray s = true := fun w h => hts0 w (List.mem_cons_of_mem _ h)
  have hown : s.vm.findClass y.cls = some m.cls := findClass_of_methodNamed B.named
  have hl := lv_entry av (n := maxL) hal
  rw [lg_entry_eq]
  have hD := hD0.self (sz := s.heap.size)
  have hN : ∀ q : Nat, va_A wc s.heap.size q → kN E ≤ q := by
    intro q hq
    rcases hq with ⟨k, e9, h⟩ | h
    · exact hD0.2 k _ h
    · exact Nat.le_trans hNs h
  refine body (p, e, s, m, av.toArray, below, meth, c, va_A wc s.heap.size, (vx_MQ below (va_Qi post (kB E (va_A wc s.heap.size)) (va_A wc s.heap.size)) (vx_X (fun _ : va_W => True) (kBX E (va_A wc s.heap.size) px) (va_A wc s.heap.size)) av.toArray s rm.cells rm.slots (va_A wc s.heap.size))) ⟨B.exec, B.bytes, hml, hown, hts, hK, fun q h => Or.inr h, hN, ham, hNs, B.notSynchronized⟩ ?_ ?_ ?_ s.heap [] _ hP hD va_S.rf hl
  · intro cells slots lv pc v w hc hs hd hpost H locs ls hP hD hS hl
    refine vx_ret ?_
    refine W.widen hc hs ?_
    exact W.iret B.exec B.bytes B.returns (fun t ht hW => ⟨⟨v, w, rfl, hpost, by rw [ht]; exact hP, hD⟩, hS.F ht⟩) hS.2.2 hd B.notSynchronized
  · intro cells slots lv pc st n w hc hs hpx H locs ls q9 ce hP hD hS hl hce hcv hcl
    exact vx_out (fun x hx => (htb x hx).elim) B.notSynchronized hce hcv hcl (fun t ht ha => ⟨w, trivial, ⟨hpx, by rw [ht]; exact hP, hD⟩, hS.F ht⟩) hS.2.2 hc hs
  · intro cells slots lv pc st cls text names ik is ic w hthr hc hs hpx H locs ls hP hD hS hl
    obtain ⟨h1, h2, h3, h4, h5, h6, h7, h8, d0, d3, d4, d6, d9, r1, r2, ho⟩ := hthr
    obtain ⟨sa, hsa⟩ := amb_str ham h6
    exact vx_throwS B.exec B.bytes h1 hown h2 h3 (hts _ h4) (hts _ h5) (by rw [ho]; exact hsa) (fun w9 h9 => (h7 w9 h9).elim (fun z => hts _ z) (fun z => amb_fa ham z)) h8 (amb_U (fun q h => hN q h) ham) (amb_S (fun q h => hN q h) ham) hS (hl.1.trans hml.symm) d0 d3 d4 d6 d9 (fun x hx => (htb x hx).elim) r1 r2 hc hs B.notSynchronized
      (fun t ha hz hk => ⟨w, trivial, ⟨hpx, va_P.kept hP (fun k q hq => hk q.1 ((hP k q hq).lt)), hD⟩, ⟨Nat.le_trans hS.1 hz, fun q h1 h2 => (hk q (Nat.lt_of_lt_of_le h1 hS.1)).trans (hS.2.1 q h1 h2)⟩⟩) hS.2.2 hc hs
theorem kMl_of {E : KE} {y : MethodName} {rm : Room} {av : List Value} {wc : va_W} {post : Int64 → va_W → Prop} {cc : ByteArray} {maxL : Nat} (hy : plainName y.cls = true) (hal : (lg_sl av).length ≤ maxL)
    (body : ∀ G : KG, kc E G cc maxL y.cls → (∀ {cells slots : Nat} {lv : List (Nat × Value)} {pc : Nat} {v : Int64} {w : va_W}, cells ≤ rm.cells → slots ≤ rm.slots → decode cc pc = .ok (.lreturn, 1) → post v w → kx E rm G maxL cells slots w lv pc [(.long v)]) → kx E rm G maxL 0 0 wc (lv_args 0 av) 0 []) : kMl E y cc maxL rm av wc post := by
  intro sz
  refine Met.ofW (cc := cc) (maxL := maxL) (ret := some .long) hy rfl ?_
  intro p e s m args below meth c s₁ B hml hv
  obtain ⟨rfl, hsz, hNs, ham, hP, hK, hD0⟩ := hv
  subst hsz
  have hts0 := atoms_spec (ws := Cond.code y cc maxL (some .long) :: kTb) B.pre
  have hts : ∀ w ∈ kTb, w.before av.toArray s = true := fun w h => hts0 w (List.mem_cons_of_mem _ h)
  have hown : s.vm.findClass y.cls = some m.cls := findClass_of_methodNamed B.named
  have hl := lv_entry av (n := maxL) hal
  rw [lg_entry_eq]
  have hD := hD0.self (sz := s.heap.size)
  refine body (p, e, s, m, av.toArray, below, meth, c, va_A wc s.heap.size, MQ below (va_Ql post (kB E (va_A wc s.heap.size)) (va_A wc s.heap.size)) av.toArray s rm.cells rm.slots (va_A wc s.heap.size)) ⟨B.exec, B.bytes, hml, hown, hts, hK, fun q h => Or.inr h, ?_, ham, hNs, B.notSynchronized⟩ ?_ s.heap [] _ hP hD va_S.rf hl
  · intro q hq
    rcases hq with ⟨k, e9, h⟩ | h
    · exact hD0.2 k _ h
    · exact Nat.le_trans hNs h
  · intro cells slots lv pc v w hc hs hd hpost H locs ls hP hD hS hl
    refine W.widen hc hs ?_
    exact W.lret B.exec B.bytes B.returns (fun t ht hW => ⟨⟨v, w, rfl, hpost, by rw [ht]; exact hP, hD⟩, hS.F ht⟩) hS.2.2 hd B.notSynchronized
theorem kTl_of {E : KE} {y : MethodName} {rm : Room} {av : List Value} {wc : va_W} {post : Int64 → va_W → Prop} {px : String → va_W → Prop} {cc : ByteArray} {maxL : Nat} (hy : plainName y.cls = true) (hal : (lg_sl av).length ≤ maxL)
    (body : ∀ G : KG, kc E G cc maxL y.cls → (∀ {cells slots : Nat} {lv : List (Nat × Value)} {pc : Nat} {v : Int64} {w : va_W}, cells ≤ rm.cells → slots ≤ rm.slots → decode cc pc = .ok (.lreturn, 1) → post v w → kx E rm G maxL cells slots w lv pc [(.long v)]) → (∀ {cells slots : Nat} {lv : List (Nat × Value)} {pc : Nat} {st : List Value} {n : String} {w : va_W}, cells ≤ rm.cells → slots ≤ rm.slots → px n w → kxx E rm G maxL cells slots w n lv pc st) → (∀ {cells slots : Nat} {lv : List (Nat × Value)} {pc : Nat} {st : List Value} {cls text : String} {names : List String} {ik is ic : Nat} {w : va_W}, kThr E rm cc y.cls cls text names ik is ic pc st → cells + 1 ≤ rm.cells → slots + 6 ≤ rm.slots → px cls w → kx E rm G maxL cells slots w lv pc st) → kx E rm G maxL 0 0 wc (lv_args 0 av) 0 []) : kTl E y cc maxL rm av wc post px := by
  intro sz
  refine vx_ofW (cc := cc) (maxL := maxL) (ret := some .long) hy rfl ?_
  intro p e s m args below meth c s₁ B hml htb hv
  obtain ⟨rfl, hsz, hNs, ham, hP, hK, hD0⟩ := hv
  subst hsz
  have hts0 := atoms_spec (ws := Cond.code y cc maxL (some .long) :: kTb) B.pre
  have hts : ∀ w ∈ kTb, w.before av.toArray s = true := fun w h => hts0 w (List.mem_cons_of_mem _ h)
  have hown : s.vm.findClass y.cls = some m.cls := findClass_of_methodNamed B.named
  have hl := lv_entry av (n := maxL) hal
  rw [lg_entry_eq]
  have hD := hD0.self (sz := s.heap.size)
  have hN : ∀ q : Nat, va_A wc s.heap.size q → kN E ≤ q := by
    intro q hq
    rcases hq with ⟨k, e9, h⟩ | h
    · exact hD0.2 k _ h
    · exact Nat.le_trans hNs h
  refine body (p, e, s, m, av.toArray, below, meth, c, va_A wc s.heap.size, (vx_MQ below (va_Ql post (kB E (va_A wc s.heap.size)) (va_A wc s.heap.size)) (vx_X (fun _ : va_W => True) (kBX E (va_A wc s.heap.size) px) (va_A wc s.heap.size)) av.toArray s rm.cells rm.slots (va_A wc s.heap.size))) ⟨B.exec, B.bytes, hml, hown, hts, hK, fun q h => Or.inr h, hN, ham, hNs, B.notSynchronized⟩ ?_ ?_ ?_ s.heap [] _ hP hD va_S.rf hl
  · intro cells slots lv pc v w hc hs hd hpost H locs ls hP hD hS hl
    refine vx_ret ?_
    refine W.widen hc hs ?_
    exact W.lret B.exec B.bytes B.returns (fun t ht hW => ⟨⟨v, w, rfl, hpost, by rw [ht]; exact hP, hD⟩, hS.F ht⟩) hS.2.2 hd B.notSynchronized
  · intro cells slots lv pc st n w hc hs hpx H locs ls q9 ce hP hD hS hl hce hcv hcl
    exact vx_out (fun x hx => (htb x hx).elim) B.notSynchronized hce hcv hcl (fun t ht ha => ⟨w, trivial, ⟨hpx, by rw [ht]; exact hP, hD⟩, hS.F ht⟩) hS.2.2 hc hs
  · intro cells slots lv pc st cls text names ik is ic w hthr hc hs hpx H locs ls hP hD hS hl
    obtain ⟨h1, h2, h3, h4, h5, h6, h7, h8, d0, d3, d4, d6, d9, r1, r2, ho⟩ := hthr
    obtain ⟨sa, hsa⟩ := amb_str ham h6
    exact vx_throwS B.exec B.bytes h1 hown h2 h3 (hts _ h4) (hts _ h5) (by rw [ho]; exact hsa) (fun w9 h9 => (h7 w9 h9).elim (fun z => hts _ z) (fun z => amb_fa ham z)) h8 (amb_U (fun q h => hN q h) ham) (amb_S (fun q h => hN q h) ham) hS (hl.1.trans hml.symm) d0 d3 d4 d6 d9 (fun x hx => (htb x hx).elim) r1 r2 hc hs B.notSynchronized
      (fun t ha hz hk => ⟨w, trivial, ⟨hpx, va_P.kept hP (fun k q hq => hk q.1 ((hP k q hq).lt)), hD⟩, ⟨Nat.le_trans hS.1 hz, fun q h1 h2 => (hk q (Nat.lt_of_lt_of_le h1 hS.1)).trans (hS.2.1 q h1 h2)⟩⟩) hS.2.2 hc hs
theorem kMv_of {E : KE} {y : MethodName} {rm : Room} {av : List Value} {wc : va_W} {post : va_W → Prop} {cc : ByteArray} {maxL : Nat} (hy : plainName y.cls = true) (hal : (lg_sl av).length ≤ maxL)
    (body : ∀ G : KG, kc E G cc maxL y.cls → (∀ {cells slots : Nat} {lv : List (Nat × Value)} {pc : Nat} {w : va_W}, cells ≤ rm.cells → slots ≤ rm.slots → decode cc pc = .ok (.return_, 1) → post w → kx E rm G maxL cells slots w lv pc []) → kx E rm G maxL 0 0 wc (lv_args 0 av) 0 []) : kMv E y cc maxL rm av wc post := by
  intro sz
  refine Met.ofW (cc := cc) (maxL := maxL) (ret := none) hy rfl ?_
  intro p e s m args below meth c s₁ B hml hv
  obtain ⟨rfl, hsz, hNs, ham, hP, hK, hD0⟩ := hv
  subst hsz
  have hts0 := atoms_spec (ws := Cond.code y cc maxL (none) :: kTb) B.pre
  have hts : ∀ w ∈ kTb, w.before av.toArray s = true := fun w h => hts0 w (List.mem_cons_of_mem _ h)
  have hown : s.vm.findClass y.cls = some m.cls := findClass_of_methodNamed B.named
  have hl := lv_entry av (n := maxL) hal
  rw [lg_entry_eq]
  have hD := hD0.self (sz := s.heap.size)
  refine body (p, e, s, m, av.toArray, below, meth, c, va_A wc s.heap.size, MQ below (va_Qv post (kB E (va_A wc s.heap.size)) (va_A wc s.heap.size)) av.toArray s rm.cells rm.slots (va_A wc s.heap.size)) ⟨B.exec, B.bytes, hml, hown, hts, hK, fun q h => Or.inr h, ?_, ham, hNs, B.notSynchronized⟩ ?_ s.heap [] _ hP hD va_S.rf hl
  · intro q hq
    rcases hq with ⟨k, e9, h⟩ | h
    · exact hD0.2 k _ h
    · exact Nat.le_trans hNs h
  · intro cells slots lv pc w hc hs hd hpost H locs ls hP hD hS hl
    refine W.widen hc hs ?_
    exact W.vret B.exec B.bytes B.returns (fun t ht hW => ⟨⟨w, rfl, hpost, by rw [ht]; exact hP, hD⟩, hS.F ht⟩) hS.2.2 hd B.notSynchronized
theorem kTv_of {E : KE} {y : MethodName} {rm : Room} {av : List Value} {wc : va_W} {post : va_W → Prop} {px : String → va_W → Prop} {cc : ByteArray} {maxL : Nat} (hy : plainName y.cls = true) (hal : (lg_sl av).length ≤ maxL)
    (body : ∀ G : KG, kc E G cc maxL y.cls → (∀ {cells slots : Nat} {lv : List (Nat × Value)} {pc : Nat} {w : va_W}, cells ≤ rm.cells → slots ≤ rm.slots → decode cc pc = .ok (.return_, 1) → post w → kx E rm G maxL cells slots w lv pc []) → (∀ {cells slots : Nat} {lv : List (Nat × Value)} {pc : Nat} {st : List Value} {n : String} {w : va_W}, cells ≤ rm.cells → slots ≤ rm.slots → px n w → kxx E rm G maxL cells slots w n lv pc st) → (∀ {cells slots : Nat} {lv : List (Nat × Value)} {pc : Nat} {st : List Value} {cls text : String} {names : List String} {ik is ic : Nat} {w : va_W}, kThr E rm cc y.cls cls text names ik is ic pc st → cells + 1 ≤ rm.cells → slots + 6 ≤ rm.slots → px cls w → kx E rm G maxL cells slots w lv pc st) → kx E rm G maxL 0 0 wc (lv_args 0 av) 0 []) : kTv E y cc maxL rm av wc post px := by
  intro sz
  refine vx_ofW (cc := cc) (maxL := maxL) (ret := none) hy rfl ?_
  intro p e s m args below meth c s₁ B hml htb hv
  obtain ⟨rfl, hsz, hNs, ham, hP, hK, hD0⟩ := hv
  subst hsz
  have hts0 := atoms_spec (ws := Cond.code y cc maxL (none) :: kTb) B.pre
  have hts : ∀ w ∈ kTb, w.before av.toArray s = true := fun w h => hts0 w (List.mem_cons_of_mem _ h)
  have hown : s.vm.findClass y.cls = some m.cls := findClass_of_methodNamed B.named
  have hl := lv_entry av (n := maxL) hal
  rw [lg_entry_eq]
  have hD := hD0.self (sz := s.heap.size)
  have hN : ∀ q : Nat, va_A wc s.heap.size q → kN E ≤ q := by
    intro q hq
    rcases hq with ⟨k, e9, h⟩ | h
    · exact hD0.2 k _ h
    · exact Nat.le_trans hNs h
  refine body (p, e, s, m, av.toArray, below, meth, c, va_A wc s.heap.size, (vx_MQ below (va_Qv post (kB E (va_A wc s.heap.size)) (va_A wc s.heap.size)) (vx_X (fun _ : va_W => True) (kBX E (va_A wc s.heap.size) px) (va_A wc s.heap.size)) av.toArray s rm.cells rm.slots (va_A wc s.heap.size))) ⟨B.exec, B.bytes, hml, hown, hts, hK, fun q h => Or.inr h, hN, ham, hNs, B.notSynchronized⟩ ?_ ?_ ?_ s.heap [] _ hP hD va_S.rf hl
  · intro cells slots lv pc w hc hs hd hpost H locs ls hP hD hS hl
    refine vx_ret ?_
    refine W.widen hc hs ?_
    exact W.vret B.exec B.bytes B.returns (fun t ht hW => ⟨⟨w, rfl, hpost, by rw [ht]; exact hP, hD⟩, hS.F ht⟩) hS.2.2 hd B.notSynchronized
  · intro cells slots lv pc st n w hc hs hpx H locs ls q9 ce hP hD hS hl hce hcv hcl
    exact vx_out (fun x hx => (htb x hx).elim) B.notSynchronized hce hcv hcl (fun t ht ha => ⟨w, trivial, ⟨hpx, by rw [ht]; exact hP, hD⟩, hS.F ht⟩) hS.2.2 hc hs
  · intro cells slots lv pc st cls text names ik is ic w hthr hc hs hpx H locs ls hP hD hS hl
    obtain ⟨h1, h2, h3, h4, h5, h6, h7, h8, d0, d3, d4, d6, d9, r1, r2, ho⟩ := hthr
    obtain ⟨sa, hsa⟩ := amb_str ham h6
    exact vx_throwS B.exec B.bytes h1 hown h2 h3 (hts _ h4) (hts _ h5) (by rw [ho]; exact hsa) (fun w9 h9 => (h7 w9 h9).elim (fun z => hts _ z) (fun z => amb_fa ham z)) h8 (amb_U (fun q h => hN q h) ham) (amb_S (fun q h => hN q h) ham) hS (hl.1.trans hml.symm) d0 d3 d4 d6 d9 (fun x hx => (htb x hx).elim) r1 r2 hc hs B.notSynchronized
      (fun t ha hz hk => ⟨w, trivial, ⟨hpx, va_P.kept hP (fun k q hq => hk q.1 ((hP k q hq).lt)), hD⟩, ⟨Nat.le_trans hS.1 hz, fun q h1 h2 => (hk q (Nat.lt_of_lt_of_le h1 hS.1)).trans (hS.2.1 q h1 h2)⟩⟩) hS.2.2 hc hs
theorem kMz_of {E : KE} {y : MethodName} {rm : Room} {av : List Value} {wc : va_W} {post : Int32 → va_W → Prop} {cc : ByteArray} {maxL : Nat} (hy : plainName y.cls = true) (hal : (lg_sl av).length ≤ maxL)
    (body : ∀ G : KG, kc E G cc maxL y.cls → (∀ {cells slots : Nat} {lv : List (Nat × Value)} {pc : Nat} {v : Int32} {w : va_W}, cells ≤ rm.cells → slots ≤ rm.slots → decode cc pc = .ok (.ireturn, 1) → narrow .boolean (.int v) = .int v → post v w → kx E rm G maxL cells slots w lv pc [(.int v)]) → kx E rm G maxL 0 0 wc (lv_args 0 av) 0 []) : kMz E y cc maxL rm av wc post := by
  intro sz
  refine Met.ofW (cc := cc) (maxL := maxL) (ret := some .boolean) hy rfl ?_
  intro p e s m args below meth c s₁ B hml hv
  obtain ⟨rfl, hsz, hNs, ham, hP, hK, hD0⟩ := hv
  subst hsz
  have hts0 := atoms_spec (ws := Cond.code y cc maxL (some .boolean) :: kTb) B.pre
  have hts : ∀ w ∈ kTb, w.before av.toArray s = true := fun w h => hts0 w (List.mem_cons_of_mem _ h)
  have hown : s.vm.findClass y.cls = some m.cls := findClass_of_methodNamed B.named
  have hl := lv_entry av (n := maxL) hal
  rw [lg_entry_eq]
  have hD := hD0.self (sz := s.heap.size)
  refine body (p, e, s, m, av.toArray, below, meth, c, va_A wc s.heap.size, MQ below (va_Qi post (kB E (va_A wc s.heap.size)) (va_A wc s.heap.size)) av.toArray s rm.cells rm.slots (va_A wc s.heap.size)) ⟨B.exec, B.bytes, hml, hown, hts, hK, fun q h => Or.inr h, ?_, ham, hNs, B.notSynchronized⟩ ?_ s.heap [] _ hP hD va_S.rf hl
  · intro q hq
    rcases hq with ⟨k, e9, h⟩ | h
    · exact hD0.2 k _ h
    · exact Nat.le_trans hNs h
  · intro cells slots lv pc v w hc hs hd hz hpost H locs ls hP hD hS hl
    refine W.widen hc hs ?_
    exact W.zret B.exec B.bytes B.returns hz (fun t ht hW => ⟨⟨v, w, rfl, hpost, by rw [ht]; exact hP, hD⟩, hS.F ht⟩) hS.2.2 hd B.notSynchronized
theorem kTz_of {E : KE} {y : MethodName} {rm : Room} {av : List Value} {wc : va_W} {post : Int32 → va_W → Prop} {px : String → va_W → Prop} {cc : ByteArray} {maxL : Nat} (hy : plainName y.cls = true) (hal : (lg_sl av).length ≤ maxL)
    (body : ∀ G : KG, kc E G cc maxL y.cls → (∀ {cells slots : Nat} {lv : List (Nat × Value)} {pc : Nat} {v : Int32} {w : va_W}, cells ≤ rm.cells → slots ≤ rm.slots → decode cc pc = .ok (.ireturn, 1) → narrow .boolean (.int v) = .int v → post v w → kx E rm G maxL cells slots w lv pc [(.int v)]) → (∀ {cells slots : Nat} {lv : List (Nat × Value)} {pc : Nat} {st : List Value} {n : String} {w : va_W}, cells ≤ rm.cells → slots ≤ rm.slots → px n w → kxx E rm G maxL cells slots w n lv pc st) → (∀ {cells slots : Nat} {lv : List (Nat × Value)} {pc : Nat} {st : List Value} {cls text : String} {names : List String} {ik is ic : Nat} {w : va_W}, kThr E rm cc y.cls cls text names ik is ic pc st → cells + 1 ≤ rm.cells → slots + 6 ≤ rm.slots → px cls w → kx E rm G maxL cells slots w lv pc st) → kx E rm G maxL 0 0 wc (lv_args 0 av) 0 []) : kTz E y cc maxL rm av wc post px := by
  intro sz
  refine vx_ofW (cc := cc) (maxL := maxL) (ret := some .boolean) hy rfl ?_
  intro p e s m args below meth c s₁ B hml htb hv
  obtain ⟨rfl, hsz, hNs, ham, hP, hK, hD0⟩ := hv
  subst hsz
  have hts0 := atoms_spec (ws := Cond.code y cc maxL (some .boolean) :: kTb) B.pre
  have hts : ∀ w ∈ kTb, w.before av.toArray s = true := fun w h => hts0 w (List.mem_cons_of_mem _ h)
  have hown : s.vm.findClass y.cls = some m.cls := findClass_of_methodNamed B.named
  have hl := lv_entry av (n := maxL) hal
  rw [lg_entry_eq]
  have hD := hD0.self (sz := s.heap.size)
  have hN : ∀ q : Nat, va_A wc s.heap.size q → kN E ≤ q := by
    intro q hq
    rcases hq with ⟨k, e9, h⟩ | h
    · exact hD0.2 k _ h
    · exact Nat.le_trans hNs h
  refine body (p, e, s, m, av.toArray, below, meth, c, va_A wc s.heap.size, (vx_MQ below (va_Qi post (kB E (va_A wc s.heap.size)) (va_A wc s.heap.size)) (vx_X (fun _ : va_W => True) (kBX E (va_A wc s.heap.size) px) (va_A wc s.heap.size)) av.toArray s rm.cells rm.slots (va_A wc s.heap.size))) ⟨B.exec, B.bytes, hml, hown, hts, hK, fun q h => Or.inr h, hN, ham, hNs, B.notSynchronized⟩ ?_ ?_ ?_ s.heap [] _ hP hD va_S.rf hl
  · intro cells slots lv pc v w hc hs hd hz hpost H locs ls hP hD hS hl
    refine vx_ret ?_
    refine W.widen hc hs ?_
    exact W.zret B.exec B.bytes B.returns hz (fun t ht hW => ⟨⟨v, w, rfl, hpost, by rw [ht]; exact hP, hD⟩, hS.F ht⟩) hS.2.2 hd B.notSynchronized
  · intro cells slots lv pc st n w hc hs hpx H locs ls q9 ce hP hD hS hl hce hcv hcl
    exact vx_out (fun x hx => (htb x hx).elim) B.notSynchronized hce hcv hcl (fun t ht ha => ⟨w, trivial, ⟨hpx, by rw [ht]; exact hP, hD⟩, hS.F ht⟩) hS.2.2 hc hs
  · intro cells slots lv pc st cls text names ik is ic w hthr hc hs hpx H locs ls hP hD hS hl
    obtain ⟨h1, h2, h3, h4, h5, h6, h7, h8, d0, d3, d4, d6, d9, r1, r2, ho⟩ := hthr
    obtain ⟨sa, hsa⟩ := amb_str ham h6
    exact vx_throwS B.exec B.bytes h1 hown h2 h3 (hts _ h4) (hts _ h5) (by rw [ho]; exact hsa) (fun w9 h9 => (h7 w9 h9).elim (fun z => hts _ z) (fun z => amb_fa ham z)) h8 (amb_U (fun q h => hN q h) ham) (amb_S (fun q h => hN q h) ham) hS (hl.1.trans hml.symm) d0 d3 d4 d6 d9 (fun x hx => (htb x hx).elim) r1 r2 hc hs B.notSynchronized
      (fun t ha hz hk => ⟨w, trivial, ⟨hpx, va_P.kept hP (fun k q hq => hk q.1 ((hP k q hq).lt)), hD⟩, ⟨Nat.le_trans hS.1 hz, fun q h1 h2 => (hk q (Nat.lt_of_lt_of_le h1 hS.1)).trans (hS.2.1 q h1 h2)⟩⟩) hS.2.2 hc hs
section KC
variable {E : KE} {R : Room} {G : KG} {cc : ByteArray} {nL : Nat} {own : String} {cells slots : Nat} {ws : va_W} {lv : List (Nat × Value)} {pc : Nat} {st : List Value} {y : MethodName} {rm : Room} {bytes : ByteArray} {maxL index : Nat} {Cn : String} {ci : Nat} {T : u_T} {N : Nat} {b : Nat} {fs : List Value} {As rest : List Value} {wc wr : va_W}
theorem kx_callVi {post : Int32 → va_W → Prop} (C : kc E G cc nL own) (hM : kMi E y bytes maxL rm (.ref b :: As) wc post) (hg : GoodIn kTb (wsV own index Cn y (Cond.code y bytes maxL (some .int) :: kTb))) (n9 : Nat) (hn9 : As.length = n9) (hd0 : y.cls = Cn ∧ y.cls ≠ "java/lang/invoke/MethodHandle" ∧ y.cls ≠ "java/lang/invoke/VarHandle" ∧ (parseMethodDescriptor y.desc).map (fun d => d.parameters.length) = some n9) (hR : rm.frames + 1 ≤ R.frames ∧ 8 + (maxL + 11) + rm.locals ≤ R.locals) (hf : cells + rm.cells ≤ R.cells ∧ slots + rm.slots ≤ R.slots) (isC isR : List Nat) (hC : isC.map (fun i => ws[i]?) = wc.map some) (hRr : isR.map (fun i => ws[i]?) = wr.map some) (hnC : va_nd isC = true) (hnR : va_nd isR = true) (hdis : ∀ i ∈ isR, i ∉ isC) (q0 : Nat) (hcl : kCl[ci]? = some (Cn, T, N)) (he : wc[q0]? = some (b, .inr (ci, fs))) (hst : As.reverse ++ .ref b :: rest = st) (hroom : (rest.map fun v => v.category).sum ≤ 8) (hd : decode cc pc = .ok (.invokevirtual index, 3)) (kk : ∀ (v : Int32) (w : va_W), post v w → kx E R G nL (cells + rm.cells) (slots + rm.slots) (wr ++ w) lv (pc + 3) (.int v :: rest)) : kx E R G nL cells slots ws lv pc st := by
  obtain ⟨p, e, s, m, args, below, meth, c, A, Q⟩ := G
  obtain ⟨hx, hb, hml, hown, hts, hK, hA, hN, ham, hNs, hlk⟩ := C
  intro H locs ls hP hD hS hl
  have hPc := hP.sub (ws' := wc) isC (k_fm hC)
  have hDc := hD.sub (ws' := wc) isC hnC hC
  have hKc := hK
  have hFc := va_free (wc := wc) hD hS hA isC hC
  have hamH : amb (kN E) s H := amb_kept ham (fun a h1 h2 => hS.2.1 a h1 (fun z => h2 (hN a z)))
  refine va_calli (va_runV (As := As) (rest := rest) ⟨hx, hb, hml, hown, hts⟩ (hM H.size) (cwV n9 hts hg rfl rfl rfl hd0 hR) ⟨kPre_blind E _ wc H.size, va_recv hKc hPc hcl he, fun U hU hW => ⟨rfl, by rw [hU], Nat.le_trans hNs hS.1, by rw [hU]; exact amb_warm hW hamH, by rw [hU]; exact hPc, va_K.moved hW.alike hK, hDc.weaken (fun _ _ _ h => hN _ h)⟩⟩ rfl hn9 hl.1 hst.symm (lv_room hroom) hd hf) hS (fun q _ h => hFc q h) hFc (fun v w t H1 locs1 ht hvm hw9 hB hz1 hk1 hS1 => ?_)
  obtain ⟨hP1, hD1⟩ := hB
  rw [ht] at hP1
  obtain ⟨hP2, hD2⟩ := va_join (wr := wr) (w1 := w) hP hD isC isR hC hRr hnR hdis hk1 hFc hP1 hD1
  exact kk v w hw9 H1 locs1 ls hP2 hD2 hS1 hl
theorem kx_callViT {px : String → va_W → Prop} {post : Int32 → va_W → Prop} (C : kc E G cc nL own) (hM : kTi E y bytes maxL rm (.ref b :: As) wc post px) (hg : GoodIn kTb (wsV own index Cn y (Cond.code y bytes maxL (some .int) :: kTb))) (n9 : Nat) (hn9 : As.length = n9) (hd0 : y.cls = Cn ∧ y.cls ≠ "java/lang/invoke/MethodHandle" ∧ y.cls ≠ "java/lang/invoke/VarHandle" ∧ (parseMethodDescriptor y.desc).map (fun d => d.parameters.length) = some n9) (hR : rm.frames + 1 ≤ R.frames ∧ 8 + (maxL + 11) + rm.locals ≤ R.locals) (hf : cells + rm.cells ≤ R.cells ∧ slots + rm.slots ≤ R.slots) (isC isR : List Nat) (hC : isC.map (fun i => ws[i]?) = wc.map some) (hRr : isR.map (fun i => ws[i]?) = wr.map some) (hnC : va_nd isC = true) (hnR : va_nd isR = true) (hdis : ∀ i ∈ isR, i ∉ isC) (q0 : Nat) (hcl : kCl[ci]? = some (Cn, T, N)) (he : wc[q0]? = some (b, .inr (ci, fs))) (hst : As.reverse ++ .ref b :: rest = st) (hroom : (rest.map fun v => v.category).sum ≤ 8) (hd : decode cc pc = .ok (.invokevirtual index, 3)) (kx9 : ∀ (n : String) (w : va_W), px n w → kxx E R G nL (cells + rm.cells) (slots + rm.slots) (wr ++ w) n lv pc rest) (kk : ∀ (v : Int32) (w : va_W), post v w → kx E R G nL (cells + rm.cells) (slots + rm.slots) (wr ++ w) lv (pc + 3) (.int v :: rest)) : kx E R G nL cells slots ws lv pc st := by
  obtain ⟨p, e, s, m, args, below, meth, c, A, Q⟩ := G
  obtain ⟨hx, hb, hml, hown, hts, hK, hA, hN, ham, hNs, hlk⟩ := C
  intro H locs ls hP hD hS hl
  have hPc := hP.sub (ws' := wc) isC (k_fm hC)
  have hDc := hD.sub (ws' := wc) isC hnC hC
  have hKc := hK
  have hFc := va_free (wc := wc) hD hS hA isC hC
  have hamH : amb (kN E) s H := amb_kept ham (fun a h1 h2 => hS.2.1 a h1 (fun z => h2 (hN a z)))
  refine vx_calli (vx_runV (As := As) (rest := rest) ⟨hx, hb, hml, hown, hts⟩ (hM H.size) (cwV n9 hts hg rfl rfl rfl hd0 hR) ⟨kPre_blind E _ wc H.size, va_recv hKc hPc hcl he, fun U hU hW => ⟨rfl, by rw [hU], Nat.le_trans hNs hS.1, by rw [hU]; exact amb_warm hW hamH, by rw [hU]; exact hPc, va_K.moved hW.alike hK, hDc.weaken (fun _ _ _ h => hN _ h)⟩⟩ rfl hn9 hl.1 hst.symm (lv_room hroom) hd hf) hS (fun q _ h => hFc q h) hFc (fun q _ h => hFc q h) (fun n ce q9 w t H1 locs1 ht hvm hu hB hz1 hk1 hS1 hce hcv hcl9 => by
    obtain ⟨hpx, hP1, hD1⟩ := hB
    rw [ht] at hP1
    obtain ⟨hP2, hD2⟩ := va_join (wr := wr) (w1 := w) hP hD isC isR hC hRr hnR hdis hk1 hFc hP1 hD1
    exact kx9 n w hpx H1 locs1 ls q9 ce hP2 hD2 hS1 hl hce hcv hcl9) (fun v w t H1 locs1 ht hvm hw9 hB hz1 hk1 hS1 => ?_)
  obtain ⟨hP1, hD1⟩ := hB
  rw [ht] at hP1
  obtain ⟨hP2, hD2⟩ := va_join (wr := wr) (w1 := w) hP hD isC isR hC hRr hnR hdis hk1 hFc hP1 hD1
  exact kk v w hw9 H1 locs1 ls hP2 hD2 hS1 hl
theorem kx_callVl {post : Int64 → va_W → Prop} (C : kc E G cc nL own) (hM : kMl E y bytes maxL rm (.ref b :: As) wc post) (hg : GoodIn kTb (wsV own index Cn y (Cond.code y bytes maxL (some .long) :: kTb))) (n9 : Nat) (hn9 : As.length = n9) (hd0 : y.cls = Cn ∧ y.cls ≠ "java/lang/invoke/MethodHandle" ∧ y.cls ≠ "java/lang/invoke/VarHandle" ∧ (parseMethodDescriptor y.desc).map (fun d => d.parameters.length) = some n9) (hR : rm.frames + 1 ≤ R.frames ∧ 8 + (maxL + 11) + rm.locals ≤ R.locals) (hf : cells + rm.cells ≤ R.cells ∧ slots + rm.slots ≤ R.slots) (isC isR : List Nat) (hC : isC.map (fun i => ws[i]?) = wc.map some) (hRr : isR.map (fun i => ws[i]?) = wr.map some) (hnC : va_nd isC = true) (hnR : va_nd isR = true) (hdis : ∀ i ∈ isR, i ∉ isC) (q0 : Nat) (hcl : kCl[ci]? = some (Cn, T, N)) (he : wc[q0]? = some (b, .inr (ci, fs))) (hst : As.reverse ++ .ref b :: rest = st) (hroom : (rest.map fun v => v.category).sum ≤ 8) (hd : decode cc pc = .ok (.invokevirtual index, 3)) (kk : ∀ (v : Int64) (w : va_W), post v w → kx E R G nL (cells + rm.cells) (slots + rm.slots) (wr ++ w) lv (pc + 3) (.long v :: rest)) : kx E R G nL cells slots ws lv pc st := by
  obtain ⟨p, e, s, m, args, below, meth, c, A, Q⟩ := G
  obtain ⟨hx, hb, hml, hown, hts, hK, hA, hN, ham, hNs, hlk⟩ := C
  intro H locs ls hP hD hS hl
  have hPc := hP.sub (ws' := wc) isC (k_fm hC)
  have hDc := hD.sub (ws' := wc) isC hnC hC
  have hKc := hK
  have hFc := va_free (wc := wc) hD hS hA isC hC
  have hamH : amb (kN E) s H := amb_kept ham (fun a h1 h2 => hS.2.1 a h1 (fun z => h2 (hN a z)))
  refine va_calll (va_runV (As := As) (rest := rest) ⟨hx, hb, hml, hown, hts⟩ (hM H.size) (cwV n9 hts hg rfl rfl rfl hd0 hR) ⟨kPre_blind E _ wc H.size, va_recv hKc hPc hcl he, fun U hU hW => ⟨rfl, by rw [hU], Nat.le_trans hNs hS.1, by rw [hU]; exact amb_warm hW hamH, by rw [hU]; exact hPc, va_K.moved hW.alike hK, hDc.weaken (fun _ _ _ h => hN _ h)⟩⟩ rfl hn9 hl.1 hst.symm (lv_room hroom) hd hf) hS (fun q _ h => hFc q h) hFc (fun v w t H1 locs1 ht hvm hw9 hB hz1 hk1 hS1 => ?_)
  obtain ⟨hP1, hD1⟩ := hB
  rw [ht] at hP1
  obtain ⟨hP2, hD2⟩ := va_join (wr := wr) (w1 := w) hP hD isC isR hC hRr hnR hdis hk1 hFc hP1 hD1
  exact kk v w hw9 H1 locs1 ls hP2 hD2 hS1 hl
theorem kx_callVlT {px : String → va_W → Prop} {post : Int64 → va_W → Prop} (C : kc E G cc nL own) (hM : kTl E y bytes maxL rm (.ref b :: As) wc post px) (hg : GoodIn kTb (wsV own index Cn y (Cond.code y bytes maxL (some .long) :: kTb))) (n9 : Nat) (hn9 : As.length = n9) (hd0 : y.cls = Cn ∧ y.cls ≠ "java/lang/invoke/MethodHandle" ∧ y.cls ≠ "java/lang/invoke/VarHandle" ∧ (parseMethodDescriptor y.desc).map (fun d => d.parameters.length) = some n9) (hR : rm.frames + 1 ≤ R.frames ∧ 8 + (maxL + 11) + rm.locals ≤ R.locals) (hf : cells + rm.cells ≤ R.cells ∧ slots + rm.slots ≤ R.slots) (isC isR : List Nat) (hC : isC.map (fun i => ws[i]?) = wc.map some) (hRr : isR.map (fun i => ws[i]?) = wr.map some) (hnC : va_nd isC = true) (hnR : va_nd isR = true) (hdis : ∀ i ∈ isR, i ∉ isC) (q0 : Nat) (hcl : kCl[ci]? = some (Cn, T, N)) (he : wc[q0]? = some (b, .inr (ci, fs))) (hst : As.reverse ++ .ref b :: rest = st) (hroom : (rest.map fun v => v.category).sum ≤ 8) (hd : decode cc pc = .ok (.invokevirtual index, 3)) (kx9 : ∀ (n : String) (w : va_W), px n w → kxx E R G nL (cells + rm.cells) (slots + rm.slots) (wr ++ w) n lv pc rest) (kk : ∀ (v : Int64) (w : va_W), post v w → kx E R G nL (cells + rm.cells) (slots + rm.slots) (wr ++ w) lv (pc + 3) (.long v :: rest)) : kx E R G nL cells slots ws lv pc st := by
  obtain ⟨p, e, s, m, args, below, meth, c, A, Q⟩ := G
  obtain ⟨hx, hb, hml, hown, hts, hK, hA, hN, ham, hNs, hlk⟩ := C
  intro H locs ls hP hD hS hl
  have hPc := hP.sub (ws' := wc) isC (k_fm hC)
  have hDc := hD.sub (ws' := wc) isC hnC hC
  have hKc := hK
  have hFc := va_free (wc := wc) hD hS hA isC hC
  have hamH : amb (kN E) s H := amb_kept ham (fun a h1 h2 => hS.2.1 a h1 (fun z => h2 (hN a z)))
  refine vx_calll (vx_runV (As := As) (rest := rest) ⟨hx, hb, hml, hown, hts⟩ (hM H.size) (cwV n9 hts hg rfl rfl rfl hd0 hR) ⟨kPre_blind E _ wc H.size, va_recv hKc hPc hcl he, fun U hU hW => ⟨rfl, by rw [hU], Nat.le_trans hNs hS.1, by rw [hU]; exact amb_warm hW hamH, by rw [hU]; exact hPc, va_K.moved hW.alike hK, hDc.weaken (fun _ _ _ h => hN _ h)⟩⟩ rfl hn9 hl.1 hst.symm (lv_room hroom) hd hf) hS (fun q _ h => hFc q h) hFc (fun q _ h => hFc q h) (fun n ce q9 w t H1 locs1 ht hvm hu hB hz1 hk1 hS1 hce hcv hcl9 => by
    obtain ⟨hpx, hP1, hD1⟩ := hB
    rw [ht] at hP1
    obtain ⟨hP2, hD2⟩ := va_join (wr := wr) (w1 := w) hP hD isC isR hC hRr hnR hdis hk1 hFc hP1 hD1
    exact kx9 n w hpx H1 locs1 ls q9 ce hP2 hD2 hS1 hl hce hcv hcl9) (fun v w t H1 locs1 ht hvm hw9 hB hz1 hk1 hS1 => ?_)
  obtain ⟨hP1, hD1⟩ := hB
  rw [ht] at hP1
  obtain ⟨hP2, hD2⟩ := va_join (wr := wr) (w1 := w) hP hD isC isR hC hRr hnR hdis hk1 hFc hP1 hD1
  exact kk v w hw9 H1 locs1 ls hP2 hD2 hS1 hl
theorem kx_callVv {post : va_W → Prop} (C : kc E G cc nL own) (hM : kMv E y bytes maxL rm (.ref b :: As) wc post) (hg : GoodIn kTb (wsV own index Cn y (Cond.code y bytes maxL (none) :: kTb))) (n9 : Nat) (hn9 : As.length = n9) (hd0 : y.cls = Cn ∧ y.cls ≠ "java/lang/invoke/MethodHandle" ∧ y.cls ≠ "java/lang/invoke/VarHandle" ∧ (parseMethodDescriptor y.desc).map (fun d => d.parameters.length) = some n9) (hR : rm.frames + 1 ≤ R.frames ∧ 8 + (maxL + 11) + rm.locals ≤ R.locals) (hf : cells + rm.cells ≤ R.cells ∧ slots + rm.slots ≤ R.slots) (isC isR : List Nat) (hC : isC.map (fun i => ws[i]?) = wc.map some) (hRr : isR.map (fun i => ws[i]?) = wr.map some) (hnC : va_nd isC = true) (hnR : va_nd isR = true) (hdis : ∀ i ∈ isR, i ∉ isC) (q0 : Nat) (hcl : kCl[ci]? = some (Cn, T, N)) (he : wc[q0]? = some (b, .inr (ci, fs))) (hst : As.reverse ++ .ref b :: rest = st) (hroom : (rest.map fun v => v.category).sum ≤ 8) (hd : decode cc pc = .ok (.invokevirtual index, 3)) (kk : ∀ (w : va_W), post w → kx E R G nL (cells + rm.cells) (slots + rm.slots) (wr ++ w) lv (pc + 3) (rest)) : kx E R G nL cells slots ws lv pc st := by
  obtain ⟨p, e, s, m, args, below, meth, c, A, Q⟩ := G
  obtain ⟨hx, hb, hml, hown, hts, hK, hA, hN, ham, hNs, hlk⟩ := C
  intro H locs ls hP hD hS hl
  have hPc := hP.sub (ws' := wc) isC (k_fm hC)
  have hDc := hD.sub (ws' := wc) isC hnC hC
  have hKc := hK
  have hFc := va_free (wc := wc) hD hS hA isC hC
  have hamH : amb (kN E) s H := amb_kept ham (fun a h1 h2 => hS.2.1 a h1 (fun z => h2 (hN a z)))
  refine va_callv (va_runV (As := As) (rest := rest) ⟨hx, hb, hml, hown, hts⟩ (hM H.size) (cwV n9 hts hg rfl rfl rfl hd0 hR) ⟨kPre_blind E _ wc H.size, va_recv hKc hPc hcl he, fun U hU hW => ⟨rfl, by rw [hU], Nat.le_trans hNs hS.1, by rw [hU]; exact amb_warm hW hamH, by rw [hU]; exact hPc, va_K.moved hW.alike hK, hDc.weaken (fun _ _ _ h => hN _ h)⟩⟩ rfl hn9 hl.1 hst.symm (lv_room hroom) hd hf) hS (fun q _ h => hFc q h) hFc (fun w t H1 locs1 ht hvm hw9 hB hz1 hk1 hS1 => ?_)
  obtain ⟨hP1, hD1⟩ := hB
  rw [ht] at hP1
  obtain ⟨hP2, hD2⟩ := va_join (wr := wr) (w1 := w) hP hD isC isR hC hRr hnR hdis hk1 hFc hP1 hD1
  exact kk w hw9 H1 locs1 ls hP2 hD2 hS1 hl
theorem kx_callVvT {px : String → va_W → Prop} {post : va_W → Prop} (C : kc E G cc nL own) (hM : kTv E y bytes maxL rm (.ref b :: As) wc post px) (hg : GoodIn kTb (wsV own index Cn y (Cond.code y bytes maxL (none) :: kTb))) (n9 : Nat) (hn9 : As.length = n9) (hd0 : y.cls = Cn ∧ y.cls ≠ "java/lang/invoke/MethodHandle" ∧ y.cls ≠ "java/lang/invoke/VarHandle" ∧ (parseMethodDescriptor y.desc).map (fun d => d.parameters.length) = some n9) (hR : rm.frames + 1 ≤ R.frames ∧ 8 + (maxL + 11) + rm.locals ≤ R.locals) (hf : cells + rm.cells ≤ R.cells ∧ slots + rm.slots ≤ R.slots) (isC isR : List Nat) (hC : isC.map (fun i => ws[i]?) = wc.map some) (hRr : isR.map (fun i => ws[i]?) = wr.map some) (hnC : va_nd isC = true) (hnR : va_nd isR = true) (hdis : ∀ i ∈ isR, i ∉ isC) (q0 : Nat) (hcl : kCl[ci]? = some (Cn, T, N)) (he : wc[q0]? = some (b, .inr (ci, fs))) (hst : As.reverse ++ .ref b :: rest = st) (hroom : (rest.map fun v => v.category).sum ≤ 8) (hd : decode cc pc = .ok (.invokevirtual index, 3)) (kx9 : ∀ (n : String) (w : va_W), px n w → kxx E R G nL (cells + rm.cells) (slots + rm.slots) (wr ++ w) n lv pc rest) (kk : ∀ (w : va_W), post w → kx E R G nL (cells + rm.cells) (slots + rm.slots) (wr ++ w) lv (pc + 3) (rest)) : kx E R G nL cells slots ws lv pc st := by
  obtain ⟨p, e, s, m, args, below, meth, c, A, Q⟩ := G
  obtain ⟨hx, hb, hml, hown, hts, hK, hA, hN, ham, hNs, hlk⟩ := C
  intro H locs ls hP hD hS hl
  have hPc := hP.sub (ws' := wc) isC (k_fm hC)
  have hDc := hD.sub (ws' := wc) isC hnC hC
  have hKc := hK
  have hFc := va_free (wc := wc) hD hS hA isC hC
  have hamH : amb (kN E) s H := amb_kept ham (fun a h1 h2 => hS.2.1 a h1 (fun z => h2 (hN a z)))
  refine vx_callv (vx_runV (As := As) (rest := rest) ⟨hx, hb, hml, hown, hts⟩ (hM H.size) (cwV n9 hts hg rfl rfl rfl hd0 hR) ⟨kPre_blind E _ wc H.size, va_recv hKc hPc hcl he, fun U hU hW => ⟨rfl, by rw [hU], Nat.le_trans hNs hS.1, by rw [hU]; exact amb_warm hW hamH, by rw [hU]; exact hPc, va_K.moved hW.alike hK, hDc.weaken (fun _ _ _ h => hN _ h)⟩⟩ rfl hn9 hl.1 hst.symm (lv_room hroom) hd hf) hS (fun q _ h => hFc q h) hFc (fun q _ h => hFc q h) (fun n ce q9 w t H1 locs1 ht hvm hu hB hz1 hk1 hS1 hce hcv hcl9 => by
    obtain ⟨hpx, hP1, hD1⟩ := hB
    rw [ht] at hP1
    obtain ⟨hP2, hD2⟩ := va_join (wr := wr) (w1 := w) hP hD isC isR hC hRr hnR hdis hk1 hFc hP1 hD1
    exact kx9 n w hpx H1 locs1 ls q9 ce hP2 hD2 hS1 hl hce hcv hcl9) (fun w t H1 locs1 ht hvm hw9 hB hz1 hk1 hS1 => ?_)
  obtain ⟨hP1, hD1⟩ := hB
  rw [ht] at hP1
  obtain ⟨hP2, hD2⟩ := va_join (wr := wr) (w1 := w) hP hD isC isR hC hRr hnR hdis hk1 hFc hP1 hD1
  exact kk w hw9 H1 locs1 ls hP2 hD2 hS1 hl
theorem kx_callVz {post : Int32 → va_W → Prop} (C : kc E G cc nL own) (hM : kMz E y bytes maxL rm (.ref b :: As) wc post) (hg : GoodIn kTb (wsV own index Cn y (Cond.code y bytes maxL (some .boolean) :: kTb))) (n9 : Nat) (hn9 : As.length = n9) (hd0 : y.cls = Cn ∧ y.cls ≠ "java/lang/invoke/MethodHandle" ∧ y.cls ≠ "java/lang/invoke/VarHandle" ∧ (parseMethodDescriptor y.desc).map (fun d => d.parameters.length) = some n9) (hR : rm.frames + 1 ≤ R.frames ∧ 8 + (maxL + 11) + rm.locals ≤ R.locals) (hf : cells + rm.cells ≤ R.cells ∧ slots + rm.slots ≤ R.slots) (isC isR : List Nat) (hC : isC.map (fun i => ws[i]?) = wc.map some) (hRr : isR.map (fun i => ws[i]?) = wr.map some) (hnC : va_nd isC = true) (hnR : va_nd isR = true) (hdis : ∀ i ∈ isR, i ∉ isC) (q0 : Nat) (hcl : kCl[ci]? = some (Cn, T, N)) (he : wc[q0]? = some (b, .inr (ci, fs))) (hst : As.reverse ++ .ref b :: rest = st) (hroom : (rest.map fun v => v.category).sum ≤ 8) (hd : decode cc pc = .ok (.invokevirtual index, 3)) (kk : ∀ (v : Int32) (w : va_W), post v w → kx E R G nL (cells + rm.cells) (slots + rm.slots) (wr ++ w) lv (pc + 3) (.int v :: rest)) : kx E R G nL cells slots ws lv pc st := by
  obtain ⟨p, e, s, m, args, below, meth, c, A, Q⟩ := G
  obtain ⟨hx, hb, hml, hown, hts, hK, hA, hN, ham, hNs, hlk⟩ := C
  intro H locs ls hP hD hS hl
  have hPc := hP.sub (ws' := wc) isC (k_fm hC)
  have hDc := hD.sub (ws' := wc) isC hnC hC
  have hKc := hK
  have hFc := va_free (wc := wc) hD hS hA isC hC
  have hamH : amb (kN E) s H := amb_kept ham (fun a h1 h2 => hS.2.1 a h1 (fun z => h2 (hN a z)))
  refine va_calli (va_runV (As := As) (rest := rest) ⟨hx, hb, hml, hown, hts⟩ (hM H.size) (cwV n9 hts hg rfl rfl rfl hd0 hR) ⟨kPre_blind E _ wc H.size, va_recv hKc hPc hcl he, fun U hU hW => ⟨rfl, by rw [hU], Nat.le_trans hNs hS.1, by rw [hU]; exact amb_warm hW hamH, by rw [hU]; exact hPc, va_K.moved hW.alike hK, hDc.weaken (fun _ _ _ h => hN _ h)⟩⟩ rfl hn9 hl.1 hst.symm (lv_room hroom) hd hf) hS (fun q _ h => hFc q h) hFc (fun v w t H1 locs1 ht hvm hw9 hB hz1 hk1 hS1 => ?_)
  obtain ⟨hP1, hD1⟩ := hB
  rw [ht] at hP1
  obtain ⟨hP2, hD2⟩ := va_join (wr := wr) (w1 := w) hP hD isC isR hC hRr hnR hdis hk1 hFc hP1 hD1
  exact kk v w hw9 H1 locs1 ls hP2 hD2 hS1 hl
theorem kx_callVzT {px : String → va_W → Prop} {post : Int32 → va_W → Prop} (C : kc E G cc nL own) (hM : kTz E y bytes maxL rm (.ref b :: As) wc post px) (hg : GoodIn kTb (wsV own index Cn y (Cond.code y bytes maxL (some .boolean) :: kTb))) (n9 : Nat) (hn9 : As.length = n9) (hd0 : y.cls = Cn ∧ y.cls ≠ "java/lang/invoke/MethodHandle" ∧ y.cls ≠ "java/lang/invoke/VarHandle" ∧ (parseMethodDescriptor y.desc).map (fun d => d.parameters.length) = some n9) (hR : rm.frames + 1 ≤ R.frames ∧ 8 + (maxL + 11) + rm.locals ≤ R.locals) (hf : cells + rm.cells ≤ R.cells ∧ slots + rm.slots ≤ R.slots) (isC isR : List Nat) (hC : isC.map (fun i => ws[i]?) = wc.map some) (hRr : isR.map (fun i => ws[i]?) = wr.map some) (hnC : va_nd isC = true) (hnR : va_nd isR = true) (hdis : ∀ i ∈ isR, i ∉ isC) (q0 : Nat) (hcl : kCl[ci]? = some (Cn, T, N)) (he : wc[q0]? = some (b, .inr (ci, fs))) (hst : As.reverse ++ .ref b :: rest = st) (hroom : (rest.map fun v => v.category).sum ≤ 8) (hd : decode cc pc = .ok (.invokevirtual index, 3)) (kx9 : ∀ (n : String) (w : va_W), px n w → kxx E R G nL (cells + rm.cells) (slots + rm.slots) (wr ++ w) n lv pc rest) (kk : ∀ (v : Int32) (w : va_W), post v w → kx E R G nL (cells + rm.cells) (slots + rm.slots) (wr ++ w) lv (pc + 3) (.int v :: rest)) : kx E R G nL cells slots ws lv pc st := by
  obtain ⟨p, e, s, m, args, below, meth, c, A, Q⟩ := G
  obtain ⟨hx, hb, hml, hown, hts, hK, hA, hN, ham, hNs, hlk⟩ := C
  intro H locs ls hP hD hS hl
  have hPc := hP.sub (ws' := wc) isC (k_fm hC)
  have hDc := hD.sub (ws' := wc) isC hnC hC
  have hKc := hK
  have hFc := va_free (wc := wc) hD hS hA isC hC
  have hamH : amb (kN E) s H := amb_kept ham (fun a h1 h2 => hS.2.1 a h1 (fun z => h2 (hN a z)))
  refine vx_calli (vx_runV (As := As) (rest := rest) ⟨hx, hb, hml, hown, hts⟩ (hM H.size) (cwV n9 hts hg rfl rfl rfl hd0 hR) ⟨kPre_blind E _ wc H.size, va_recv hKc hPc hcl he, fun U hU hW => ⟨rfl, by rw [hU], Nat.le_trans hNs hS.1, by rw [hU]; exact amb_warm hW hamH, by rw [hU]; exact hPc, va_K.moved hW.alike hK, hDc.weaken (fun _ _ _ h => hN _ h)⟩⟩ rfl hn9 hl.1 hst.symm (lv_room hroom) hd hf) hS (fun q _ h => hFc q h) hFc (fun q _ h => hFc q h) (fun n ce q9 w t H1 locs1 ht hvm hu hB hz1 hk1 hS1 hce hcv hcl9 => by
    obtain ⟨hpx, hP1, hD1⟩ := hB
    rw [ht] at hP1
    obtain ⟨hP2, hD2⟩ := va_join (wr := wr) (w1 := w) hP hD isC isR hC hRr hnR hdis hk1 hFc hP1 hD1
    exact kx9 n w hpx H1 locs1 ls q9 ce hP2 hD2 hS1 hl hce hcv hcl9) (fun v w t H1 locs1 ht hvm hw9 hB hz1 hk1 hS1 => ?_)
  obtain ⟨hP1, hD1⟩ := hB
  rw [ht] at hP1
  obtain ⟨hP2, hD2⟩ := va_join (wr := wr) (w1 := w) hP hD isC isR hC hRr hnR hdis hk1 hFc hP1 hD1
  exact kk v w hw9 H1 locs1 ls hP2 hD2 hS1 hl
theorem kx_callSi {post : Int32 → va_W → Prop} (C : kc E G cc nL own) (hM : kMi E y bytes maxL rm As wc post) (hg : GoodIn kTb (va_wsS own index y (Cond.code y bytes maxL (some .int) :: kTb))) (n9 : Nat) (hn9 : As.length = n9) (hd0 : y.cls ≠ "java/lang/invoke/MethodHandle" ∧ y.cls ≠ "java/lang/invoke/VarHandle" ∧ (parseMethodDescriptor y.desc).map (fun d => d.parameters.length) = some n9) (hR : rm.frames + 1 ≤ R.frames ∧ 8 + (maxL + 11) + rm.locals ≤ R.locals) (hf : cells + rm.cells ≤ R.cells ∧ slots + rm.slots ≤ R.slots) (isC isR : List Nat) (hC : isC.map (fun i => ws[i]?) = wc.map some) (hRr : isR.map (fun i => ws[i]?) = wr.map some) (hnC : va_nd isC = true) (hnR : va_nd isR = true) (hdis : ∀ i ∈ isR, i ∉ isC) (hst : As.reverse ++ rest = st) (hroom : (rest.map fun v => v.category).sum ≤ 8) (hd : decode cc pc = .ok (.invokestatic index, 3)) (kk : ∀ (v : Int32) (w : va_W), post v w → kx E R G nL (cells + rm.cells) (slots + rm.slots) (wr ++ w) lv (pc + 3) (.int v :: rest)) : kx E R G nL cells slots ws lv pc st := by
  obtain ⟨p, e, s, m, args, below, meth, c, A, Q⟩ := G
  obtain ⟨hx, hb, hml, hown, hts, hK, hA, hN, ham, hNs, hlk⟩ := C
  intro H locs ls hP hD hS hl
  have hPc := hP.sub (ws' := wc) isC (k_fm hC)
  have hDc := hD.sub (ws' := wc) isC hnC hC
  have hKc := hK
  have hFc := va_free (wc := wc) hD hS hA isC hC
  have hamH : amb (kN E) s H := amb_kept ham (fun a h1 h2 => hS.2.1 a h1 (fun z => h2 (hN a z)))
  refine va_calli (va_runS (As := As) (rest := rest) ⟨hx, hb, hml, hown, hts⟩ (hM H.size) (va_cwS n9 hts hg rfl rfl rfl hd0 hR) ⟨kPre_blind E _ wc H.size, fun U hU hW => ⟨rfl, by rw [hU], Nat.le_trans hNs hS.1, by rw [hU]; exact amb_warm hW hamH, by rw [hU]; exact hPc, va_K.moved hW.alike hK, hDc.weaken (fun _ _ _ h => hN _ h)⟩⟩ rfl hn9 hl.1 hst.symm (lv_room hroom) hd hf) hS (fun q _ h => hFc q h) hFc (fun v w t H1 locs1 ht hvm hw9 hB hz1 hk1 hS1 => ?_)
  obtain ⟨hP1, hD1⟩ := hB
  rw [ht] at hP1
  obtain ⟨hP2, hD2⟩ := va_join (wr := wr) (w1 := w) hP hD isC isR hC hRr hnR hdis hk1 hFc hP1 hD1
  exact kk v w hw9 H1 locs1 ls hP2 hD2 hS1 hl
theorem kx_callSiT {px : String → va_W → Prop} {post : Int32 → va_W → Prop} (C : kc E G cc nL own) (hM : kTi E y bytes maxL rm As wc post px) (hg : GoodIn kTb (va_wsS own index y (Cond.code y bytes maxL (some .int) :: kTb))) (n9 : Nat) (hn9 : As.length = n9) (hd0 : y.cls ≠ "java/lang/invoke/MethodHandle" ∧ y.cls ≠ "java/lang/invoke/VarHandle" ∧ (parseMethodDescriptor y.desc).map (fun d => d.parameters.length) = some n9) (hR : rm.frames + 1 ≤ R.frames ∧ 8 + (maxL + 11) + rm.locals ≤ R.locals) (hf : cells + rm.cells ≤ R.cells ∧ slots + rm.slots ≤ R.slots) (isC isR : List Nat) (hC : isC.map (fun i => ws[i]?) = wc.map some) (hRr : isR.map (fun i => ws[i]?) = wr.map some) (hnC : va_nd isC = true) (hnR : va_nd isR = true) (hdis : ∀ i ∈ isR, i ∉ isC) (hst : As.reverse ++ rest = st) (hroom : (rest.map fun v => v.category).sum ≤ 8) (hd : decode cc pc = .ok (.invokestatic index, 3)) (kx9 : ∀ (n : String) (w : va_W), px n w → kxx E R G nL (cells + rm.cells) (slots + rm.slots) (wr ++ w) n lv pc rest) (kk : ∀ (v : Int32) (w : va_W), post v w → kx E R G nL (cells + rm.cells) (slots + rm.slots) (wr ++ w) lv (pc + 3) (.int v :: rest)) : kx E R G nL cells slots ws lv pc st := by
  obtain ⟨p, e, s, m, args, below, meth, c, A, Q⟩ := G
  obtain ⟨hx, hb, hml, hown, hts, hK, hA, hN, ham, hNs, hlk⟩ := C
  intro H locs ls hP hD hS hl
  have hPc := hP.sub (ws' := wc) isC (k_fm hC)
  have hDc := hD.sub (ws' := wc) isC hnC hC
  have hKc := hK
  have hFc := va_free (wc := wc) hD hS hA isC hC
  have hamH : amb (kN E) s H := amb_kept ham (fun a h1 h2 => hS.2.1 a h1 (fun z => h2 (hN a z)))
  refine vx_calli (vx_runS (As := As) (rest := rest) ⟨hx, hb, hml, hown, hts⟩ (hM H.size) (va_cwS n9 hts hg rfl rfl rfl hd0 hR) ⟨kPre_blind E _ wc H.size, fun U hU hW => ⟨rfl, by rw [hU], Nat.le_trans hNs hS.1, by rw [hU]; exact amb_warm hW hamH, by rw [hU]; exact hPc, va_K.moved hW.alike hK, hDc.weaken (fun _ _ _ h => hN _ h)⟩⟩ rfl hn9 hl.1 hst.symm (lv_room hroom) hd hf) hS (fun q _ h => hFc q h) hFc (fun q _ h => hFc q h) (fun n ce q9 w t H1 locs1 ht hvm hu hB hz1 hk1 hS1 hce hcv hcl9 => by
    obtain ⟨hpx, hP1, hD1⟩ := hB
    rw [ht] at hP1
    obtain ⟨hP2, hD2⟩ := va_join (wr := wr) (w1 := w) hP hD isC isR hC hRr hnR hdis hk1 hFc hP1 hD1
    exact kx9 n w hpx H1 locs1 ls q9 ce hP2 hD2 hS1 hl hce hcv hcl9) (fun v w t H1 locs1 ht hvm hw9 hB hz1 hk1 hS1 => ?_)
  obtain ⟨hP1, hD1⟩ := hB
  rw [ht] at hP1
  obtain ⟨hP2, hD2⟩ := va_join (wr := wr) (w1 := w) hP hD isC isR hC hRr hnR hdis hk1 hFc hP1 hD1
  exact kk v w hw9 H1 locs1 ls hP2 hD2 hS1 hl
theorem kx_callSl {post : Int64 → va_W → Prop} (C : kc E G cc nL own) (hM : kMl E y bytes maxL rm As wc post) (hg : GoodIn kTb (va_wsS own index y (Cond.code y bytes maxL (some .long) :: kTb))) (n9 : Nat) (hn9 : As.length = n9) (hd0 : y.cls ≠ "java/lang/invoke/MethodHandle" ∧ y.cls ≠ "java/lang/invoke/VarHandle" ∧ (parseMethodDescriptor y.desc).map (fun d => d.parameters.length) = some n9) (hR : rm.frames + 1 ≤ R.frames ∧ 8 + (maxL + 11) + rm.locals ≤ R.locals) (hf : cells + rm.cells ≤ R.cells ∧ slots + rm.slots ≤ R.slots) (isC isR : List Nat) (hC : isC.map (fun i => ws[i]?) = wc.map some) (hRr : isR.map (fun i => ws[i]?) = wr.map some) (hnC : va_nd isC = true) (hnR : va_nd isR = true) (hdis : ∀ i ∈ isR, i ∉ isC) (hst : As.reverse ++ rest = st) (hroom : (rest.map fun v => v.category).sum ≤ 8) (hd : decode cc pc = .ok (.invokestatic index, 3)) (kk : ∀ (v : Int64) (w : va_W), post v w → kx E R G nL (cells + rm.cells) (slots + rm.slots) (wr ++ w) lv (pc + 3) (.long v :: rest)) : kx E R G nL cells slots ws lv pc st := by
  obtain ⟨p, e, s, m, args, below, meth, c, A, Q⟩ := G
  obtain ⟨hx, hb, hml, hown, hts, hK, hA, hN, ham, hNs, hlk⟩ := C
  intro H locs ls hP hD hS hl
  have hPc := hP.sub (ws' := wc) isC (k_fm hC)
  have hDc := hD.sub (ws' := wc) isC hnC hC
  have hKc := hK
  have hFc := va_free (wc := wc) hD hS hA isC hC
  have hamH : amb (kN E) s H := amb_kept ham (fun a h1 h2 => hS.2.1 a h1 (fun z => h2 (hN a z)))
  refine va_calll (va_runS (As := As) (rest := rest) ⟨hx, hb, hml, hown, hts⟩ (hM H.size) (va_cwS n9 hts hg rfl rfl rfl hd0 hR) ⟨kPre_blind E _ wc H.size, fun U hU hW => ⟨rfl, by rw [hU], Nat.le_trans hNs hS.1, by rw [hU]; exact amb_warm hW hamH, by rw [hU]; exact hPc, va_K.moved hW.alike hK, hDc.weaken (fun _ _ _ h => hN _ h)⟩⟩ rfl hn9 hl.1 hst.symm (lv_room hroom) hd hf) hS (fun q _ h => hFc q h) hFc (fun v w t H1 locs1 ht hvm hw9 hB hz1 hk1 hS1 => ?_)
  obtain ⟨hP1, hD1⟩ := hB
  rw [ht] at hP1
  obtain ⟨hP2, hD2⟩ := va_join (wr := wr) (w1 := w) hP hD isC isR hC hRr hnR hdis hk1 hFc hP1 hD1
  exact kk v w hw9 H1 locs1 ls hP2 hD2 hS1 hl
theorem kx_callSlT {px : String → va_W → Prop} {post : Int64 → va_W → Prop} (C : kc E G cc nL own) (hM : kTl E y bytes maxL rm As wc post px) (hg : GoodIn kTb (va_wsS own index y (Cond.code y bytes maxL (some .long) :: kTb))) (n9 : Nat) (hn9 : As.length = n9) (hd0 : y.cls ≠ "java/lang/invoke/MethodHandle" ∧ y.cls ≠ "java/lang/invoke/VarHandle" ∧ (parseMethodDescriptor y.desc).map (fun d => d.parameters.length) = some n9) (hR : rm.frames + 1 ≤ R.frames ∧ 8 + (maxL + 11) + rm.locals ≤ R.locals) (hf : cells + rm.cells ≤ R.cells ∧ slots + rm.slots ≤ R.slots) (isC isR : List Nat) (hC : isC.map (fun i => ws[i]?) = wc.map some) (hRr : isR.map (fun i => ws[i]?) = wr.map some) (hnC : va_nd isC = true) (hnR : va_nd isR = true) (hdis : ∀ i ∈ isR, i ∉ isC) (hst : As.reverse ++ rest = st) (hroom : (rest.map fun v => v.category).sum ≤ 8) (hd : decode cc pc = .ok (.invokestatic index, 3)) (kx9 : ∀ (n : String) (w : va_W), px n w → kxx E R G nL (cells + rm.cells) (slots + rm.slots) (wr ++ w) n lv pc rest) (kk : ∀ (v : Int64) (w : va_W), post v w → kx E R G nL (cells + rm.cells) (slots + rm.slots) (wr ++ w) lv (pc + 3) (.long v :: rest)) : kx E R G nL cells slots ws lv pc st := by
  obtain ⟨p, e, s, m, args, below, meth, c, A, Q⟩ := G
  obtain ⟨hx, hb, hml, hown, hts, hK, hA, hN, ham, hNs, hlk⟩ := C
  intro H locs ls hP hD hS hl
  have hPc := hP.sub (ws' := wc) isC (k_fm hC)
  have hDc := hD.sub (ws' := wc) isC hnC hC
  have hKc := hK
  have hFc := va_free (wc := wc) hD hS hA isC hC
  have hamH : amb (kN E) s H := amb_kept ham (fun a h1 h2 => hS.2.1 a h1 (fun z => h2 (hN a z)))
  refine vx_calll (vx_runS (As := As) (rest := rest) ⟨hx, hb, hml, hown, hts⟩ (hM H.size) (va_cwS n9 hts hg rfl rfl rfl hd0 hR) ⟨kPre_blind E _ wc H.size, fun U hU hW => ⟨rfl, by rw [hU], Nat.le_trans hNs hS.1, by rw [hU]; exact amb_warm hW hamH, by rw [hU]; exact hPc, va_K.moved hW.alike hK, hDc.weaken (fun _ _ _ h => hN _ h)⟩⟩ rfl hn9 hl.1 hst.symm (lv_room hroom) hd hf) hS (fun q _ h => hFc q h) hFc (fun q _ h => hFc q h) (fun n ce q9 w t H1 locs1 ht hvm hu hB hz1 hk1 hS1 hce hcv hcl9 => by
    obtain ⟨hpx, hP1, hD1⟩ := hB
    rw [ht] at hP1
    obtain ⟨hP2, hD2⟩ := va_join (wr := wr) (w1 := w) hP hD isC isR hC hRr hnR hdis hk1 hFc hP1 hD1
    exact kx9 n w hpx H1 locs1 ls q9 ce hP2 hD2 hS1 hl hce hcv hcl9) (fun v w t H1 locs1 ht hvm hw9 hB hz1 hk1 hS1 => ?_)
  obtain ⟨hP1, hD1⟩ := hB
  rw [ht] at hP1
  obtain ⟨hP2, hD2⟩ := va_join (wr := wr) (w1 := w) hP hD isC isR hC hRr hnR hdis hk1 hFc hP1 hD1
  exact kk v w hw9 H1 locs1 ls hP2 hD2 hS1 hl
theorem kx_callSv {post : va_W → Prop} (C : kc E G cc nL own) (hM : kMv E y bytes maxL rm As wc post) (hg : GoodIn kTb (va_wsS own index y (Cond.code y bytes maxL (none) :: kTb))) (n9 : Nat) (hn9 : As.length = n9) (hd0 : y.cls ≠ "java/lang/invoke/MethodHandle" ∧ y.cls ≠ "java/lang/invoke/VarHandle" ∧ (parseMethodDescriptor y.desc).map (fun d => d.parameters.length) = some n9) (hR : rm.frames + 1 ≤ R.frames ∧ 8 + (maxL + 11) + rm.locals ≤ R.locals) (hf : cells + rm.cells ≤ R.cells ∧ slots + rm.slots ≤ R.slots) (isC isR : List Nat) (hC : isC.map (fun i => ws[i]?) = wc.map some) (hRr : isR.map (fun i => ws[i]?) = wr.map some) (hnC : va_nd isC = true) (hnR : va_nd isR = true) (hdis : ∀ i ∈ isR, i ∉ isC) (hst : As.reverse ++ rest = st) (hroom : (rest.map fun v => v.category).sum ≤ 8) (hd : decode cc pc = .ok (.invokestatic index, 3)) (kk : ∀ (w : va_W), post w → kx E R G nL (cells + rm.cells) (slots + rm.slots) (wr ++ w) lv (pc + 3) (rest)) : kx E R G nL cells slots ws lv pc st := by
  obtain ⟨p, e, s, m, args, below, meth, c, A, Q⟩ := G
  obtain ⟨hx, hb, hml, hown, hts, hK, hA, hN, ham, hNs, hlk⟩ := C
  intro H locs ls hP hD hS hl
  have hPc := hP.sub (ws' := wc) isC (k_fm hC)
  have hDc := hD.sub (ws' := wc) isC hnC hC
  have hKc := hK
  have hFc := va_free (wc := wc) hD hS hA isC hC
  have hamH : amb (kN E) s H := amb_kept ham (fun a h1 h2 => hS.2.1 a h1 (fun z => h2 (hN a z)))
  refine va_callv (va_runS (As := As) (rest := rest) ⟨hx, hb, hml, hown, hts⟩ (hM H.size) (va_cwS n9 hts hg rfl rfl rfl hd0 hR) ⟨kPre_blind E _ wc H.size, fun U hU hW => ⟨rfl, by rw [hU], Nat.le_trans hNs hS.1, by rw [hU]; exact amb_warm hW hamH, by rw [hU]; exact hPc, va_K.moved hW.alike hK, hDc.weaken (fun _ _ _ h => hN _ h)⟩⟩ rfl hn9 hl.1 hst.symm (lv_room hroom) hd hf) hS (fun q _ h => hFc q h) hFc (fun w t H1 locs1 ht hvm hw9 hB hz1 hk1 hS1 => ?_)
  obtain ⟨hP1, hD1⟩ := hB
  rw [ht] at hP1
  obtain ⟨hP2, hD2⟩ := va_join (wr := wr) (w1 := w) hP hD isC isR hC hRr hnR hdis hk1 hFc hP1 hD1
  exact kk w hw9 H1 locs1 ls hP2 hD2 hS1 hl
theorem kx_callSvT {px : String → va_W → Prop} {post : va_W → Prop} (C : kc E G cc nL own) (hM : kTv E y bytes maxL rm As wc post px) (hg : GoodIn kTb (va_wsS own index y (Cond.code y bytes maxL (none) :: kTb))) (n9 : Nat) (hn9 : As.length = n9) (hd0 : y.cls ≠ "java/lang/invoke/MethodHandle" ∧ y.cls ≠ "java/lang/invoke/VarHandle" ∧ (parseMethodDescriptor y.desc).map (fun d => d.parameters.length) = some n9) (hR : rm.frames + 1 ≤ R.frames ∧ 8 + (maxL + 11) + rm.locals ≤ R.locals) (hf : cells + rm.cells ≤ R.cells ∧ slots + rm.slots ≤ R.slots) (isC isR : List Nat) (hC : isC.map (fun i => ws[i]?) = wc.map some) (hRr : isR.map (fun i => ws[i]?) = wr.map some) (hnC : va_nd isC = true) (hnR : va_nd isR = true) (hdis : ∀ i ∈ isR, i ∉ isC) (hst : As.reverse ++ rest = st) (hroom : (rest.map fun v => v.category).sum ≤ 8) (hd : decode cc pc = .ok (.invokestatic index, 3)) (kx9 : ∀ (n : String) (w : va_W), px n w → kxx E R G nL (cells + rm.cells) (slots + rm.slots) (wr ++ w) n lv pc rest) (kk : ∀ (w : va_W), post w → kx E R G nL (cells + rm.cells) (slots + rm.slots) (wr ++ w) lv (pc + 3) (rest)) : kx E R G nL cells slots ws lv pc st := by
  obtain ⟨p, e, s, m, args, below, meth, c, A, Q⟩ := G
  obtain ⟨hx, hb, hml, hown, hts, hK, hA, hN, ham, hNs, hlk⟩ := C
  intro H locs ls hP hD hS hl
  have hPc := hP.sub (ws' := wc) isC (k_fm hC)
  have hDc := hD.sub (ws' := wc) isC hnC hC
  have hKc := hK
  have hFc := va_free (wc := wc) hD hS hA isC hC
  have hamH : amb (kN E) s H := amb_kept ham (fun a h1 h2 => hS.2.1 a h1 (fun z => h2 (hN a z)))
  refine vx_callv (vx_runS (As := As) (rest := rest) ⟨hx, hb, hml, hown, hts⟩ (hM H.size) (va_cwS n9 hts hg rfl rfl rfl hd0 hR) ⟨kPre_blind E _ wc H.size, fun U hU hW => ⟨rfl, by rw [hU], Nat.le_trans hNs hS.1, by rw [hU]; exact amb_warm hW hamH, by rw [hU]; exact hPc, va_K.moved hW.alike hK, hDc.weaken (fun _ _ _ h => hN _ h)⟩⟩ rfl hn9 hl.1 hst.symm (lv_room hroom) hd hf) hS (fun q _ h => hFc q h) hFc (fun q _ h => hFc q h) (fun n ce q9 w t H1 locs1 ht hvm hu hB hz1 hk1 hS1 hce hcv hcl9 => by
    obtain ⟨hpx, hP1, hD1⟩ := hB
    rw [ht] at hP1
    obtain ⟨hP2, hD2⟩ := va_join (wr := wr) (w1 := w) hP hD isC isR hC hRr hnR hdis hk1 hFc hP1 hD1
    exact kx9 n w hpx H1 locs1 ls q9 ce hP2 hD2 hS1 hl hce hcv hcl9) (fun w t H1 locs1 ht hvm hw9 hB hz1 hk1 hS1 => ?_)
  obtain ⟨hP1, hD1⟩ := hB
  rw [ht] at hP1
  obtain ⟨hP2, hD2⟩ := va_join (wr := wr) (w1 := w) hP hD isC isR hC hRr hnR hdis hk1 hFc hP1 hD1
  exact kk w hw9 H1 locs1 ls hP2 hD2 hS1 hl
theorem kx_callSz {post : Int32 → va_W → Prop} (C : kc E G cc nL own) (hM : kMz E y bytes maxL rm As wc post) (hg : GoodIn kTb (va_wsS own index y (Cond.code y bytes maxL (some .boolean) :: kTb))) (n9 : Nat) (hn9 : As.length = n9) (hd0 : y.cls ≠ "java/lang/invoke/MethodHandle" ∧ y.cls ≠ "java/lang/invoke/VarHandle" ∧ (parseMethodDescriptor y.desc).map (fun d => d.parameters.length) = some n9) (hR : rm.frames + 1 ≤ R.frames ∧ 8 + (maxL + 11) + rm.locals ≤ R.locals) (hf : cells + rm.cells ≤ R.cells ∧ slots + rm.slots ≤ R.slots) (isC isR : List Nat) (hC : isC.map (fun i => ws[i]?) = wc.map some) (hRr : isR.map (fun i => ws[i]?) = wr.map some) (hnC : va_nd isC = true) (hnR : va_nd isR = true) (hdis : ∀ i ∈ isR, i ∉ isC) (hst : As.reverse ++ rest = st) (hroom : (rest.map fun v => v.category).sum ≤ 8) (hd : decode cc pc = .ok (.invokestatic index, 3)) (kk : ∀ (v : Int32) (w : va_W), post v w → kx E R G nL (cells + rm.cells) (slots + rm.slots) (wr ++ w) lv (pc + 3) (.int v :: rest)) : kx E R G nL cells slots ws lv pc st := by
  obtain ⟨p, e, s, m, args, below, meth, c, A, Q⟩ := G
  obtain ⟨hx, hb, hml, hown, hts, hK, hA, hN, ham, hNs, hlk⟩ := C
  intro H locs ls hP hD hS hl
  have hPc := hP.sub (ws' := wc) isC (k_fm hC)
  have hDc := hD.sub (ws' := wc) isC hnC hC
  have hKc := hK
  have hFc := va_free (wc := wc) hD hS hA isC hC
  have hamH : amb (kN E) s H := amb_kept ham (fun a h1 h2 => hS.2.1 a h1 (fun z => h2 (hN a z)))
  refine va_calli (va_runS (As := As) (rest := rest) ⟨hx, hb, hml, hown, hts⟩ (hM H.size) (va_cwS n9 hts hg rfl rfl rfl hd0 hR) ⟨kPre_blind E _ wc H.size, fun U hU hW => ⟨rfl, by rw [hU], Nat.le_trans hNs hS.1, by rw [hU]; exact amb_warm hW hamH, by rw [hU]; exact hPc, va_K.moved hW.alike hK, hDc.weaken (fun _ _ _ h => hN _ h)⟩⟩ rfl hn9 hl.1 hst.symm (lv_room hroom) hd hf) hS (fun q _ h => hFc q h) hFc (fun v w t H1 locs1 ht hvm hw9 hB hz1 hk1 hS1 => ?_)
  obtain ⟨hP1, hD1⟩ := hB
  rw [ht] at hP1
  obtain ⟨hP2, hD2⟩ := va_join (wr := wr) (w1 := w) hP hD isC isR hC hRr hnR hdis hk1 hFc hP1 hD1
  exact kk v w hw9 H1 locs1 ls hP2 hD2 hS1 hl
theorem kx_callSzT {px : String → va_W → Prop} {post : Int32 → va_W → Prop} (C : kc E G cc nL own) (hM : kTz E y bytes maxL rm As wc post px) (hg : GoodIn kTb (va_wsS own index y (Cond.code y bytes maxL (some .boolean) :: kTb))) (n9 : Nat) (hn9 : As.length = n9) (hd0 : y.cls ≠ "java/lang/invoke/MethodHandle" ∧ y.cls ≠ "java/lang/invoke/VarHandle" ∧ (parseMethodDescriptor y.desc).map (fun d => d.parameters.length) = some n9) (hR : rm.frames + 1 ≤ R.frames ∧ 8 + (maxL + 11) + rm.locals ≤ R.locals) (hf : cells + rm.cells ≤ R.cells ∧ slots + rm.slots ≤ R.slots) (isC isR : List Nat) (hC : isC.map (fun i => ws[i]?) = wc.map some) (hRr : isR.map (fun i => ws[i]?) = wr.map some) (hnC : va_nd isC = true) (hnR : va_nd isR = true) (hdis : ∀ i ∈ isR, i ∉ isC) (hst : As.reverse ++ rest = st) (hroom : (rest.map fun v => v.category).sum ≤ 8) (hd : decode cc pc = .ok (.invokestatic index, 3)) (kx9 : ∀ (n : String) (w : va_W), px n w → kxx E R G nL (cells + rm.cells) (slots + rm.slots) (wr ++ w) n lv pc rest) (kk : ∀ (v : Int32) (w : va_W), post v w → kx E R G nL (cells + rm.cells) (slots + rm.slots) (wr ++ w) lv (pc + 3) (.int v :: rest)) : kx E R G nL cells slots ws lv pc st := by
  obtain ⟨p, e, s, m, args, below, meth, c, A, Q⟩ := G
  obtain ⟨hx, hb, hml, hown, hts, hK, hA, hN, ham, hNs, hlk⟩ := C
  intro H locs ls hP hD hS hl
  have hPc := hP.sub (ws' := wc) isC (k_fm hC)
  have hDc := hD.sub (ws' := wc) isC hnC hC
  have hKc := hK
  have hFc := va_free (wc := wc) hD hS hA isC hC
  have hamH : amb (kN E) s H := amb_kept ham (fun a h1 h2 => hS.2.1 a h1 (fun z => h2 (hN a z)))
  refine vx_calli (vx_runS (As := As) (rest := rest) ⟨hx, hb, hml, hown, hts⟩ (hM H.size) (va_cwS n9 hts hg rfl rfl rfl hd0 hR) ⟨kPre_blind E _ wc H.size, fun U hU hW => ⟨rfl, by rw [hU], Nat.le_trans hNs hS.1, by rw [hU]; exact amb_warm hW hamH, by rw [hU]; exact hPc, va_K.moved hW.alike hK, hDc.weaken (fun _ _ _ h => hN _ h)⟩⟩ rfl hn9 hl.1 hst.symm (lv_room hroom) hd hf) hS (fun q _ h => hFc q h) hFc (fun q _ h => hFc q h) (fun n ce q9 w t H1 locs1 ht hvm hu hB hz1 hk1 hS1 hce hcv hcl9 => by
    obtain ⟨hpx, hP1, hD1⟩ := hB
    rw [ht] at hP1
    obtain ⟨hP2, hD2⟩ := va_join (wr := wr) (w1 := w) hP hD isC isR hC hRr hnR hdis hk1 hFc hP1 hD1
    exact kx9 n w hpx H1 locs1 ls q9 ce hP2 hD2 hS1 hl hce hcv hcl9) (fun v w t H1 locs1 ht hvm hw9 hB hz1 hk1 hS1 => ?_)
  obtain ⟨hP1, hD1⟩ := hB
  rw [ht] at hP1
  obtain ⟨hP2, hD2⟩ := va_join (wr := wr) (w1 := w) hP hD isC isR hC hRr hnR hdis hk1 hFc hP1 hD1
  exact kk v w hw9 H1 locs1 ls hP2 hD2 hS1 hl
end KC
end
section
theorem k_max {a b : Nat} (ha : a < 2 ^ 31) (hb : b < 2 ^ 31) : (if nI a < nI b then nI b else nI a) = nI (max a b) := by
  by_cases h : a < b
  · rw [if_pos ((nI_ltI ha hb).mpr h), Nat.max_eq_right (Nat.le_of_lt h)]
  · rw [if_neg (fun z => h ((nI_ltI ha hb).mp z)), Nat.max_eq_left (Nat.not_lt.mp h)]
theorem k_min {a b : Nat} (ha : a < 2 ^ 31) (hb : b < 2 ^ 31) : (if nI b < nI a then nI b else nI a) = nI (min a b) := by
  by_cases h : b < a
  · rw [if_pos ((nI_ltI hb ha).mpr h), Nat.min_eq_right (Nat.le_of_lt h)]
  · rw [if_neg (fun z => h ((nI_ltI hb ha).mp z)), Nat.min_eq_left (Nat.not_lt.mp h)]
theorem k_minL {a b : Nat} (ha : a < 2 ^ 63) (hb : b < 2 ^ 63) : (if lN b < lN a then lN b else lN a) = lN (min a b) := by
  by_cases h : b < a
  · rw [if_pos ((pk_lLT hb ha).mpr h), Nat.min_eq_right (Nat.le_of_lt h)]
  · rw [if_neg (fun z => h ((pk_lLT hb ha).mp z)), Nat.min_eq_left (Nat.not_lt.mp h)]
theorem k_abs {a b : Nat} (ha : a < 2 ^ 30) (hb : b < 2 ^ 30) : (if 0 ≤ nI a - nI b then nI a - nI b else 0 - (nI a - nI b)) = nI (if b ≤ a then a - b else b - a) := by
  by_cases h : b ≤ a
  · rw [if_pos h, pk_sub h, if_pos (nI_pos' (by omega))]
  · have h1 : nI a - nI b < 0 := pk_sneg hb (by omega)
    have h2 : ¬ (0 : Int32) ≤ nI a - nI b := fun z => by
      have z1 := Int32.le_iff_toInt_le.mp z
      have z2 := Int32.lt_iff_toInt_lt.mp h1
      omega
    rw [if_neg h, if_neg h2, ← pk_sub (a := b) (b := a) (by omega)]
    have e : (0 : Int32) - (nI a - nI b) = nI b - nI a := by
      first
        | (rw [Int32.zero_sub, Int32.neg_sub]; done)
        | grind
        | (apply Int32.toBitVec_inj.mp; simp only [Int32.toBitVec_sub]; apply BitVec.eq_of_toNat_eq; simp [BitVec.toNat_sub]; omega)
    exact e
section KR4
variable {E : KE} {R : Room} {G : KG} {cc : ByteArray} {nL : Nat} {own : String} {cells slots : Nat} {ws : va_W} {lv : List (Nat × Value)} {pc : Nat} {st : List Value}
theorem kx_mmax (C : kc E G cc nL own) {a b index : Nat} (ha : a < 2 ^ 31) (hb2 : b < 2 ^ 31) (h1 : Cond.methodLink own index Lib.Math.max.name ∈ kTb) (h2 : Cond.static Lib.Math.max.name ∈ kTb) (h3 : Cond.initialized "java/lang/Math" ∈ kTb) (h4 : Cond.code Lib.Math.max.name Lib.Math.max.code 2 (some .int) ∈ kTb) (hfr : 1 ≤ R.frames) (hlo : (st.map fun v => v.category).sum + 13 ≤ R.locals) (hc : cells ≤ R.cells) (hs : slots ≤ R.slots) (hd : decode cc pc = .ok (.invokestatic index, 3)) (kk : kx E R G nL cells slots ws lv (pc + 3) (.int (nI (max a b)) :: st)) : kx E R G nL cells slots ws lv (pc) (.int (nI b) :: .int (nI a) :: st) := by
  obtain ⟨p, e, s, m, args, below, meth, c, A, Q⟩ := G
  obtain ⟨hx, hb, hml, hown, hts, hK, hA, hN, ham, hNs, hlk⟩ := C
  intro H locs ls hP hD hS hl
  refine va_mmax hx hb (hml.trans hl.1.symm) hown (hts _ h1) (hts _ h2) (hts _ h3) (hts _ h4) hfr hlo hc hs hd ?_
  rw [k_max ha hb2]
  exact (kk H locs ls hP hD hS hl)
theorem kx_mmin (C : kc E G cc nL own) {a b index : Nat} (ha : a < 2 ^ 31) (hb2 : b < 2 ^ 31) (h1 : Cond.methodLink own index Lib.Math.min.name ∈ kTb) (h2 : Cond.static Lib.Math.min.name ∈ kTb) (h3 : Cond.initialized "java/lang/Math" ∈ kTb) (h4 : Cond.code Lib.Math.min.name Lib.Math.min.code 2 (some .int) ∈ kTb) (hfr : 1 ≤ R.frames) (hlo : (st.map fun v => v.category).sum + 13 ≤ R.locals) (hc : cells ≤ R.cells) (hs : slots ≤ R.slots) (hd : decode cc pc = .ok (.invokestatic index, 3)) (kk : kx E R G nL cells slots ws lv (pc + 3) (.int (nI (min a b)) :: st)) : kx E R G nL cells slots ws lv (pc) (.int (nI b) :: .int (nI a) :: st) := by
  obtain ⟨p, e, s, m, args, below, meth, c, A, Q⟩ := G
  obtain ⟨hx, hb, hml, hown, hts, hK, hA, hN, ham, hNs, hlk⟩ := C
  intro H locs ls hP hD hS hl
  refine va_mmin hx hb (hml.trans hl.1.symm) hown (hts _ h1) (hts _ h2) (hts _ h3) (hts _ h4) hfr hlo hc hs hd ?_
  rw [k_min ha hb2]
  exact (kk H locs ls hP hD hS hl)
theorem kx_mabs (C : kc E G cc nL own) {a b index : Nat} (ha : a < 2 ^ 30) (hb2 : b < 2 ^ 30) (h1 : Cond.methodLink own index Lib.Math.abs.name ∈ kTb) (h2 : Cond.static Lib.Math.abs.name ∈ kTb) (h3 : Cond.initialized "java/lang/Math" ∈ kTb) (h4 : Cond.code Lib.Math.abs.name Lib.Math.abs.code 1 (some .int) ∈ kTb) (hfr : 1 ≤ R.frames) (hlo : (st.map fun v => v.category).sum + 13 ≤ R.locals) (hc : cells ≤ R.cells) (hs : slots ≤ R.slots) (hd : decode cc pc = .ok (.invokestatic index, 3)) (kk : kx E R G nL cells slots ws lv (pc + 3) (.int (nI (if b ≤ a then a - b else b - a)) :: st)) : kx E R G nL cells slots ws lv (pc) (.int (nI a - nI b) :: st) := by
  obtain ⟨p, e, s, m, args, below, meth, c, A, Q⟩ := G
  obtain ⟨hx, hb, hml, hown, hts, hK, hA, hN, ham, hNs, hlk⟩ := C
  intro H locs ls hP hD hS hl
  refine va_mabs hx hb (hml.trans hl.1.symm) hown (hts _ h1) (hts _ h2) (hts _ h3) (hts _ h4) hfr hlo hc hs hd ?_
  rw [k_abs ha hb2]
  exact (kk H locs ls hP hD hS hl)
theorem kx_mminL (C : kc E G cc nL own) {a b index : Nat} (ha : a < 2 ^ 63) (hb2 : b < 2 ^ 63) (h1 : Cond.methodLink own index Lib.MathLoose.min_long.x ∈ kTb) (h2 : Cond.static Lib.MathLoose.min_long.x ∈ kTb) (h3 : Cond.initialized "java/lang/Math" ∈ kTb) (h4 : Cond.code Lib.MathLoose.min_long.x Lib.MathLoose.min_long.code 4 (some .long) ∈ kTb) (hfr : 1 ≤ R.frames) (hlo : (st.map fun v => v.category).sum + 15 ≤ R.locals) (hc : cells ≤ R.cells) (hs : slots ≤ R.slots) (hd : decode cc pc = .ok (.invokestatic index, 3)) (kk : kx E R G nL cells slots ws lv (pc + 3) (.long (lN (min a b)) :: st)) : kx E R G nL cells slots ws lv (pc) (.long (lN b) :: .long (lN a) :: st) := by
  obtain ⟨p, e, s, m, args, below, meth, c, A, Q⟩ := G
  obtain ⟨hx, hb, hml, hown, hts, hK, hA, hN, ham, hNs, hlk⟩ := C
  intro H locs ls hP hD hS hl
  refine va_mmin_long hx hb (hml.trans hl.1.symm) hown (hts _ h1) (hts _ h2) (hts _ h3) (hts _ h4) hfr hlo hc hs hd ?_
  rw [k_minL ha hb2]
  exact (kk H locs ls hP hD hS hl)
end KR4
end
section
/-! what the document's words mean, in Nat: sums, fits, costs, places, turns, tails, ways, heads -/
def sumN (f : Nat → Nat) : Nat → Nat
  | 0 => 0
  | n + 1 => sumN f n + f n
def maxN (f : Nat → Nat) : Nat → Nat
  | 0 => 0
  | n + 1 => max (maxN f n) (f n)
def minN (f : Nat → Nat) (M : Nat) : Nat → Nat
  | 0 => M
  | n + 1 => min (minN f M n) (f n)
def numX (p k : Nat) : Nat := k / 12 * 12 + (p + 12 - k % 12) % 12
def fitN (P Wt : Nat → Nat) (s k : Nat) : Nat := sumN (fun p => Wt (s * 12 + p) * P (numX p k)) 12
def gfit (P Wt : Nat → Nat) (s : Nat) : Nat := maxN (fun k => fitN P Wt s k) 24
def costN (P Wt : Nat → Nat) (s k : Nat) : Nat := gfit P Wt s - fitN P Wt s k
def plc (k : Nat) : Nat := 7 * (if k / 12 = 0 then k % 12 else k % 12 + 3) % 12
def dst (a b : Nat) : Nat := if b ≤ a then a - b else b - a
def apt (f t : Nat) : Nat := min (dst (plc f) (plc t)) (12 - dst (plc f) (plc t))
def turnN (b y o f t : Nat) : Nat := if f = t then 0 else b + y * apt f t + (if f / 12 = t / 12 then 0 else o)
/-- the number above all costs that the class uses -/
def kBIG : Nat := 1000000000
def kCAP : Nat := 1000000000000000000
def tlN (c t : Nat → Nat → Nat) : Nat → Nat → Nat → Nat
  | 0, s, k => c s k
  | m + 1, s, k => c s k + minN (fun to => t k to + tlN c t m (s + 1) to) kBIG 24
def wyN (c t : Nat → Nat → Nat) : Nat → Nat → Nat → Nat
  | 0, _, _ => 1
  | m + 1, s, k => min kCAP (sumN (fun to => if t k to + tlN c t m (s + 1) to = minN (fun to => t k to + tlN c t m (s + 1) to) kBIG 24 then wyN c t m (s + 1) to else 0) 24)
def hdN (c t : Nat → Nat → Nat) : Nat → Nat → Nat
  | 0, k => c 0 k
  | s + 1, k => c (s + 1) k + minN (fun fr => hdN c t s fr + t fr k) kBIG 24
theorem sumN_le {f : Nat → Nat} {B : Nat} (h : ∀ j, f j ≤ B) : ∀ n, sumN f n ≤ n * B
  | 0 => by simp [sumN]
  | n + 1 => by
    have h1 := sumN_le h n
    have h2 := h n
    simp only [sumN, Nat.succ_mul]
    omega
theorem maxN_le {f : Nat → Nat} {B : Nat} (h : ∀ j, f j ≤ B) : ∀ n, maxN f n ≤ B
  | 0 => by simp [maxN]
  | n + 1 => by
    have h1 := maxN_le h n
    have h2 := h n
    simp only [maxN]
    omega
theorem le_maxN {f : Nat → Nat} : ∀ {n j : Nat}, j < n → f j ≤ maxN f n
  | 0, j, h => absurd h (Nat.not_lt_zero j)
  | n + 1, j, h => by
    simp only [maxN]
    by_cases e : j = n
    · subst e; omega
    · have := le_maxN (f := f) (n := n) (j := j) (by omega)
      omega
theorem minN_le {f : Nat → Nat} {M : Nat} : ∀ {n j : Nat}, j < n → minN f M n ≤ f j
  | 0, j, h => absurd h (Nat.not_lt_zero j)
  | n + 1, j, h => by
    simp only [minN]
    by_cases e : j = n
    · subst e; omega
    · have := minN_le (f := f) (M := M) (n := n) (j := j) (by omega)
      omega
theorem minN_leM {f : Nat → Nat} {M : Nat} : ∀ n : Nat, minN f M n ≤ M
  | 0 => Nat.le_refl _
  | n + 1 => by
    have := minN_leM (f := f) (M := M) n
    simp only [minN]
    omega
theorem minN_at {f : Nat → Nat} {M : Nat} : ∀ {n : Nat}, minN f M n < M → ∃ j, j < n ∧ minN f M n = f j
  | 0, h => absurd h (Nat.lt_irrefl _)
  | n + 1, h => by
    simp only [minN] at h ⊢
    by_cases e : minN f M n ≤ f n
    · have e1 : min (minN f M n) (f n) = minN f M n := Nat.min_eq_left e
      rw [e1] at h ⊢
      obtain ⟨j, hj, he⟩ := minN_at h
      exact ⟨j, by omega, he⟩
    · exact ⟨n, by omega, by omega⟩
theorem minN_congr {f g : Nat → Nat} {M : Nat} : ∀ {n : Nat}, (∀ j, j < n → f j = g j) → minN f M n = minN g M n
  | 0, _ => rfl
  | n + 1, h => by
    simp only [minN]
    rw [minN_congr (n := n) (fun j hj => h j (by omega)), h n (by omega)]
theorem sumN_congr {f g : Nat → Nat} : ∀ {n : Nat}, (∀ j, j < n → f j = g j) → sumN f n = sumN g n
  | 0, _ => rfl
  | n + 1, h => by
    simp only [sumN]
    rw [sumN_congr (n := n) (fun j hj => h j (by omega)), h n (by omega)]
theorem maxN_congr {f g : Nat → Nat} : ∀ {n : Nat}, (∀ j, j < n → f j = g j) → maxN f n = maxN g n
  | 0, _ => rfl
  | n + 1, h => by
    simp only [maxN]
    rw [maxN_congr (n := n) (fun j hj => h j (by omega)), h n (by omega)]
theorem fitN_le {P Wt : Nat → Nat} (hP : ∀ j, P j ≤ 99) (hW : ∀ j, Wt j ≤ 200) (s k : Nat) : fitN P Wt s k ≤ 237600 := by
  have h := sumN_le (f := fun p => Wt (s * 12 + p) * P (numX p k)) (B := 200 * 99) (fun j => Nat.mul_le_mul (hW _) (hP _)) 12
  unfold fitN
  omega
theorem gfit_le {P Wt : Nat → Nat} (hP : ∀ j, P j ≤ 99) (hW : ∀ j, Wt j ≤ 200) (s : Nat) : gfit P Wt s ≤ 237600 := maxN_le (fun k => fitN_le hP hW s k) 24
theorem costN_le {P Wt : Nat → Nat} (hP : ∀ j, P j ≤ 99) (hW : ∀ j, Wt j ≤ 200) (s k : Nat) : costN P Wt s k ≤ 237600 := Nat.le_trans (Nat.sub_le _ _) (gfit_le hP hW s)
theorem plc_lt (k : Nat) : plc k < 12 := Nat.mod_lt _ (by decide)
theorem apt_le (f t : Nat) : apt f t ≤ 6 := by
  have h1 := plc_lt f
  have h2 := plc_lt t
  unfold apt dst
  split <;> omega
theorem turnN_le {b y o : Nat} (hb : b ≤ 1000) (hy : y ≤ 1000) (ho : o ≤ 1000) (f t : Nat) : turnN b y o f t ≤ 8000 := by
  have h := Nat.mul_le_mul hy (apt_le f t)
  unfold turnN
  split
  · omega
  · split <;> omega
theorem numX_lt {p k : Nat} (hk : k < 24) : numX p k < 24 := by
  unfold numX
  omega
theorem tlN_le {c t : Nat → Nat → Nat} (hc : ∀ s k, c s k ≤ 237600) (ht : ∀ a b, t a b ≤ 8000) : ∀ (m s k : Nat), tlN c t m s k ≤ (m + 1) * 245600
  | 0, s, k => by
    have := hc s k
    simp only [tlN]
    omega
  | m + 1, s, k => by
    have h1 := hc s k
    have h2 := ht k 0
    have h3 := tlN_le hc ht m (s + 1) 0
    have h4 := minN_le (f := fun to => t k to + tlN c t m (s + 1) to) (M := kBIG) (n := 24) (j := 0) (by decide)
    simp only [tlN]
    omega
theorem hdN_le {c t : Nat → Nat → Nat} (hc : ∀ s k, c s k ≤ 237600) (ht : ∀ a b, t a b ≤ 8000) : ∀ (s k : Nat), hdN c t s k ≤ (s + 1) * 245600
  | 0, k => by
    have := hc 0 k
    simp only [hdN]
    omega
  | s + 1, k => by
    have h1 := hc (s + 1) k
    have h2 := ht 0 k
    have h3 := hdN_le hc ht s 0
    have h4 := minN_le (f := fun fr => hdN c t s fr + t fr k) (M := kBIG) (n := 24) (j := 0) (by decide)
    simp only [hdN]
    omega
theorem wyN_le (c t : Nat → Nat → Nat) : ∀ (m s k : Nat), wyN c t m s k ≤ kCAP
  | 0, s, k => by simp only [wyN]; decide
  | m + 1, s, k => Nat.min_le_left _ _
end
section
/-! steps of the loops that fill rows -/
theorem kSc1 {P Wt Sv : Nat → Nat} {sl i : Nat} (h : ∀ j, j < i → Sv (sl * 24 + j) = fitN P Wt sl j) : ∀ j, j < i + 1 → va_up Sv (sl * 24 + i) (fitN P Wt sl i) (sl * 24 + j) = fitN P Wt sl j := by
  intro j hj
  by_cases e : j = i
  · subst e; rw [va_up_self]
  · rw [va_up_ne _ _ (by omega)]
    exact h j (by omega)
theorem kSc2 {Sv Sc : Nat → Nat} {sl i v : Nat} (h : ∀ j, j < sl * 24 ∨ sl * 24 + 24 ≤ j → Sv j = Sc j) (hi : i < 24) : ∀ j, j < sl * 24 ∨ sl * 24 + 24 ≤ j → va_up Sv (sl * 24 + i) v j = Sc j := by
  intro j hj
  rw [va_up_ne _ _ (by omega)]
  exact h j hj
theorem kSc3 {P Wt Sv : Nat → Nat} {sl i : Nat} (h : ∀ j, j < i → Sv (sl * 24 + j) = costN P Wt sl j) (h2 : Sv (sl * 24 + i) = fitN P Wt sl i) : ∀ j, j < i + 1 → va_up Sv (sl * 24 + i) (gfit P Wt sl - Sv (sl * 24 + i)) (sl * 24 + j) = costN P Wt sl j := by
  intro j hj
  by_cases e : j = i
  · subst e; rw [va_up_self, h2]; rfl
  · rw [va_up_ne _ _ (by omega)]
    exact h j (by omega)
theorem kSc4 {P Wt Sv : Nat → Nat} {sl i v : Nat} (h : ∀ j, i ≤ j → j < 24 → Sv (sl * 24 + j) = fitN P Wt sl j) : ∀ j, i + 1 ≤ j → j < 24 → va_up Sv (sl * 24 + i) v (sl * 24 + j) = fitN P Wt sl j := by
  intro j h1 h2
  rw [va_up_ne _ _ (by omega)]
  exact h j (by omega) h2
/-- how many of the first m have the least of the first m, kCAP at most -/
def cntN (F G : Nat → Nat) (m : Nat) : Nat := min kCAP (sumN (fun j => if F j = minN F kBIG m then G j else 0) m)
theorem sumN_zero {f : Nat → Nat} : ∀ {n : Nat}, (∀ j, j < n → f j = 0) → sumN f n = 0
  | 0, _ => rfl
  | n + 1, h => by
    simp only [sumN]
    rw [sumN_zero (n := n) (fun j hj => h j (by omega)), h n (by omega)]
theorem cnt_lt {F G : Nat → Nat} {m : Nat} (h : F m < minN F kBIG m) (hG : G m ≤ kCAP) : G m = cntN F G (m + 1) := by
  have e : minN F kBIG (m + 1) = F m := by simp only [minN]; omega
  unfold cntN
  rw [e]
  simp only [sumN]
  rw [sumN_zero (n := m) (fun j hj => by
    have := minN_le (f := F) (M := kBIG) hj
    exact if_neg (by omega))]
  simp only [if_true]
  omega
theorem cnt_eq {F G : Nat → Nat} {m : Nat} (h : F m = minN F kBIG m) : min (cntN F G m + G m) kCAP = cntN F G (m + 1) := by
  have e : minN F kBIG (m + 1) = minN F kBIG m := by simp only [minN]; omega
  unfold cntN
  rw [e]
  simp only [sumN]
  rw [if_pos h]
  omega
theorem cnt_gt {F G : Nat → Nat} {m : Nat} (h : minN F kBIG m < F m) : cntN F G m = cntN F G (m + 1) := by
  have e : minN F kBIG (m + 1) = minN F kBIG m := by simp only [minN]; omega
  unfold cntN
  rw [e]
  simp only [sumN]
  rw [if_neg (by omega)]
  rfl
theorem min_lt {F : Nat → Nat} {m : Nat} (h : F m < minN F kBIG m) : F m = minN F kBIG (m + 1) := by simp only [minN]; omega
theorem min_ge {F : Nat → Nat} {m : Nat} (h : minN F kBIG m ≤ F m) : minN F kBIG m = minN F kBIG (m + 1) := by simp only [minN]; omega
theorem cntN_le (F G : Nat → Nat) (m : Nat) : cntN F G m ≤ kCAP := Nat.min_le_left _ _
theorem minN_lt31 (F : Nat → Nat) (m : Nat) : minN F kBIG m < 2 ^ 31 := Nat.lt_of_le_of_lt (minN_leM m) (by decide)
end
section
/-! a walk told by its place among the best ones -/
def selN (f g : Nat → Nat) (rest left : Nat) : Nat → Nat × Nat
  | 0 => (24, left)
  | k + 1 => if (selN f g rest left k).1 = 24 then (if f k = rest then (if (selN f g rest left k).2 < g k then (k, (selN f g rest left k).2) else (24, (selN f g rest left k).2 - g k)) else (24, (selN f g rest left k).2)) else selN f g rest left k
theorem selN_le {f g : Nat → Nat} {rest left : Nat} : ∀ {k : Nat}, k ≤ 24 → (selN f g rest left k).1 ≤ 24
  | 0, _ => Nat.le_refl _
  | k + 1, h => by
    have ih := selN_le (f := f) (g := g) (rest := rest) (left := left) (k := k) (by omega)
    simp only [selN]
    split
    · split
      · split
        · show k ≤ 24; omega
        · exact Nat.le_refl _
      · exact Nat.le_refl _
    · exact ih
theorem selN_left {f g : Nat → Nat} {rest left : Nat} : ∀ (k : Nat), (selN f g rest left k).2 ≤ left
  | 0 => Nat.le_refl _
  | k + 1 => by
    have ih := selN_left (f := f) (g := g) (rest := rest) (left := left) k
    simp only [selN]
    split
    · split
      · split
        · exact ih
        · exact Nat.le_trans (Nat.sub_le _ _) ih
      · exact ih
    · exact ih
theorem selN_ne {f g : Nat → Nat} {rest left k : Nat} (h : (selN f g rest left k).1 = 24) (h1 : f k ≠ rest) : selN f g rest left (k + 1) = (24, (selN f g rest left k).2) := by
  simp only [selN]
  rw [if_pos h, if_neg h1]
theorem selN_hit {f g : Nat → Nat} {rest left k : Nat} (h : (selN f g rest left k).1 = 24) (h1 : f k = rest) (h2 : (selN f g rest left k).2 < g k) : selN f g rest left (k + 1) = (k, (selN f g rest left k).2) := by
  simp only [selN]
  rw [if_pos h, if_pos h1, if_pos h2]
theorem selN_sub {f g : Nat → Nat} {rest left k : Nat} (h : (selN f g rest left k).1 = 24) (h1 : f k = rest) (h2 : g k ≤ (selN f g rest left k).2) : selN f g rest left (k + 1) = (24, (selN f g rest left k).2 - g k) := by
  simp only [selN]
  rw [if_pos h, if_pos h1, if_neg (by omega)]
theorem selN_stay {f g : Nat → Nat} {rest left k : Nat} (h : (selN f g rest left k).1 ≠ 24) : ∀ m : Nat, selN f g rest left (k + m) = selN f g rest left k
  | 0 => rfl
  | m + 1 => by
    have ih := selN_stay h m
    show selN f g rest left (k + m + 1) = _
    rw [selN, ih, if_neg h]
def rstV (ls : Nat) (Sc Ta : Nat → Nat) (s bf : Nat) : Nat := if bf = 24 then ls else Ta ((s - 1) * 24 + bf) - Sc ((s - 1) * 24 + bf)
def tinV (Tu : Nat → Nat) (bf k : Nat) : Nat := if bf = 24 then 0 else Tu (bf * 24 + k)
def selS (ls : Nat) (Tu Sc Ta Wa : Nat → Nat) (s bf lf : Nat) (k : Nat) : Nat × Nat := selN (fun k => tinV Tu bf k + Ta (s * 24 + k)) (fun k => Wa (s * 24 + k)) (rstV ls Sc Ta s bf) lf k
def pthV (ls : Nat) (Tu Sc Ta Wa : Nat → Nat) (i : Nat) : Nat → Nat × Nat
  | 0 => (24, i)
  | s + 1 => if s ≠ 0 ∧ (pthV ls Tu Sc Ta Wa i s).1 = 24 then (24, 0) else selS ls Tu Sc Ta Wa s (pthV ls Tu Sc Ta Wa i s).1 (pthV ls Tu Sc Ta Wa i s).2 24
theorem pthV_le {ls : Nat} {Tu Sc Ta Wa : Nat → Nat} {i : Nat} : ∀ s : Nat, (pthV ls Tu Sc Ta Wa i s).1 ≤ 24
  | 0 => Nat.le_refl _
  | s + 1 => by
    simp only [pthV]
    split
    · exact Nat.le_refl _
    · exact selN_le (Nat.le_refl _)
theorem pthV_left {ls : Nat} {Tu Sc Ta Wa : Nat → Nat} {i : Nat} : ∀ s : Nat, (pthV ls Tu Sc Ta Wa i s).2 ≤ i
  | 0 => Nat.le_refl _
  | s + 1 => by
    have ih := pthV_left (ls := ls) (Tu := Tu) (Sc := Sc) (Ta := Ta) (Wa := Wa) (i := i) s
    simp only [pthV]
    split
    · exact Nat.zero_le _
    · exact Nat.le_trans (selN_left _) ih
theorem pthV_stick {ls : Nat} {Tu Sc Ta Wa : Nat → Nat} {i s : Nat} (h : (pthV ls Tu Sc Ta Wa i (s + 1)).1 = 24) : ∀ m : Nat, (pthV ls Tu Sc Ta Wa i (s + 1 + m)).1 = 24
  | 0 => h
  | m + 1 => by
    have ih := pthV_stick h m
    show (pthV ls Tu Sc Ta Wa i (s + 1 + m + 1)).1 = 24
    rw [pthV, if_pos ⟨by omega, ih⟩]
theorem up_le {F : Nat → Nat} {B k v : Nat} (h : ∀ j, F j ≤ B) (hv : v ≤ B) : ∀ j, va_up F k v j ≤ B := fun j => by
  by_cases e : j = k
  · rw [e, va_up_self]; exact hv
  · rw [va_up_ne _ _ e]; exact h j
theorem kD_neg {m : Nat} (h : m ≤ 1000) : nI m - nI 1 < 0 ↔ m = 0 := by
  by_cases e : m = 0
  · subst e
    exact ⟨fun _ => rfl, fun _ => by decide +kernel⟩
  · rw [pk_sub (by omega)]
    exact ⟨fun z => absurd z (nI_pos (by omega)), fun z => absurd z e⟩
theorem kID (a : Nat) : nI a + Int32.ofInt (-1) = nI a - nI 1 := by
  rw [Int32.sub_eq_add_neg]
  rfl
end
section
/-! the world of an object of KeyWalks: the object, its nine rows; all that they hold, as natural numbers -/
def kwW (E : KE) (K : Nat → Nat) (b y o n ls bc tk hk : Nat) (P Wt Tu Sc Ta Wa He Fk Pk : Nat → Nat) : va_W :=
  [(K 0, .inr (0, [.ref (K 1), .ref (K 2), .int (nI b), .int (nI y), .int (nI o), .int (nI n), .ref (K 3), .ref (K 4), .ref (K 5), .ref (K 6), .ref (K 7), .ref (K 8), .ref (K 9), .int (nI ls), .long (lN bc), .int (nI tk), .int (nI hk)])),
   (K 1, .inl (kI E, 24, .inl (nF P))), (K 2, .inl (kI E, 480, .inl (nF Wt))), (K 3, .inl (kI E, 576, .inl (nF Tu))), (K 4, .inl (kI E, 960, .inl (nF Sc))), (K 5, .inl (kI E, 960, .inl (nF Ta))), (K 6, .inl (kL E, 960, .inr (.inl (lF Wa)))), (K 7, .inl (kI E, 960, .inl (nF He))), (K 8, .inl (kI E, 40, .inl (nF Fk))), (K 9, .inl (kI E, 40, .inl (nF Pk)))]
end
section
theorem dX0_init_0 : decode cX0_init 0 = .ok (.aload_n 0, 1) := by decide +kernel
theorem dX0_init_1 : decode cX0_init 1 = .ok (.invokespecial 1, 3) := by decide +kernel
theorem dX0_init_4 : decode cX0_init 4 = .ok (.aload_n 0, 1) := by decide +kernel
theorem dX0_init_5 : decode cX0_init 5 = .ok (.bipush 24, 2) := by decide +kernel
theorem dX0_init_7 : decode cX0_init 7 = .ok (.newarray .int, 2) := by decide +kernel
theorem dX0_init_9 : decode cX0_init 9 = .ok (.putfield 9, 3) := by decide +kernel
theorem dX0_init_12 : decode cX0_init 12 = .ok (.aload_n 0, 1) := by decide +kernel
theorem dX0_init_13 : decode cX0_init 13 = .ok (.sipush 480, 3) := by decide +kernel
theorem dX0_init_16 : decode cX0_init 16 = .ok (.newarray .int, 2) := by decide +kernel
theorem dX0_init_18 : decode cX0_init 18 = .ok (.putfield 13, 3) := by decide +kernel
theorem dX0_init_21 : decode cX0_init 21 = .ok (.aload_n 0, 1) := by decide +kernel
theorem dX0_init_22 : decode cX0_init 22 = .ok (.sipush 576, 3) := by decide +kernel
theorem dX0_init_25 : decode cX0_init 25 = .ok (.newarray .int, 2) := by decide +kernel
theorem dX0_init_27 : decode cX0_init 27 = .ok (.putfield 16, 3) := by decide +kernel
theorem dX0_init_30 : decode cX0_init 30 = .ok (.aload_n 0, 1) := by decide +kernel
theorem dX0_init_31 : decode cX0_init 31 = .ok (.sipush 960, 3) := by decide +kernel
theorem dX0_init_34 : decode cX0_init 34 = .ok (.newarray .int, 2) := by decide +kernel
theorem dX0_init_36 : decode cX0_init 36 = .ok (.putfield 19, 3) := by decide +kernel
theorem dX0_init_39 : decode cX0_init 39 = .ok (.aload_n 0, 1) := by decide +kernel
theorem dX0_init_40 : decode cX0_init 40 = .ok (.sipush 960, 3) := by decide +kernel
theorem dX0_init_43 : decode cX0_init 43 = .ok (.newarray .int, 2) := by decide +kernel
theorem dX0_init_45 : decode cX0_init 45 = .ok (.putfield 22, 3) := by decide +kernel
theorem dX0_init_48 : decode cX0_init 48 = .ok (.aload_n 0, 1) := by decide +kernel
theorem dX0_init_49 : decode cX0_init 49 = .ok (.sipush 960, 3) := by decide +kernel
theorem dX0_init_52 : decode cX0_init 52 = .ok (.newarray .long, 2) := by decide +kernel
theorem dX0_init_54 : decode cX0_init 54 = .ok (.putfield 25, 3) := by decide +kernel
theorem dX0_init_57 : decode cX0_init 57 = .ok (.aload_n 0, 1) := by decide +kernel
theorem dX0_init_58 : decode cX0_init 58 = .ok (.sipush 960, 3) := by decide +kernel
theorem dX0_init_61 : decode cX0_init 61 = .ok (.newarray .int, 2) := by decide +kernel
theorem dX0_init_63 : decode cX0_init 63 = .ok (.putfield 29, 3) := by decide +kernel
theorem dX0_init_66 : decode cX0_init 66 = .ok (.aload_n 0, 1) := by decide +kernel
theorem dX0_init_67 : decode cX0_init 67 = .ok (.bipush 40, 2) := by decide +kernel
theorem dX0_init_69 : decode cX0_init 69 = .ok (.newarray .int, 2) := by decide +kernel
theorem dX0_init_71 : decode cX0_init 71 = .ok (.putfield 32, 3) := by decide +kernel
theorem dX0_init_74 : decode cX0_init 74 = .ok (.aload_n 0, 1) := by decide +kernel
theorem dX0_init_75 : decode cX0_init 75 = .ok (.bipush 40, 2) := by decide +kernel
theorem dX0_init_77 : decode cX0_init 77 = .ok (.newarray .int, 2) := by decide +kernel
theorem dX0_init_79 : decode cX0_init 79 = .ok (.putfield 35, 3) := by decide +kernel
theorem dX0_init_82 : decode cX0_init 82 = .ok (.aload_n 0, 1) := by decide +kernel
theorem dX0_init_83 : decode cX0_init 83 = .ok (.invokevirtual 38, 3) := by decide +kernel
theorem dX0_init_86 : decode cX0_init 86 = .ok (.return_, 1) := by decide +kernel
theorem dX0_clear_0 : decode cX0_clear 0 = .ok (.aload_n 0, 1) := by decide +kernel
theorem dX0_clear_1 : decode cX0_clear 1 = .ok (.getfield 41, 3) := by decide +kernel
theorem dX0_clear_4 : decode cX0_clear 4 = .ok (.istore_n 1, 1) := by decide +kernel
theorem dX0_clear_5 : decode cX0_clear 5 = .ok (.aload_n 0, 1) := by decide +kernel
theorem dX0_clear_6 : decode cX0_clear 6 = .ok (.invokevirtual 38, 3) := by decide +kernel
theorem dX0_clear_9 : decode cX0_clear 9 = .ok (.iload_n 1, 1) := by decide +kernel
theorem dX0_clear_10 : decode cX0_clear 10 = .ok (.ireturn, 1) := by decide +kernel
theorem dX0_profile_0 : decode cX0_profile 0 = .ok (.iload_n 1, 1) := by decide +kernel
theorem dX0_profile_1 : decode cX0_profile 1 = .ok (.iconst 0, 1) := by decide +kernel
theorem dX0_profile_2 : decode cX0_profile 2 = .ok (.iconst 1, 1) := by decide +kernel
theorem dX0_profile_3 : decode cX0_profile 3 = .ok (.invokestatic 45, 3) := by decide +kernel
theorem dX0_profile_6 : decode cX0_profile 6 = .ok (.iload_n 2, 1) := by decide +kernel
theorem dX0_profile_7 : decode cX0_profile 7 = .ok (.iconst 0, 1) := by decide +kernel
theorem dX0_profile_8 : decode cX0_profile 8 = .ok (.bipush 11, 2) := by decide +kernel
theorem dX0_profile_10 : decode cX0_profile 10 = .ok (.invokestatic 45, 3) := by decide +kernel
theorem dX0_profile_13 : decode cX0_profile 13 = .ok (.iload_n 3, 1) := by decide +kernel
theorem dX0_profile_14 : decode cX0_profile 14 = .ok (.iconst 0, 1) := by decide +kernel
theorem dX0_profile_15 : decode cX0_profile 15 = .ok (.bipush 99, 2) := by decide +kernel
theorem dX0_profile_17 : decode cX0_profile 17 = .ok (.invokestatic 45, 3) := by decide +kernel
theorem dX0_profile_20 : decode cX0_profile 20 = .ok (.iload_n 1, 1) := by decide +kernel
theorem dX0_profile_21 : decode cX0_profile 21 = .ok (.bipush 12, 2) := by decide +kernel
theorem dX0_profile_23 : decode cX0_profile 23 = .ok (.imul, 1) := by decide +kernel
theorem dX0_profile_24 : decode cX0_profile 24 = .ok (.iload_n 2, 1) := by decide +kernel
theorem dX0_profile_25 : decode cX0_profile 25 = .ok (.iadd, 1) := by decide +kernel
theorem dX0_profile_26 : decode cX0_profile 26 = .ok (.istore 4, 2) := by decide +kernel
theorem dX0_profile_28 : decode cX0_profile 28 = .ok (.aload_n 0, 1) := by decide +kernel
theorem dX0_profile_29 : decode cX0_profile 29 = .ok (.getfield 9, 3) := by decide +kernel
theorem dX0_profile_32 : decode cX0_profile 32 = .ok (.iload 4, 2) := by decide +kernel
theorem dX0_profile_34 : decode cX0_profile 34 = .ok (.iaload, 1) := by decide +kernel
theorem dX0_profile_35 : decode cX0_profile 35 = .ok (.istore 5, 2) := by decide +kernel
theorem dX0_profile_37 : decode cX0_profile 37 = .ok (.aload_n 0, 1) := by decide +kernel
theorem dX0_profile_38 : decode cX0_profile 38 = .ok (.getfield 9, 3) := by decide +kernel
theorem dX0_profile_41 : decode cX0_profile 41 = .ok (.iload 4, 2) := by decide +kernel
theorem dX0_profile_43 : decode cX0_profile 43 = .ok (.iload_n 3, 1) := by decide +kernel
theorem dX0_profile_44 : decode cX0_profile 44 = .ok (.iastore, 1) := by decide +kernel
theorem dX0_profile_45 : decode cX0_profile 45 = .ok (.aload_n 0, 1) := by decide +kernel
theorem dX0_profile_46 : decode cX0_profile 46 = .ok (.invokevirtual 49, 3) := by decide +kernel
theorem dX0_profile_49 : decode cX0_profile 49 = .ok (.iload 5, 2) := by decide +kernel
theorem dX0_profile_51 : decode cX0_profile 51 = .ok (.ireturn, 1) := by decide +kernel
theorem dX0_costs_0 : decode cX0_costs 0 = .ok (.iload_n 1, 1) := by decide +kernel
theorem dX0_costs_1 : decode cX0_costs 1 = .ok (.iconst 0, 1) := by decide +kernel
theorem dX0_costs_2 : decode cX0_costs 2 = .ok (.sipush 1000, 3) := by decide +kernel
theorem dX0_costs_5 : decode cX0_costs 5 = .ok (.invokestatic 45, 3) := by decide +kernel
theorem dX0_costs_8 : decode cX0_costs 8 = .ok (.iload_n 2, 1) := by decide +kernel
theorem dX0_costs_9 : decode cX0_costs 9 = .ok (.iconst 0, 1) := by decide +kernel
theorem dX0_costs_10 : decode cX0_costs 10 = .ok (.sipush 1000, 3) := by decide +kernel
theorem dX0_costs_13 : decode cX0_costs 13 = .ok (.invokestatic 45, 3) := by decide +kernel
theorem dX0_costs_16 : decode cX0_costs 16 = .ok (.iload_n 3, 1) := by decide +kernel
theorem dX0_costs_17 : decode cX0_costs 17 = .ok (.iconst 0, 1) := by decide +kernel
theorem dX0_costs_18 : decode cX0_costs 18 = .ok (.sipush 1000, 3) := by decide +kernel
theorem dX0_costs_21 : decode cX0_costs 21 = .ok (.invokestatic 45, 3) := by decide +kernel
theorem dX0_costs_24 : decode cX0_costs 24 = .ok (.aload_n 0, 1) := by decide +kernel
theorem dX0_costs_25 : decode cX0_costs 25 = .ok (.getfield 52, 3) := by decide +kernel
theorem dX0_costs_28 : decode cX0_costs 28 = .ok (.iload_n 1, 1) := by decide +kernel
theorem dX0_costs_29 : decode cX0_costs 29 = .ok (.if_icmp .eq 7, 3) := by decide +kernel
theorem dX0_costs_32 : decode cX0_costs 32 = .ok (.iconst 1, 1) := by decide +kernel
theorem dX0_costs_33 : decode cX0_costs 33 = .ok (.goto 4, 3) := by decide +kernel
theorem dX0_costs_36 : decode cX0_costs 36 = .ok (.iconst 0, 1) := by decide +kernel
theorem dX0_costs_37 : decode cX0_costs 37 = .ok (.aload_n 0, 1) := by decide +kernel
theorem dX0_costs_38 : decode cX0_costs 38 = .ok (.getfield 55, 3) := by decide +kernel
theorem dX0_costs_41 : decode cX0_costs 41 = .ok (.iload_n 2, 1) := by decide +kernel
theorem dX0_costs_42 : decode cX0_costs 42 = .ok (.if_icmp .eq 7, 3) := by decide +kernel
theorem dX0_costs_45 : decode cX0_costs 45 = .ok (.iconst 1, 1) := by decide +kernel
theorem dX0_costs_46 : decode cX0_costs 46 = .ok (.goto 4, 3) := by decide +kernel
theorem dX0_costs_49 : decode cX0_costs 49 = .ok (.iconst 0, 1) := by decide +kernel
theorem dX0_costs_50 : decode cX0_costs 50 = .ok (.iadd, 1) := by decide +kernel
theorem dX0_costs_51 : decode cX0_costs 51 = .ok (.aload_n 0, 1) := by decide +kernel
theorem dX0_costs_52 : decode cX0_costs 52 = .ok (.getfield 58, 3) := by decide +kernel
theorem dX0_costs_55 : decode cX0_costs 55 = .ok (.iload_n 3, 1) := by decide +kernel
theorem dX0_costs_56 : decode cX0_costs 56 = .ok (.if_icmp .eq 7, 3) := by decide +kernel
theorem dX0_costs_59 : decode cX0_costs 59 = .ok (.iconst 1, 1) := by decide +kernel
theorem dX0_costs_60 : decode cX0_costs 60 = .ok (.goto 4, 3) := by decide +kernel
theorem dX0_costs_63 : decode cX0_costs 63 = .ok (.iconst 0, 1) := by decide +kernel
theorem dX0_costs_64 : decode cX0_costs 64 = .ok (.iadd, 1) := by decide +kernel
theorem dX0_costs_65 : decode cX0_costs 65 = .ok (.istore 4, 2) := by decide +kernel
theorem dX0_costs_67 : decode cX0_costs 67 = .ok (.aload_n 0, 1) := by decide +kernel
theorem dX0_costs_68 : decode cX0_costs 68 = .ok (.iload_n 1, 1) := by decide +kernel
theorem dX0_costs_69 : decode cX0_costs 69 = .ok (.putfield 52, 3) := by decide +kernel
theorem dX0_costs_72 : decode cX0_costs 72 = .ok (.aload_n 0, 1) := by decide +kernel
theorem dX0_costs_73 : decode cX0_costs 73 = .ok (.iload_n 2, 1) := by decide +kernel
theorem dX0_costs_74 : decode cX0_costs 74 = .ok (.putfield 55, 3) := by decide +kernel
theorem dX0_costs_77 : decode cX0_costs 77 = .ok (.aload_n 0, 1) := by decide +kernel
theorem dX0_costs_78 : decode cX0_costs 78 = .ok (.iload_n 3, 1) := by decide +kernel
theorem dX0_costs_79 : decode cX0_costs 79 = .ok (.putfield 58, 3) := by decide +kernel
theorem dX0_costs_82 : decode cX0_costs 82 = .ok (.aload_n 0, 1) := by decide +kernel
theorem dX0_costs_83 : decode cX0_costs 83 = .ok (.invokevirtual 49, 3) := by decide +kernel
theorem dX0_costs_86 : decode cX0_costs 86 = .ok (.iload 4, 2) := by decide +kernel
theorem dX0_costs_88 : decode cX0_costs 88 = .ok (.ireturn, 1) := by decide +kernel
theorem dX0_slice_0 : decode cX0_slice 0 = .ok (.aload_n 0, 1) := by decide +kernel
theorem dX0_slice_1 : decode cX0_slice 1 = .ok (.getfield 41, 3) := by decide +kernel
theorem dX0_slice_4 : decode cX0_slice 4 = .ok (.bipush 40, 2) := by decide +kernel
theorem dX0_slice_6 : decode cX0_slice 6 = .ok (.if_icmp .lt 13, 3) := by decide +kernel
theorem dX0_slice_9 : decode cX0_slice 9 = .ok (.new 61, 3) := by decide +kernel
theorem dX0_slice_12 : decode cX0_slice 12 = .ok (.dup, 1) := by decide +kernel
theorem dX0_slice_13 : decode cX0_slice 13 = .ok (.ldc 63, 2) := by decide +kernel
theorem dX0_slice_15 : decode cX0_slice 15 = .ok (.invokespecial 65, 3) := by decide +kernel
theorem dX0_slice_18 : decode cX0_slice 18 = .ok (.athrow, 1) := by decide +kernel
theorem dX0_slice_19 : decode cX0_slice 19 = .ok (.aload_n 0, 1) := by decide +kernel
theorem dX0_slice_20 : decode cX0_slice 20 = .ok (.getfield 41, 3) := by decide +kernel
theorem dX0_slice_23 : decode cX0_slice 23 = .ok (.istore_n 1, 1) := by decide +kernel
theorem dX0_slice_24 : decode cX0_slice 24 = .ok (.iconst 0, 1) := by decide +kernel
theorem dX0_slice_25 : decode cX0_slice 25 = .ok (.istore_n 2, 1) := by decide +kernel
theorem dX0_slice_26 : decode cX0_slice 26 = .ok (.iload_n 2, 1) := by decide +kernel
theorem dX0_slice_27 : decode cX0_slice 27 = .ok (.bipush 12, 2) := by decide +kernel
theorem dX0_slice_29 : decode cX0_slice 29 = .ok (.if_icmp .ge 21, 3) := by decide +kernel
theorem dX0_slice_32 : decode cX0_slice 32 = .ok (.aload_n 0, 1) := by decide +kernel
theorem dX0_slice_33 : decode cX0_slice 33 = .ok (.getfield 13, 3) := by decide +kernel
theorem dX0_slice_36 : decode cX0_slice 36 = .ok (.iload_n 1, 1) := by decide +kernel
theorem dX0_slice_37 : decode cX0_slice 37 = .ok (.bipush 12, 2) := by decide +kernel
theorem dX0_slice_39 : decode cX0_slice 39 = .ok (.imul, 1) := by decide +kernel
theorem dX0_slice_40 : decode cX0_slice 40 = .ok (.iload_n 2, 1) := by decide +kernel
theorem dX0_slice_41 : decode cX0_slice 41 = .ok (.iadd, 1) := by decide +kernel
theorem dX0_slice_42 : decode cX0_slice 42 = .ok (.iconst 0, 1) := by decide +kernel
theorem dX0_slice_43 : decode cX0_slice 43 = .ok (.iastore, 1) := by decide +kernel
theorem dX0_slice_44 : decode cX0_slice 44 = .ok (.iinc 2 1, 3) := by decide +kernel
theorem dX0_slice_47 : decode cX0_slice 47 = .ok (.goto (-21), 3) := by decide +kernel
theorem dX0_slice_50 : decode cX0_slice 50 = .ok (.aload_n 0, 1) := by decide +kernel
theorem dX0_slice_51 : decode cX0_slice 51 = .ok (.dup, 1) := by decide +kernel
theorem dX0_slice_52 : decode cX0_slice 52 = .ok (.getfield 41, 3) := by decide +kernel
theorem dX0_slice_55 : decode cX0_slice 55 = .ok (.iconst 1, 1) := by decide +kernel
theorem dX0_slice_56 : decode cX0_slice 56 = .ok (.iadd, 1) := by decide +kernel
theorem dX0_slice_57 : decode cX0_slice 57 = .ok (.putfield 41, 3) := by decide +kernel
theorem dX0_slice_60 : decode cX0_slice 60 = .ok (.aload_n 0, 1) := by decide +kernel
theorem dX0_slice_61 : decode cX0_slice 61 = .ok (.invokevirtual 49, 3) := by decide +kernel
theorem dX0_slice_64 : decode cX0_slice 64 = .ok (.iload_n 1, 1) := by decide +kernel
theorem dX0_slice_65 : decode cX0_slice 65 = .ok (.ireturn, 1) := by decide +kernel
theorem dX0_note_0 : decode cX0_note 0 = .ok (.aload_n 0, 1) := by decide +kernel
theorem dX0_note_1 : decode cX0_note 1 = .ok (.iload_n 1, 1) := by decide +kernel
theorem dX0_note_2 : decode cX0_note 2 = .ok (.invokevirtual 68, 3) := by decide +kernel
theorem dX0_note_5 : decode cX0_note 5 = .ok (.iload_n 2, 1) := by decide +kernel
theorem dX0_note_6 : decode cX0_note 6 = .ok (.iconst 0, 1) := by decide +kernel
theorem dX0_note_7 : decode cX0_note 7 = .ok (.bipush 11, 2) := by decide +kernel
theorem dX0_note_9 : decode cX0_note 9 = .ok (.invokestatic 45, 3) := by decide +kernel
theorem dX0_note_12 : decode cX0_note 12 = .ok (.iload_n 3, 1) := by decide +kernel
theorem dX0_note_13 : decode cX0_note 13 = .ok (.iconst 1, 1) := by decide +kernel
theorem dX0_note_14 : decode cX0_note 14 = .ok (.sipush 200, 3) := by decide +kernel
theorem dX0_note_17 : decode cX0_note 17 = .ok (.invokestatic 45, 3) := by decide +kernel
theorem dX0_note_20 : decode cX0_note 20 = .ok (.iload_n 1, 1) := by decide +kernel
theorem dX0_note_21 : decode cX0_note 21 = .ok (.bipush 12, 2) := by decide +kernel
theorem dX0_note_23 : decode cX0_note 23 = .ok (.imul, 1) := by decide +kernel
theorem dX0_note_24 : decode cX0_note 24 = .ok (.iload_n 2, 1) := by decide +kernel
theorem dX0_note_25 : decode cX0_note 25 = .ok (.iadd, 1) := by decide +kernel
theorem dX0_note_26 : decode cX0_note 26 = .ok (.istore 4, 2) := by decide +kernel
theorem dX0_note_28 : decode cX0_note 28 = .ok (.aload_n 0, 1) := by decide +kernel
theorem dX0_note_29 : decode cX0_note 29 = .ok (.getfield 13, 3) := by decide +kernel
theorem dX0_note_32 : decode cX0_note 32 = .ok (.iload 4, 2) := by decide +kernel
theorem dX0_note_34 : decode cX0_note 34 = .ok (.iaload, 1) := by decide +kernel
theorem dX0_note_35 : decode cX0_note 35 = .ok (.iload_n 3, 1) := by decide +kernel
theorem dX0_note_36 : decode cX0_note 36 = .ok (.iadd, 1) := by decide +kernel
theorem dX0_note_37 : decode cX0_note 37 = .ok (.istore 5, 2) := by decide +kernel
theorem dX0_note_39 : decode cX0_note 39 = .ok (.iload 5, 2) := by decide +kernel
theorem dX0_note_41 : decode cX0_note 41 = .ok (.sipush 200, 3) := by decide +kernel
theorem dX0_note_44 : decode cX0_note 44 = .ok (.if_icmp .le 13, 3) := by decide +kernel
theorem dX0_note_47 : decode cX0_note 47 = .ok (.new 61, 3) := by decide +kernel
theorem dX0_note_50 : decode cX0_note 50 = .ok (.dup, 1) := by decide +kernel
theorem dX0_note_51 : decode cX0_note 51 = .ok (.ldc 72, 2) := by decide +kernel
theorem dX0_note_53 : decode cX0_note 53 = .ok (.invokespecial 65, 3) := by decide +kernel
theorem dX0_note_56 : decode cX0_note 56 = .ok (.athrow, 1) := by decide +kernel
theorem dX0_note_57 : decode cX0_note 57 = .ok (.aload_n 0, 1) := by decide +kernel
theorem dX0_note_58 : decode cX0_note 58 = .ok (.getfield 13, 3) := by decide +kernel
theorem dX0_note_61 : decode cX0_note 61 = .ok (.iload 4, 2) := by decide +kernel
theorem dX0_note_63 : decode cX0_note 63 = .ok (.iload 5, 2) := by decide +kernel
theorem dX0_note_65 : decode cX0_note 65 = .ok (.iastore, 1) := by decide +kernel
theorem dX0_note_66 : decode cX0_note 66 = .ok (.aload_n 0, 1) := by decide +kernel
theorem dX0_note_67 : decode cX0_note 67 = .ok (.invokevirtual 49, 3) := by decide +kernel
theorem dX0_note_70 : decode cX0_note 70 = .ok (.iload 5, 2) := by decide +kernel
theorem dX0_note_72 : decode cX0_note 72 = .ok (.ireturn, 1) := by decide +kernel
theorem dX0_drop_0 : decode cX0_drop 0 = .ok (.aload_n 0, 1) := by decide +kernel
theorem dX0_drop_1 : decode cX0_drop 1 = .ok (.getfield 41, 3) := by decide +kernel
theorem dX0_drop_4 : decode cX0_drop 4 = .ok (.ifCond .gt 13, 3) := by decide +kernel
theorem dX0_drop_7 : decode cX0_drop 7 = .ok (.new 61, 3) := by decide +kernel
theorem dX0_drop_10 : decode cX0_drop 10 = .ok (.dup, 1) := by decide +kernel
theorem dX0_drop_11 : decode cX0_drop 11 = .ok (.ldc 74, 2) := by decide +kernel
theorem dX0_drop_13 : decode cX0_drop 13 = .ok (.invokespecial 65, 3) := by decide +kernel
theorem dX0_drop_16 : decode cX0_drop 16 = .ok (.athrow, 1) := by decide +kernel
theorem dX0_drop_17 : decode cX0_drop 17 = .ok (.aload_n 0, 1) := by decide +kernel
theorem dX0_drop_18 : decode cX0_drop 18 = .ok (.dup, 1) := by decide +kernel
theorem dX0_drop_19 : decode cX0_drop 19 = .ok (.getfield 41, 3) := by decide +kernel
theorem dX0_drop_22 : decode cX0_drop 22 = .ok (.iconst 1, 1) := by decide +kernel
theorem dX0_drop_23 : decode cX0_drop 23 = .ok (.isub, 1) := by decide +kernel
theorem dX0_drop_24 : decode cX0_drop 24 = .ok (.putfield 41, 3) := by decide +kernel
theorem dX0_drop_27 : decode cX0_drop 27 = .ok (.aload_n 0, 1) := by decide +kernel
theorem dX0_drop_28 : decode cX0_drop 28 = .ok (.invokevirtual 49, 3) := by decide +kernel
theorem dX0_drop_31 : decode cX0_drop 31 = .ok (.aload_n 0, 1) := by decide +kernel
theorem dX0_drop_32 : decode cX0_drop 32 = .ok (.getfield 41, 3) := by decide +kernel
theorem dX0_drop_35 : decode cX0_drop 35 = .ok (.ireturn, 1) := by decide +kernel
theorem dX0_fit_0 : decode cX0_fit 0 = .ok (.aload_n 0, 1) := by decide +kernel
theorem dX0_fit_1 : decode cX0_fit 1 = .ok (.iload_n 1, 1) := by decide +kernel
theorem dX0_fit_2 : decode cX0_fit 2 = .ok (.invokevirtual 68, 3) := by decide +kernel
theorem dX0_fit_5 : decode cX0_fit 5 = .ok (.iload_n 2, 1) := by decide +kernel
theorem dX0_fit_6 : decode cX0_fit 6 = .ok (.invokestatic 76, 3) := by decide +kernel
theorem dX0_fit_9 : decode cX0_fit 9 = .ok (.aload_n 0, 1) := by decide +kernel
theorem dX0_fit_10 : decode cX0_fit 10 = .ok (.iload_n 1, 1) := by decide +kernel
theorem dX0_fit_11 : decode cX0_fit 11 = .ok (.iload_n 2, 1) := by decide +kernel
theorem dX0_fit_12 : decode cX0_fit 12 = .ok (.invokevirtual 79, 3) := by decide +kernel
theorem dX0_fit_15 : decode cX0_fit 15 = .ok (.ireturn, 1) := by decide +kernel
theorem dX0_cost_0 : decode cX0_cost 0 = .ok (.aload_n 0, 1) := by decide +kernel
theorem dX0_cost_1 : decode cX0_cost 1 = .ok (.iload_n 1, 1) := by decide +kernel
theorem dX0_cost_2 : decode cX0_cost 2 = .ok (.invokevirtual 68, 3) := by decide +kernel
theorem dX0_cost_5 : decode cX0_cost 5 = .ok (.iload_n 2, 1) := by decide +kernel
theorem dX0_cost_6 : decode cX0_cost 6 = .ok (.invokestatic 76, 3) := by decide +kernel
theorem dX0_cost_9 : decode cX0_cost 9 = .ok (.aload_n 0, 1) := by decide +kernel
theorem dX0_cost_10 : decode cX0_cost 10 = .ok (.iload_n 1, 1) := by decide +kernel
theorem dX0_cost_11 : decode cX0_cost 11 = .ok (.invokevirtual 83, 3) := by decide +kernel
theorem dX0_cost_14 : decode cX0_cost 14 = .ok (.aload_n 0, 1) := by decide +kernel
theorem dX0_cost_15 : decode cX0_cost 15 = .ok (.iload_n 1, 1) := by decide +kernel
theorem dX0_cost_16 : decode cX0_cost 16 = .ok (.iload_n 2, 1) := by decide +kernel
theorem dX0_cost_17 : decode cX0_cost 17 = .ok (.invokevirtual 79, 3) := by decide +kernel
theorem dX0_cost_20 : decode cX0_cost 20 = .ok (.isub, 1) := by decide +kernel
theorem dX0_cost_21 : decode cX0_cost 21 = .ok (.ireturn, 1) := by decide +kernel
theorem dX0_turn_0 : decode cX0_turn 0 = .ok (.iload_n 1, 1) := by decide +kernel
theorem dX0_turn_1 : decode cX0_turn 1 = .ok (.invokestatic 76, 3) := by decide +kernel
theorem dX0_turn_4 : decode cX0_turn 4 = .ok (.iload_n 2, 1) := by decide +kernel
theorem dX0_turn_5 : decode cX0_turn 5 = .ok (.invokestatic 76, 3) := by decide +kernel
theorem dX0_turn_8 : decode cX0_turn 8 = .ok (.aload_n 0, 1) := by decide +kernel
theorem dX0_turn_9 : decode cX0_turn 9 = .ok (.iload_n 1, 1) := by decide +kernel
theorem dX0_turn_10 : decode cX0_turn 10 = .ok (.iload_n 2, 1) := by decide +kernel
theorem dX0_turn_11 : decode cX0_turn 11 = .ok (.invokevirtual 87, 3) := by decide +kernel
theorem dX0_turn_14 : decode cX0_turn 14 = .ok (.ireturn, 1) := by decide +kernel
theorem dX0_least_0 : decode cX0_least 0 = .ok (.aload_n 0, 1) := by decide +kernel
theorem dX0_least_1 : decode cX0_least 1 = .ok (.invokevirtual 90, 3) := by decide +kernel
theorem dX0_least_4 : decode cX0_least 4 = .ok (.aload_n 0, 1) := by decide +kernel
theorem dX0_least_5 : decode cX0_least 5 = .ok (.getfield 93, 3) := by decide +kernel
theorem dX0_least_8 : decode cX0_least 8 = .ok (.ireturn, 1) := by decide +kernel
theorem dX0_key_0 : decode cX0_key 0 = .ok (.aload_n 0, 1) := by decide +kernel
theorem dX0_key_1 : decode cX0_key 1 = .ok (.iload_n 1, 1) := by decide +kernel
theorem dX0_key_2 : decode cX0_key 2 = .ok (.invokevirtual 68, 3) := by decide +kernel
theorem dX0_key_5 : decode cX0_key 5 = .ok (.aload_n 0, 1) := by decide +kernel
theorem dX0_key_6 : decode cX0_key 6 = .ok (.invokevirtual 90, 3) := by decide +kernel
theorem dX0_key_9 : decode cX0_key 9 = .ok (.aload_n 0, 1) := by decide +kernel
theorem dX0_key_10 : decode cX0_key 10 = .ok (.getfield 32, 3) := by decide +kernel
theorem dX0_key_13 : decode cX0_key 13 = .ok (.iload_n 1, 1) := by decide +kernel
theorem dX0_key_14 : decode cX0_key 14 = .ok (.iaload, 1) := by decide +kernel
theorem dX0_key_15 : decode cX0_key 15 = .ok (.ireturn, 1) := by decide +kernel
theorem dX0_count_0 : decode cX0_count 0 = .ok (.aload_n 0, 1) := by decide +kernel
theorem dX0_count_1 : decode cX0_count 1 = .ok (.invokevirtual 90, 3) := by decide +kernel
theorem dX0_count_4 : decode cX0_count 4 = .ok (.aload_n 0, 1) := by decide +kernel
theorem dX0_count_5 : decode cX0_count 5 = .ok (.getfield 96, 3) := by decide +kernel
theorem dX0_count_8 : decode cX0_count 8 = .ok (.lreturn, 1) := by decide +kernel
theorem dX0_pick_0 : decode cX0_pick 0 = .ok (.lload_n 1, 1) := by decide +kernel
theorem dX0_pick_1 : decode cX0_pick 1 = .ok (.lconst 0, 1) := by decide +kernel
theorem dX0_pick_2 : decode cX0_pick 2 = .ok (.lcmp, 1) := by decide +kernel
theorem dX0_pick_3 : decode cX0_pick 3 = .ok (.ifCond .lt 11, 3) := by decide +kernel
theorem dX0_pick_6 : decode cX0_pick 6 = .ok (.lload_n 1, 1) := by decide +kernel
theorem dX0_pick_7 : decode cX0_pick 7 = .ok (.ldc2_w 100, 3) := by decide +kernel
theorem dX0_pick_10 : decode cX0_pick 10 = .ok (.lcmp, 1) := by decide +kernel
theorem dX0_pick_11 : decode cX0_pick 11 = .ok (.ifCond .lt 13, 3) := by decide +kernel
theorem dX0_pick_14 : decode cX0_pick 14 = .ok (.new 102, 3) := by decide +kernel
theorem dX0_pick_17 : decode cX0_pick 17 = .ok (.dup, 1) := by decide +kernel
theorem dX0_pick_18 : decode cX0_pick 18 = .ok (.ldc 104, 2) := by decide +kernel
theorem dX0_pick_20 : decode cX0_pick 20 = .ok (.invokespecial 106, 3) := by decide +kernel
theorem dX0_pick_23 : decode cX0_pick 23 = .ok (.athrow, 1) := by decide +kernel
theorem dX0_pick_24 : decode cX0_pick 24 = .ok (.aload_n 0, 1) := by decide +kernel
theorem dX0_pick_25 : decode cX0_pick 25 = .ok (.iload_n 3, 1) := by decide +kernel
theorem dX0_pick_26 : decode cX0_pick 26 = .ok (.invokevirtual 68, 3) := by decide +kernel
theorem dX0_pick_29 : decode cX0_pick 29 = .ok (.aload_n 0, 1) := by decide +kernel
theorem dX0_pick_30 : decode cX0_pick 30 = .ok (.invokevirtual 90, 3) := by decide +kernel
theorem dX0_pick_33 : decode cX0_pick 33 = .ok (.aload_n 0, 1) := by decide +kernel
theorem dX0_pick_34 : decode cX0_pick 34 = .ok (.lload_n 1, 1) := by decide +kernel
theorem dX0_pick_35 : decode cX0_pick 35 = .ok (.iload_n 3, 1) := by decide +kernel
theorem dX0_pick_36 : decode cX0_pick 36 = .ok (.aload_n 0, 1) := by decide +kernel
theorem dX0_pick_37 : decode cX0_pick 37 = .ok (.getfield 35, 3) := by decide +kernel
theorem dX0_pick_40 : decode cX0_pick 40 = .ok (.invokevirtual 107, 3) := by decide +kernel
theorem dX0_pick_43 : decode cX0_pick 43 = .ok (.ireturn, 1) := by decide +kernel
theorem dX0_through_0 : decode cX0_through 0 = .ok (.aload_n 0, 1) := by decide +kernel
theorem dX0_through_1 : decode cX0_through 1 = .ok (.iload_n 1, 1) := by decide +kernel
theorem dX0_through_2 : decode cX0_through 2 = .ok (.invokevirtual 68, 3) := by decide +kernel
theorem dX0_through_5 : decode cX0_through 5 = .ok (.iload_n 2, 1) := by decide +kernel
theorem dX0_through_6 : decode cX0_through 6 = .ok (.invokestatic 76, 3) := by decide +kernel
theorem dX0_through_9 : decode cX0_through 9 = .ok (.aload_n 0, 1) := by decide +kernel
theorem dX0_through_10 : decode cX0_through 10 = .ok (.invokevirtual 111, 3) := by decide +kernel
theorem dX0_through_13 : decode cX0_through 13 = .ok (.aload_n 0, 1) := by decide +kernel
theorem dX0_through_14 : decode cX0_through 14 = .ok (.iload_n 1, 1) := by decide +kernel
theorem dX0_through_15 : decode cX0_through 15 = .ok (.iload_n 2, 1) := by decide +kernel
theorem dX0_through_16 : decode cX0_through 16 = .ok (.invokevirtual 114, 3) := by decide +kernel
theorem dX0_through_19 : decode cX0_through 19 = .ok (.ireturn, 1) := by decide +kernel
theorem dX0_near_0 : decode cX0_near 0 = .ok (.aload_n 0, 1) := by decide +kernel
theorem dX0_near_1 : decode cX0_near 1 = .ok (.iload_n 1, 1) := by decide +kernel
theorem dX0_near_2 : decode cX0_near 2 = .ok (.invokevirtual 68, 3) := by decide +kernel
theorem dX0_near_5 : decode cX0_near 5 = .ok (.iload_n 2, 1) := by decide +kernel
theorem dX0_near_6 : decode cX0_near 6 = .ok (.iconst 0, 1) := by decide +kernel
theorem dX0_near_7 : decode cX0_near 7 = .ok (.ldc 117, 2) := by decide +kernel
theorem dX0_near_9 : decode cX0_near 9 = .ok (.invokestatic 45, 3) := by decide +kernel
theorem dX0_near_12 : decode cX0_near 12 = .ok (.aload_n 0, 1) := by decide +kernel
theorem dX0_near_13 : decode cX0_near 13 = .ok (.invokevirtual 111, 3) := by decide +kernel
theorem dX0_near_16 : decode cX0_near 16 = .ok (.iconst 0, 1) := by decide +kernel
theorem dX0_near_17 : decode cX0_near 17 = .ok (.istore_n 3, 1) := by decide +kernel
theorem dX0_near_18 : decode cX0_near 18 = .ok (.iconst 0, 1) := by decide +kernel
theorem dX0_near_19 : decode cX0_near 19 = .ok (.istore 4, 2) := by decide +kernel
theorem dX0_near_21 : decode cX0_near 21 = .ok (.iload 4, 2) := by decide +kernel
theorem dX0_near_23 : decode cX0_near 23 = .ok (.bipush 24, 2) := by decide +kernel
theorem dX0_near_25 : decode cX0_near 25 = .ok (.if_icmp .ge 32, 3) := by decide +kernel
theorem dX0_near_28 : decode cX0_near 28 = .ok (.aload_n 0, 1) := by decide +kernel
theorem dX0_near_29 : decode cX0_near 29 = .ok (.iload_n 1, 1) := by decide +kernel
theorem dX0_near_30 : decode cX0_near 30 = .ok (.iload 4, 2) := by decide +kernel
theorem dX0_near_32 : decode cX0_near 32 = .ok (.invokevirtual 114, 3) := by decide +kernel
theorem dX0_near_35 : decode cX0_near 35 = .ok (.aload_n 0, 1) := by decide +kernel
theorem dX0_near_36 : decode cX0_near 36 = .ok (.getfield 93, 3) := by decide +kernel
theorem dX0_near_39 : decode cX0_near 39 = .ok (.iload_n 2, 1) := by decide +kernel
theorem dX0_near_40 : decode cX0_near 40 = .ok (.iadd, 1) := by decide +kernel
theorem dX0_near_41 : decode cX0_near 41 = .ok (.if_icmp .gt 10, 3) := by decide +kernel
theorem dX0_near_44 : decode cX0_near 44 = .ok (.iload_n 3, 1) := by decide +kernel
theorem dX0_near_45 : decode cX0_near 45 = .ok (.iconst 1, 1) := by decide +kernel
theorem dX0_near_46 : decode cX0_near 46 = .ok (.iload 4, 2) := by decide +kernel
theorem dX0_near_48 : decode cX0_near 48 = .ok (.ishl, 1) := by decide +kernel
theorem dX0_near_49 : decode cX0_near 49 = .ok (.ior, 1) := by decide +kernel
theorem dX0_near_50 : decode cX0_near 50 = .ok (.istore_n 3, 1) := by decide +kernel
theorem dX0_near_51 : decode cX0_near 51 = .ok (.iinc 4 1, 3) := by decide +kernel
theorem dX0_near_54 : decode cX0_near 54 = .ok (.goto (-33), 3) := by decide +kernel
theorem dX0_near_57 : decode cX0_near 57 = .ok (.iload_n 3, 1) := by decide +kernel
theorem dX0_near_58 : decode cX0_near 58 = .ok (.ireturn, 1) := by decide +kernel
theorem dX0_sure_0 : decode cX0_sure 0 = .ok (.aload_n 0, 1) := by decide +kernel
theorem dX0_sure_1 : decode cX0_sure 1 = .ok (.iload_n 1, 1) := by decide +kernel
theorem dX0_sure_2 : decode cX0_sure 2 = .ok (.invokevirtual 68, 3) := by decide +kernel
theorem dX0_sure_5 : decode cX0_sure 5 = .ok (.aload_n 0, 1) := by decide +kernel
theorem dX0_sure_6 : decode cX0_sure 6 = .ok (.invokevirtual 111, 3) := by decide +kernel
theorem dX0_sure_9 : decode cX0_sure 9 = .ok (.aload_n 0, 1) := by decide +kernel
theorem dX0_sure_10 : decode cX0_sure 10 = .ok (.iload_n 1, 1) := by decide +kernel
theorem dX0_sure_11 : decode cX0_sure 11 = .ok (.invokevirtual 118, 3) := by decide +kernel
theorem dX0_sure_14 : decode cX0_sure 14 = .ok (.istore_n 2, 1) := by decide +kernel
theorem dX0_sure_15 : decode cX0_sure 15 = .ok (.iload_n 2, 1) := by decide +kernel
theorem dX0_sure_16 : decode cX0_sure 16 = .ok (.ifCond .ne 13, 3) := by decide +kernel
theorem dX0_sure_19 : decode cX0_sure 19 = .ok (.new 121, 3) := by decide +kernel
theorem dX0_sure_22 : decode cX0_sure 22 = .ok (.dup, 1) := by decide +kernel
theorem dX0_sure_23 : decode cX0_sure 23 = .ok (.ldc 123, 2) := by decide +kernel
theorem dX0_sure_25 : decode cX0_sure 25 = .ok (.invokespecial 125, 3) := by decide +kernel
theorem dX0_sure_28 : decode cX0_sure 28 = .ok (.athrow, 1) := by decide +kernel
theorem dX0_sure_29 : decode cX0_sure 29 = .ok (.bipush 100, 2) := by decide +kernel
theorem dX0_sure_31 : decode cX0_sure 31 = .ok (.iload_n 2, 1) := by decide +kernel
theorem dX0_sure_32 : decode cX0_sure 32 = .ok (.aload_n 0, 1) := by decide +kernel
theorem dX0_sure_33 : decode cX0_sure 33 = .ok (.getfield 93, 3) := by decide +kernel
theorem dX0_sure_36 : decode cX0_sure 36 = .ok (.isub, 1) := by decide +kernel
theorem dX0_sure_37 : decode cX0_sure 37 = .ok (.imul, 1) := by decide +kernel
theorem dX0_sure_38 : decode cX0_sure 38 = .ok (.iload_n 2, 1) := by decide +kernel
theorem dX0_sure_39 : decode cX0_sure 39 = .ok (.idiv, 1) := by decide +kernel
theorem dX0_sure_40 : decode cX0_sure 40 = .ok (.ireturn, 1) := by decide +kernel
theorem dX0_change_0 : decode cX0_change 0 = .ok (.iload_n 1, 1) := by decide +kernel
theorem dX0_change_1 : decode cX0_change 1 = .ok (.ifCond .ge 13, 3) := by decide +kernel
theorem dX0_change_4 : decode cX0_change 4 = .ok (.new 102, 3) := by decide +kernel
theorem dX0_change_7 : decode cX0_change 7 = .ok (.dup, 1) := by decide +kernel
theorem dX0_change_8 : decode cX0_change 8 = .ok (.ldc 126, 2) := by decide +kernel
theorem dX0_change_10 : decode cX0_change 10 = .ok (.invokespecial 106, 3) := by decide +kernel
theorem dX0_change_13 : decode cX0_change 13 = .ok (.athrow, 1) := by decide +kernel
theorem dX0_change_14 : decode cX0_change 14 = .ok (.aload_n 0, 1) := by decide +kernel
theorem dX0_change_15 : decode cX0_change 15 = .ok (.invokevirtual 90, 3) := by decide +kernel
theorem dX0_change_18 : decode cX0_change 18 = .ok (.iconst 0, 1) := by decide +kernel
theorem dX0_change_19 : decode cX0_change 19 = .ok (.istore_n 2, 1) := by decide +kernel
theorem dX0_change_20 : decode cX0_change 20 = .ok (.iconst 1, 1) := by decide +kernel
theorem dX0_change_21 : decode cX0_change 21 = .ok (.istore_n 3, 1) := by decide +kernel
theorem dX0_change_22 : decode cX0_change 22 = .ok (.iload_n 3, 1) := by decide +kernel
theorem dX0_change_23 : decode cX0_change 23 = .ok (.aload_n 0, 1) := by decide +kernel
theorem dX0_change_24 : decode cX0_change 24 = .ok (.getfield 41, 3) := by decide +kernel
theorem dX0_change_27 : decode cX0_change 27 = .ok (.if_icmp .ge 27, 3) := by decide +kernel
theorem dX0_change_30 : decode cX0_change 30 = .ok (.aload_n 0, 1) := by decide +kernel
theorem dX0_change_31 : decode cX0_change 31 = .ok (.iload_n 3, 1) := by decide +kernel
theorem dX0_change_32 : decode cX0_change 32 = .ok (.invokevirtual 128, 3) := by decide +kernel
theorem dX0_change_35 : decode cX0_change 35 = .ok (.ifCond .eq 13, 3) := by decide +kernel
theorem dX0_change_38 : decode cX0_change 38 = .ok (.iload_n 2, 1) := by decide +kernel
theorem dX0_change_39 : decode cX0_change 39 = .ok (.iload_n 1, 1) := by decide +kernel
theorem dX0_change_40 : decode cX0_change 40 = .ok (.if_icmp .ne 5, 3) := by decide +kernel
theorem dX0_change_43 : decode cX0_change 43 = .ok (.iload_n 3, 1) := by decide +kernel
theorem dX0_change_44 : decode cX0_change 44 = .ok (.ireturn, 1) := by decide +kernel
theorem dX0_change_45 : decode cX0_change 45 = .ok (.iinc 2 1, 3) := by decide +kernel
theorem dX0_change_48 : decode cX0_change 48 = .ok (.iinc 3 1, 3) := by decide +kernel
theorem dX0_change_51 : decode cX0_change 51 = .ok (.goto (-29), 3) := by decide +kernel
theorem dX0_change_54 : decode cX0_change 54 = .ok (.iconst (-1), 1) := by decide +kernel
theorem dX0_change_55 : decode cX0_change 55 = .ok (.ireturn, 1) := by decide +kernel
theorem dX0_pivot_0 : decode cX0_pivot 0 = .ok (.aload_n 0, 1) := by decide +kernel
theorem dX0_pivot_1 : decode cX0_pivot 1 = .ok (.iload_n 1, 1) := by decide +kernel
theorem dX0_pivot_2 : decode cX0_pivot 2 = .ok (.invokevirtual 68, 3) := by decide +kernel
theorem dX0_pivot_5 : decode cX0_pivot 5 = .ok (.iload_n 2, 1) := by decide +kernel
theorem dX0_pivot_6 : decode cX0_pivot 6 = .ok (.invokestatic 76, 3) := by decide +kernel
theorem dX0_pivot_9 : decode cX0_pivot 9 = .ok (.iload_n 3, 1) := by decide +kernel
theorem dX0_pivot_10 : decode cX0_pivot 10 = .ok (.invokestatic 76, 3) := by decide +kernel
theorem dX0_pivot_13 : decode cX0_pivot 13 = .ok (.iconst 0, 1) := by decide +kernel
theorem dX0_pivot_14 : decode cX0_pivot 14 = .ok (.istore 4, 2) := by decide +kernel
theorem dX0_pivot_16 : decode cX0_pivot 16 = .ok (.iload 4, 2) := by decide +kernel
theorem dX0_pivot_18 : decode cX0_pivot 18 = .ok (.bipush 12, 2) := by decide +kernel
theorem dX0_pivot_20 : decode cX0_pivot 20 = .ok (.if_icmp .ge 58, 3) := by decide +kernel
theorem dX0_pivot_23 : decode cX0_pivot 23 = .ok (.aload_n 0, 1) := by decide +kernel
theorem dX0_pivot_24 : decode cX0_pivot 24 = .ok (.getfield 13, 3) := by decide +kernel
theorem dX0_pivot_27 : decode cX0_pivot 27 = .ok (.iload_n 1, 1) := by decide +kernel
theorem dX0_pivot_28 : decode cX0_pivot 28 = .ok (.bipush 12, 2) := by decide +kernel
theorem dX0_pivot_30 : decode cX0_pivot 30 = .ok (.imul, 1) := by decide +kernel
theorem dX0_pivot_31 : decode cX0_pivot 31 = .ok (.iload 4, 2) := by decide +kernel
theorem dX0_pivot_33 : decode cX0_pivot 33 = .ok (.iadd, 1) := by decide +kernel
theorem dX0_pivot_34 : decode cX0_pivot 34 = .ok (.iaload, 1) := by decide +kernel
theorem dX0_pivot_35 : decode cX0_pivot 35 = .ok (.ifCond .le 7, 3) := by decide +kernel
theorem dX0_pivot_38 : decode cX0_pivot 38 = .ok (.iconst 1, 1) := by decide +kernel
theorem dX0_pivot_39 : decode cX0_pivot 39 = .ok (.goto 4, 3) := by decide +kernel
theorem dX0_pivot_42 : decode cX0_pivot 42 = .ok (.iconst 0, 1) := by decide +kernel
theorem dX0_pivot_43 : decode cX0_pivot 43 = .ok (.istore 5, 2) := by decide +kernel
theorem dX0_pivot_45 : decode cX0_pivot 45 = .ok (.iload 5, 2) := by decide +kernel
theorem dX0_pivot_47 : decode cX0_pivot 47 = .ok (.ifCond .eq 25, 3) := by decide +kernel
theorem dX0_pivot_50 : decode cX0_pivot 50 = .ok (.aload_n 0, 1) := by decide +kernel
theorem dX0_pivot_51 : decode cX0_pivot 51 = .ok (.iload 4, 2) := by decide +kernel
theorem dX0_pivot_53 : decode cX0_pivot 53 = .ok (.iload_n 2, 1) := by decide +kernel
theorem dX0_pivot_54 : decode cX0_pivot 54 = .ok (.invokevirtual 132, 3) := by decide +kernel
theorem dX0_pivot_57 : decode cX0_pivot 57 = .ok (.ifCond .eq 13, 3) := by decide +kernel
theorem dX0_pivot_60 : decode cX0_pivot 60 = .ok (.aload_n 0, 1) := by decide +kernel
theorem dX0_pivot_61 : decode cX0_pivot 61 = .ok (.iload 4, 2) := by decide +kernel
theorem dX0_pivot_63 : decode cX0_pivot 63 = .ok (.iload_n 3, 1) := by decide +kernel
theorem dX0_pivot_64 : decode cX0_pivot 64 = .ok (.invokevirtual 132, 3) := by decide +kernel
theorem dX0_pivot_67 : decode cX0_pivot 67 = .ok (.ifCond .ne 5, 3) := by decide +kernel
theorem dX0_pivot_70 : decode cX0_pivot 70 = .ok (.iconst 0, 1) := by decide +kernel
theorem dX0_pivot_71 : decode cX0_pivot 71 = .ok (.ireturn, 1) := by decide +kernel
theorem dX0_pivot_72 : decode cX0_pivot 72 = .ok (.iinc 4 1, 3) := by decide +kernel
theorem dX0_pivot_75 : decode cX0_pivot 75 = .ok (.goto (-59), 3) := by decide +kernel
theorem dX0_pivot_78 : decode cX0_pivot 78 = .ok (.iconst 1, 1) := by decide +kernel
theorem dX0_pivot_79 : decode cX0_pivot 79 = .ok (.ireturn, 1) := by decide +kernel
theorem dX0_whole_0 : decode cX0_whole 0 = .ok (.aload_n 0, 1) := by decide +kernel
theorem dX0_whole_1 : decode cX0_whole 1 = .ok (.iload_n 1, 1) := by decide +kernel
theorem dX0_whole_2 : decode cX0_whole 2 = .ok (.invokevirtual 68, 3) := by decide +kernel
theorem dX0_whole_5 : decode cX0_whole 5 = .ok (.aload_n 0, 1) := by decide +kernel
theorem dX0_whole_6 : decode cX0_whole 6 = .ok (.iload_n 2, 1) := by decide +kernel
theorem dX0_whole_7 : decode cX0_whole 7 = .ok (.invokevirtual 68, 3) := by decide +kernel
theorem dX0_whole_10 : decode cX0_whole 10 = .ok (.iload_n 1, 1) := by decide +kernel
theorem dX0_whole_11 : decode cX0_whole 11 = .ok (.iload_n 2, 1) := by decide +kernel
theorem dX0_whole_12 : decode cX0_whole 12 = .ok (.if_icmp .le 13, 3) := by decide +kernel
theorem dX0_whole_15 : decode cX0_whole 15 = .ok (.new 102, 3) := by decide +kernel
theorem dX0_whole_18 : decode cX0_whole 18 = .ok (.dup, 1) := by decide +kernel
theorem dX0_whole_19 : decode cX0_whole 19 = .ok (.ldc 135, 2) := by decide +kernel
theorem dX0_whole_21 : decode cX0_whole 21 = .ok (.invokespecial 106, 3) := by decide +kernel
theorem dX0_whole_24 : decode cX0_whole 24 = .ok (.athrow, 1) := by decide +kernel
theorem dX0_whole_25 : decode cX0_whole 25 = .ok (.iconst 0, 1) := by decide +kernel
theorem dX0_whole_26 : decode cX0_whole 26 = .ok (.istore_n 3, 1) := by decide +kernel
theorem dX0_whole_27 : decode cX0_whole 27 = .ok (.aload_n 0, 1) := by decide +kernel
theorem dX0_whole_28 : decode cX0_whole 28 = .ok (.iload_n 1, 1) := by decide +kernel
theorem dX0_whole_29 : decode cX0_whole 29 = .ok (.iload_n 2, 1) := by decide +kernel
theorem dX0_whole_30 : decode cX0_whole 30 = .ok (.iconst 0, 1) := by decide +kernel
theorem dX0_whole_31 : decode cX0_whole 31 = .ok (.invokevirtual 137, 3) := by decide +kernel
theorem dX0_whole_34 : decode cX0_whole 34 = .ok (.istore 4, 2) := by decide +kernel
theorem dX0_whole_36 : decode cX0_whole 36 = .ok (.iconst 1, 1) := by decide +kernel
theorem dX0_whole_37 : decode cX0_whole 37 = .ok (.istore 5, 2) := by decide +kernel
theorem dX0_whole_39 : decode cX0_whole 39 = .ok (.iload 5, 2) := by decide +kernel
theorem dX0_whole_41 : decode cX0_whole 41 = .ok (.bipush 24, 2) := by decide +kernel
theorem dX0_whole_43 : decode cX0_whole 43 = .ok (.if_icmp .ge 33, 3) := by decide +kernel
theorem dX0_whole_46 : decode cX0_whole 46 = .ok (.aload_n 0, 1) := by decide +kernel
theorem dX0_whole_47 : decode cX0_whole 47 = .ok (.iload_n 1, 1) := by decide +kernel
theorem dX0_whole_48 : decode cX0_whole 48 = .ok (.iload_n 2, 1) := by decide +kernel
theorem dX0_whole_49 : decode cX0_whole 49 = .ok (.iload 5, 2) := by decide +kernel
theorem dX0_whole_51 : decode cX0_whole 51 = .ok (.invokevirtual 137, 3) := by decide +kernel
theorem dX0_whole_54 : decode cX0_whole 54 = .ok (.istore 6, 2) := by decide +kernel
theorem dX0_whole_56 : decode cX0_whole 56 = .ok (.iload 6, 2) := by decide +kernel
theorem dX0_whole_58 : decode cX0_whole 58 = .ok (.iload 4, 2) := by decide +kernel
theorem dX0_whole_60 : decode cX0_whole 60 = .ok (.if_icmp .le 10, 3) := by decide +kernel
theorem dX0_whole_63 : decode cX0_whole 63 = .ok (.iload 6, 2) := by decide +kernel
theorem dX0_whole_65 : decode cX0_whole 65 = .ok (.istore 4, 2) := by decide +kernel
theorem dX0_whole_67 : decode cX0_whole 67 = .ok (.iload 5, 2) := by decide +kernel
theorem dX0_whole_69 : decode cX0_whole 69 = .ok (.istore_n 3, 1) := by decide +kernel
theorem dX0_whole_70 : decode cX0_whole 70 = .ok (.iinc 5 1, 3) := by decide +kernel
theorem dX0_whole_73 : decode cX0_whole 73 = .ok (.goto (-34), 3) := by decide +kernel
theorem dX0_whole_76 : decode cX0_whole 76 = .ok (.iload_n 3, 1) := by decide +kernel
theorem dX0_whole_77 : decode cX0_whole 77 = .ok (.ireturn, 1) := by decide +kernel
theorem dX0_of_0 : decode cX0_of 0 = .ok (.iload_n 1, 1) := by decide +kernel
theorem dX0_of_1 : decode cX0_of 1 = .ok (.tableswitch 60 0 4 #[35, 40, 45, 50, 55], 35) := by decide +kernel
theorem dX0_of_36 : decode cX0_of 36 = .ok (.aload_n 0, 1) := by decide +kernel
theorem dX0_of_37 : decode cX0_of 37 = .ok (.getfield 41, 3) := by decide +kernel
theorem dX0_of_40 : decode cX0_of 40 = .ok (.ireturn, 1) := by decide +kernel
theorem dX0_of_41 : decode cX0_of 41 = .ok (.aload_n 0, 1) := by decide +kernel
theorem dX0_of_42 : decode cX0_of 42 = .ok (.getfield 52, 3) := by decide +kernel
theorem dX0_of_45 : decode cX0_of 45 = .ok (.ireturn, 1) := by decide +kernel
theorem dX0_of_46 : decode cX0_of 46 = .ok (.aload_n 0, 1) := by decide +kernel
theorem dX0_of_47 : decode cX0_of 47 = .ok (.getfield 55, 3) := by decide +kernel
theorem dX0_of_50 : decode cX0_of 50 = .ok (.ireturn, 1) := by decide +kernel
theorem dX0_of_51 : decode cX0_of 51 = .ok (.aload_n 0, 1) := by decide +kernel
theorem dX0_of_52 : decode cX0_of 52 = .ok (.getfield 58, 3) := by decide +kernel
theorem dX0_of_55 : decode cX0_of 55 = .ok (.ireturn, 1) := by decide +kernel
theorem dX0_of_56 : decode cX0_of 56 = .ok (.aload_n 0, 1) := by decide +kernel
theorem dX0_of_57 : decode cX0_of 57 = .ok (.invokevirtual 141, 3) := by decide +kernel
theorem dX0_of_60 : decode cX0_of 60 = .ok (.ireturn, 1) := by decide +kernel
theorem dX0_of_61 : decode cX0_of 61 = .ok (.new 102, 3) := by decide +kernel
theorem dX0_of_64 : decode cX0_of 64 = .ok (.dup, 1) := by decide +kernel
theorem dX0_of_65 : decode cX0_of 65 = .ok (.ldc 145, 2) := by decide +kernel
theorem dX0_of_67 : decode cX0_of 67 = .ok (.invokespecial 106, 3) := by decide +kernel
theorem dX0_of_70 : decode cX0_of 70 = .ok (.athrow, 1) := by decide +kernel
theorem dX0_setFirst_0 : decode cX0_setFirst 0 = .ok (.getstatic 147, 3) := by decide +kernel
theorem dX0_setFirst_3 : decode cX0_setFirst 3 = .ok (.iconst 0, 1) := by decide +kernel
theorem dX0_setFirst_4 : decode cX0_setFirst 4 = .ok (.aload_n 0, 1) := by decide +kernel
theorem dX0_setFirst_5 : decode cX0_setFirst 5 = .ok (.getfield 9, 3) := by decide +kernel
theorem dX0_setFirst_8 : decode cX0_setFirst 8 = .ok (.iconst 0, 1) := by decide +kernel
theorem dX0_setFirst_9 : decode cX0_setFirst 9 = .ok (.bipush 24, 2) := by decide +kernel
theorem dX0_setFirst_11 : decode cX0_setFirst 11 = .ok (.invokestatic 150, 3) := by decide +kernel
theorem dX0_setFirst_14 : decode cX0_setFirst 14 = .ok (.aload_n 0, 1) := by decide +kernel
theorem dX0_setFirst_15 : decode cX0_setFirst 15 = .ok (.bipush 10, 2) := by decide +kernel
theorem dX0_setFirst_17 : decode cX0_setFirst 17 = .ok (.putfield 52, 3) := by decide +kernel
theorem dX0_setFirst_20 : decode cX0_setFirst 20 = .ok (.aload_n 0, 1) := by decide +kernel
theorem dX0_setFirst_21 : decode cX0_setFirst 21 = .ok (.iconst 5, 1) := by decide +kernel
theorem dX0_setFirst_22 : decode cX0_setFirst 22 = .ok (.putfield 55, 3) := by decide +kernel
theorem dX0_setFirst_25 : decode cX0_setFirst 25 = .ok (.aload_n 0, 1) := by decide +kernel
theorem dX0_setFirst_26 : decode cX0_setFirst 26 = .ok (.iconst 2, 1) := by decide +kernel
theorem dX0_setFirst_27 : decode cX0_setFirst 27 = .ok (.putfield 58, 3) := by decide +kernel
theorem dX0_setFirst_30 : decode cX0_setFirst 30 = .ok (.aload_n 0, 1) := by decide +kernel
theorem dX0_setFirst_31 : decode cX0_setFirst 31 = .ok (.iconst 0, 1) := by decide +kernel
theorem dX0_setFirst_32 : decode cX0_setFirst 32 = .ok (.putfield 41, 3) := by decide +kernel
theorem dX0_setFirst_35 : decode cX0_setFirst 35 = .ok (.aload_n 0, 1) := by decide +kernel
theorem dX0_setFirst_36 : decode cX0_setFirst 36 = .ok (.invokevirtual 49, 3) := by decide +kernel
theorem dX0_setFirst_39 : decode cX0_setFirst 39 = .ok (.return_, 1) := by decide +kernel
theorem dX0_forget_0 : decode cX0_forget 0 = .ok (.aload_n 0, 1) := by decide +kernel
theorem dX0_forget_1 : decode cX0_forget 1 = .ok (.iconst 0, 1) := by decide +kernel
theorem dX0_forget_2 : decode cX0_forget 2 = .ok (.putfield 156, 3) := by decide +kernel
theorem dX0_forget_5 : decode cX0_forget 5 = .ok (.aload_n 0, 1) := by decide +kernel
theorem dX0_forget_6 : decode cX0_forget 6 = .ok (.iconst 0, 1) := by decide +kernel
theorem dX0_forget_7 : decode cX0_forget 7 = .ok (.putfield 160, 3) := by decide +kernel
theorem dX0_forget_10 : decode cX0_forget 10 = .ok (.return_, 1) := by decide +kernel
theorem dX0_requireSlice_0 : decode cX0_requireSlice 0 = .ok (.iload_n 1, 1) := by decide +kernel
theorem dX0_requireSlice_1 : decode cX0_requireSlice 1 = .ok (.iconst 0, 1) := by decide +kernel
theorem dX0_requireSlice_2 : decode cX0_requireSlice 2 = .ok (.aload_n 0, 1) := by decide +kernel
theorem dX0_requireSlice_3 : decode cX0_requireSlice 3 = .ok (.getfield 41, 3) := by decide +kernel
theorem dX0_requireSlice_6 : decode cX0_requireSlice 6 = .ok (.iconst 1, 1) := by decide +kernel
theorem dX0_requireSlice_7 : decode cX0_requireSlice 7 = .ok (.isub, 1) := by decide +kernel
theorem dX0_requireSlice_8 : decode cX0_requireSlice 8 = .ok (.invokestatic 45, 3) := by decide +kernel
theorem dX0_requireSlice_11 : decode cX0_requireSlice 11 = .ok (.return_, 1) := by decide +kernel
theorem dX0_requireKey_0 : decode cX0_requireKey 0 = .ok (.iload_n 0, 1) := by decide +kernel
theorem dX0_requireKey_1 : decode cX0_requireKey 1 = .ok (.iconst 0, 1) := by decide +kernel
theorem dX0_requireKey_2 : decode cX0_requireKey 2 = .ok (.bipush 23, 2) := by decide +kernel
theorem dX0_requireKey_4 : decode cX0_requireKey 4 = .ok (.invokestatic 45, 3) := by decide +kernel
theorem dX0_requireKey_7 : decode cX0_requireKey 7 = .ok (.return_, 1) := by decide +kernel
theorem dX0_requireWithin_0 : decode cX0_requireWithin 0 = .ok (.iload_n 0, 1) := by decide +kernel
theorem dX0_requireWithin_1 : decode cX0_requireWithin 1 = .ok (.iload_n 1, 1) := by decide +kernel
theorem dX0_requireWithin_2 : decode cX0_requireWithin 2 = .ok (.if_icmp .lt 8, 3) := by decide +kernel
theorem dX0_requireWithin_5 : decode cX0_requireWithin 5 = .ok (.iload_n 0, 1) := by decide +kernel
theorem dX0_requireWithin_6 : decode cX0_requireWithin 6 = .ok (.iload_n 2, 1) := by decide +kernel
theorem dX0_requireWithin_7 : decode cX0_requireWithin 7 = .ok (.if_icmp .le 13, 3) := by decide +kernel
theorem dX0_requireWithin_10 : decode cX0_requireWithin 10 = .ok (.new 102, 3) := by decide +kernel
theorem dX0_requireWithin_13 : decode cX0_requireWithin 13 = .ok (.dup, 1) := by decide +kernel
theorem dX0_requireWithin_14 : decode cX0_requireWithin 14 = .ok (.ldc 163, 2) := by decide +kernel
theorem dX0_requireWithin_16 : decode cX0_requireWithin 16 = .ok (.invokespecial 106, 3) := by decide +kernel
theorem dX0_requireWithin_19 : decode cX0_requireWithin 19 = .ok (.athrow, 1) := by decide +kernel
theorem dX0_requireWithin_20 : decode cX0_requireWithin 20 = .ok (.return_, 1) := by decide +kernel
theorem dX0_tonicOf_0 : decode cX0_tonicOf 0 = .ok (.iload_n 0, 1) := by decide +kernel
theorem dX0_tonicOf_1 : decode cX0_tonicOf 1 = .ok (.bipush 12, 2) := by decide +kernel
theorem dX0_tonicOf_3 : decode cX0_tonicOf 3 = .ok (.irem, 1) := by decide +kernel
theorem dX0_tonicOf_4 : decode cX0_tonicOf 4 = .ok (.ireturn, 1) := by decide +kernel
theorem dX0_modeOf_0 : decode cX0_modeOf 0 = .ok (.iload_n 0, 1) := by decide +kernel
theorem dX0_modeOf_1 : decode cX0_modeOf 1 = .ok (.bipush 12, 2) := by decide +kernel
theorem dX0_modeOf_3 : decode cX0_modeOf 3 = .ok (.idiv, 1) := by decide +kernel
theorem dX0_modeOf_4 : decode cX0_modeOf 4 = .ok (.ireturn, 1) := by decide +kernel
theorem dX0_placeOf_0 : decode cX0_placeOf 0 = .ok (.iload_n 0, 1) := by decide +kernel
theorem dX0_placeOf_1 : decode cX0_placeOf 1 = .ok (.invokestatic 165, 3) := by decide +kernel
theorem dX0_placeOf_4 : decode cX0_placeOf 4 = .ok (.ifCond .ne 10, 3) := by decide +kernel
theorem dX0_placeOf_7 : decode cX0_placeOf 7 = .ok (.iload_n 0, 1) := by decide +kernel
theorem dX0_placeOf_8 : decode cX0_placeOf 8 = .ok (.invokestatic 168, 3) := by decide +kernel
theorem dX0_placeOf_11 : decode cX0_placeOf 11 = .ok (.goto 9, 3) := by decide +kernel
theorem dX0_placeOf_14 : decode cX0_placeOf 14 = .ok (.iload_n 0, 1) := by decide +kernel
theorem dX0_placeOf_15 : decode cX0_placeOf 15 = .ok (.invokestatic 168, 3) := by decide +kernel
theorem dX0_placeOf_18 : decode cX0_placeOf 18 = .ok (.iconst 3, 1) := by decide +kernel
theorem dX0_placeOf_19 : decode cX0_placeOf 19 = .ok (.iadd, 1) := by decide +kernel
theorem dX0_placeOf_20 : decode cX0_placeOf 20 = .ok (.istore_n 1, 1) := by decide +kernel
theorem dX0_placeOf_21 : decode cX0_placeOf 21 = .ok (.bipush 7, 2) := by decide +kernel
theorem dX0_placeOf_23 : decode cX0_placeOf 23 = .ok (.iload_n 1, 1) := by decide +kernel
theorem dX0_placeOf_24 : decode cX0_placeOf 24 = .ok (.imul, 1) := by decide +kernel
theorem dX0_placeOf_25 : decode cX0_placeOf 25 = .ok (.bipush 12, 2) := by decide +kernel
theorem dX0_placeOf_27 : decode cX0_placeOf 27 = .ok (.irem, 1) := by decide +kernel
theorem dX0_placeOf_28 : decode cX0_placeOf 28 = .ok (.ireturn, 1) := by decide +kernel
theorem dX0_numberOf_0 : decode cX0_numberOf 0 = .ok (.iload_n 1, 1) := by decide +kernel
theorem dX0_numberOf_1 : decode cX0_numberOf 1 = .ok (.bipush 12, 2) := by decide +kernel
theorem dX0_numberOf_3 : decode cX0_numberOf 3 = .ok (.iadd, 1) := by decide +kernel
theorem dX0_numberOf_4 : decode cX0_numberOf 4 = .ok (.iload_n 2, 1) := by decide +kernel
theorem dX0_numberOf_5 : decode cX0_numberOf 5 = .ok (.invokestatic 168, 3) := by decide +kernel
theorem dX0_numberOf_8 : decode cX0_numberOf 8 = .ok (.isub, 1) := by decide +kernel
theorem dX0_numberOf_9 : decode cX0_numberOf 9 = .ok (.bipush 12, 2) := by decide +kernel
theorem dX0_numberOf_11 : decode cX0_numberOf 11 = .ok (.irem, 1) := by decide +kernel
theorem dX0_numberOf_12 : decode cX0_numberOf 12 = .ok (.istore_n 3, 1) := by decide +kernel
theorem dX0_numberOf_13 : decode cX0_numberOf 13 = .ok (.aload_n 0, 1) := by decide +kernel
theorem dX0_numberOf_14 : decode cX0_numberOf 14 = .ok (.getfield 9, 3) := by decide +kernel
theorem dX0_numberOf_17 : decode cX0_numberOf 17 = .ok (.iload_n 2, 1) := by decide +kernel
theorem dX0_numberOf_18 : decode cX0_numberOf 18 = .ok (.invokestatic 165, 3) := by decide +kernel
theorem dX0_numberOf_21 : decode cX0_numberOf 21 = .ok (.bipush 12, 2) := by decide +kernel
theorem dX0_numberOf_23 : decode cX0_numberOf 23 = .ok (.imul, 1) := by decide +kernel
theorem dX0_numberOf_24 : decode cX0_numberOf 24 = .ok (.iload_n 3, 1) := by decide +kernel
theorem dX0_numberOf_25 : decode cX0_numberOf 25 = .ok (.iadd, 1) := by decide +kernel
theorem dX0_numberOf_26 : decode cX0_numberOf 26 = .ok (.iaload, 1) := by decide +kernel
theorem dX0_numberOf_27 : decode cX0_numberOf 27 = .ok (.ireturn, 1) := by decide +kernel
theorem dX0_fitIn_0 : decode cX0_fitIn 0 = .ok (.iconst 0, 1) := by decide +kernel
theorem dX0_fitIn_1 : decode cX0_fitIn 1 = .ok (.istore_n 3, 1) := by decide +kernel
theorem dX0_fitIn_2 : decode cX0_fitIn 2 = .ok (.iconst 0, 1) := by decide +kernel
theorem dX0_fitIn_3 : decode cX0_fitIn 3 = .ok (.istore 4, 2) := by decide +kernel
theorem dX0_fitIn_5 : decode cX0_fitIn 5 = .ok (.iload 4, 2) := by decide +kernel
theorem dX0_fitIn_7 : decode cX0_fitIn 7 = .ok (.bipush 12, 2) := by decide +kernel
theorem dX0_fitIn_9 : decode cX0_fitIn 9 = .ok (.if_icmp .ge 32, 3) := by decide +kernel
theorem dX0_fitIn_12 : decode cX0_fitIn 12 = .ok (.iload_n 3, 1) := by decide +kernel
theorem dX0_fitIn_13 : decode cX0_fitIn 13 = .ok (.aload_n 0, 1) := by decide +kernel
theorem dX0_fitIn_14 : decode cX0_fitIn 14 = .ok (.getfield 13, 3) := by decide +kernel
theorem dX0_fitIn_17 : decode cX0_fitIn 17 = .ok (.iload_n 1, 1) := by decide +kernel
theorem dX0_fitIn_18 : decode cX0_fitIn 18 = .ok (.bipush 12, 2) := by decide +kernel
theorem dX0_fitIn_20 : decode cX0_fitIn 20 = .ok (.imul, 1) := by decide +kernel
theorem dX0_fitIn_21 : decode cX0_fitIn 21 = .ok (.iload 4, 2) := by decide +kernel
theorem dX0_fitIn_23 : decode cX0_fitIn 23 = .ok (.iadd, 1) := by decide +kernel
theorem dX0_fitIn_24 : decode cX0_fitIn 24 = .ok (.iaload, 1) := by decide +kernel
theorem dX0_fitIn_25 : decode cX0_fitIn 25 = .ok (.aload_n 0, 1) := by decide +kernel
theorem dX0_fitIn_26 : decode cX0_fitIn 26 = .ok (.iload 4, 2) := by decide +kernel
theorem dX0_fitIn_28 : decode cX0_fitIn 28 = .ok (.iload_n 2, 1) := by decide +kernel
theorem dX0_fitIn_29 : decode cX0_fitIn 29 = .ok (.invokevirtual 132, 3) := by decide +kernel
theorem dX0_fitIn_32 : decode cX0_fitIn 32 = .ok (.imul, 1) := by decide +kernel
theorem dX0_fitIn_33 : decode cX0_fitIn 33 = .ok (.iadd, 1) := by decide +kernel
theorem dX0_fitIn_34 : decode cX0_fitIn 34 = .ok (.istore_n 3, 1) := by decide +kernel
theorem dX0_fitIn_35 : decode cX0_fitIn 35 = .ok (.iinc 4 1, 3) := by decide +kernel
theorem dX0_fitIn_38 : decode cX0_fitIn 38 = .ok (.goto (-33), 3) := by decide +kernel
theorem dX0_fitIn_41 : decode cX0_fitIn 41 = .ok (.iload_n 3, 1) := by decide +kernel
theorem dX0_fitIn_42 : decode cX0_fitIn 42 = .ok (.ireturn, 1) := by decide +kernel
theorem dX0_greatestFit_0 : decode cX0_greatestFit 0 = .ok (.iconst 0, 1) := by decide +kernel
theorem dX0_greatestFit_1 : decode cX0_greatestFit 1 = .ok (.istore_n 2, 1) := by decide +kernel
theorem dX0_greatestFit_2 : decode cX0_greatestFit 2 = .ok (.iconst 0, 1) := by decide +kernel
theorem dX0_greatestFit_3 : decode cX0_greatestFit 3 = .ok (.istore_n 3, 1) := by decide +kernel
theorem dX0_greatestFit_4 : decode cX0_greatestFit 4 = .ok (.iload_n 3, 1) := by decide +kernel
theorem dX0_greatestFit_5 : decode cX0_greatestFit 5 = .ok (.bipush 24, 2) := by decide +kernel
theorem dX0_greatestFit_7 : decode cX0_greatestFit 7 = .ok (.if_icmp .ge 20, 3) := by decide +kernel
theorem dX0_greatestFit_10 : decode cX0_greatestFit 10 = .ok (.iload_n 2, 1) := by decide +kernel
theorem dX0_greatestFit_11 : decode cX0_greatestFit 11 = .ok (.aload_n 0, 1) := by decide +kernel
theorem dX0_greatestFit_12 : decode cX0_greatestFit 12 = .ok (.iload_n 1, 1) := by decide +kernel
theorem dX0_greatestFit_13 : decode cX0_greatestFit 13 = .ok (.iload_n 3, 1) := by decide +kernel
theorem dX0_greatestFit_14 : decode cX0_greatestFit 14 = .ok (.invokevirtual 79, 3) := by decide +kernel
theorem dX0_greatestFit_17 : decode cX0_greatestFit 17 = .ok (.invokestatic 171, 3) := by decide +kernel
theorem dX0_greatestFit_20 : decode cX0_greatestFit 20 = .ok (.istore_n 2, 1) := by decide +kernel
theorem dX0_greatestFit_21 : decode cX0_greatestFit 21 = .ok (.iinc 3 1, 3) := by decide +kernel
theorem dX0_greatestFit_24 : decode cX0_greatestFit 24 = .ok (.goto (-20), 3) := by decide +kernel
theorem dX0_greatestFit_27 : decode cX0_greatestFit 27 = .ok (.iload_n 2, 1) := by decide +kernel
theorem dX0_greatestFit_28 : decode cX0_greatestFit 28 = .ok (.ireturn, 1) := by decide +kernel
theorem dX0_fitTogether_0 : decode cX0_fitTogether 0 = .ok (.iconst 0, 1) := by decide +kernel
theorem dX0_fitTogether_1 : decode cX0_fitTogether 1 = .ok (.istore 4, 2) := by decide +kernel
theorem dX0_fitTogether_3 : decode cX0_fitTogether 3 = .ok (.iload_n 1, 1) := by decide +kernel
theorem dX0_fitTogether_4 : decode cX0_fitTogether 4 = .ok (.istore 5, 2) := by decide +kernel
theorem dX0_fitTogether_6 : decode cX0_fitTogether 6 = .ok (.iload 5, 2) := by decide +kernel
theorem dX0_fitTogether_8 : decode cX0_fitTogether 8 = .ok (.iload_n 2, 1) := by decide +kernel
theorem dX0_fitTogether_9 : decode cX0_fitTogether 9 = .ok (.if_icmp .gt 21, 3) := by decide +kernel
theorem dX0_fitTogether_12 : decode cX0_fitTogether 12 = .ok (.iload 4, 2) := by decide +kernel
theorem dX0_fitTogether_14 : decode cX0_fitTogether 14 = .ok (.aload_n 0, 1) := by decide +kernel
theorem dX0_fitTogether_15 : decode cX0_fitTogether 15 = .ok (.iload 5, 2) := by decide +kernel
theorem dX0_fitTogether_17 : decode cX0_fitTogether 17 = .ok (.iload_n 3, 1) := by decide +kernel
theorem dX0_fitTogether_18 : decode cX0_fitTogether 18 = .ok (.invokevirtual 79, 3) := by decide +kernel
theorem dX0_fitTogether_21 : decode cX0_fitTogether 21 = .ok (.iadd, 1) := by decide +kernel
theorem dX0_fitTogether_22 : decode cX0_fitTogether 22 = .ok (.istore 4, 2) := by decide +kernel
theorem dX0_fitTogether_24 : decode cX0_fitTogether 24 = .ok (.iinc 5 1, 3) := by decide +kernel
theorem dX0_fitTogether_27 : decode cX0_fitTogether 27 = .ok (.goto (-21), 3) := by decide +kernel
theorem dX0_fitTogether_30 : decode cX0_fitTogether 30 = .ok (.iload 4, 2) := by decide +kernel
theorem dX0_fitTogether_32 : decode cX0_fitTogether 32 = .ok (.ireturn, 1) := by decide +kernel
theorem dX0_turnBetween_0 : decode cX0_turnBetween 0 = .ok (.iload_n 1, 1) := by decide +kernel
theorem dX0_turnBetween_1 : decode cX0_turnBetween 1 = .ok (.iload_n 2, 1) := by decide +kernel
theorem dX0_turnBetween_2 : decode cX0_turnBetween 2 = .ok (.if_icmp .ne 5, 3) := by decide +kernel
theorem dX0_turnBetween_5 : decode cX0_turnBetween 5 = .ok (.iconst 0, 1) := by decide +kernel
theorem dX0_turnBetween_6 : decode cX0_turnBetween 6 = .ok (.ireturn, 1) := by decide +kernel
theorem dX0_turnBetween_7 : decode cX0_turnBetween 7 = .ok (.iload_n 1, 1) := by decide +kernel
theorem dX0_turnBetween_8 : decode cX0_turnBetween 8 = .ok (.invokestatic 176, 3) := by decide +kernel
theorem dX0_turnBetween_11 : decode cX0_turnBetween 11 = .ok (.iload_n 2, 1) := by decide +kernel
theorem dX0_turnBetween_12 : decode cX0_turnBetween 12 = .ok (.invokestatic 176, 3) := by decide +kernel
theorem dX0_turnBetween_15 : decode cX0_turnBetween 15 = .ok (.isub, 1) := by decide +kernel
theorem dX0_turnBetween_16 : decode cX0_turnBetween 16 = .ok (.invokestatic 179, 3) := by decide +kernel
theorem dX0_turnBetween_19 : decode cX0_turnBetween 19 = .ok (.istore_n 3, 1) := by decide +kernel
theorem dX0_turnBetween_20 : decode cX0_turnBetween 20 = .ok (.iload_n 3, 1) := by decide +kernel
theorem dX0_turnBetween_21 : decode cX0_turnBetween 21 = .ok (.bipush 12, 2) := by decide +kernel
theorem dX0_turnBetween_23 : decode cX0_turnBetween 23 = .ok (.iload_n 3, 1) := by decide +kernel
theorem dX0_turnBetween_24 : decode cX0_turnBetween 24 = .ok (.isub, 1) := by decide +kernel
theorem dX0_turnBetween_25 : decode cX0_turnBetween 25 = .ok (.invokestatic 182, 3) := by decide +kernel
theorem dX0_turnBetween_28 : decode cX0_turnBetween 28 = .ok (.istore 4, 2) := by decide +kernel
theorem dX0_turnBetween_30 : decode cX0_turnBetween 30 = .ok (.aload_n 0, 1) := by decide +kernel
theorem dX0_turnBetween_31 : decode cX0_turnBetween 31 = .ok (.getfield 52, 3) := by decide +kernel
theorem dX0_turnBetween_34 : decode cX0_turnBetween 34 = .ok (.aload_n 0, 1) := by decide +kernel
theorem dX0_turnBetween_35 : decode cX0_turnBetween 35 = .ok (.getfield 55, 3) := by decide +kernel
theorem dX0_turnBetween_38 : decode cX0_turnBetween 38 = .ok (.iload 4, 2) := by decide +kernel
theorem dX0_turnBetween_40 : decode cX0_turnBetween 40 = .ok (.imul, 1) := by decide +kernel
theorem dX0_turnBetween_41 : decode cX0_turnBetween 41 = .ok (.iadd, 1) := by decide +kernel
theorem dX0_turnBetween_42 : decode cX0_turnBetween 42 = .ok (.iload_n 1, 1) := by decide +kernel
theorem dX0_turnBetween_43 : decode cX0_turnBetween 43 = .ok (.invokestatic 165, 3) := by decide +kernel
theorem dX0_turnBetween_46 : decode cX0_turnBetween 46 = .ok (.iload_n 2, 1) := by decide +kernel
theorem dX0_turnBetween_47 : decode cX0_turnBetween 47 = .ok (.invokestatic 165, 3) := by decide +kernel
theorem dX0_turnBetween_50 : decode cX0_turnBetween 50 = .ok (.if_icmp .eq 10, 3) := by decide +kernel
theorem dX0_turnBetween_53 : decode cX0_turnBetween 53 = .ok (.aload_n 0, 1) := by decide +kernel
theorem dX0_turnBetween_54 : decode cX0_turnBetween 54 = .ok (.getfield 58, 3) := by decide +kernel
theorem dX0_turnBetween_57 : decode cX0_turnBetween 57 = .ok (.goto 4, 3) := by decide +kernel
theorem dX0_turnBetween_60 : decode cX0_turnBetween 60 = .ok (.iconst 0, 1) := by decide +kernel
theorem dX0_turnBetween_61 : decode cX0_turnBetween 61 = .ok (.iadd, 1) := by decide +kernel
theorem dX0_turnBetween_62 : decode cX0_turnBetween 62 = .ok (.ireturn, 1) := by decide +kernel
theorem dX0_knowTails_0 : decode cX0_knowTails 0 = .ok (.aload_n 0, 1) := by decide +kernel
theorem dX0_knowTails_1 : decode cX0_knowTails 1 = .ok (.getfield 156, 3) := by decide +kernel
theorem dX0_knowTails_4 : decode cX0_knowTails 4 = .ok (.ifCond .eq 4, 3) := by decide +kernel
theorem dX0_knowTails_7 : decode cX0_knowTails 7 = .ok (.return_, 1) := by decide +kernel
theorem dX0_knowTails_8 : decode cX0_knowTails 8 = .ok (.aload_n 0, 1) := by decide +kernel
theorem dX0_knowTails_9 : decode cX0_knowTails 9 = .ok (.invokevirtual 185, 3) := by decide +kernel
theorem dX0_knowTails_12 : decode cX0_knowTails 12 = .ok (.aload_n 0, 1) := by decide +kernel
theorem dX0_knowTails_13 : decode cX0_knowTails 13 = .ok (.getfield 41, 3) := by decide +kernel
theorem dX0_knowTails_16 : decode cX0_knowTails 16 = .ok (.iconst 1, 1) := by decide +kernel
theorem dX0_knowTails_17 : decode cX0_knowTails 17 = .ok (.isub, 1) := by decide +kernel
theorem dX0_knowTails_18 : decode cX0_knowTails 18 = .ok (.istore_n 1, 1) := by decide +kernel
theorem dX0_knowTails_19 : decode cX0_knowTails 19 = .ok (.iload_n 1, 1) := by decide +kernel
theorem dX0_knowTails_20 : decode cX0_knowTails 20 = .ok (.ifCond .lt 34, 3) := by decide +kernel
theorem dX0_knowTails_23 : decode cX0_knowTails 23 = .ok (.aload_n 0, 1) := by decide +kernel
theorem dX0_knowTails_24 : decode cX0_knowTails 24 = .ok (.iload_n 1, 1) := by decide +kernel
theorem dX0_knowTails_25 : decode cX0_knowTails 25 = .ok (.invokevirtual 188, 3) := by decide +kernel
theorem dX0_knowTails_28 : decode cX0_knowTails 28 = .ok (.iconst 0, 1) := by decide +kernel
theorem dX0_knowTails_29 : decode cX0_knowTails 29 = .ok (.istore_n 2, 1) := by decide +kernel
theorem dX0_knowTails_30 : decode cX0_knowTails 30 = .ok (.iload_n 2, 1) := by decide +kernel
theorem dX0_knowTails_31 : decode cX0_knowTails 31 = .ok (.bipush 24, 2) := by decide +kernel
theorem dX0_knowTails_33 : decode cX0_knowTails 33 = .ok (.if_icmp .ge 15, 3) := by decide +kernel
theorem dX0_knowTails_36 : decode cX0_knowTails 36 = .ok (.aload_n 0, 1) := by decide +kernel
theorem dX0_knowTails_37 : decode cX0_knowTails 37 = .ok (.iload_n 1, 1) := by decide +kernel
theorem dX0_knowTails_38 : decode cX0_knowTails 38 = .ok (.iload_n 2, 1) := by decide +kernel
theorem dX0_knowTails_39 : decode cX0_knowTails 39 = .ok (.invokevirtual 191, 3) := by decide +kernel
theorem dX0_knowTails_42 : decode cX0_knowTails 42 = .ok (.iinc 2 1, 3) := by decide +kernel
theorem dX0_knowTails_45 : decode cX0_knowTails 45 = .ok (.goto (-15), 3) := by decide +kernel
theorem dX0_knowTails_48 : decode cX0_knowTails 48 = .ok (.iinc 1 (-1), 3) := by decide +kernel
theorem dX0_knowTails_51 : decode cX0_knowTails 51 = .ok (.goto (-32), 3) := by decide +kernel
theorem dX0_knowTails_54 : decode cX0_knowTails 54 = .ok (.aload_n 0, 1) := by decide +kernel
theorem dX0_knowTails_55 : decode cX0_knowTails 55 = .ok (.invokevirtual 195, 3) := by decide +kernel
theorem dX0_knowTails_58 : decode cX0_knowTails 58 = .ok (.aload_n 0, 1) := by decide +kernel
theorem dX0_knowTails_59 : decode cX0_knowTails 59 = .ok (.getfield 41, 3) := by decide +kernel
theorem dX0_knowTails_62 : decode cX0_knowTails 62 = .ok (.ifCond .le 19, 3) := by decide +kernel
theorem dX0_knowTails_65 : decode cX0_knowTails 65 = .ok (.aload_n 0, 1) := by decide +kernel
theorem dX0_knowTails_66 : decode cX0_knowTails 66 = .ok (.lconst 0, 1) := by decide +kernel
theorem dX0_knowTails_67 : decode cX0_knowTails 67 = .ok (.aload_n 0, 1) := by decide +kernel
theorem dX0_knowTails_68 : decode cX0_knowTails 68 = .ok (.getfield 41, 3) := by decide +kernel
theorem dX0_knowTails_71 : decode cX0_knowTails 71 = .ok (.iconst 1, 1) := by decide +kernel
theorem dX0_knowTails_72 : decode cX0_knowTails 72 = .ok (.isub, 1) := by decide +kernel
theorem dX0_knowTails_73 : decode cX0_knowTails 73 = .ok (.aload_n 0, 1) := by decide +kernel
theorem dX0_knowTails_74 : decode cX0_knowTails 74 = .ok (.getfield 32, 3) := by decide +kernel
theorem dX0_knowTails_77 : decode cX0_knowTails 77 = .ok (.invokevirtual 107, 3) := by decide +kernel
theorem dX0_knowTails_80 : decode cX0_knowTails 80 = .ok (.pop, 1) := by decide +kernel
theorem dX0_knowTails_81 : decode cX0_knowTails 81 = .ok (.aload_n 0, 1) := by decide +kernel
theorem dX0_knowTails_82 : decode cX0_knowTails 82 = .ok (.iconst 1, 1) := by decide +kernel
theorem dX0_knowTails_83 : decode cX0_knowTails 83 = .ok (.putfield 156, 3) := by decide +kernel
theorem dX0_knowTails_86 : decode cX0_knowTails 86 = .ok (.return_, 1) := by decide +kernel
theorem dX0_fillTurns_0 : decode cX0_fillTurns 0 = .ok (.iconst 0, 1) := by decide +kernel
theorem dX0_fillTurns_1 : decode cX0_fillTurns 1 = .ok (.istore_n 1, 1) := by decide +kernel
theorem dX0_fillTurns_2 : decode cX0_fillTurns 2 = .ok (.iload_n 1, 1) := by decide +kernel
theorem dX0_fillTurns_3 : decode cX0_fillTurns 3 = .ok (.bipush 24, 2) := by decide +kernel
theorem dX0_fillTurns_5 : decode cX0_fillTurns 5 = .ok (.if_icmp .ge 40, 3) := by decide +kernel
theorem dX0_fillTurns_8 : decode cX0_fillTurns 8 = .ok (.iconst 0, 1) := by decide +kernel
theorem dX0_fillTurns_9 : decode cX0_fillTurns 9 = .ok (.istore_n 2, 1) := by decide +kernel
theorem dX0_fillTurns_10 : decode cX0_fillTurns 10 = .ok (.iload_n 2, 1) := by decide +kernel
theorem dX0_fillTurns_11 : decode cX0_fillTurns 11 = .ok (.bipush 24, 2) := by decide +kernel
theorem dX0_fillTurns_13 : decode cX0_fillTurns 13 = .ok (.if_icmp .ge 26, 3) := by decide +kernel
theorem dX0_fillTurns_16 : decode cX0_fillTurns 16 = .ok (.aload_n 0, 1) := by decide +kernel
theorem dX0_fillTurns_17 : decode cX0_fillTurns 17 = .ok (.getfield 16, 3) := by decide +kernel
theorem dX0_fillTurns_20 : decode cX0_fillTurns 20 = .ok (.iload_n 1, 1) := by decide +kernel
theorem dX0_fillTurns_21 : decode cX0_fillTurns 21 = .ok (.bipush 24, 2) := by decide +kernel
theorem dX0_fillTurns_23 : decode cX0_fillTurns 23 = .ok (.imul, 1) := by decide +kernel
theorem dX0_fillTurns_24 : decode cX0_fillTurns 24 = .ok (.iload_n 2, 1) := by decide +kernel
theorem dX0_fillTurns_25 : decode cX0_fillTurns 25 = .ok (.iadd, 1) := by decide +kernel
theorem dX0_fillTurns_26 : decode cX0_fillTurns 26 = .ok (.aload_n 0, 1) := by decide +kernel
theorem dX0_fillTurns_27 : decode cX0_fillTurns 27 = .ok (.iload_n 1, 1) := by decide +kernel
theorem dX0_fillTurns_28 : decode cX0_fillTurns 28 = .ok (.iload_n 2, 1) := by decide +kernel
theorem dX0_fillTurns_29 : decode cX0_fillTurns 29 = .ok (.invokevirtual 87, 3) := by decide +kernel
theorem dX0_fillTurns_32 : decode cX0_fillTurns 32 = .ok (.iastore, 1) := by decide +kernel
theorem dX0_fillTurns_33 : decode cX0_fillTurns 33 = .ok (.iinc 2 1, 3) := by decide +kernel
theorem dX0_fillTurns_36 : decode cX0_fillTurns 36 = .ok (.goto (-26), 3) := by decide +kernel
theorem dX0_fillTurns_39 : decode cX0_fillTurns 39 = .ok (.iinc 1 1, 3) := by decide +kernel
theorem dX0_fillTurns_42 : decode cX0_fillTurns 42 = .ok (.goto (-40), 3) := by decide +kernel
theorem dX0_fillTurns_45 : decode cX0_fillTurns 45 = .ok (.return_, 1) := by decide +kernel
theorem dX0_fillSliceCosts_0 : decode cX0_fillSliceCosts 0 = .ok (.iconst 0, 1) := by decide +kernel
theorem dX0_fillSliceCosts_1 : decode cX0_fillSliceCosts 1 = .ok (.istore_n 2, 1) := by decide +kernel
theorem dX0_fillSliceCosts_2 : decode cX0_fillSliceCosts 2 = .ok (.iconst 0, 1) := by decide +kernel
theorem dX0_fillSliceCosts_3 : decode cX0_fillSliceCosts 3 = .ok (.istore_n 3, 1) := by decide +kernel
theorem dX0_fillSliceCosts_4 : decode cX0_fillSliceCosts 4 = .ok (.iload_n 3, 1) := by decide +kernel
theorem dX0_fillSliceCosts_5 : decode cX0_fillSliceCosts 5 = .ok (.bipush 24, 2) := by decide +kernel
theorem dX0_fillSliceCosts_7 : decode cX0_fillSliceCosts 7 = .ok (.if_icmp .ge 37, 3) := by decide +kernel
theorem dX0_fillSliceCosts_10 : decode cX0_fillSliceCosts 10 = .ok (.aload_n 0, 1) := by decide +kernel
theorem dX0_fillSliceCosts_11 : decode cX0_fillSliceCosts 11 = .ok (.iload_n 1, 1) := by decide +kernel
theorem dX0_fillSliceCosts_12 : decode cX0_fillSliceCosts 12 = .ok (.iload_n 3, 1) := by decide +kernel
theorem dX0_fillSliceCosts_13 : decode cX0_fillSliceCosts 13 = .ok (.invokevirtual 79, 3) := by decide +kernel
theorem dX0_fillSliceCosts_16 : decode cX0_fillSliceCosts 16 = .ok (.istore 4, 2) := by decide +kernel
theorem dX0_fillSliceCosts_18 : decode cX0_fillSliceCosts 18 = .ok (.aload_n 0, 1) := by decide +kernel
theorem dX0_fillSliceCosts_19 : decode cX0_fillSliceCosts 19 = .ok (.getfield 19, 3) := by decide +kernel
theorem dX0_fillSliceCosts_22 : decode cX0_fillSliceCosts 22 = .ok (.iload_n 1, 1) := by decide +kernel
theorem dX0_fillSliceCosts_23 : decode cX0_fillSliceCosts 23 = .ok (.bipush 24, 2) := by decide +kernel
theorem dX0_fillSliceCosts_25 : decode cX0_fillSliceCosts 25 = .ok (.imul, 1) := by decide +kernel
theorem dX0_fillSliceCosts_26 : decode cX0_fillSliceCosts 26 = .ok (.iload_n 3, 1) := by decide +kernel
theorem dX0_fillSliceCosts_27 : decode cX0_fillSliceCosts 27 = .ok (.iadd, 1) := by decide +kernel
theorem dX0_fillSliceCosts_28 : decode cX0_fillSliceCosts 28 = .ok (.iload 4, 2) := by decide +kernel
theorem dX0_fillSliceCosts_30 : decode cX0_fillSliceCosts 30 = .ok (.iastore, 1) := by decide +kernel
theorem dX0_fillSliceCosts_31 : decode cX0_fillSliceCosts 31 = .ok (.iload_n 2, 1) := by decide +kernel
theorem dX0_fillSliceCosts_32 : decode cX0_fillSliceCosts 32 = .ok (.iload 4, 2) := by decide +kernel
theorem dX0_fillSliceCosts_34 : decode cX0_fillSliceCosts 34 = .ok (.invokestatic 171, 3) := by decide +kernel
theorem dX0_fillSliceCosts_37 : decode cX0_fillSliceCosts 37 = .ok (.istore_n 2, 1) := by decide +kernel
theorem dX0_fillSliceCosts_38 : decode cX0_fillSliceCosts 38 = .ok (.iinc 3 1, 3) := by decide +kernel
theorem dX0_fillSliceCosts_41 : decode cX0_fillSliceCosts 41 = .ok (.goto (-37), 3) := by decide +kernel
theorem dX0_fillSliceCosts_44 : decode cX0_fillSliceCosts 44 = .ok (.iconst 0, 1) := by decide +kernel
theorem dX0_fillSliceCosts_45 : decode cX0_fillSliceCosts 45 = .ok (.istore_n 3, 1) := by decide +kernel
theorem dX0_fillSliceCosts_46 : decode cX0_fillSliceCosts 46 = .ok (.iload_n 3, 1) := by decide +kernel
theorem dX0_fillSliceCosts_47 : decode cX0_fillSliceCosts 47 = .ok (.bipush 24, 2) := by decide +kernel
theorem dX0_fillSliceCosts_49 : decode cX0_fillSliceCosts 49 = .ok (.if_icmp .ge 33, 3) := by decide +kernel
theorem dX0_fillSliceCosts_52 : decode cX0_fillSliceCosts 52 = .ok (.aload_n 0, 1) := by decide +kernel
theorem dX0_fillSliceCosts_53 : decode cX0_fillSliceCosts 53 = .ok (.getfield 19, 3) := by decide +kernel
theorem dX0_fillSliceCosts_56 : decode cX0_fillSliceCosts 56 = .ok (.iload_n 1, 1) := by decide +kernel
theorem dX0_fillSliceCosts_57 : decode cX0_fillSliceCosts 57 = .ok (.bipush 24, 2) := by decide +kernel
theorem dX0_fillSliceCosts_59 : decode cX0_fillSliceCosts 59 = .ok (.imul, 1) := by decide +kernel
theorem dX0_fillSliceCosts_60 : decode cX0_fillSliceCosts 60 = .ok (.iload_n 3, 1) := by decide +kernel
theorem dX0_fillSliceCosts_61 : decode cX0_fillSliceCosts 61 = .ok (.iadd, 1) := by decide +kernel
theorem dX0_fillSliceCosts_62 : decode cX0_fillSliceCosts 62 = .ok (.iload_n 2, 1) := by decide +kernel
theorem dX0_fillSliceCosts_63 : decode cX0_fillSliceCosts 63 = .ok (.aload_n 0, 1) := by decide +kernel
theorem dX0_fillSliceCosts_64 : decode cX0_fillSliceCosts 64 = .ok (.getfield 19, 3) := by decide +kernel
theorem dX0_fillSliceCosts_67 : decode cX0_fillSliceCosts 67 = .ok (.iload_n 1, 1) := by decide +kernel
theorem dX0_fillSliceCosts_68 : decode cX0_fillSliceCosts 68 = .ok (.bipush 24, 2) := by decide +kernel
theorem dX0_fillSliceCosts_70 : decode cX0_fillSliceCosts 70 = .ok (.imul, 1) := by decide +kernel
theorem dX0_fillSliceCosts_71 : decode cX0_fillSliceCosts 71 = .ok (.iload_n 3, 1) := by decide +kernel
theorem dX0_fillSliceCosts_72 : decode cX0_fillSliceCosts 72 = .ok (.iadd, 1) := by decide +kernel
theorem dX0_fillSliceCosts_73 : decode cX0_fillSliceCosts 73 = .ok (.iaload, 1) := by decide +kernel
theorem dX0_fillSliceCosts_74 : decode cX0_fillSliceCosts 74 = .ok (.isub, 1) := by decide +kernel
theorem dX0_fillSliceCosts_75 : decode cX0_fillSliceCosts 75 = .ok (.iastore, 1) := by decide +kernel
theorem dX0_fillSliceCosts_76 : decode cX0_fillSliceCosts 76 = .ok (.iinc 3 1, 3) := by decide +kernel
theorem dX0_fillSliceCosts_79 : decode cX0_fillSliceCosts 79 = .ok (.goto (-33), 3) := by decide +kernel
theorem dX0_fillSliceCosts_82 : decode cX0_fillSliceCosts 82 = .ok (.return_, 1) := by decide +kernel
theorem dX0_fillTail_0 : decode cX0_fillTail 0 = .ok (.iload_n 1, 1) := by decide +kernel
theorem dX0_fillTail_1 : decode cX0_fillTail 1 = .ok (.bipush 24, 2) := by decide +kernel
theorem dX0_fillTail_3 : decode cX0_fillTail 3 = .ok (.imul, 1) := by decide +kernel
theorem dX0_fillTail_4 : decode cX0_fillTail 4 = .ok (.iload_n 2, 1) := by decide +kernel
theorem dX0_fillTail_5 : decode cX0_fillTail 5 = .ok (.iadd, 1) := by decide +kernel
theorem dX0_fillTail_6 : decode cX0_fillTail 6 = .ok (.istore_n 3, 1) := by decide +kernel
theorem dX0_fillTail_7 : decode cX0_fillTail 7 = .ok (.iload_n 1, 1) := by decide +kernel
theorem dX0_fillTail_8 : decode cX0_fillTail 8 = .ok (.aload_n 0, 1) := by decide +kernel
theorem dX0_fillTail_9 : decode cX0_fillTail 9 = .ok (.getfield 41, 3) := by decide +kernel
theorem dX0_fillTail_12 : decode cX0_fillTail 12 = .ok (.iconst 1, 1) := by decide +kernel
theorem dX0_fillTail_13 : decode cX0_fillTail 13 = .ok (.isub, 1) := by decide +kernel
theorem dX0_fillTail_14 : decode cX0_fillTail 14 = .ok (.if_icmp .ne 23, 3) := by decide +kernel
theorem dX0_fillTail_17 : decode cX0_fillTail 17 = .ok (.aload_n 0, 1) := by decide +kernel
theorem dX0_fillTail_18 : decode cX0_fillTail 18 = .ok (.getfield 22, 3) := by decide +kernel
theorem dX0_fillTail_21 : decode cX0_fillTail 21 = .ok (.iload_n 3, 1) := by decide +kernel
theorem dX0_fillTail_22 : decode cX0_fillTail 22 = .ok (.aload_n 0, 1) := by decide +kernel
theorem dX0_fillTail_23 : decode cX0_fillTail 23 = .ok (.getfield 19, 3) := by decide +kernel
theorem dX0_fillTail_26 : decode cX0_fillTail 26 = .ok (.iload_n 3, 1) := by decide +kernel
theorem dX0_fillTail_27 : decode cX0_fillTail 27 = .ok (.iaload, 1) := by decide +kernel
theorem dX0_fillTail_28 : decode cX0_fillTail 28 = .ok (.iastore, 1) := by decide +kernel
theorem dX0_fillTail_29 : decode cX0_fillTail 29 = .ok (.aload_n 0, 1) := by decide +kernel
theorem dX0_fillTail_30 : decode cX0_fillTail 30 = .ok (.getfield 25, 3) := by decide +kernel
theorem dX0_fillTail_33 : decode cX0_fillTail 33 = .ok (.iload_n 3, 1) := by decide +kernel
theorem dX0_fillTail_34 : decode cX0_fillTail 34 = .ok (.lconst 1, 1) := by decide +kernel
theorem dX0_fillTail_35 : decode cX0_fillTail 35 = .ok (.lastore, 1) := by decide +kernel
theorem dX0_fillTail_36 : decode cX0_fillTail 36 = .ok (.return_, 1) := by decide +kernel
theorem dX0_fillTail_37 : decode cX0_fillTail 37 = .ok (.ldc 198, 2) := by decide +kernel
theorem dX0_fillTail_39 : decode cX0_fillTail 39 = .ok (.istore 4, 2) := by decide +kernel
theorem dX0_fillTail_41 : decode cX0_fillTail 41 = .ok (.lconst 0, 1) := by decide +kernel
theorem dX0_fillTail_42 : decode cX0_fillTail 42 = .ok (.lstore 5, 2) := by decide +kernel
theorem dX0_fillTail_44 : decode cX0_fillTail 44 = .ok (.iconst 0, 1) := by decide +kernel
theorem dX0_fillTail_45 : decode cX0_fillTail 45 = .ok (.istore 7, 2) := by decide +kernel
theorem dX0_fillTail_47 : decode cX0_fillTail 47 = .ok (.iload 7, 2) := by decide +kernel
theorem dX0_fillTail_49 : decode cX0_fillTail 49 = .ok (.bipush 24, 2) := by decide +kernel
theorem dX0_fillTail_51 : decode cX0_fillTail 51 = .ok (.if_icmp .ge 86, 3) := by decide +kernel
theorem dX0_fillTail_54 : decode cX0_fillTail 54 = .ok (.iload_n 3, 1) := by decide +kernel
theorem dX0_fillTail_55 : decode cX0_fillTail 55 = .ok (.iload_n 2, 1) := by decide +kernel
theorem dX0_fillTail_56 : decode cX0_fillTail 56 = .ok (.isub, 1) := by decide +kernel
theorem dX0_fillTail_57 : decode cX0_fillTail 57 = .ok (.bipush 24, 2) := by decide +kernel
theorem dX0_fillTail_59 : decode cX0_fillTail 59 = .ok (.iadd, 1) := by decide +kernel
theorem dX0_fillTail_60 : decode cX0_fillTail 60 = .ok (.iload 7, 2) := by decide +kernel
theorem dX0_fillTail_62 : decode cX0_fillTail 62 = .ok (.iadd, 1) := by decide +kernel
theorem dX0_fillTail_63 : decode cX0_fillTail 63 = .ok (.istore 8, 2) := by decide +kernel
theorem dX0_fillTail_65 : decode cX0_fillTail 65 = .ok (.aload_n 0, 1) := by decide +kernel
theorem dX0_fillTail_66 : decode cX0_fillTail 66 = .ok (.getfield 16, 3) := by decide +kernel
theorem dX0_fillTail_69 : decode cX0_fillTail 69 = .ok (.iload_n 2, 1) := by decide +kernel
theorem dX0_fillTail_70 : decode cX0_fillTail 70 = .ok (.bipush 24, 2) := by decide +kernel
theorem dX0_fillTail_72 : decode cX0_fillTail 72 = .ok (.imul, 1) := by decide +kernel
theorem dX0_fillTail_73 : decode cX0_fillTail 73 = .ok (.iload 7, 2) := by decide +kernel
theorem dX0_fillTail_75 : decode cX0_fillTail 75 = .ok (.iadd, 1) := by decide +kernel
theorem dX0_fillTail_76 : decode cX0_fillTail 76 = .ok (.iaload, 1) := by decide +kernel
theorem dX0_fillTail_77 : decode cX0_fillTail 77 = .ok (.aload_n 0, 1) := by decide +kernel
theorem dX0_fillTail_78 : decode cX0_fillTail 78 = .ok (.getfield 22, 3) := by decide +kernel
theorem dX0_fillTail_81 : decode cX0_fillTail 81 = .ok (.iload 8, 2) := by decide +kernel
theorem dX0_fillTail_83 : decode cX0_fillTail 83 = .ok (.iaload, 1) := by decide +kernel
theorem dX0_fillTail_84 : decode cX0_fillTail 84 = .ok (.iadd, 1) := by decide +kernel
theorem dX0_fillTail_85 : decode cX0_fillTail 85 = .ok (.istore 9, 2) := by decide +kernel
theorem dX0_fillTail_87 : decode cX0_fillTail 87 = .ok (.iload 9, 2) := by decide +kernel
theorem dX0_fillTail_89 : decode cX0_fillTail 89 = .ok (.iload 4, 2) := by decide +kernel
theorem dX0_fillTail_91 : decode cX0_fillTail 91 = .ok (.if_icmp .ge 19, 3) := by decide +kernel
theorem dX0_fillTail_94 : decode cX0_fillTail 94 = .ok (.iload 9, 2) := by decide +kernel
theorem dX0_fillTail_96 : decode cX0_fillTail 96 = .ok (.istore 4, 2) := by decide +kernel
theorem dX0_fillTail_98 : decode cX0_fillTail 98 = .ok (.aload_n 0, 1) := by decide +kernel
theorem dX0_fillTail_99 : decode cX0_fillTail 99 = .ok (.getfield 25, 3) := by decide +kernel
theorem dX0_fillTail_102 : decode cX0_fillTail 102 = .ok (.iload 8, 2) := by decide +kernel
theorem dX0_fillTail_104 : decode cX0_fillTail 104 = .ok (.laload, 1) := by decide +kernel
theorem dX0_fillTail_105 : decode cX0_fillTail 105 = .ok (.lstore 5, 2) := by decide +kernel
theorem dX0_fillTail_107 : decode cX0_fillTail 107 = .ok (.goto 24, 3) := by decide +kernel
theorem dX0_fillTail_110 : decode cX0_fillTail 110 = .ok (.iload 9, 2) := by decide +kernel
theorem dX0_fillTail_112 : decode cX0_fillTail 112 = .ok (.iload 4, 2) := by decide +kernel
theorem dX0_fillTail_114 : decode cX0_fillTail 114 = .ok (.if_icmp .ne 17, 3) := by decide +kernel
theorem dX0_fillTail_117 : decode cX0_fillTail 117 = .ok (.lload 5, 2) := by decide +kernel
theorem dX0_fillTail_119 : decode cX0_fillTail 119 = .ok (.aload_n 0, 1) := by decide +kernel
theorem dX0_fillTail_120 : decode cX0_fillTail 120 = .ok (.getfield 25, 3) := by decide +kernel
theorem dX0_fillTail_123 : decode cX0_fillTail 123 = .ok (.iload 8, 2) := by decide +kernel
theorem dX0_fillTail_125 : decode cX0_fillTail 125 = .ok (.laload, 1) := by decide +kernel
theorem dX0_fillTail_126 : decode cX0_fillTail 126 = .ok (.invokestatic 199, 3) := by decide +kernel
theorem dX0_fillTail_129 : decode cX0_fillTail 129 = .ok (.lstore 5, 2) := by decide +kernel
theorem dX0_fillTail_131 : decode cX0_fillTail 131 = .ok (.iinc 7 1, 3) := by decide +kernel
theorem dX0_fillTail_134 : decode cX0_fillTail 134 = .ok (.goto (-87), 3) := by decide +kernel
theorem dX0_fillTail_137 : decode cX0_fillTail 137 = .ok (.aload_n 0, 1) := by decide +kernel
theorem dX0_fillTail_138 : decode cX0_fillTail 138 = .ok (.getfield 22, 3) := by decide +kernel
theorem dX0_fillTail_141 : decode cX0_fillTail 141 = .ok (.iload_n 3, 1) := by decide +kernel
theorem dX0_fillTail_142 : decode cX0_fillTail 142 = .ok (.aload_n 0, 1) := by decide +kernel
theorem dX0_fillTail_143 : decode cX0_fillTail 143 = .ok (.getfield 19, 3) := by decide +kernel
theorem dX0_fillTail_146 : decode cX0_fillTail 146 = .ok (.iload_n 3, 1) := by decide +kernel
theorem dX0_fillTail_147 : decode cX0_fillTail 147 = .ok (.iaload, 1) := by decide +kernel
theorem dX0_fillTail_148 : decode cX0_fillTail 148 = .ok (.iload 4, 2) := by decide +kernel
theorem dX0_fillTail_150 : decode cX0_fillTail 150 = .ok (.iadd, 1) := by decide +kernel
theorem dX0_fillTail_151 : decode cX0_fillTail 151 = .ok (.iastore, 1) := by decide +kernel
theorem dX0_fillTail_152 : decode cX0_fillTail 152 = .ok (.aload_n 0, 1) := by decide +kernel
theorem dX0_fillTail_153 : decode cX0_fillTail 153 = .ok (.getfield 25, 3) := by decide +kernel
theorem dX0_fillTail_156 : decode cX0_fillTail 156 = .ok (.iload_n 3, 1) := by decide +kernel
theorem dX0_fillTail_157 : decode cX0_fillTail 157 = .ok (.lload 5, 2) := by decide +kernel
theorem dX0_fillTail_159 : decode cX0_fillTail 159 = .ok (.lastore, 1) := by decide +kernel
theorem dX0_fillTail_160 : decode cX0_fillTail 160 = .ok (.return_, 1) := by decide +kernel
theorem dX0_fillLeast_0 : decode cX0_fillLeast 0 = .ok (.aload_n 0, 1) := by decide +kernel
theorem dX0_fillLeast_1 : decode cX0_fillLeast 1 = .ok (.iconst 0, 1) := by decide +kernel
theorem dX0_fillLeast_2 : decode cX0_fillLeast 2 = .ok (.putfield 93, 3) := by decide +kernel
theorem dX0_fillLeast_5 : decode cX0_fillLeast 5 = .ok (.aload_n 0, 1) := by decide +kernel
theorem dX0_fillLeast_6 : decode cX0_fillLeast 6 = .ok (.lconst 1, 1) := by decide +kernel
theorem dX0_fillLeast_7 : decode cX0_fillLeast 7 = .ok (.putfield 96, 3) := by decide +kernel
theorem dX0_fillLeast_10 : decode cX0_fillLeast 10 = .ok (.aload_n 0, 1) := by decide +kernel
theorem dX0_fillLeast_11 : decode cX0_fillLeast 11 = .ok (.getfield 41, 3) := by decide +kernel
theorem dX0_fillLeast_14 : decode cX0_fillLeast 14 = .ok (.ifCond .ne 4, 3) := by decide +kernel
theorem dX0_fillLeast_17 : decode cX0_fillLeast 17 = .ok (.return_, 1) := by decide +kernel
theorem dX0_fillLeast_18 : decode cX0_fillLeast 18 = .ok (.aload_n 0, 1) := by decide +kernel
theorem dX0_fillLeast_19 : decode cX0_fillLeast 19 = .ok (.aload_n 0, 1) := by decide +kernel
theorem dX0_fillLeast_20 : decode cX0_fillLeast 20 = .ok (.getfield 22, 3) := by decide +kernel
theorem dX0_fillLeast_23 : decode cX0_fillLeast 23 = .ok (.iconst 0, 1) := by decide +kernel
theorem dX0_fillLeast_24 : decode cX0_fillLeast 24 = .ok (.iaload, 1) := by decide +kernel
theorem dX0_fillLeast_25 : decode cX0_fillLeast 25 = .ok (.putfield 93, 3) := by decide +kernel
theorem dX0_fillLeast_28 : decode cX0_fillLeast 28 = .ok (.iconst 1, 1) := by decide +kernel
theorem dX0_fillLeast_29 : decode cX0_fillLeast 29 = .ok (.istore_n 1, 1) := by decide +kernel
theorem dX0_fillLeast_30 : decode cX0_fillLeast 30 = .ok (.iload_n 1, 1) := by decide +kernel
theorem dX0_fillLeast_31 : decode cX0_fillLeast 31 = .ok (.bipush 24, 2) := by decide +kernel
theorem dX0_fillLeast_33 : decode cX0_fillLeast 33 = .ok (.if_icmp .ge 26, 3) := by decide +kernel
theorem dX0_fillLeast_36 : decode cX0_fillLeast 36 = .ok (.aload_n 0, 1) := by decide +kernel
theorem dX0_fillLeast_37 : decode cX0_fillLeast 37 = .ok (.aload_n 0, 1) := by decide +kernel
theorem dX0_fillLeast_38 : decode cX0_fillLeast 38 = .ok (.getfield 93, 3) := by decide +kernel
theorem dX0_fillLeast_41 : decode cX0_fillLeast 41 = .ok (.aload_n 0, 1) := by decide +kernel
theorem dX0_fillLeast_42 : decode cX0_fillLeast 42 = .ok (.getfield 22, 3) := by decide +kernel
theorem dX0_fillLeast_45 : decode cX0_fillLeast 45 = .ok (.iload_n 1, 1) := by decide +kernel
theorem dX0_fillLeast_46 : decode cX0_fillLeast 46 = .ok (.iaload, 1) := by decide +kernel
theorem dX0_fillLeast_47 : decode cX0_fillLeast 47 = .ok (.invokestatic 182, 3) := by decide +kernel
theorem dX0_fillLeast_50 : decode cX0_fillLeast 50 = .ok (.putfield 93, 3) := by decide +kernel
theorem dX0_fillLeast_53 : decode cX0_fillLeast 53 = .ok (.iinc 1 1, 3) := by decide +kernel
theorem dX0_fillLeast_56 : decode cX0_fillLeast 56 = .ok (.goto (-26), 3) := by decide +kernel
theorem dX0_fillLeast_59 : decode cX0_fillLeast 59 = .ok (.aload_n 0, 1) := by decide +kernel
theorem dX0_fillLeast_60 : decode cX0_fillLeast 60 = .ok (.lconst 0, 1) := by decide +kernel
theorem dX0_fillLeast_61 : decode cX0_fillLeast 61 = .ok (.putfield 96, 3) := by decide +kernel
theorem dX0_fillLeast_64 : decode cX0_fillLeast 64 = .ok (.iconst 0, 1) := by decide +kernel
theorem dX0_fillLeast_65 : decode cX0_fillLeast 65 = .ok (.istore_n 1, 1) := by decide +kernel
theorem dX0_fillLeast_66 : decode cX0_fillLeast 66 = .ok (.iload_n 1, 1) := by decide +kernel
theorem dX0_fillLeast_67 : decode cX0_fillLeast 67 = .ok (.bipush 24, 2) := by decide +kernel
theorem dX0_fillLeast_69 : decode cX0_fillLeast 69 = .ok (.if_icmp .ge 39, 3) := by decide +kernel
theorem dX0_fillLeast_72 : decode cX0_fillLeast 72 = .ok (.aload_n 0, 1) := by decide +kernel
theorem dX0_fillLeast_73 : decode cX0_fillLeast 73 = .ok (.getfield 22, 3) := by decide +kernel
theorem dX0_fillLeast_76 : decode cX0_fillLeast 76 = .ok (.iload_n 1, 1) := by decide +kernel
theorem dX0_fillLeast_77 : decode cX0_fillLeast 77 = .ok (.iaload, 1) := by decide +kernel
theorem dX0_fillLeast_78 : decode cX0_fillLeast 78 = .ok (.aload_n 0, 1) := by decide +kernel
theorem dX0_fillLeast_79 : decode cX0_fillLeast 79 = .ok (.getfield 93, 3) := by decide +kernel
theorem dX0_fillLeast_82 : decode cX0_fillLeast 82 = .ok (.if_icmp .ne 20, 3) := by decide +kernel
theorem dX0_fillLeast_85 : decode cX0_fillLeast 85 = .ok (.aload_n 0, 1) := by decide +kernel
theorem dX0_fillLeast_86 : decode cX0_fillLeast 86 = .ok (.aload_n 0, 1) := by decide +kernel
theorem dX0_fillLeast_87 : decode cX0_fillLeast 87 = .ok (.getfield 96, 3) := by decide +kernel
theorem dX0_fillLeast_90 : decode cX0_fillLeast 90 = .ok (.aload_n 0, 1) := by decide +kernel
theorem dX0_fillLeast_91 : decode cX0_fillLeast 91 = .ok (.getfield 25, 3) := by decide +kernel
theorem dX0_fillLeast_94 : decode cX0_fillLeast 94 = .ok (.iload_n 1, 1) := by decide +kernel
theorem dX0_fillLeast_95 : decode cX0_fillLeast 95 = .ok (.laload, 1) := by decide +kernel
theorem dX0_fillLeast_96 : decode cX0_fillLeast 96 = .ok (.invokestatic 199, 3) := by decide +kernel
theorem dX0_fillLeast_99 : decode cX0_fillLeast 99 = .ok (.putfield 96, 3) := by decide +kernel
theorem dX0_fillLeast_102 : decode cX0_fillLeast 102 = .ok (.iinc 1 1, 3) := by decide +kernel
theorem dX0_fillLeast_105 : decode cX0_fillLeast 105 = .ok (.goto (-39), 3) := by decide +kernel
theorem dX0_fillLeast_108 : decode cX0_fillLeast 108 = .ok (.return_, 1) := by decide +kernel
theorem dX0_cappedSum_0 : decode cX0_cappedSum 0 = .ok (.lload_n 0, 1) := by decide +kernel
theorem dX0_cappedSum_1 : decode cX0_cappedSum 1 = .ok (.lload_n 2, 1) := by decide +kernel
theorem dX0_cappedSum_2 : decode cX0_cappedSum 2 = .ok (.ladd, 1) := by decide +kernel
theorem dX0_cappedSum_3 : decode cX0_cappedSum 3 = .ok (.ldc2_w 100, 3) := by decide +kernel
theorem dX0_cappedSum_6 : decode cX0_cappedSum 6 = .ok (.invokestatic 203, 3) := by decide +kernel
theorem dX0_cappedSum_9 : decode cX0_cappedSum 9 = .ok (.lreturn, 1) := by decide +kernel
theorem dX0_followBest_0 : decode cX0_followBest 0 = .ok (.lload_n 1, 1) := by decide +kernel
theorem dX0_followBest_1 : decode cX0_followBest 1 = .ok (.lstore 5, 2) := by decide +kernel
theorem dX0_followBest_3 : decode cX0_followBest 3 = .ok (.iconst (-1), 1) := by decide +kernel
theorem dX0_followBest_4 : decode cX0_followBest 4 = .ok (.istore 7, 2) := by decide +kernel
theorem dX0_followBest_6 : decode cX0_followBest 6 = .ok (.iconst 0, 1) := by decide +kernel
theorem dX0_followBest_7 : decode cX0_followBest 7 = .ok (.istore 8, 2) := by decide +kernel
theorem dX0_followBest_9 : decode cX0_followBest 9 = .ok (.iload 8, 2) := by decide +kernel
theorem dX0_followBest_11 : decode cX0_followBest 11 = .ok (.iload_n 3, 1) := by decide +kernel
theorem dX0_followBest_12 : decode cX0_followBest 12 = .ok (.if_icmp .gt 128, 3) := by decide +kernel
theorem dX0_followBest_15 : decode cX0_followBest 15 = .ok (.aload_n 0, 1) := by decide +kernel
theorem dX0_followBest_16 : decode cX0_followBest 16 = .ok (.iload 8, 2) := by decide +kernel
theorem dX0_followBest_18 : decode cX0_followBest 18 = .ok (.iconst 1, 1) := by decide +kernel
theorem dX0_followBest_19 : decode cX0_followBest 19 = .ok (.isub, 1) := by decide +kernel
theorem dX0_followBest_20 : decode cX0_followBest 20 = .ok (.iload 7, 2) := by decide +kernel
theorem dX0_followBest_22 : decode cX0_followBest 22 = .ok (.invokevirtual 205, 3) := by decide +kernel
theorem dX0_followBest_25 : decode cX0_followBest 25 = .ok (.istore 9, 2) := by decide +kernel
theorem dX0_followBest_27 : decode cX0_followBest 27 = .ok (.iconst (-1), 1) := by decide +kernel
theorem dX0_followBest_28 : decode cX0_followBest 28 = .ok (.istore 10, 2) := by decide +kernel
theorem dX0_followBest_30 : decode cX0_followBest 30 = .ok (.iconst 0, 1) := by decide +kernel
theorem dX0_followBest_31 : decode cX0_followBest 31 = .ok (.istore 11, 2) := by decide +kernel
theorem dX0_followBest_33 : decode cX0_followBest 33 = .ok (.iload 11, 2) := by decide +kernel
theorem dX0_followBest_35 : decode cX0_followBest 35 = .ok (.bipush 24, 2) := by decide +kernel
theorem dX0_followBest_37 : decode cX0_followBest 37 = .ok (.if_icmp .ge 78, 3) := by decide +kernel
theorem dX0_followBest_40 : decode cX0_followBest 40 = .ok (.iload 10, 2) := by decide +kernel
theorem dX0_followBest_42 : decode cX0_followBest 42 = .ok (.iconst (-1), 1) := by decide +kernel
theorem dX0_followBest_43 : decode cX0_followBest 43 = .ok (.if_icmp .ne 72, 3) := by decide +kernel
theorem dX0_followBest_46 : decode cX0_followBest 46 = .ok (.iload 8, 2) := by decide +kernel
theorem dX0_followBest_48 : decode cX0_followBest 48 = .ok (.bipush 24, 2) := by decide +kernel
theorem dX0_followBest_50 : decode cX0_followBest 50 = .ok (.imul, 1) := by decide +kernel
theorem dX0_followBest_51 : decode cX0_followBest 51 = .ok (.iload 11, 2) := by decide +kernel
theorem dX0_followBest_53 : decode cX0_followBest 53 = .ok (.iadd, 1) := by decide +kernel
theorem dX0_followBest_54 : decode cX0_followBest 54 = .ok (.istore 12, 2) := by decide +kernel
theorem dX0_followBest_56 : decode cX0_followBest 56 = .ok (.aload_n 0, 1) := by decide +kernel
theorem dX0_followBest_57 : decode cX0_followBest 57 = .ok (.iload 7, 2) := by decide +kernel
theorem dX0_followBest_59 : decode cX0_followBest 59 = .ok (.iload 11, 2) := by decide +kernel
theorem dX0_followBest_61 : decode cX0_followBest 61 = .ok (.invokevirtual 208, 3) := by decide +kernel
theorem dX0_followBest_64 : decode cX0_followBest 64 = .ok (.aload_n 0, 1) := by decide +kernel
theorem dX0_followBest_65 : decode cX0_followBest 65 = .ok (.getfield 22, 3) := by decide +kernel
theorem dX0_followBest_68 : decode cX0_followBest 68 = .ok (.iload 12, 2) := by decide +kernel
theorem dX0_followBest_70 : decode cX0_followBest 70 = .ok (.iaload, 1) := by decide +kernel
theorem dX0_followBest_71 : decode cX0_followBest 71 = .ok (.iadd, 1) := by decide +kernel
theorem dX0_followBest_72 : decode cX0_followBest 72 = .ok (.iload 9, 2) := by decide +kernel
theorem dX0_followBest_74 : decode cX0_followBest 74 = .ok (.if_icmp .ne 35, 3) := by decide +kernel
theorem dX0_followBest_77 : decode cX0_followBest 77 = .ok (.lload 5, 2) := by decide +kernel
theorem dX0_followBest_79 : decode cX0_followBest 79 = .ok (.aload_n 0, 1) := by decide +kernel
theorem dX0_followBest_80 : decode cX0_followBest 80 = .ok (.getfield 25, 3) := by decide +kernel
theorem dX0_followBest_83 : decode cX0_followBest 83 = .ok (.iload 12, 2) := by decide +kernel
theorem dX0_followBest_85 : decode cX0_followBest 85 = .ok (.laload, 1) := by decide +kernel
theorem dX0_followBest_86 : decode cX0_followBest 86 = .ok (.lcmp, 1) := by decide +kernel
theorem dX0_followBest_87 : decode cX0_followBest 87 = .ok (.ifCond .ge 10, 3) := by decide +kernel
theorem dX0_followBest_90 : decode cX0_followBest 90 = .ok (.iload 11, 2) := by decide +kernel
theorem dX0_followBest_92 : decode cX0_followBest 92 = .ok (.istore 10, 2) := by decide +kernel
theorem dX0_followBest_94 : decode cX0_followBest 94 = .ok (.goto 15, 3) := by decide +kernel
theorem dX0_followBest_97 : decode cX0_followBest 97 = .ok (.lload 5, 2) := by decide +kernel
theorem dX0_followBest_99 : decode cX0_followBest 99 = .ok (.aload_n 0, 1) := by decide +kernel
theorem dX0_followBest_100 : decode cX0_followBest 100 = .ok (.getfield 25, 3) := by decide +kernel
theorem dX0_followBest_103 : decode cX0_followBest 103 = .ok (.iload 12, 2) := by decide +kernel
theorem dX0_followBest_105 : decode cX0_followBest 105 = .ok (.laload, 1) := by decide +kernel
theorem dX0_followBest_106 : decode cX0_followBest 106 = .ok (.lsub, 1) := by decide +kernel
theorem dX0_followBest_107 : decode cX0_followBest 107 = .ok (.lstore 5, 2) := by decide +kernel
theorem dX0_followBest_109 : decode cX0_followBest 109 = .ok (.iinc 11 1, 3) := by decide +kernel
theorem dX0_followBest_112 : decode cX0_followBest 112 = .ok (.goto (-79), 3) := by decide +kernel
theorem dX0_followBest_115 : decode cX0_followBest 115 = .ok (.iload 10, 2) := by decide +kernel
theorem dX0_followBest_117 : decode cX0_followBest 117 = .ok (.iconst (-1), 1) := by decide +kernel
theorem dX0_followBest_118 : decode cX0_followBest 118 = .ok (.if_icmp .ne 5, 3) := by decide +kernel
theorem dX0_followBest_121 : decode cX0_followBest 121 = .ok (.iconst (-1), 1) := by decide +kernel
theorem dX0_followBest_122 : decode cX0_followBest 122 = .ok (.ireturn, 1) := by decide +kernel
theorem dX0_followBest_123 : decode cX0_followBest 123 = .ok (.aload 4, 2) := by decide +kernel
theorem dX0_followBest_125 : decode cX0_followBest 125 = .ok (.iload 8, 2) := by decide +kernel
theorem dX0_followBest_127 : decode cX0_followBest 127 = .ok (.iload 10, 2) := by decide +kernel
theorem dX0_followBest_129 : decode cX0_followBest 129 = .ok (.iastore, 1) := by decide +kernel
theorem dX0_followBest_130 : decode cX0_followBest 130 = .ok (.iload 10, 2) := by decide +kernel
theorem dX0_followBest_132 : decode cX0_followBest 132 = .ok (.istore 7, 2) := by decide +kernel
theorem dX0_followBest_134 : decode cX0_followBest 134 = .ok (.iinc 8 1, 3) := by decide +kernel
theorem dX0_followBest_137 : decode cX0_followBest 137 = .ok (.goto (-128), 3) := by decide +kernel
theorem dX0_followBest_140 : decode cX0_followBest 140 = .ok (.iload 7, 2) := by decide +kernel
theorem dX0_followBest_142 : decode cX0_followBest 142 = .ok (.ireturn, 1) := by decide +kernel
theorem dX0_restAfter_0 : decode cX0_restAfter 0 = .ok (.iload_n 1, 1) := by decide +kernel
theorem dX0_restAfter_1 : decode cX0_restAfter 1 = .ok (.ifCond .lt 8, 3) := by decide +kernel
theorem dX0_restAfter_4 : decode cX0_restAfter 4 = .ok (.iload_n 2, 1) := by decide +kernel
theorem dX0_restAfter_5 : decode cX0_restAfter 5 = .ok (.iconst (-1), 1) := by decide +kernel
theorem dX0_restAfter_6 : decode cX0_restAfter 6 = .ok (.if_icmp .ne 10, 3) := by decide +kernel
theorem dX0_restAfter_9 : decode cX0_restAfter 9 = .ok (.aload_n 0, 1) := by decide +kernel
theorem dX0_restAfter_10 : decode cX0_restAfter 10 = .ok (.getfield 93, 3) := by decide +kernel
theorem dX0_restAfter_13 : decode cX0_restAfter 13 = .ok (.goto 26, 3) := by decide +kernel
theorem dX0_restAfter_16 : decode cX0_restAfter 16 = .ok (.aload_n 0, 1) := by decide +kernel
theorem dX0_restAfter_17 : decode cX0_restAfter 17 = .ok (.getfield 22, 3) := by decide +kernel
theorem dX0_restAfter_20 : decode cX0_restAfter 20 = .ok (.iload_n 1, 1) := by decide +kernel
theorem dX0_restAfter_21 : decode cX0_restAfter 21 = .ok (.bipush 24, 2) := by decide +kernel
theorem dX0_restAfter_23 : decode cX0_restAfter 23 = .ok (.imul, 1) := by decide +kernel
theorem dX0_restAfter_24 : decode cX0_restAfter 24 = .ok (.iload_n 2, 1) := by decide +kernel
theorem dX0_restAfter_25 : decode cX0_restAfter 25 = .ok (.iadd, 1) := by decide +kernel
theorem dX0_restAfter_26 : decode cX0_restAfter 26 = .ok (.iaload, 1) := by decide +kernel
theorem dX0_restAfter_27 : decode cX0_restAfter 27 = .ok (.aload_n 0, 1) := by decide +kernel
theorem dX0_restAfter_28 : decode cX0_restAfter 28 = .ok (.getfield 19, 3) := by decide +kernel
theorem dX0_restAfter_31 : decode cX0_restAfter 31 = .ok (.iload_n 1, 1) := by decide +kernel
theorem dX0_restAfter_32 : decode cX0_restAfter 32 = .ok (.bipush 24, 2) := by decide +kernel
theorem dX0_restAfter_34 : decode cX0_restAfter 34 = .ok (.imul, 1) := by decide +kernel
theorem dX0_restAfter_35 : decode cX0_restAfter 35 = .ok (.iload_n 2, 1) := by decide +kernel
theorem dX0_restAfter_36 : decode cX0_restAfter 36 = .ok (.iadd, 1) := by decide +kernel
theorem dX0_restAfter_37 : decode cX0_restAfter 37 = .ok (.iaload, 1) := by decide +kernel
theorem dX0_restAfter_38 : decode cX0_restAfter 38 = .ok (.isub, 1) := by decide +kernel
theorem dX0_restAfter_39 : decode cX0_restAfter 39 = .ok (.ireturn, 1) := by decide +kernel
theorem dX0_turnInto_0 : decode cX0_turnInto 0 = .ok (.iload_n 1, 1) := by decide +kernel
theorem dX0_turnInto_1 : decode cX0_turnInto 1 = .ok (.iconst (-1), 1) := by decide +kernel
theorem dX0_turnInto_2 : decode cX0_turnInto 2 = .ok (.if_icmp .ne 7, 3) := by decide +kernel
theorem dX0_turnInto_5 : decode cX0_turnInto 5 = .ok (.iconst 0, 1) := by decide +kernel
theorem dX0_turnInto_6 : decode cX0_turnInto 6 = .ok (.goto 14, 3) := by decide +kernel
theorem dX0_turnInto_9 : decode cX0_turnInto 9 = .ok (.aload_n 0, 1) := by decide +kernel
theorem dX0_turnInto_10 : decode cX0_turnInto 10 = .ok (.getfield 16, 3) := by decide +kernel
theorem dX0_turnInto_13 : decode cX0_turnInto 13 = .ok (.iload_n 1, 1) := by decide +kernel
theorem dX0_turnInto_14 : decode cX0_turnInto 14 = .ok (.bipush 24, 2) := by decide +kernel
theorem dX0_turnInto_16 : decode cX0_turnInto 16 = .ok (.imul, 1) := by decide +kernel
theorem dX0_turnInto_17 : decode cX0_turnInto 17 = .ok (.iload_n 2, 1) := by decide +kernel
theorem dX0_turnInto_18 : decode cX0_turnInto 18 = .ok (.iadd, 1) := by decide +kernel
theorem dX0_turnInto_19 : decode cX0_turnInto 19 = .ok (.iaload, 1) := by decide +kernel
theorem dX0_turnInto_20 : decode cX0_turnInto 20 = .ok (.ireturn, 1) := by decide +kernel
theorem dX0_knowHeads_0 : decode cX0_knowHeads 0 = .ok (.aload_n 0, 1) := by decide +kernel
theorem dX0_knowHeads_1 : decode cX0_knowHeads 1 = .ok (.invokevirtual 90, 3) := by decide +kernel
theorem dX0_knowHeads_4 : decode cX0_knowHeads 4 = .ok (.aload_n 0, 1) := by decide +kernel
theorem dX0_knowHeads_5 : decode cX0_knowHeads 5 = .ok (.getfield 160, 3) := by decide +kernel
theorem dX0_knowHeads_8 : decode cX0_knowHeads 8 = .ok (.ifCond .eq 4, 3) := by decide +kernel
theorem dX0_knowHeads_11 : decode cX0_knowHeads 11 = .ok (.return_, 1) := by decide +kernel
theorem dX0_knowHeads_12 : decode cX0_knowHeads 12 = .ok (.iconst 0, 1) := by decide +kernel
theorem dX0_knowHeads_13 : decode cX0_knowHeads 13 = .ok (.istore_n 1, 1) := by decide +kernel
theorem dX0_knowHeads_14 : decode cX0_knowHeads 14 = .ok (.iload_n 1, 1) := by decide +kernel
theorem dX0_knowHeads_15 : decode cX0_knowHeads 15 = .ok (.aload_n 0, 1) := by decide +kernel
theorem dX0_knowHeads_16 : decode cX0_knowHeads 16 = .ok (.getfield 41, 3) := by decide +kernel
theorem dX0_knowHeads_19 : decode cX0_knowHeads 19 = .ok (.if_icmp .ge 57, 3) := by decide +kernel
theorem dX0_knowHeads_22 : decode cX0_knowHeads 22 = .ok (.iconst 0, 1) := by decide +kernel
theorem dX0_knowHeads_23 : decode cX0_knowHeads 23 = .ok (.istore_n 2, 1) := by decide +kernel
theorem dX0_knowHeads_24 : decode cX0_knowHeads 24 = .ok (.iload_n 2, 1) := by decide +kernel
theorem dX0_knowHeads_25 : decode cX0_knowHeads 25 = .ok (.bipush 24, 2) := by decide +kernel
theorem dX0_knowHeads_27 : decode cX0_knowHeads 27 = .ok (.if_icmp .ge 43, 3) := by decide +kernel
theorem dX0_knowHeads_30 : decode cX0_knowHeads 30 = .ok (.iload_n 1, 1) := by decide +kernel
theorem dX0_knowHeads_31 : decode cX0_knowHeads 31 = .ok (.bipush 24, 2) := by decide +kernel
theorem dX0_knowHeads_33 : decode cX0_knowHeads 33 = .ok (.imul, 1) := by decide +kernel
theorem dX0_knowHeads_34 : decode cX0_knowHeads 34 = .ok (.iload_n 2, 1) := by decide +kernel
theorem dX0_knowHeads_35 : decode cX0_knowHeads 35 = .ok (.iadd, 1) := by decide +kernel
theorem dX0_knowHeads_36 : decode cX0_knowHeads 36 = .ok (.istore_n 3, 1) := by decide +kernel
theorem dX0_knowHeads_37 : decode cX0_knowHeads 37 = .ok (.aload_n 0, 1) := by decide +kernel
theorem dX0_knowHeads_38 : decode cX0_knowHeads 38 = .ok (.getfield 29, 3) := by decide +kernel
theorem dX0_knowHeads_41 : decode cX0_knowHeads 41 = .ok (.iload_n 3, 1) := by decide +kernel
theorem dX0_knowHeads_42 : decode cX0_knowHeads 42 = .ok (.aload_n 0, 1) := by decide +kernel
theorem dX0_knowHeads_43 : decode cX0_knowHeads 43 = .ok (.getfield 19, 3) := by decide +kernel
theorem dX0_knowHeads_46 : decode cX0_knowHeads 46 = .ok (.iload_n 3, 1) := by decide +kernel
theorem dX0_knowHeads_47 : decode cX0_knowHeads 47 = .ok (.iaload, 1) := by decide +kernel
theorem dX0_knowHeads_48 : decode cX0_knowHeads 48 = .ok (.iload_n 1, 1) := by decide +kernel
theorem dX0_knowHeads_49 : decode cX0_knowHeads 49 = .ok (.ifCond .ne 7, 3) := by decide +kernel
theorem dX0_knowHeads_52 : decode cX0_knowHeads 52 = .ok (.iconst 0, 1) := by decide +kernel
theorem dX0_knowHeads_53 : decode cX0_knowHeads 53 = .ok (.goto 9, 3) := by decide +kernel
theorem dX0_knowHeads_56 : decode cX0_knowHeads 56 = .ok (.aload_n 0, 1) := by decide +kernel
theorem dX0_knowHeads_57 : decode cX0_knowHeads 57 = .ok (.iload_n 1, 1) := by decide +kernel
theorem dX0_knowHeads_58 : decode cX0_knowHeads 58 = .ok (.iload_n 2, 1) := by decide +kernel
theorem dX0_knowHeads_59 : decode cX0_knowHeads 59 = .ok (.invokevirtual 211, 3) := by decide +kernel
theorem dX0_knowHeads_62 : decode cX0_knowHeads 62 = .ok (.iadd, 1) := by decide +kernel
theorem dX0_knowHeads_63 : decode cX0_knowHeads 63 = .ok (.iastore, 1) := by decide +kernel
theorem dX0_knowHeads_64 : decode cX0_knowHeads 64 = .ok (.iinc 2 1, 3) := by decide +kernel
theorem dX0_knowHeads_67 : decode cX0_knowHeads 67 = .ok (.goto (-43), 3) := by decide +kernel
theorem dX0_knowHeads_70 : decode cX0_knowHeads 70 = .ok (.iinc 1 1, 3) := by decide +kernel
theorem dX0_knowHeads_73 : decode cX0_knowHeads 73 = .ok (.goto (-59), 3) := by decide +kernel
theorem dX0_knowHeads_76 : decode cX0_knowHeads 76 = .ok (.aload_n 0, 1) := by decide +kernel
theorem dX0_knowHeads_77 : decode cX0_knowHeads 77 = .ok (.iconst 1, 1) := by decide +kernel
theorem dX0_knowHeads_78 : decode cX0_knowHeads 78 = .ok (.putfield 160, 3) := by decide +kernel
theorem dX0_knowHeads_81 : decode cX0_knowHeads 81 = .ok (.return_, 1) := by decide +kernel
theorem dX0_leastInto_0 : decode cX0_leastInto 0 = .ok (.ldc 198, 2) := by decide +kernel
theorem dX0_leastInto_2 : decode cX0_leastInto 2 = .ok (.istore_n 3, 1) := by decide +kernel
theorem dX0_leastInto_3 : decode cX0_leastInto 3 = .ok (.iconst 0, 1) := by decide +kernel
theorem dX0_leastInto_4 : decode cX0_leastInto 4 = .ok (.istore 4, 2) := by decide +kernel
theorem dX0_leastInto_6 : decode cX0_leastInto 6 = .ok (.iload 4, 2) := by decide +kernel
theorem dX0_leastInto_8 : decode cX0_leastInto 8 = .ok (.bipush 24, 2) := by decide +kernel
theorem dX0_leastInto_10 : decode cX0_leastInto 10 = .ok (.if_icmp .ge 41, 3) := by decide +kernel
theorem dX0_leastInto_13 : decode cX0_leastInto 13 = .ok (.iload_n 3, 1) := by decide +kernel
theorem dX0_leastInto_14 : decode cX0_leastInto 14 = .ok (.aload_n 0, 1) := by decide +kernel
theorem dX0_leastInto_15 : decode cX0_leastInto 15 = .ok (.getfield 29, 3) := by decide +kernel
theorem dX0_leastInto_18 : decode cX0_leastInto 18 = .ok (.iload_n 1, 1) := by decide +kernel
theorem dX0_leastInto_19 : decode cX0_leastInto 19 = .ok (.iconst 1, 1) := by decide +kernel
theorem dX0_leastInto_20 : decode cX0_leastInto 20 = .ok (.isub, 1) := by decide +kernel
theorem dX0_leastInto_21 : decode cX0_leastInto 21 = .ok (.bipush 24, 2) := by decide +kernel
theorem dX0_leastInto_23 : decode cX0_leastInto 23 = .ok (.imul, 1) := by decide +kernel
theorem dX0_leastInto_24 : decode cX0_leastInto 24 = .ok (.iload 4, 2) := by decide +kernel
theorem dX0_leastInto_26 : decode cX0_leastInto 26 = .ok (.iadd, 1) := by decide +kernel
theorem dX0_leastInto_27 : decode cX0_leastInto 27 = .ok (.iaload, 1) := by decide +kernel
theorem dX0_leastInto_28 : decode cX0_leastInto 28 = .ok (.aload_n 0, 1) := by decide +kernel
theorem dX0_leastInto_29 : decode cX0_leastInto 29 = .ok (.getfield 16, 3) := by decide +kernel
theorem dX0_leastInto_32 : decode cX0_leastInto 32 = .ok (.iload 4, 2) := by decide +kernel
theorem dX0_leastInto_34 : decode cX0_leastInto 34 = .ok (.bipush 24, 2) := by decide +kernel
theorem dX0_leastInto_36 : decode cX0_leastInto 36 = .ok (.imul, 1) := by decide +kernel
theorem dX0_leastInto_37 : decode cX0_leastInto 37 = .ok (.iload_n 2, 1) := by decide +kernel
theorem dX0_leastInto_38 : decode cX0_leastInto 38 = .ok (.iadd, 1) := by decide +kernel
theorem dX0_leastInto_39 : decode cX0_leastInto 39 = .ok (.iaload, 1) := by decide +kernel
theorem dX0_leastInto_40 : decode cX0_leastInto 40 = .ok (.iadd, 1) := by decide +kernel
theorem dX0_leastInto_41 : decode cX0_leastInto 41 = .ok (.invokestatic 182, 3) := by decide +kernel
theorem dX0_leastInto_44 : decode cX0_leastInto 44 = .ok (.istore_n 3, 1) := by decide +kernel
theorem dX0_leastInto_45 : decode cX0_leastInto 45 = .ok (.iinc 4 1, 3) := by decide +kernel
theorem dX0_leastInto_48 : decode cX0_leastInto 48 = .ok (.goto (-42), 3) := by decide +kernel
theorem dX0_leastInto_51 : decode cX0_leastInto 51 = .ok (.iload_n 3, 1) := by decide +kernel
theorem dX0_leastInto_52 : decode cX0_leastInto 52 = .ok (.ireturn, 1) := by decide +kernel
theorem dX0_leastThrough_0 : decode cX0_leastThrough 0 = .ok (.iload_n 1, 1) := by decide +kernel
theorem dX0_leastThrough_1 : decode cX0_leastThrough 1 = .ok (.bipush 24, 2) := by decide +kernel
theorem dX0_leastThrough_3 : decode cX0_leastThrough 3 = .ok (.imul, 1) := by decide +kernel
theorem dX0_leastThrough_4 : decode cX0_leastThrough 4 = .ok (.iload_n 2, 1) := by decide +kernel
theorem dX0_leastThrough_5 : decode cX0_leastThrough 5 = .ok (.iadd, 1) := by decide +kernel
theorem dX0_leastThrough_6 : decode cX0_leastThrough 6 = .ok (.istore_n 3, 1) := by decide +kernel
theorem dX0_leastThrough_7 : decode cX0_leastThrough 7 = .ok (.aload_n 0, 1) := by decide +kernel
theorem dX0_leastThrough_8 : decode cX0_leastThrough 8 = .ok (.getfield 29, 3) := by decide +kernel
theorem dX0_leastThrough_11 : decode cX0_leastThrough 11 = .ok (.iload_n 3, 1) := by decide +kernel
theorem dX0_leastThrough_12 : decode cX0_leastThrough 12 = .ok (.iaload, 1) := by decide +kernel
theorem dX0_leastThrough_13 : decode cX0_leastThrough 13 = .ok (.aload_n 0, 1) := by decide +kernel
theorem dX0_leastThrough_14 : decode cX0_leastThrough 14 = .ok (.getfield 22, 3) := by decide +kernel
theorem dX0_leastThrough_17 : decode cX0_leastThrough 17 = .ok (.iload_n 3, 1) := by decide +kernel
theorem dX0_leastThrough_18 : decode cX0_leastThrough 18 = .ok (.iaload, 1) := by decide +kernel
theorem dX0_leastThrough_19 : decode cX0_leastThrough 19 = .ok (.iadd, 1) := by decide +kernel
theorem dX0_leastThrough_20 : decode cX0_leastThrough 20 = .ok (.aload_n 0, 1) := by decide +kernel
theorem dX0_leastThrough_21 : decode cX0_leastThrough 21 = .ok (.getfield 19, 3) := by decide +kernel
theorem dX0_leastThrough_24 : decode cX0_leastThrough 24 = .ok (.iload_n 3, 1) := by decide +kernel
theorem dX0_leastThrough_25 : decode cX0_leastThrough 25 = .ok (.iaload, 1) := by decide +kernel
theorem dX0_leastThrough_26 : decode cX0_leastThrough 26 = .ok (.isub, 1) := by decide +kernel
theorem dX0_leastThrough_27 : decode cX0_leastThrough 27 = .ok (.ireturn, 1) := by decide +kernel
theorem dX0_nextCost_0 : decode cX0_nextCost 0 = .ok (.ldc 198, 2) := by decide +kernel
theorem dX0_nextCost_2 : decode cX0_nextCost 2 = .ok (.istore_n 2, 1) := by decide +kernel
theorem dX0_nextCost_3 : decode cX0_nextCost 3 = .ok (.iconst 0, 1) := by decide +kernel
theorem dX0_nextCost_4 : decode cX0_nextCost 4 = .ok (.istore_n 3, 1) := by decide +kernel
theorem dX0_nextCost_5 : decode cX0_nextCost 5 = .ok (.iload_n 3, 1) := by decide +kernel
theorem dX0_nextCost_6 : decode cX0_nextCost 6 = .ok (.bipush 24, 2) := by decide +kernel
theorem dX0_nextCost_8 : decode cX0_nextCost 8 = .ok (.if_icmp .ge 30, 3) := by decide +kernel
theorem dX0_nextCost_11 : decode cX0_nextCost 11 = .ok (.iload_n 3, 1) := by decide +kernel
theorem dX0_nextCost_12 : decode cX0_nextCost 12 = .ok (.aload_n 0, 1) := by decide +kernel
theorem dX0_nextCost_13 : decode cX0_nextCost 13 = .ok (.getfield 32, 3) := by decide +kernel
theorem dX0_nextCost_16 : decode cX0_nextCost 16 = .ok (.iload_n 1, 1) := by decide +kernel
theorem dX0_nextCost_17 : decode cX0_nextCost 17 = .ok (.iaload, 1) := by decide +kernel
theorem dX0_nextCost_18 : decode cX0_nextCost 18 = .ok (.if_icmp .eq 14, 3) := by decide +kernel
theorem dX0_nextCost_21 : decode cX0_nextCost 21 = .ok (.iload_n 2, 1) := by decide +kernel
theorem dX0_nextCost_22 : decode cX0_nextCost 22 = .ok (.aload_n 0, 1) := by decide +kernel
theorem dX0_nextCost_23 : decode cX0_nextCost 23 = .ok (.iload_n 1, 1) := by decide +kernel
theorem dX0_nextCost_24 : decode cX0_nextCost 24 = .ok (.iload_n 3, 1) := by decide +kernel
theorem dX0_nextCost_25 : decode cX0_nextCost 25 = .ok (.invokevirtual 114, 3) := by decide +kernel
theorem dX0_nextCost_28 : decode cX0_nextCost 28 = .ok (.invokestatic 182, 3) := by decide +kernel
theorem dX0_nextCost_31 : decode cX0_nextCost 31 = .ok (.istore_n 2, 1) := by decide +kernel
theorem dX0_nextCost_32 : decode cX0_nextCost 32 = .ok (.iinc 3 1, 3) := by decide +kernel
theorem dX0_nextCost_35 : decode cX0_nextCost 35 = .ok (.goto (-30), 3) := by decide +kernel
theorem dX0_nextCost_38 : decode cX0_nextCost 38 = .ok (.iload_n 2, 1) := by decide +kernel
theorem dX0_nextCost_39 : decode cX0_nextCost 39 = .ok (.ireturn, 1) := by decide +kernel
theorem dX0_changesAt_0 : decode cX0_changesAt 0 = .ok (.aload_n 0, 1) := by decide +kernel
theorem dX0_changesAt_1 : decode cX0_changesAt 1 = .ok (.getfield 32, 3) := by decide +kernel
theorem dX0_changesAt_4 : decode cX0_changesAt 4 = .ok (.iload_n 1, 1) := by decide +kernel
theorem dX0_changesAt_5 : decode cX0_changesAt 5 = .ok (.iaload, 1) := by decide +kernel
theorem dX0_changesAt_6 : decode cX0_changesAt 6 = .ok (.aload_n 0, 1) := by decide +kernel
theorem dX0_changesAt_7 : decode cX0_changesAt 7 = .ok (.getfield 32, 3) := by decide +kernel
theorem dX0_changesAt_10 : decode cX0_changesAt 10 = .ok (.iload_n 1, 1) := by decide +kernel
theorem dX0_changesAt_11 : decode cX0_changesAt 11 = .ok (.iconst 1, 1) := by decide +kernel
theorem dX0_changesAt_12 : decode cX0_changesAt 12 = .ok (.isub, 1) := by decide +kernel
theorem dX0_changesAt_13 : decode cX0_changesAt 13 = .ok (.iaload, 1) := by decide +kernel
theorem dX0_changesAt_14 : decode cX0_changesAt 14 = .ok (.if_icmp .eq 7, 3) := by decide +kernel
theorem dX0_changesAt_17 : decode cX0_changesAt 17 = .ok (.iconst 1, 1) := by decide +kernel
theorem dX0_changesAt_18 : decode cX0_changesAt 18 = .ok (.goto 4, 3) := by decide +kernel
theorem dX0_changesAt_21 : decode cX0_changesAt 21 = .ok (.iconst 0, 1) := by decide +kernel
theorem dX0_changesAt_22 : decode cX0_changesAt 22 = .ok (.ireturn, 1) := by decide +kernel
theorem dX0_changesOfFirst_0 : decode cX0_changesOfFirst 0 = .ok (.aload_n 0, 1) := by decide +kernel
theorem dX0_changesOfFirst_1 : decode cX0_changesOfFirst 1 = .ok (.invokevirtual 90, 3) := by decide +kernel
theorem dX0_changesOfFirst_4 : decode cX0_changesOfFirst 4 = .ok (.iconst 0, 1) := by decide +kernel
theorem dX0_changesOfFirst_5 : decode cX0_changesOfFirst 5 = .ok (.istore_n 1, 1) := by decide +kernel
theorem dX0_changesOfFirst_6 : decode cX0_changesOfFirst 6 = .ok (.iconst 1, 1) := by decide +kernel
theorem dX0_changesOfFirst_7 : decode cX0_changesOfFirst 7 = .ok (.istore_n 2, 1) := by decide +kernel
theorem dX0_changesOfFirst_8 : decode cX0_changesOfFirst 8 = .ok (.iload_n 2, 1) := by decide +kernel
theorem dX0_changesOfFirst_9 : decode cX0_changesOfFirst 9 = .ok (.aload_n 0, 1) := by decide +kernel
theorem dX0_changesOfFirst_10 : decode cX0_changesOfFirst 10 = .ok (.getfield 41, 3) := by decide +kernel
theorem dX0_changesOfFirst_13 : decode cX0_changesOfFirst 13 = .ok (.if_icmp .ge 20, 3) := by decide +kernel
theorem dX0_changesOfFirst_16 : decode cX0_changesOfFirst 16 = .ok (.aload_n 0, 1) := by decide +kernel
theorem dX0_changesOfFirst_17 : decode cX0_changesOfFirst 17 = .ok (.iload_n 2, 1) := by decide +kernel
theorem dX0_changesOfFirst_18 : decode cX0_changesOfFirst 18 = .ok (.invokevirtual 128, 3) := by decide +kernel
theorem dX0_changesOfFirst_21 : decode cX0_changesOfFirst 21 = .ok (.ifCond .eq 6, 3) := by decide +kernel
theorem dX0_changesOfFirst_24 : decode cX0_changesOfFirst 24 = .ok (.iinc 1 1, 3) := by decide +kernel
theorem dX0_changesOfFirst_27 : decode cX0_changesOfFirst 27 = .ok (.iinc 2 1, 3) := by decide +kernel
theorem dX0_changesOfFirst_30 : decode cX0_changesOfFirst 30 = .ok (.goto (-22), 3) := by decide +kernel
theorem dX0_changesOfFirst_33 : decode cX0_changesOfFirst 33 = .ok (.iload_n 1, 1) := by decide +kernel
theorem dX0_changesOfFirst_34 : decode cX0_changesOfFirst 34 = .ok (.ireturn, 1) := by decide +kernel
end
section
set_option maxHeartbeats 4000000 in
set_option maxRecDepth 100000 in
theorem c_tonicOf (E : KE) (k : Nat) (H0 : k < 2 ^ 31) : kMi E yX0_tonicOf cX0_tonicOf 1 (rk 0 0) [.int (nI (k))] [] (fun r w => r = nI (k % 12) ∧ w = []) := by
  refine kMi_of (cc := cX0_tonicOf) (maxL := 1) (by decide) (Nat.le_of_ble_eq_true rfl) ?_
  intro G C hE
  refine kx_iload_n C dX0_tonicOf_0 rfl 0 rfl ?_
  refine kx_bipush (v := nI 12) C dX0_tonicOf_1 (by decide +kernel) ?_
  refine kx_irem C (by omega) (by decide) (by decide) dX0_tonicOf_3 ?_
  exact hE (Nat.le_of_ble_eq_true rfl) (Nat.le_of_ble_eq_true rfl) dX0_tonicOf_4 ⟨rfl, rfl⟩

set_option maxHeartbeats 4000000 in
set_option maxRecDepth 100000 in
theorem c_modeOf (E : KE) (k : Nat) (H0 : k < 2 ^ 31) : kMi E yX0_modeOf cX0_modeOf 1 (rk 0 0) [.int (nI (k))] [] (fun r w => r = nI (k / 12) ∧ w = []) := by
  refine kMi_of (cc := cX0_modeOf) (maxL := 1) (by decide) (Nat.le_of_ble_eq_true rfl) ?_
  intro G C hE
  refine kx_iload_n C dX0_modeOf_0 rfl 0 rfl ?_
  refine kx_bipush (v := nI 12) C dX0_modeOf_1 (by decide +kernel) ?_
  refine kx_idiv C (by omega) (by decide) (by decide) dX0_modeOf_3 ?_
  exact hE (Nat.le_of_ble_eq_true rfl) (Nat.le_of_ble_eq_true rfl) dX0_modeOf_4 ⟨rfl, rfl⟩

set_option maxHeartbeats 4000000 in
set_option maxRecDepth 100000 in
theorem c_placeOf (E : KE) (k : Nat) (H0 : k < 24) : kMi E yX0_placeOf cX0_placeOf 2 (rk 1 0) [.int (nI (k))] [] (fun r w => r = nI (plc k) ∧ w = []) := by
  refine kMi_of (cc := cX0_placeOf) (maxL := 2) (by decide) (Nat.le_of_ble_eq_true rfl) ?_
  intro G C hE
  refine kx_iload_n C dX0_placeOf_0 rfl 0 rfl ?_
  refine kx_callSi (rest := []) (wr := []) C (c_modeOf E k (by omega)) g0_165 1 rfl (by decide +kernel) ⟨Nat.le_of_ble_eq_true rfl, Nat.le_of_ble_eq_true rfl⟩ ⟨Nat.le_of_ble_eq_true rfl, Nat.le_of_ble_eq_true rfl⟩ [] [] rfl rfl (by decide) (by decide) (by decide) rfl (Nat.le_of_ble_eq_true rfl) dX0_placeOf_1 (fun v w q1 => ?_)
  obtain ⟨rfl, rfl⟩ := q1
  refine kx_eqw (ws2 := []) (List.append_nil _) ?_
  refine kx_if_ne (tgt := 14) C (by omega) dX0_placeOf_4 (by decide) (fun c2 => ?_) (fun c2 => ?_)
  · skip
    refine kx_iload_n C dX0_placeOf_14 rfl 0 rfl ?_
    refine kx_callSi (rest := []) (wr := []) C (c_tonicOf E k (by omega)) g0_168 1 rfl (by decide +kernel) ⟨Nat.le_of_ble_eq_true rfl, Nat.le_of_ble_eq_true rfl⟩ ⟨Nat.le_of_ble_eq_true rfl, Nat.le_of_ble_eq_true rfl⟩ [] [] rfl rfl (by decide) (by decide) (by decide) rfl (Nat.le_of_ble_eq_true rfl) dX0_placeOf_15 (fun v w q3 => ?_)
    obtain ⟨rfl, rfl⟩ := q3
    refine kx_eqw (ws2 := []) (List.append_nil _) ?_
    refine kx_iconst (v := nI 3) C dX0_placeOf_18 (by decide +kernel) ?_
    refine kx_iadd C dX0_placeOf_19 ?_
    refine kx_istore_n (lv2 := [(1, .int (nI ((k % 12) + (3)))), (0, .int (nI (k)))]) C dX0_placeOf_20 rfl (by decide) rfl ?_
    refine kx_bipush (v := nI 7) C dX0_placeOf_21 (by decide +kernel) ?_
    refine kx_iload_n C dX0_placeOf_23 rfl 0 rfl ?_
    refine kx_imul C dX0_placeOf_24 ?_
    refine kx_bipush (v := nI 12) C dX0_placeOf_25 (by decide +kernel) ?_
    refine kx_irem C (by omega) (by decide) (by decide) dX0_placeOf_27 ?_
    exact hE (Nat.le_of_ble_eq_true rfl) (Nat.le_of_ble_eq_true rfl) dX0_placeOf_28 ⟨by simp [plc, *], rfl⟩
  · skip
    refine kx_iload_n C dX0_placeOf_7 rfl 0 rfl ?_
    refine kx_callSi (rest := []) (wr := []) C (c_tonicOf E k (by omega)) g0_168 1 rfl (by decide +kernel) ⟨Nat.le_of_ble_eq_true rfl, Nat.le_of_ble_eq_true rfl⟩ ⟨Nat.le_of_ble_eq_true rfl, Nat.le_of_ble_eq_true rfl⟩ [] [] rfl rfl (by decide) (by decide) (by decide) rfl (Nat.le_of_ble_eq_true rfl) dX0_placeOf_8 (fun v w q4 => ?_)
    obtain ⟨rfl, rfl⟩ := q4
    refine kx_eqw (ws2 := []) (List.append_nil _) ?_
    refine kx_goto (tgt := 20) C dX0_placeOf_11 (by decide) ?_
    refine kx_istore_n (lv2 := [(1, .int (nI (k % 12))), (0, .int (nI (k)))]) C dX0_placeOf_20 rfl (by decide) rfl ?_
    refine kx_bipush (v := nI 7) C dX0_placeOf_21 (by decide +kernel) ?_
    refine kx_iload_n C dX0_placeOf_23 rfl 0 rfl ?_
    refine kx_imul C dX0_placeOf_24 ?_
    refine kx_bipush (v := nI 12) C dX0_placeOf_25 (by decide +kernel) ?_
    refine kx_irem C (by omega) (by decide) (by decide) dX0_placeOf_27 ?_
    exact hE (Nat.le_of_ble_eq_true rfl) (Nat.le_of_ble_eq_true rfl) dX0_placeOf_28 ⟨by simp [plc, *], rfl⟩

set_option maxHeartbeats 4000000 in
set_option maxRecDepth 100000 in
theorem c_numberOf (E : KE) (K : Nat → Nat) (b y o n ls bc tk hk : Nat) (P Wt Tu Sc Ta Wa He Fk Pk : Nat → Nat) (p k : Nat) (H0 : p < 12) (H1 : k < 24) : kMi E yX0_numberOf cX0_numberOf 4 (rk 1 0) [.ref (K 0), .int (nI (p)), .int (nI (k))] (kwW E K b y o n ls bc tk hk P Wt Tu Sc Ta Wa He Fk Pk) (fun r w => r = nI (P (numX p k)) ∧ w = (kwW E K b y o n ls bc tk hk P Wt Tu Sc Ta Wa He Fk Pk)) := by
  refine kMi_of (cc := cX0_numberOf) (maxL := 4) (by decide) (Nat.le_of_ble_eq_true rfl) ?_
  intro G C hE
  refine kx_iload_n C dX0_numberOf_0 rfl 1 rfl ?_
  refine kx_bipush (v := nI 12) C dX0_numberOf_1 (by decide +kernel) ?_
  refine kx_iadd C dX0_numberOf_3 ?_
  refine kx_iload_n C dX0_numberOf_4 rfl 2 rfl ?_
  refine kx_callSi (rest := [.int (nI ((p) + (12)))]) (wr := (kwW E K b y o n ls bc tk hk P Wt Tu Sc Ta Wa He Fk Pk)) C (c_tonicOf E k (by omega)) g0_168 1 rfl (by decide +kernel) ⟨Nat.le_of_ble_eq_true rfl, Nat.le_of_ble_eq_true rfl⟩ ⟨Nat.le_of_ble_eq_true rfl, Nat.le_of_ble_eq_true rfl⟩ [] [0, 1, 2, 3, 4, 5, 6, 7, 8, 9] rfl rfl (by decide) (by decide) (by decide) rfl (Nat.le_of_ble_eq_true rfl) dX0_numberOf_5 (fun v w q1 => ?_)
  obtain ⟨rfl, rfl⟩ := q1
  refine kx_eqw (ws2 := (kwW E K b y o n ls bc tk hk P Wt Tu Sc Ta Wa He Fk Pk)) (List.append_nil _) ?_
  refine kx_isub C (by omega) dX0_numberOf_8 ?_
  refine kx_bipush (v := nI 12) C dX0_numberOf_9 (by decide +kernel) ?_
  refine kx_irem C (by omega) (by decide) (by decide) dX0_numberOf_11 ?_
  refine kx_istore_n (lv2 := [(3, .int (nI ((((p) + (12)) - (k % 12)) % (12)))), (0, .ref (K 0)), (1, .int (nI (p))), (2, .int (nI (k)))]) C dX0_numberOf_12 rfl (by decide) rfl ?_
  refine kx_aload_n C dX0_numberOf_13 rfl 1 rfl ?_
  refine kx_get (v := .ref (K 1)) (ci := 0) C kin0 0 rfl rfl 0 (by decide) fl0_9 rfl rfl dX0_numberOf_14 ?_
  refine kx_iload_n C dX0_numberOf_17 rfl 3 rfl ?_
  refine kx_callSi (rest := [.ref (K 1)]) (wr := (kwW E K b y o n ls bc tk hk P Wt Tu Sc Ta Wa He Fk Pk)) C (c_modeOf E k (by omega)) g0_165 1 rfl (by decide +kernel) ⟨Nat.le_of_ble_eq_true rfl, Nat.le_of_ble_eq_true rfl⟩ ⟨Nat.le_of_ble_eq_true rfl, Nat.le_of_ble_eq_true rfl⟩ [] [0, 1, 2, 3, 4, 5, 6, 7, 8, 9] rfl rfl (by decide) (by decide) (by decide) rfl (Nat.le_of_ble_eq_true rfl) dX0_numberOf_18 (fun v w q2 => ?_)
  obtain ⟨rfl, rfl⟩ := q2
  refine kx_eqw (ws2 := (kwW E K b y o n ls bc tk hk P Wt Tu Sc Ta Wa He Fk Pk)) (List.append_nil _) ?_
  refine kx_bipush (v := nI 12) C dX0_numberOf_21 (by decide +kernel) ?_
  refine kx_imul C dX0_numberOf_23 ?_
  refine kx_iload_n C dX0_numberOf_24 rfl 0 rfl ?_
  refine kx_iadd C dX0_numberOf_25 ?_
  refine kx_iald C 1 rfl (j := ((k / 12) * (12)) + ((((p) + (12)) - (k % 12)) % (12))) (by omega) (by decide) dX0_numberOf_26 ?_
  exact hE (Nat.le_of_ble_eq_true rfl) (Nat.le_of_ble_eq_true rfl) dX0_numberOf_27 ⟨rfl, rfl⟩

set_option maxHeartbeats 4000000 in
set_option maxRecDepth 100000 in
theorem c_fitIn (E : KE) (K : Nat → Nat) (b y o n ls bc tk hk : Nat) (P Wt Tu Sc Ta Wa He Fk Pk : Nat → Nat) (sl k : Nat) (H0 : sl < 40) (H1 : k < 24) : kMi E yX0_fitIn cX0_fitIn 5 (rk 2 0) [.ref (K 0), .int (nI (sl)), .int (nI (k))] (kwW E K b y o n ls bc tk hk P Wt Tu Sc Ta Wa He Fk Pk) (fun r w => r = nI (fitN P Wt sl k) ∧ w = (kwW E K b y o n ls bc tk hk P Wt Tu Sc Ta Wa He Fk Pk)) := by
  refine kMi_of (cc := cX0_fitIn) (maxL := 5) (by decide) (Nat.le_of_ble_eq_true rfl) ?_
  intro G C hE
  have lp5 : ∀ (N_lp5 : Nat) (i : Nat), (i ≤ 12) → (12 < i + N_lp5) → kx E (rk 2 0) G 5 0 0 (kwW E K b y o n ls bc tk hk P Wt Tu Sc Ta Wa He Fk Pk) [(0, .ref (K 0)), (1, .int (nI (sl))), (2, .int (nI (k))), (3, .int (nI (sumN (fun p => Wt (sl * 12 + p) * P (numX p k)) i))), (4, .int (nI (i)))] 5 [] := by
    intro N_lp5
    induction N_lp5 with
    | zero =>
      intro i h0_lp5 hm_lp5
      exact absurd hm_lp5 (by omega)
    | succ N_lp5 ih_lp5 =>
      intro i h0_lp5 hm_lp5
      refine kx_iload C dX0_fitIn_5 4 rfl ?_
      refine kx_bipush (v := nI 12) C dX0_fitIn_7 (by decide +kernel) ?_
      refine kx_icmp_ge (tgt := 41) C (by omega) (by omega) dX0_fitIn_9 (by decide) (fun c1 => ?_) (fun c1 => ?_)
      · skip
        obtain rfl : 12 = i := by omega
        refine kx_iload_n C dX0_fitIn_41 rfl 3 rfl ?_
        exact hE (Nat.le_of_ble_eq_true rfl) (Nat.le_of_ble_eq_true rfl) dX0_fitIn_42 ⟨rfl, rfl⟩
      · skip
        refine kx_iload_n C dX0_fitIn_12 rfl 3 rfl ?_
        refine kx_aload_n C dX0_fitIn_13 rfl 0 rfl ?_
        refine kx_get (v := .ref (K 2)) (ci := 0) C kin0 0 rfl rfl 1 (by decide) fl0_13 rfl rfl dX0_fitIn_14 ?_
        refine kx_iload_n C dX0_fitIn_17 rfl 1 rfl ?_
        refine kx_bipush (v := nI 12) C dX0_fitIn_18 (by decide +kernel) ?_
        refine kx_imul C dX0_fitIn_20 ?_
        refine kx_iload C dX0_fitIn_21 4 rfl ?_
        refine kx_iadd C dX0_fitIn_23 ?_
        refine kx_iald C 2 rfl (j := ((sl) * (12)) + (i)) (by omega) (by decide) dX0_fitIn_24 ?_
        refine kx_aload_n C dX0_fitIn_25 rfl 0 rfl ?_
        refine kx_iload C dX0_fitIn_26 4 rfl ?_
        refine kx_iload_n C dX0_fitIn_28 rfl 2 rfl ?_
        refine kx_callVi (rest := [.int (nI (Wt (((sl) * (12)) + (i)))), .int (nI (sumN (fun p => Wt (sl * 12 + p) * P (numX p k)) i))]) (wr := []) C (c_numberOf E K b y o n ls bc tk hk P Wt Tu Sc Ta Wa He Fk Pk i k (by omega) H1) g0_132 2 rfl (by decide +kernel) ⟨Nat.le_of_ble_eq_true rfl, Nat.le_of_ble_eq_true rfl⟩ ⟨Nat.le_of_ble_eq_true rfl, Nat.le_of_ble_eq_true rfl⟩ [0, 1, 2, 3, 4, 5, 6, 7, 8, 9] [] rfl rfl (by decide) (by decide) (by decide) 0 rfl rfl rfl (Nat.le_of_ble_eq_true rfl) dX0_fitIn_29 (fun v w q2 => ?_)
        obtain ⟨rfl, rfl⟩ := q2
        refine kx_eqw (ws2 := (kwW E K b y o n ls bc tk hk P Wt Tu Sc Ta Wa He Fk Pk)) rfl ?_
        refine kx_imul C dX0_fitIn_32 ?_
        refine kx_iadd C dX0_fitIn_33 ?_
        refine kx_istore_n (lv2 := [(3, .int (nI ((sumN (fun p => Wt (sl * 12 + p) * P (numX p k)) i) + ((Wt (((sl) * (12)) + (i))) * (P (numX i k)))))), (0, .ref (K 0)), (1, .int (nI (sl))), (2, .int (nI (k))), (4, .int (nI (i)))]) C dX0_fitIn_34 rfl (by decide) rfl ?_
        refine kx_iinc (v := nI (i + 1)) (lv2 := [(4, .int (nI (i + 1))), (3, .int (nI ((sumN (fun p => Wt (sl * 12 + p) * P (numX p k)) i) + ((Wt (((sl) * (12)) + (i))) * (P (numX i k)))))), (0, .ref (K 0)), (1, .int (nI (sl))), (2, .int (nI (k)))]) C dX0_fitIn_35 4 rfl (kI1 _) (by decide) rfl ?_
        refine kx_goto (tgt := 5) C dX0_fitIn_38 (by decide) ?_
        refine kx_lv (lv2 := [(0, .ref (K 0)), (1, .int (nI (sl))), (2, .int (nI (k))), (3, .int (nI (sumN (fun p => Wt (sl * 12 + p) * P (numX p k)) (i + 1)))), (4, .int (nI (i + 1)))]) [2, 3, 4, 1, 0] rfl ?_
        refine kx_eqw (ws2 := (kwW E K b y o n ls bc tk hk P Wt Tu Sc Ta Wa He Fk Pk)) rfl ?_
        exact ih_lp5 (i + 1) (by omega) (by omega)
  refine kx_iconst (v := nI 0) C dX0_fitIn_0 (by decide +kernel) ?_
  refine kx_istore_n (lv2 := [(3, .int (nI (0))), (0, .ref (K 0)), (1, .int (nI (sl))), (2, .int (nI (k)))]) C dX0_fitIn_1 rfl (by decide) rfl ?_
  refine kx_iconst (v := nI 0) C dX0_fitIn_2 (by decide +kernel) ?_
  refine kx_istore (lv2 := [(4, .int (nI (0))), (3, .int (nI (0))), (0, .ref (K 0)), (1, .int (nI (sl))), (2, .int (nI (k)))]) C dX0_fitIn_3 (by decide) rfl ?_
  refine kx_lv (lv2 := [(0, .ref (K 0)), (1, .int (nI (sl))), (2, .int (nI (k))), (3, .int (nI (sumN (fun p => Wt (sl * 12 + p) * P (numX p k)) 0))), (4, .int (nI (0)))]) [2, 3, 4, 1, 0] rfl ?_
  refine kx_eqw (ws2 := (kwW E K b y o n ls bc tk hk P Wt Tu Sc Ta Wa He Fk Pk)) rfl ?_
  exact lp5 13 0 (by omega) (by omega)
end
section
set_option maxHeartbeats 4000000 in
set_option maxRecDepth 100000 in
theorem c_greatestFit (E : KE) (K : Nat → Nat) (b y o n ls bc tk hk : Nat) (P Wt Tu Sc Ta Wa He Fk Pk : Nat → Nat) (sl : Nat) (H0 : sl < 40) (HP : ∀ j, P j ≤ 99) (HW : ∀ j, Wt j ≤ 200) : kMi E yX0_greatestFit cX0_greatestFit 4 (rk 3 0) [.ref (K 0), .int (nI (sl))] (kwW E K b y o n ls bc tk hk P Wt Tu Sc Ta Wa He Fk Pk) (fun r w => r = nI (gfit P Wt sl) ∧ w = (kwW E K b y o n ls bc tk hk P Wt Tu Sc Ta Wa He Fk Pk)) := by
  refine kMi_of (cc := cX0_greatestFit) (maxL := 4) (by decide) (Nat.le_of_ble_eq_true rfl) ?_
  intro G C hE
  have lp4 : ∀ (N_lp4 : Nat) (i : Nat), (i ≤ 24) → (24 < i + N_lp4) → kx E (rk 3 0) G 4 0 0 (kwW E K b y o n ls bc tk hk P Wt Tu Sc Ta Wa He Fk Pk) [(0, .ref (K 0)), (1, .int (nI (sl))), (2, .int (nI (maxN (fun k => fitN P Wt sl k) i))), (3, .int (nI (i)))] 4 [] := by
    intro N_lp4
    induction N_lp4 with
    | zero =>
      intro i h0_lp4 hm_lp4
      exact absurd hm_lp4 (by omega)
    | succ N_lp4 ih_lp4 =>
      intro i h0_lp4 hm_lp4
      refine kx_iload_n C dX0_greatestFit_4 rfl 3 rfl ?_
      refine kx_bipush (v := nI 24) C dX0_greatestFit_5 (by decide +kernel) ?_
      refine kx_icmp_ge (tgt := 27) C (by omega) (by omega) dX0_greatestFit_7 (by decide) (fun c1 => ?_) (fun c1 => ?_)
      · skip
        obtain rfl : 24 = i := by omega
        refine kx_iload_n C dX0_greatestFit_27 rfl 2 rfl ?_
        exact hE (Nat.le_of_ble_eq_true rfl) (Nat.le_of_ble_eq_true rfl) dX0_greatestFit_28 ⟨rfl, rfl⟩
      · skip
        refine kx_iload_n C dX0_greatestFit_10 rfl 2 rfl ?_
        refine kx_aload_n C dX0_greatestFit_11 rfl 0 rfl ?_
        refine kx_iload_n C dX0_greatestFit_12 rfl 1 rfl ?_
        refine kx_iload_n C dX0_greatestFit_13 rfl 3 rfl ?_
        refine kx_callVi (rest := [.int (nI (maxN (fun k => fitN P Wt sl k) i))]) (wr := []) C (c_fitIn E K b y o n ls bc tk hk P Wt Tu Sc Ta Wa He Fk Pk sl i H0 (by omega)) g0_79 2 rfl (by decide +kernel) ⟨Nat.le_of_ble_eq_true rfl, Nat.le_of_ble_eq_true rfl⟩ ⟨Nat.le_of_ble_eq_true rfl, Nat.le_of_ble_eq_true rfl⟩ [0, 1, 2, 3, 4, 5, 6, 7, 8, 9] [] rfl rfl (by decide) (by decide) (by decide) 0 rfl rfl rfl (Nat.le_of_ble_eq_true rfl) dX0_greatestFit_14 (fun v w q2 => ?_)
        obtain ⟨rfl, rfl⟩ := q2
        refine kx_eqw (ws2 := (kwW E K b y o n ls bc tk hk P Wt Tu Sc Ta Wa He Fk Pk)) rfl ?_
        refine kx_mmax C (Nat.lt_of_le_of_lt (maxN_le (fun k => fitN_le HP HW sl k) i) (by decide)) (Nat.lt_of_le_of_lt (fitN_le HP HW _ _) (by decide)) m0_171 m_mmaxs m_math m_mmaxc (Nat.le_of_ble_eq_true rfl) (Nat.le_of_ble_eq_true rfl) (Nat.le_of_ble_eq_true rfl) (Nat.le_of_ble_eq_true rfl) dX0_greatestFit_17 ?_
        refine kx_istore_n (lv2 := [(2, .int (nI (max (maxN (fun k => fitN P Wt sl k) i) (fitN P Wt sl i)))), (0, .ref (K 0)), (1, .int (nI (sl))), (3, .int (nI (i)))]) C dX0_greatestFit_20 rfl (by decide) rfl ?_
        refine kx_iinc (v := nI (i + 1)) (lv2 := [(3, .int (nI (i + 1))), (2, .int (nI (max (maxN (fun k => fitN P Wt sl k) i) (fitN P Wt sl i)))), (0, .ref (K 0)), (1, .int (nI (sl)))]) C dX0_greatestFit_21 3 rfl (kI1 _) (by decide) rfl ?_
        refine kx_goto (tgt := 4) C dX0_greatestFit_24 (by decide) ?_
        refine kx_lv (lv2 := [(0, .ref (K 0)), (1, .int (nI (sl))), (2, .int (nI (maxN (fun k => fitN P Wt sl k) (i + 1)))), (3, .int (nI (i + 1)))]) [2, 3, 1, 0] rfl ?_
        refine kx_eqw (ws2 := (kwW E K b y o n ls bc tk hk P Wt Tu Sc Ta Wa He Fk Pk)) rfl ?_
        exact ih_lp4 (i + 1) (by omega) (by omega)
  refine kx_iconst (v := nI 0) C dX0_greatestFit_0 (by decide +kernel) ?_
  refine kx_istore_n (lv2 := [(2, .int (nI (0))), (0, .ref (K 0)), (1, .int (nI (sl)))]) C dX0_greatestFit_1 rfl (by decide) rfl ?_
  refine kx_iconst (v := nI 0) C dX0_greatestFit_2 (by decide +kernel) ?_
  refine kx_istore_n (lv2 := [(3, .int (nI (0))), (2, .int (nI (0))), (0, .ref (K 0)), (1, .int (nI (sl)))]) C dX0_greatestFit_3 rfl (by decide) rfl ?_
  refine kx_lv (lv2 := [(0, .ref (K 0)), (1, .int (nI (sl))), (2, .int (nI (maxN (fun k => fitN P Wt sl k) 0))), (3, .int (nI (0)))]) [2, 3, 1, 0] rfl ?_
  refine kx_eqw (ws2 := (kwW E K b y o n ls bc tk hk P Wt Tu Sc Ta Wa He Fk Pk)) rfl ?_
  exact lp4 25 0 (by omega) (by omega)

set_option maxHeartbeats 4000000 in
set_option maxRecDepth 100000 in
theorem c_fitTogether (E : KE) (K : Nat → Nat) (b y o n ls bc tk hk : Nat) (P Wt Tu Sc Ta Wa He Fk Pk : Nat → Nat) (fi la k : Nat) (H0 : fi ≤ la) (H1 : la < 40) (H2 : k < 24) : kMi E yX0_fitTogether cX0_fitTogether 6 (rk 3 0) [.ref (K 0), .int (nI (fi)), .int (nI (la)), .int (nI (k))] (kwW E K b y o n ls bc tk hk P Wt Tu Sc Ta Wa He Fk Pk) (fun r w => r = nI (sumN (fun t => fitN P Wt (fi + t) k) (la + 1 - fi)) ∧ w = (kwW E K b y o n ls bc tk hk P Wt Tu Sc Ta Wa He Fk Pk)) := by
  refine kMi_of (cc := cX0_fitTogether) (maxL := 6) (by decide) (Nat.le_of_ble_eq_true rfl) ?_
  intro G C hE
  have lp6 : ∀ (N_lp6 : Nat) (t : Nat), (fi + t ≤ la + 1) → (la + 1 < fi + t + N_lp6) → kx E (rk 3 0) G 6 0 0 (kwW E K b y o n ls bc tk hk P Wt Tu Sc Ta Wa He Fk Pk) [(0, .ref (K 0)), (1, .int (nI (fi))), (2, .int (nI (la))), (3, .int (nI (k))), (4, .int (nI (sumN (fun t => fitN P Wt (fi + t) k) t))), (5, .int (nI (fi + t)))] 6 [] := by
    intro N_lp6
    induction N_lp6 with
    | zero =>
      intro t h0_lp6 hm_lp6
      exact absurd hm_lp6 (by omega)
    | succ N_lp6 ih_lp6 =>
      intro t h0_lp6 hm_lp6
      refine kx_iload C dX0_fitTogether_6 5 rfl ?_
      refine kx_iload_n C dX0_fitTogether_8 rfl 2 rfl ?_
      refine kx_icmp_gt (tgt := 30) C (by omega) (by omega) dX0_fitTogether_9 (by decide) (fun c1 => ?_) (fun c1 => ?_)
      · skip
        obtain rfl : la + 1 - fi = t := by omega
        refine kx_iload C dX0_fitTogether_30 4 rfl ?_
        exact hE (Nat.le_of_ble_eq_true rfl) (Nat.le_of_ble_eq_true rfl) dX0_fitTogether_32 ⟨rfl, rfl⟩
      · skip
        refine kx_iload C dX0_fitTogether_12 4 rfl ?_
        refine kx_aload_n C dX0_fitTogether_14 rfl 0 rfl ?_
        refine kx_iload C dX0_fitTogether_15 5 rfl ?_
        refine kx_iload_n C dX0_fitTogether_17 rfl 3 rfl ?_
        refine kx_callVi (rest := [.int (nI (sumN (fun t => fitN P Wt (fi + t) k) t))]) (wr := []) C (c_fitIn E K b y o n ls bc tk hk P Wt Tu Sc Ta Wa He Fk Pk (fi + t) k (by omega) H2) g0_79 2 rfl (by decide +kernel) ⟨Nat.le_of_ble_eq_true rfl, Nat.le_of_ble_eq_true rfl⟩ ⟨Nat.le_of_ble_eq_true rfl, Nat.le_of_ble_eq_true rfl⟩ [0, 1, 2, 3, 4, 5, 6, 7, 8, 9] [] rfl rfl (by decide) (by decide) (by decide) 0 rfl rfl rfl (Nat.le_of_ble_eq_true rfl) dX0_fitTogether_18 (fun v w q2 => ?_)
        obtain ⟨rfl, rfl⟩ := q2
        refine kx_eqw (ws2 := (kwW E K b y o n ls bc tk hk P Wt Tu Sc Ta Wa He Fk Pk)) rfl ?_
        refine kx_iadd C dX0_fitTogether_21 ?_
        refine kx_istore (lv2 := [(4, .int (nI ((sumN (fun t => fitN P Wt (fi + t) k) t) + (fitN P Wt (fi + t) k)))), (0, .ref (K 0)), (1, .int (nI (fi))), (2, .int (nI (la))), (3, .int (nI (k))), (5, .int (nI (fi + t)))]) C dX0_fitTogether_22 (by decide) rfl ?_
        refine kx_iinc (v := nI (fi + t + 1)) (lv2 := [(5, .int (nI (fi + t + 1))), (4, .int (nI ((sumN (fun t => fitN P Wt (fi + t) k) t) + (fitN P Wt (fi + t) k)))), (0, .ref (K 0)), (1, .int (nI (fi))), (2, .int (nI (la))), (3, .int (nI (k)))]) C dX0_fitTogether_24 5 rfl (kI1 _) (by decide) rfl ?_
        refine kx_goto (tgt := 6) C dX0_fitTogether_27 (by decide) ?_
        refine kx_lv (lv2 := [(0, .ref (K 0)), (1, .int (nI (fi))), (2, .int (nI (la))), (3, .int (nI (k))), (4, .int (nI (sumN (fun t => fitN P Wt (fi + t) k) (t + 1)))), (5, .int (nI (fi + (t + 1))))]) [2, 3, 4, 5, 1, 0] rfl ?_
        refine kx_eqw (ws2 := (kwW E K b y o n ls bc tk hk P Wt Tu Sc Ta Wa He Fk Pk)) rfl ?_
        exact ih_lp6 (t + 1) (by omega) (by omega)
  refine kx_iconst (v := nI 0) C dX0_fitTogether_0 (by decide +kernel) ?_
  refine kx_istore (lv2 := [(4, .int (nI (0))), (0, .ref (K 0)), (1, .int (nI (fi))), (2, .int (nI (la))), (3, .int (nI (k)))]) C dX0_fitTogether_1 (by decide) rfl ?_
  refine kx_iload_n C dX0_fitTogether_3 rfl 2 rfl ?_
  refine kx_istore (lv2 := [(5, .int (nI (fi))), (4, .int (nI (0))), (0, .ref (K 0)), (1, .int (nI (fi))), (2, .int (nI (la))), (3, .int (nI (k)))]) C dX0_fitTogether_4 (by decide) rfl ?_
  refine kx_lv (lv2 := [(0, .ref (K 0)), (1, .int (nI (fi))), (2, .int (nI (la))), (3, .int (nI (k))), (4, .int (nI (sumN (fun t => fitN P Wt (fi + t) k) 0))), (5, .int (nI (fi + 0)))]) [2, 3, 4, 5, 1, 0] rfl ?_
  refine kx_eqw (ws2 := (kwW E K b y o n ls bc tk hk P Wt Tu Sc Ta Wa He Fk Pk)) rfl ?_
  exact lp6 42 0 (by omega) (by omega)

set_option maxHeartbeats 4000000 in
set_option maxRecDepth 100000 in
theorem c_turnBetween (E : KE) (K : Nat → Nat) (b y o n ls bc tk hk : Nat) (P Wt Tu Sc Ta Wa He Fk Pk : Nat → Nat) (f t : Nat) (H0 : f < 24) (H1 : t < 24) : kMi E yX0_turnBetween cX0_turnBetween 5 (rk 2 0) [.ref (K 0), .int (nI (f)), .int (nI (t))] (kwW E K b y o n ls bc tk hk P Wt Tu Sc Ta Wa He Fk Pk) (fun r w => r = nI (turnN b y o f t) ∧ w = (kwW E K b y o n ls bc tk hk P Wt Tu Sc Ta Wa He Fk Pk)) := by
  refine kMi_of (cc := cX0_turnBetween) (maxL := 5) (by decide) (Nat.le_of_ble_eq_true rfl) ?_
  intro G C hE
  have h1 := plc_lt f
  have h2 := plc_lt t
  have h3 : dst (plc f) (plc t) < 12 := by unfold dst; split <;> omega
  refine kx_iload_n C dX0_turnBetween_0 rfl 1 rfl ?_
  refine kx_iload_n C dX0_turnBetween_1 rfl 2 rfl ?_
  refine kx_icmp_ne (tgt := 7) C (by omega) (by omega) dX0_turnBetween_2 (by decide) (fun c1 => ?_) (fun c1 => ?_)
  · skip
    refine kx_iload_n C dX0_turnBetween_7 rfl 1 rfl ?_
    refine kx_callSi (rest := []) (wr := (kwW E K b y o n ls bc tk hk P Wt Tu Sc Ta Wa He Fk Pk)) C (c_placeOf E f (by omega)) g0_176 1 rfl (by decide +kernel) ⟨Nat.le_of_ble_eq_true rfl, Nat.le_of_ble_eq_true rfl⟩ ⟨Nat.le_of_ble_eq_true rfl, Nat.le_of_ble_eq_true rfl⟩ [] [0, 1, 2, 3, 4, 5, 6, 7, 8, 9] rfl rfl (by decide) (by decide) (by decide) rfl (Nat.le_of_ble_eq_true rfl) dX0_turnBetween_8 (fun v w q2 => ?_)
    obtain ⟨rfl, rfl⟩ := q2
    refine kx_eqw (ws2 := (kwW E K b y o n ls bc tk hk P Wt Tu Sc Ta Wa He Fk Pk)) (List.append_nil _) ?_
    refine kx_iload_n C dX0_turnBetween_11 rfl 2 rfl ?_
    refine kx_callSi (rest := [.int (nI (plc f))]) (wr := (kwW E K b y o n ls bc tk hk P Wt Tu Sc Ta Wa He Fk Pk)) C (c_placeOf E t (by omega)) g0_176 1 rfl (by decide +kernel) ⟨Nat.le_of_ble_eq_true rfl, Nat.le_of_ble_eq_true rfl⟩ ⟨Nat.le_of_ble_eq_true rfl, Nat.le_of_ble_eq_true rfl⟩ [] [0, 1, 2, 3, 4, 5, 6, 7, 8, 9] rfl rfl (by decide) (by decide) (by decide) rfl (Nat.le_of_ble_eq_true rfl) dX0_turnBetween_12 (fun v w q3 => ?_)
    obtain ⟨rfl, rfl⟩ := q3
    refine kx_eqw (ws2 := (kwW E K b y o n ls bc tk hk P Wt Tu Sc Ta Wa He Fk Pk)) (List.append_nil _) ?_
    refine kx_isubR C dX0_turnBetween_15 ?_
    refine kx_mabs (a := plc f) (b := plc t) C (by omega) (by omega) m0_179 m_mabss m_math m_mabsc (Nat.le_of_ble_eq_true rfl) (Nat.le_of_ble_eq_true rfl) (Nat.le_of_ble_eq_true rfl) (Nat.le_of_ble_eq_true rfl) dX0_turnBetween_16 ?_
    refine kx_istore_n (lv2 := [(3, .int (nI (dst (plc f) (plc t)))), (0, .ref (K 0)), (1, .int (nI (f))), (2, .int (nI (t)))]) C dX0_turnBetween_19 rfl (by decide) rfl ?_
    refine kx_iload_n C dX0_turnBetween_20 rfl 0 rfl ?_
    refine kx_bipush (v := nI 12) C dX0_turnBetween_21 (by decide +kernel) ?_
    refine kx_iload_n C dX0_turnBetween_23 rfl 0 rfl ?_
    refine kx_isub C (by omega) dX0_turnBetween_24 ?_
    refine kx_mmin C (by omega) (by omega) m0_182 m_mmins m_math m_mminc (Nat.le_of_ble_eq_true rfl) (Nat.le_of_ble_eq_true rfl) (Nat.le_of_ble_eq_true rfl) (Nat.le_of_ble_eq_true rfl) dX0_turnBetween_25 ?_
    refine kx_istore (lv2 := [(4, .int (nI (min (dst (plc f) (plc t)) ((12) - (dst (plc f) (plc t)))))), (3, .int (nI (dst (plc f) (plc t)))), (0, .ref (K 0)), (1, .int (nI (f))), (2, .int (nI (t)))]) C dX0_turnBetween_28 (by decide) rfl ?_
    refine kx_aload_n C dX0_turnBetween_30 rfl 2 rfl ?_
    refine kx_get (v := .int (nI (b))) (ci := 0) C kin0 0 rfl rfl 2 (by decide) fl0_52 rfl rfl dX0_turnBetween_31 ?_
    refine kx_aload_n C dX0_turnBetween_34 rfl 2 rfl ?_
    refine kx_get (v := .int (nI (y))) (ci := 0) C kin0 0 rfl rfl 3 (by decide) fl0_55 rfl rfl dX0_turnBetween_35 ?_
    refine kx_iload C dX0_turnBetween_38 0 rfl ?_
    refine kx_imul C dX0_turnBetween_40 ?_
    refine kx_iadd C dX0_turnBetween_41 ?_
    refine kx_iload_n C dX0_turnBetween_42 rfl 3 rfl ?_
    refine kx_callSi (rest := [.int (nI ((b) + ((y) * (min (dst (plc f) (plc t)) ((12) - (dst (plc f) (plc t)))))))]) (wr := (kwW E K b y o n ls bc tk hk P Wt Tu Sc Ta Wa He Fk Pk)) C (c_modeOf E f (by omega)) g0_165 1 rfl (by decide +kernel) ⟨Nat.le_of_ble_eq_true rfl, Nat.le_of_ble_eq_true rfl⟩ ⟨Nat.le_of_ble_eq_true rfl, Nat.le_of_ble_eq_true rfl⟩ [] [0, 1, 2, 3, 4, 5, 6, 7, 8, 9] rfl rfl (by decide) (by decide) (by decide) rfl (Nat.le_of_ble_eq_true rfl) dX0_turnBetween_43 (fun v w q4 => ?_)
    obtain ⟨rfl, rfl⟩ := q4
    refine kx_eqw (ws2 := (kwW E K b y o n ls bc tk hk P Wt Tu Sc Ta Wa He Fk Pk)) (List.append_nil _) ?_
    refine kx_iload_n C dX0_turnBetween_46 rfl 4 rfl ?_
    refine kx_callSi (rest := [.int (nI (f / 12)), .int (nI ((b) + ((y) * (min (dst (plc f) (plc t)) ((12) - (dst (plc f) (plc t)))))))]) (wr := (kwW E K b y o n ls bc tk hk P Wt Tu Sc Ta Wa He Fk Pk)) C (c_modeOf E t (by omega)) g0_165 1 rfl (by decide +kernel) ⟨Nat.le_of_ble_eq_true rfl, Nat.le_of_ble_eq_true rfl⟩ ⟨Nat.le_of_ble_eq_true rfl, Nat.le_of_ble_eq_true rfl⟩ [] [0, 1, 2, 3, 4, 5, 6, 7, 8, 9] rfl rfl (by decide) (by decide) (by decide) rfl (Nat.le_of_ble_eq_true rfl) dX0_turnBetween_47 (fun v w q5 => ?_)
    obtain ⟨rfl, rfl⟩ := q5
    refine kx_eqw (ws2 := (kwW E K b y o n ls bc tk hk P Wt Tu Sc Ta Wa He Fk Pk)) (List.append_nil _) ?_
    refine kx_icmp_eq (tgt := 60) C (by omega) (by omega) dX0_turnBetween_50 (by decide) (fun c6 => ?_) (fun c6 => ?_)
    · skip
      refine kx_iconst (v := nI 0) C dX0_turnBetween_60 (by decide +kernel) ?_
      refine kx_iadd C dX0_turnBetween_61 ?_
      exact hE (Nat.le_of_ble_eq_true rfl) (Nat.le_of_ble_eq_true rfl) dX0_turnBetween_62 ⟨congrArg nI (by simp [turnN, apt, *]), rfl⟩
    · skip
      refine kx_aload_n C dX0_turnBetween_53 rfl 2 rfl ?_
      refine kx_get (v := .int (nI (o))) (ci := 0) C kin0 0 rfl rfl 4 (by decide) fl0_58 rfl rfl dX0_turnBetween_54 ?_
      refine kx_goto (tgt := 61) C dX0_turnBetween_57 (by decide) ?_
      refine kx_iadd C dX0_turnBetween_61 ?_
      exact hE (Nat.le_of_ble_eq_true rfl) (Nat.le_of_ble_eq_true rfl) dX0_turnBetween_62 ⟨congrArg nI (by simp [turnN, apt, *]), rfl⟩
  · skip
    refine kx_iconst (v := nI 0) C dX0_turnBetween_5 (by decide +kernel) ?_
    exact hE (Nat.le_of_ble_eq_true rfl) (Nat.le_of_ble_eq_true rfl) dX0_turnBetween_6 ⟨congrArg nI (by simp [turnN, apt, *]), rfl⟩

set_option maxHeartbeats 4000000 in
set_option maxRecDepth 100000 in
theorem c_cappedSum (E : KE) (a b : Nat) (H0 : a ≤ 1000000000000000000) (H1 : b ≤ 1000000000000000000) : kMl E yX0_cappedSum cX0_cappedSum 4 (rk 1 0) [.long (lN (a)), .long (lN (b))] [] (fun r w => r = lN (min (a + b) 1000000000000000000) ∧ w = []) := by
  refine kMl_of (cc := cX0_cappedSum) (maxL := 4) (by decide) (Nat.le_of_ble_eq_true rfl) ?_
  intro G C hE
  refine kx_lload_n C dX0_cappedSum_0 rfl 0 rfl ?_
  refine kx_lload_n C dX0_cappedSum_1 rfl 1 rfl ?_
  refine kx_ladd C dX0_cappedSum_2 ?_
  refine kx_ldc2 (v := lN 1000000000000000000) C kc0_100 dX0_cappedSum_3 ?_
  refine kx_mminL C (by omega) (by omega) m0_203 m_mminLs m_math m_mminLc (Nat.le_of_ble_eq_true rfl) (Nat.le_of_ble_eq_true rfl) (Nat.le_of_ble_eq_true rfl) (Nat.le_of_ble_eq_true rfl) dX0_cappedSum_6 ?_
  exact hE (Nat.le_of_ble_eq_true rfl) (Nat.le_of_ble_eq_true rfl) dX0_cappedSum_9 ⟨rfl, rfl⟩
end
section
theorem kTuS {b y o : Nat} {Tv : Nat → Nat} (i q : Nat) (h : ∀ j, j < i * 24 + q → Tv j = turnN b y o (j / 24) (j % 24)) (hq : q < 24) : ∀ j, j < i * 24 + (q + 1) → va_up Tv (i * 24 + q) (turnN b y o i q) j = turnN b y o (j / 24) (j % 24) := by
  intro j hj
  by_cases e : j = i * 24 + q
  · rw [e, va_up_self, show (i * 24 + q) / 24 = i by omega, show (i * 24 + q) % 24 = q by omega]
  · rw [va_up_ne _ _ e]
    exact h j (by omega)

set_option maxHeartbeats 4000000 in
set_option maxRecDepth 100000 in
theorem c_fillTurns (E : KE) (K : Nat → Nat) (b y o n ls bc tk hk : Nat) (P Wt Tu Sc Ta Wa He Fk Pk : Nat → Nat) : kMv E yX0_fillTurns cX0_fillTurns 3 (rk 3 0) [.ref (K 0)] (kwW E K b y o n ls bc tk hk P Wt Tu Sc Ta Wa He Fk Pk) (fun w => ∃ Tv : Nat → Nat, (∀ j, j < 576 → Tv j = turnN b y o (j / 24) (j % 24)) ∧ w = (kwW E K b y o n ls bc tk hk P Wt Tv Sc Ta Wa He Fk Pk)) := by
  refine kMv_of (cc := cX0_fillTurns) (maxL := 3) (by decide) (Nat.le_of_ble_eq_true rfl) ?_
  intro G C hE
  have lp2 : ∀ (N_lp2 : Nat) (i : Nat) (Tv : Nat → Nat), (i ≤ 24) → (∀ j, j < i * 24 → Tv j = turnN b y o (j / 24) (j % 24)) → (24 < i + N_lp2) → kx E (rk 3 0) G 3 0 0 (kwW E K b y o n ls bc tk hk P Wt Tv Sc Ta Wa He Fk Pk) [(0, .ref (K 0)), (1, .int (nI (i)))] 2 [] := by
    intro N_lp2
    induction N_lp2 with
    | zero =>
      intro i Tv h0_lp2 h1_lp2 hm_lp2
      exact absurd hm_lp2 (by omega)
    | succ N_lp2 ih_lp2 =>
      intro i Tv h0_lp2 h1_lp2 hm_lp2
      have lp10 : ∀ (N_lp10 : Nat) (q : Nat) (Tv : Nat → Nat), (q ≤ 24) → (∀ j, j < i * 24 + q → Tv j = turnN b y o (j / 24) (j % 24)) → (i < 24) → (24 < q + N_lp10) → kx E (rk 3 0) G 3 0 0 (kwW E K b y o n ls bc tk hk P Wt Tv Sc Ta Wa He Fk Pk) [(0, .ref (K 0)), (1, .int (nI (i))), (2, .int (nI (q)))] 10 [] := by
        intro N_lp10
        induction N_lp10 with
        | zero =>
          intro q Tv h0_lp10 h1_lp10 h2_lp10 hm_lp10
          exact absurd hm_lp10 (by omega)
        | succ N_lp10 ih_lp10 =>
          intro q Tv h0_lp10 h1_lp10 h2_lp10 hm_lp10
          refine kx_iload_n C dX0_fillTurns_10 rfl 2 rfl ?_
          refine kx_bipush (v := nI 24) C dX0_fillTurns_11 (by decide +kernel) ?_
          refine kx_icmp_ge (tgt := 39) C (by omega) (by omega) dX0_fillTurns_13 (by decide) (fun c1 => ?_) (fun c1 => ?_)
          · skip
            obtain rfl : 24 = q := by omega
            refine kx_iinc (v := nI (i + 1)) (lv2 := [(1, .int (nI (i + 1))), (0, .ref (K 0)), (2, .int (nI (24)))]) C dX0_fillTurns_39 1 rfl (kI1 _) (by decide) rfl ?_
            refine kx_goto (tgt := 2) C dX0_fillTurns_42 (by decide) ?_
            refine kx_lv (lv2 := [(0, .ref (K 0)), (1, .int (nI (i + 1)))]) [1, 0] rfl ?_
            refine kx_eqw (ws2 := (kwW E K b y o n ls bc tk hk P Wt Tv Sc Ta Wa He Fk Pk)) rfl ?_
            exact ih_lp2 (i + 1) Tv (by omega) (fun j hj => h1_lp10 j (by omega)) (by omega)
          · skip
            refine kx_aload_n C dX0_fillTurns_16 rfl 0 rfl ?_
            refine kx_get (v := .ref (K 3)) (ci := 0) C kin0 0 rfl rfl 6 (by decide) fl0_16 rfl rfl dX0_fillTurns_17 ?_
            refine kx_iload_n C dX0_fillTurns_20 rfl 1 rfl ?_
            refine kx_bipush (v := nI 24) C dX0_fillTurns_21 (by decide +kernel) ?_
            refine kx_imul C dX0_fillTurns_23 ?_
            refine kx_iload_n C dX0_fillTurns_24 rfl 2 rfl ?_
            refine kx_iadd C dX0_fillTurns_25 ?_
            refine kx_aload_n C dX0_fillTurns_26 rfl 0 rfl ?_
            refine kx_iload_n C dX0_fillTurns_27 rfl 1 rfl ?_
            refine kx_iload_n C dX0_fillTurns_28 rfl 2 rfl ?_
            refine kx_callVi (rest := [.int (nI (((i) * (24)) + (q))), .ref (K 3)]) (wr := []) C (c_turnBetween E K b y o n ls bc tk hk P Wt Tv Sc Ta Wa He Fk Pk i q (by omega) (by omega)) g0_87 2 rfl (by decide +kernel) ⟨Nat.le_of_ble_eq_true rfl, Nat.le_of_ble_eq_true rfl⟩ ⟨Nat.le_of_ble_eq_true rfl, Nat.le_of_ble_eq_true rfl⟩ [0, 1, 2, 3, 4, 5, 6, 7, 8, 9] [] rfl rfl (by decide) (by decide) (by decide) 0 rfl rfl rfl (Nat.le_of_ble_eq_true rfl) dX0_fillTurns_29 (fun v w q2 => ?_)
            obtain ⟨rfl, rfl⟩ := q2
            refine kx_eqw (ws2 := (kwW E K b y o n ls bc tk hk P Wt Tv Sc Ta Wa He Fk Pk)) rfl ?_
            refine kx_iast (ws2 := (kwW E K b y o n ls bc tk hk P Wt (va_up Tv (((i) * (24)) + (q)) (turnN b y o i q)) Sc Ta Wa He Fk Pk)) C 3 rfl (j := ((i) * (24)) + (q)) (v := turnN b y o i q) (by omega) (by decide) rfl dX0_fillTurns_32 ?_
            refine kx_iinc (v := nI (q + 1)) (lv2 := [(2, .int (nI (q + 1))), (0, .ref (K 0)), (1, .int (nI (i)))]) C dX0_fillTurns_33 2 rfl (kI1 _) (by decide) rfl ?_
            refine kx_goto (tgt := 10) C dX0_fillTurns_36 (by decide) ?_
            refine kx_lv (lv2 := [(0, .ref (K 0)), (1, .int (nI (i))), (2, .int (nI (q + 1)))]) [1, 2, 0] rfl ?_
            refine kx_eqw (ws2 := (kwW E K b y o n ls bc tk hk P Wt (va_up Tv (((i) * (24)) + (q)) (turnN b y o i q)) Sc Ta Wa He Fk Pk)) rfl ?_
            exact ih_lp10 (q + 1) (va_up Tv (((i) * (24)) + (q)) (turnN b y o i q)) (by omega) (kTuS i q h1_lp10 (by omega)) h2_lp10 (by omega)
      refine kx_iload_n C dX0_fillTurns_2 rfl 1 rfl ?_
      refine kx_bipush (v := nI 24) C dX0_fillTurns_3 (by decide +kernel) ?_
      refine kx_icmp_ge (tgt := 45) C (by omega) (by omega) dX0_fillTurns_5 (by decide) (fun c3 => ?_) (fun c3 => ?_)
      · skip
        obtain rfl : 24 = i := by omega
        exact hE (Nat.le_of_ble_eq_true rfl) (Nat.le_of_ble_eq_true rfl) dX0_fillTurns_45 ⟨Tv, fun j hj => h1_lp2 j hj, rfl⟩
      · skip
        refine kx_iconst (v := nI 0) C dX0_fillTurns_8 (by decide +kernel) ?_
        refine kx_istore_n (lv2 := [(2, .int (nI (0))), (0, .ref (K 0)), (1, .int (nI (i)))]) C dX0_fillTurns_9 rfl (by decide) rfl ?_
        refine kx_lv (lv2 := [(0, .ref (K 0)), (1, .int (nI (i))), (2, .int (nI (0)))]) [1, 2, 0] rfl ?_
        refine kx_eqw (ws2 := (kwW E K b y o n ls bc tk hk P Wt Tv Sc Ta Wa He Fk Pk)) rfl ?_
        exact lp10 25 0 Tv (by omega) (fun j hj => h1_lp2 j (by omega)) (by omega) (by omega)
  refine kx_iconst (v := nI 0) C dX0_fillTurns_0 (by decide +kernel) ?_
  refine kx_istore_n (lv2 := [(1, .int (nI (0))), (0, .ref (K 0))]) C dX0_fillTurns_1 rfl (by decide) rfl ?_
  refine kx_lv (lv2 := [(0, .ref (K 0)), (1, .int (nI (0)))]) [1, 0] rfl ?_
  refine kx_eqw (ws2 := (kwW E K b y o n ls bc tk hk P Wt Tu Sc Ta Wa He Fk Pk)) rfl ?_
  exact lp2 25 0 Tu (by omega) (fun j hj => absurd hj (by omega)) (by omega)
end
section
set_option maxHeartbeats 4000000 in
set_option maxRecDepth 100000 in
theorem c_fillSliceCosts (E : KE) (K : Nat → Nat) (b y o n ls bc tk hk : Nat) (P Wt Tu Sc Ta Wa He Fk Pk : Nat → Nat) (sl : Nat) (H0 : sl < 40) (HP : ∀ j, P j ≤ 99) (HW : ∀ j, Wt j ≤ 200) : kMv E yX0_fillSliceCosts cX0_fillSliceCosts 5 (rk 3 0) [.ref (K 0), .int (nI (sl))] (kwW E K b y o n ls bc tk hk P Wt Tu Sc Ta Wa He Fk Pk) (fun w => ∃ Sv : Nat → Nat, (∀ j, j < 24 → Sv (sl * 24 + j) = costN P Wt sl j) ∧ (∀ j, j < sl * 24 ∨ sl * 24 + 24 ≤ j → Sv j = Sc j) ∧ w = (kwW E K b y o n ls bc tk hk P Wt Tu Sv Ta Wa He Fk Pk)) := by
  refine kMv_of (cc := cX0_fillSliceCosts) (maxL := 5) (by decide) (Nat.le_of_ble_eq_true rfl) ?_
  intro G C hE
  have lp46 : ∀ (N_lp46 : Nat) (q : Nat) (Sv : Nat → Nat), (q ≤ 24) → (∀ j, j < q → Sv (sl * 24 + j) = costN P Wt sl j) → (∀ j, q ≤ j → j < 24 → Sv (sl * 24 + j) = fitN P Wt sl j) → (∀ j, j < sl * 24 ∨ sl * 24 + 24 ≤ j → Sv j = Sc j) → (24 < q + N_lp46) → kx E (rk 3 0) G 5 0 0 (kwW E K b y o n ls bc tk hk P Wt Tu Sv Ta Wa He Fk Pk) [(0, .ref (K 0)), (1, .int (nI (sl))), (2, .int (nI (gfit P Wt sl))), (3, .int (nI (q)))] 46 [] := by
    intro N_lp46
    induction N_lp46 with
    | zero =>
      intro q Sv h0_lp46 h1_lp46 h2_lp46 h3_lp46 hm_lp46
      exact absurd hm_lp46 (by omega)
    | succ N_lp46 ih_lp46 =>
      intro q Sv h0_lp46 h1_lp46 h2_lp46 h3_lp46 hm_lp46
      refine kx_iload_n C dX0_fillSliceCosts_46 rfl 3 rfl ?_
      refine kx_bipush (v := nI 24) C dX0_fillSliceCosts_47 (by decide +kernel) ?_
      refine kx_icmp_ge (tgt := 82) C (by omega) (by omega) dX0_fillSliceCosts_49 (by decide) (fun c1 => ?_) (fun c1 => ?_)
      · skip
        obtain rfl : 24 = q := by omega
        exact hE (Nat.le_of_ble_eq_true rfl) (Nat.le_of_ble_eq_true rfl) dX0_fillSliceCosts_82 ⟨Sv, h1_lp46, h3_lp46, rfl⟩
      · skip
        refine kx_aload_n C dX0_fillSliceCosts_52 rfl 0 rfl ?_
        refine kx_get (v := .ref (K 4)) (ci := 0) C kin0 0 rfl rfl 7 (by decide) fl0_19 rfl rfl dX0_fillSliceCosts_53 ?_
        refine kx_iload_n C dX0_fillSliceCosts_56 rfl 1 rfl ?_
        refine kx_bipush (v := nI 24) C dX0_fillSliceCosts_57 (by decide +kernel) ?_
        refine kx_imul C dX0_fillSliceCosts_59 ?_
        refine kx_iload_n C dX0_fillSliceCosts_60 rfl 3 rfl ?_
        refine kx_iadd C dX0_fillSliceCosts_61 ?_
        refine kx_iload_n C dX0_fillSliceCosts_62 rfl 2 rfl ?_
        refine kx_aload_n C dX0_fillSliceCosts_63 rfl 0 rfl ?_
        refine kx_get (v := .ref (K 4)) (ci := 0) C kin0 0 rfl rfl 7 (by decide) fl0_19 rfl rfl dX0_fillSliceCosts_64 ?_
        refine kx_iload_n C dX0_fillSliceCosts_67 rfl 1 rfl ?_
        refine kx_bipush (v := nI 24) C dX0_fillSliceCosts_68 (by decide +kernel) ?_
        refine kx_imul C dX0_fillSliceCosts_70 ?_
        refine kx_iload_n C dX0_fillSliceCosts_71 rfl 3 rfl ?_
        refine kx_iadd C dX0_fillSliceCosts_72 ?_
        refine kx_iald C 4 rfl (j := ((sl) * (24)) + (q)) (by omega) (by decide) dX0_fillSliceCosts_73 ?_
        refine kx_isub C (by rw [h2_lp46 q (Nat.le_refl _) (by omega)]; exact le_maxN (f := fun k => fitN P Wt sl k) (by omega)) dX0_fillSliceCosts_74 ?_
        refine kx_iast (ws2 := (kwW E K b y o n ls bc tk hk P Wt Tu (va_up Sv (((sl) * (24)) + (q)) ((gfit P Wt sl) - (Sv (((sl) * (24)) + (q))))) Ta Wa He Fk Pk)) C 4 rfl (j := ((sl) * (24)) + (q)) (v := (gfit P Wt sl) - (Sv (((sl) * (24)) + (q)))) (by omega) (by decide) rfl dX0_fillSliceCosts_75 ?_
        refine kx_iinc (v := nI (q + 1)) (lv2 := [(3, .int (nI (q + 1))), (0, .ref (K 0)), (1, .int (nI (sl))), (2, .int (nI (gfit P Wt sl)))]) C dX0_fillSliceCosts_76 3 rfl (kI1 _) (by decide) rfl ?_
        refine kx_goto (tgt := 46) C dX0_fillSliceCosts_79 (by decide) ?_
        refine kx_lv (lv2 := [(0, .ref (K 0)), (1, .int (nI (sl))), (2, .int (nI (gfit P Wt sl))), (3, .int (nI (q + 1)))]) [1, 2, 3, 0] rfl ?_
        refine kx_eqw (ws2 := (kwW E K b y o n ls bc tk hk P Wt Tu (va_up Sv (((sl) * (24)) + (q)) ((gfit P Wt sl) - (Sv (((sl) * (24)) + (q))))) Ta Wa He Fk Pk)) rfl ?_
        exact ih_lp46 (q + 1) (va_up Sv (((sl) * (24)) + (q)) ((gfit P Wt sl) - (Sv (((sl) * (24)) + (q))))) (by omega) (kSc3 h1_lp46 (h2_lp46 q (Nat.le_refl _) (by omega))) (kSc4 h2_lp46) (kSc2 h3_lp46 (by omega)) (by omega)
  have lp4 : ∀ (N_lp4 : Nat) (i : Nat) (Sv : Nat → Nat), (i ≤ 24) → (∀ j, j < i → Sv (sl * 24 + j) = fitN P Wt sl j) → (∀ j, j < sl * 24 ∨ sl * 24 + 24 ≤ j → Sv j = Sc j) → (24 < i + N_lp4) → kx E (rk 3 0) G 5 0 0 (kwW E K b y o n ls bc tk hk P Wt Tu Sv Ta Wa He Fk Pk) [(0, .ref (K 0)), (1, .int (nI (sl))), (2, .int (nI (maxN (fun k => fitN P Wt sl k) i))), (3, .int (nI (i)))] 4 [] := by
    intro N_lp4
    induction N_lp4 with
    | zero =>
      intro i Sv h0_lp4 h1_lp4 h2_lp4 hm_lp4
      exact absurd hm_lp4 (by omega)
    | succ N_lp4 ih_lp4 =>
      intro i Sv h0_lp4 h1_lp4 h2_lp4 hm_lp4
      refine kx_iload_n C dX0_fillSliceCosts_4 rfl 3 rfl ?_
      refine kx_bipush (v := nI 24) C dX0_fillSliceCosts_5 (by decide +kernel) ?_
      refine kx_icmp_ge (tgt := 44) C (by omega) (by omega) dX0_fillSliceCosts_7 (by decide) (fun c2 => ?_) (fun c2 => ?_)
      · skip
        obtain rfl : 24 = i := by omega
        refine kx_iconst (v := nI 0) C dX0_fillSliceCosts_44 (by decide +kernel) ?_
        refine kx_istore_n (lv2 := [(3, .int (nI (0))), (0, .ref (K 0)), (1, .int (nI (sl))), (2, .int (nI (maxN (fun k => fitN P Wt sl k) 24)))]) C dX0_fillSliceCosts_45 rfl (by decide) rfl ?_
        refine kx_lv (lv2 := [(0, .ref (K 0)), (1, .int (nI (sl))), (2, .int (nI (gfit P Wt sl))), (3, .int (nI (0)))]) [1, 2, 3, 0] rfl ?_
        refine kx_eqw (ws2 := (kwW E K b y o n ls bc tk hk P Wt Tu Sv Ta Wa He Fk Pk)) rfl ?_
        exact lp46 25 0 Sv (by omega) (fun j hj => absurd hj (by omega)) (fun j _ hj => h1_lp4 j hj) h2_lp4 (by omega)
      · skip
        refine kx_aload_n C dX0_fillSliceCosts_10 rfl 0 rfl ?_
        refine kx_iload_n C dX0_fillSliceCosts_11 rfl 1 rfl ?_
        refine kx_iload_n C dX0_fillSliceCosts_12 rfl 3 rfl ?_
        refine kx_callVi (rest := []) (wr := []) C (c_fitIn E K b y o n ls bc tk hk P Wt Tu Sv Ta Wa He Fk Pk sl i H0 (by omega)) g0_79 2 rfl (by decide +kernel) ⟨Nat.le_of_ble_eq_true rfl, Nat.le_of_ble_eq_true rfl⟩ ⟨Nat.le_of_ble_eq_true rfl, Nat.le_of_ble_eq_true rfl⟩ [0, 1, 2, 3, 4, 5, 6, 7, 8, 9] [] rfl rfl (by decide) (by decide) (by decide) 0 rfl rfl rfl (Nat.le_of_ble_eq_true rfl) dX0_fillSliceCosts_13 (fun v w q3 => ?_)
        obtain ⟨rfl, rfl⟩ := q3
        refine kx_eqw (ws2 := (kwW E K b y o n ls bc tk hk P Wt Tu Sv Ta Wa He Fk Pk)) rfl ?_
        refine kx_istore (lv2 := [(4, .int (nI (fitN P Wt sl i))), (0, .ref (K 0)), (1, .int (nI (sl))), (2, .int (nI (maxN (fun k => fitN P Wt sl k) i))), (3, .int (nI (i)))]) C dX0_fillSliceCosts_16 (by decide) rfl ?_
        refine kx_aload_n C dX0_fillSliceCosts_18 rfl 1 rfl ?_
        refine kx_get (v := .ref (K 4)) (ci := 0) C kin0 0 rfl rfl 7 (by decide) fl0_19 rfl rfl dX0_fillSliceCosts_19 ?_
        refine kx_iload_n C dX0_fillSliceCosts_22 rfl 2 rfl ?_
        refine kx_bipush (v := nI 24) C dX0_fillSliceCosts_23 (by decide +kernel) ?_
        refine kx_imul C dX0_fillSliceCosts_25 ?_
        refine kx_iload_n C dX0_fillSliceCosts_26 rfl 4 rfl ?_
        refine kx_iadd C dX0_fillSliceCosts_27 ?_
        refine kx_iload C dX0_fillSliceCosts_28 0 rfl ?_
        refine kx_iast (ws2 := (kwW E K b y o n ls bc tk hk P Wt Tu (va_up Sv (((sl) * (24)) + (i)) (fitN P Wt sl i)) Ta Wa He Fk Pk)) C 4 rfl (j := ((sl) * (24)) + (i)) (v := fitN P Wt sl i) (by omega) (by decide) rfl dX0_fillSliceCosts_30 ?_
        refine kx_iload_n C dX0_fillSliceCosts_31 rfl 3 rfl ?_
        refine kx_iload C dX0_fillSliceCosts_32 0 rfl ?_
        refine kx_mmax C (Nat.lt_of_le_of_lt (maxN_le (fun k => fitN_le HP HW sl k) i) (by decide)) (Nat.lt_of_le_of_lt (fitN_le HP HW _ _) (by decide)) m0_171 m_mmaxs m_math m_mmaxc (Nat.le_of_ble_eq_true rfl) (Nat.le_of_ble_eq_true rfl) (Nat.le_of_ble_eq_true rfl) (Nat.le_of_ble_eq_true rfl) dX0_fillSliceCosts_34 ?_
        refine kx_istore_n (lv2 := [(2, .int (nI (max (maxN (fun k => fitN P Wt sl k) i) (fitN P Wt sl i)))), (4, .int (nI (fitN P Wt sl i))), (0, .ref (K 0)), (1, .int (nI (sl))), (3, .int (nI (i)))]) C dX0_fillSliceCosts_37 rfl (by decide) rfl ?_
        refine kx_iinc (v := nI (i + 1)) (lv2 := [(3, .int (nI (i + 1))), (2, .int (nI (max (maxN (fun k => fitN P Wt sl k) i) (fitN P Wt sl i)))), (4, .int (nI (fitN P Wt sl i))), (0, .ref (K 0)), (1, .int (nI (sl)))]) C dX0_fillSliceCosts_38 4 rfl (kI1 _) (by decide) rfl ?_
        refine kx_goto (tgt := 4) C dX0_fillSliceCosts_41 (by decide) ?_
        refine kx_lv (lv2 := [(0, .ref (K 0)), (1, .int (nI (sl))), (2, .int (nI (maxN (fun k => fitN P Wt sl k) (i + 1)))), (3, .int (nI (i + 1)))]) [3, 4, 1, 0] rfl ?_
        refine kx_eqw (ws2 := (kwW E K b y o n ls bc tk hk P Wt Tu (va_up Sv (((sl) * (24)) + (i)) (fitN P Wt sl i)) Ta Wa He Fk Pk)) rfl ?_
        exact ih_lp4 (i + 1) (va_up Sv (((sl) * (24)) + (i)) (fitN P Wt sl i)) (by omega) (kSc1 h1_lp4) (kSc2 h2_lp4 (by omega)) (by omega)
  refine kx_iconst (v := nI 0) C dX0_fillSliceCosts_0 (by decide +kernel) ?_
  refine kx_istore_n (lv2 := [(2, .int (nI (0))), (0, .ref (K 0)), (1, .int (nI (sl)))]) C dX0_fillSliceCosts_1 rfl (by decide) rfl ?_
  refine kx_iconst (v := nI 0) C dX0_fillSliceCosts_2 (by decide +kernel) ?_
  refine kx_istore_n (lv2 := [(3, .int (nI (0))), (2, .int (nI (0))), (0, .ref (K 0)), (1, .int (nI (sl)))]) C dX0_fillSliceCosts_3 rfl (by decide) rfl ?_
  refine kx_lv (lv2 := [(0, .ref (K 0)), (1, .int (nI (sl))), (2, .int (nI (maxN (fun k => fitN P Wt sl k) 0))), (3, .int (nI (0)))]) [2, 3, 1, 0] rfl ?_
  refine kx_eqw (ws2 := (kwW E K b y o n ls bc tk hk P Wt Tu Sc Ta Wa He Fk Pk)) rfl ?_
  exact lp4 25 0 Sc (by omega) (fun j hj => absurd hj (by omega)) (fun _ _ => rfl) (by omega)
end
section
def tailV (n : Nat) (Tu Sc Ta : Nat → Nat) (sl k : Nat) : Nat := if sl = n - 1 then Sc (sl * 24 + k) else Sc (sl * 24 + k) + minN (fun to => Tu (k * 24 + to) + Ta ((sl + 1) * 24 + to)) kBIG 24
def wayV (n : Nat) (Tu Ta Wa : Nat → Nat) (sl k : Nat) : Nat := if sl = n - 1 then 1 else cntN (fun to => Tu (k * 24 + to) + Ta ((sl + 1) * 24 + to)) (fun to => Wa ((sl + 1) * 24 + to)) 24
theorem kFT1 {E : KE} {K : Nat → Nat} {b y o n ls bc tk hk : Nat} {P Wt Tu Sc Ta Wa He Fk Pk : Nat → Nat} {sl k : Nat} (c1 : sl = n - 1) : (kwW E K b y o n ls bc tk hk P Wt Tu Sc (va_up Ta (sl * 24 + k) (Sc (sl * 24 + k))) (va_up Wa (sl * 24 + k) 1) He Fk Pk) = (kwW E K b y o n ls bc tk hk P Wt Tu Sc (va_up Ta (sl * 24 + k) (tailV n Tu Sc Ta sl k)) (va_up Wa (sl * 24 + k) (wayV n Tu Ta Wa sl k)) He Fk Pk) := by
  rw [tailV, wayV, if_pos c1, if_pos c1]
theorem kFT2 {E : KE} {K : Nat → Nat} {b y o n ls bc tk hk : Nat} {P Wt Tu Sc Ta Wa He Fk Pk : Nat → Nat} {sl k : Nat} (c1 : ¬ sl = n - 1) : (kwW E K b y o n ls bc tk hk P Wt Tu Sc (va_up Ta (sl * 24 + k) (Sc (sl * 24 + k) + minN (fun to => Tu (k * 24 + to) + Ta ((sl + 1) * 24 + to)) kBIG 24)) (va_up Wa (sl * 24 + k) (cntN (fun to => Tu (k * 24 + to) + Ta ((sl + 1) * 24 + to)) (fun to => Wa ((sl + 1) * 24 + to)) 24)) He Fk Pk) = (kwW E K b y o n ls bc tk hk P Wt Tu Sc (va_up Ta (sl * 24 + k) (tailV n Tu Sc Ta sl k)) (va_up Wa (sl * 24 + k) (wayV n Tu Ta Wa sl k)) He Fk Pk) := by
  rw [tailV, wayV, if_neg c1, if_neg c1]

set_option maxHeartbeats 4000000 in
set_option maxRecDepth 100000 in
theorem c_fillTail (E : KE) (K : Nat → Nat) (b y o n ls bc tk hk : Nat) (P Wt Tu Sc Ta Wa He Fk Pk : Nat → Nat) (sl k : Nat) (H0 : sl < n) (H1 : n ≤ 40) (H2 : k < 24) (HTu : ∀ j, j < 576 → Tu j ≤ 8000) (HTa : ∀ j, j < 24 → Ta ((sl + 1) * 24 + j) ≤ 10000000) (HWa : ∀ j, j < 24 → Wa ((sl + 1) * 24 + j) ≤ kCAP) : kMv E yX0_fillTail cX0_fillTail 10 (rk 2 0) [.ref (K 0), .int (nI (sl)), .int (nI (k))] (kwW E K b y o n ls bc tk hk P Wt Tu Sc Ta Wa He Fk Pk) (fun w => w = (kwW E K b y o n ls bc tk hk P Wt Tu Sc (va_up Ta (sl * 24 + k) (tailV n Tu Sc Ta sl k)) (va_up Wa (sl * 24 + k) (wayV n Tu Ta Wa sl k)) He Fk Pk)) := by
  refine kMv_of (cc := cX0_fillTail) (maxL := 10) (by decide) (Nat.le_of_ble_eq_true rfl) ?_
  intro G C hE
  have lpA : ¬ sl = n - 1 → kx E (rk 2 0) G 10 0 0 (kwW E K b y o n ls bc tk hk P Wt Tu Sc Ta Wa He Fk Pk) [(0, .ref (K 0)), (1, .int (nI (sl))), (2, .int (nI (k))), (3, .int (nI ((sl) * (24) + (k)))), (4, .int (nI (minN (fun to => Tu (k * 24 + to) + Ta ((sl + 1) * 24 + to)) kBIG 0))), (5, .long (lN (cntN (fun to => Tu (k * 24 + to) + Ta ((sl + 1) * 24 + to)) (fun to => Wa ((sl + 1) * 24 + to)) 0))), (7, .int (nI (0)))] 47 [] := by
    intro cA
    have lp47 : ∀ (N_lp47 : Nat) (i : Nat), (i ≤ 24) → (24 < i + N_lp47) → kx E (rk 2 0) G 10 0 0 (kwW E K b y o n ls bc tk hk P Wt Tu Sc Ta Wa He Fk Pk) [(0, .ref (K 0)), (1, .int (nI (sl))), (2, .int (nI (k))), (3, .int (nI ((sl) * (24) + (k)))), (4, .int (nI (minN (fun to => Tu (k * 24 + to) + Ta ((sl + 1) * 24 + to)) kBIG i))), (5, .long (lN (cntN (fun to => Tu (k * 24 + to) + Ta ((sl + 1) * 24 + to)) (fun to => Wa ((sl + 1) * 24 + to)) i))), (7, .int (nI (i)))] 47 [] := by
      intro N_lp47
      induction N_lp47 with
      | zero =>
        intro i h0_lp47 hm_lp47
        exact absurd hm_lp47 (by omega)
      | succ N_lp47 ih_lp47 =>
        intro i h0_lp47 hm_lp47
        refine kx_iload C dX0_fillTail_47 6 rfl ?_
        refine kx_bipush (v := nI 24) C dX0_fillTail_49 (by decide +kernel) ?_
        refine kx_icmp_ge (tgt := 137) C (by omega) (by omega) dX0_fillTail_51 (by decide) (fun c1 => ?_) (fun c1 => ?_)
        · skip
          obtain rfl : 24 = i := by omega
          refine kx_aload_n C dX0_fillTail_137 rfl 0 rfl ?_
          refine kx_get (v := .ref (K 5)) (ci := 0) C kin0 0 rfl rfl 8 (by decide) fl0_22 rfl rfl dX0_fillTail_138 ?_
          refine kx_iload_n C dX0_fillTail_141 rfl 3 rfl ?_
          refine kx_aload_n C dX0_fillTail_142 rfl 0 rfl ?_
          refine kx_get (v := .ref (K 4)) (ci := 0) C kin0 0 rfl rfl 7 (by decide) fl0_19 rfl rfl dX0_fillTail_143 ?_
          refine kx_iload_n C dX0_fillTail_146 rfl 3 rfl ?_
          refine kx_iald C 4 rfl (j := (sl) * (24) + (k)) (by omega) (by decide) dX0_fillTail_147 ?_
          refine kx_iload C dX0_fillTail_148 4 rfl ?_
          refine kx_iadd C dX0_fillTail_150 ?_
          refine kx_iast (ws2 := (kwW E K b y o n ls bc tk hk P Wt Tu Sc (va_up Ta ((sl) * (24) + (k)) ((Sc ((sl) * (24) + (k))) + (minN (fun to => Tu (k * 24 + to) + Ta ((sl + 1) * 24 + to)) kBIG 24))) Wa He Fk Pk)) C 5 rfl (j := (sl) * (24) + (k)) (v := (Sc ((sl) * (24) + (k))) + (minN (fun to => Tu (k * 24 + to) + Ta ((sl + 1) * 24 + to)) kBIG 24)) (by omega) (by decide) rfl dX0_fillTail_151 ?_
          refine kx_aload_n C dX0_fillTail_152 rfl 0 rfl ?_
          refine kx_get (v := .ref (K 6)) (ci := 0) C kin0 0 rfl rfl 9 (by decide) fl0_25 rfl rfl dX0_fillTail_153 ?_
          refine kx_iload_n C dX0_fillTail_156 rfl 3 rfl ?_
          refine kx_lload C dX0_fillTail_157 5 rfl ?_
          refine kx_last (ws2 := (kwW E K b y o n ls bc tk hk P Wt Tu Sc (va_up Ta ((sl) * (24) + (k)) ((Sc ((sl) * (24) + (k))) + (minN (fun to => Tu (k * 24 + to) + Ta ((sl + 1) * 24 + to)) kBIG 24))) (va_up Wa ((sl) * (24) + (k)) (cntN (fun to => Tu (k * 24 + to) + Ta ((sl + 1) * 24 + to)) (fun to => Wa ((sl + 1) * 24 + to)) 24)) He Fk Pk)) C 6 rfl (j := (sl) * (24) + (k)) (v := cntN (fun to => Tu (k * 24 + to) + Ta ((sl + 1) * 24 + to)) (fun to => Wa ((sl + 1) * 24 + to)) 24) (by omega) (by decide) rfl dX0_fillTail_159 ?_
          exact hE (Nat.le_of_ble_eq_true rfl) (Nat.le_of_ble_eq_true rfl) dX0_fillTail_160 (kFT2 cA)
        · skip
          refine kx_iload_n C dX0_fillTail_54 rfl 3 rfl ?_
          refine kx_iload_n C dX0_fillTail_55 rfl 2 rfl ?_
          refine kx_isub C (by omega) dX0_fillTail_56 ?_
          refine kx_bipush (v := nI 24) C dX0_fillTail_57 (by decide +kernel) ?_
          refine kx_iadd C dX0_fillTail_59 ?_
          refine kx_iload C dX0_fillTail_60 6 rfl ?_
          refine kx_iadd C dX0_fillTail_62 ?_
          refine kx_topn (b := (sl + 1) * 24 + i) (by omega) ?_
          refine kx_istore (lv2 := [(8, .int (nI ((sl + 1) * 24 + i))), (0, .ref (K 0)), (1, .int (nI (sl))), (2, .int (nI (k))), (3, .int (nI ((sl) * (24) + (k)))), (4, .int (nI (minN (fun to => Tu (k * 24 + to) + Ta ((sl + 1) * 24 + to)) kBIG i))), (5, .long (lN (cntN (fun to => Tu (k * 24 + to) + Ta ((sl + 1) * 24 + to)) (fun to => Wa ((sl + 1) * 24 + to)) i))), (7, .int (nI (i)))]) C dX0_fillTail_63 (by decide) rfl ?_
          refine kx_aload_n C dX0_fillTail_65 rfl 1 rfl ?_
          refine kx_get (v := .ref (K 3)) (ci := 0) C kin0 0 rfl rfl 6 (by decide) fl0_16 rfl rfl dX0_fillTail_66 ?_
          refine kx_iload_n C dX0_fillTail_69 rfl 3 rfl ?_
          refine kx_bipush (v := nI 24) C dX0_fillTail_70 (by decide +kernel) ?_
          refine kx_imul C dX0_fillTail_72 ?_
          refine kx_iload C dX0_fillTail_73 7 rfl ?_
          refine kx_iadd C dX0_fillTail_75 ?_
          refine kx_iald C 3 rfl (j := ((k) * (24)) + (i)) (by omega) (by decide) dX0_fillTail_76 ?_
          refine kx_aload_n C dX0_fillTail_77 rfl 1 rfl ?_
          refine kx_get (v := .ref (K 5)) (ci := 0) C kin0 0 rfl rfl 8 (by decide) fl0_22 rfl rfl dX0_fillTail_78 ?_
          refine kx_iload C dX0_fillTail_81 0 rfl ?_
          refine kx_iald C 5 rfl (j := (sl + 1) * 24 + i) (by omega) (by decide) dX0_fillTail_83 ?_
          refine kx_iadd C dX0_fillTail_84 ?_
          refine kx_istore (lv2 := [(9, .int (nI ((Tu (((k) * (24)) + (i))) + (Ta ((sl + 1) * 24 + i))))), (8, .int (nI ((sl + 1) * 24 + i))), (0, .ref (K 0)), (1, .int (nI (sl))), (2, .int (nI (k))), (3, .int (nI ((sl) * (24) + (k)))), (4, .int (nI (minN (fun to => Tu (k * 24 + to) + Ta ((sl + 1) * 24 + to)) kBIG i))), (5, .long (lN (cntN (fun to => Tu (k * 24 + to) + Ta ((sl + 1) * 24 + to)) (fun to => Wa ((sl + 1) * 24 + to)) i))), (7, .int (nI (i)))]) C dX0_fillTail_85 (by decide) rfl ?_
          refine kx_iload C dX0_fillTail_87 0 rfl ?_
          refine kx_iload C dX0_fillTail_89 6 rfl ?_
          refine kx_icmp_ge (tgt := 110) C (by have := HTu (k * 24 + i) (by omega); have := HTa i (by omega); omega) (minN_lt31 (fun to => Tu (k * 24 + to) + Ta ((sl + 1) * 24 + to)) i) dX0_fillTail_91 (by decide) (fun c2 => ?_) (fun c2 => ?_)
          · skip
            refine kx_iload C dX0_fillTail_110 0 rfl ?_
            refine kx_iload C dX0_fillTail_112 6 rfl ?_
            refine kx_icmp_ne (tgt := 131) C (by have := HTu (k * 24 + i) (by omega); have := HTa i (by omega); omega) (minN_lt31 (fun to => Tu (k * 24 + to) + Ta ((sl + 1) * 24 + to)) i) dX0_fillTail_114 (by decide) (fun c3 => ?_) (fun c3 => ?_)
            · skip
              refine kx_iinc (v := nI (i + 1)) (lv2 := [(7, .int (nI (i + 1))), (9, .int (nI ((Tu (((k) * (24)) + (i))) + (Ta ((sl + 1) * 24 + i))))), (8, .int (nI ((sl + 1) * 24 + i))), (0, .ref (K 0)), (1, .int (nI (sl))), (2, .int (nI (k))), (3, .int (nI ((sl) * (24) + (k)))), (4, .int (nI (minN (fun to => Tu (k * 24 + to) + Ta ((sl + 1) * 24 + to)) kBIG i))), (5, .long (lN (cntN (fun to => Tu (k * 24 + to) + Ta ((sl + 1) * 24 + to)) (fun to => Wa ((sl + 1) * 24 + to)) i)))]) C dX0_fillTail_131 8 rfl (kI1 _) (by decide) rfl ?_
              refine kx_goto (tgt := 47) C dX0_fillTail_134 (by decide) ?_
              refine kx_lvn (a := minN (fun to => Tu (k * 24 + to) + Ta ((sl + 1) * 24 + to)) kBIG i) (b := minN (fun to => Tu (k * 24 + to) + Ta ((sl + 1) * 24 + to)) kBIG (i + 1)) (lv2 := [(7, .int (nI (i + 1))), (9, .int (nI ((Tu (((k) * (24)) + (i))) + (Ta ((sl + 1) * 24 + i))))), (8, .int (nI ((sl + 1) * 24 + i))), (0, .ref (K 0)), (1, .int (nI (sl))), (2, .int (nI (k))), (3, .int (nI ((sl) * (24) + (k)))), (4, .int (nI (minN (fun to => Tu (k * 24 + to) + Ta ((sl + 1) * 24 + to)) kBIG (i + 1)))), (5, .long (lN (cntN (fun to => Tu (k * 24 + to) + Ta ((sl + 1) * 24 + to)) (fun to => Wa ((sl + 1) * 24 + to)) i)))]) (min_ge (F := (fun to => Tu (k * 24 + to) + Ta ((sl + 1) * 24 + to))) c2) 7 rfl rfl ?_
              refine kx_lvL (a := cntN (fun to => Tu (k * 24 + to) + Ta ((sl + 1) * 24 + to)) (fun to => Wa ((sl + 1) * 24 + to)) i) (b := cntN (fun to => Tu (k * 24 + to) + Ta ((sl + 1) * 24 + to)) (fun to => Wa ((sl + 1) * 24 + to)) (i + 1)) (lv2 := [(7, .int (nI (i + 1))), (9, .int (nI ((Tu (((k) * (24)) + (i))) + (Ta ((sl + 1) * 24 + i))))), (8, .int (nI ((sl + 1) * 24 + i))), (0, .ref (K 0)), (1, .int (nI (sl))), (2, .int (nI (k))), (3, .int (nI ((sl) * (24) + (k)))), (4, .int (nI (minN (fun to => Tu (k * 24 + to) + Ta ((sl + 1) * 24 + to)) kBIG (i + 1)))), (5, .long (lN (cntN (fun to => Tu (k * 24 + to) + Ta ((sl + 1) * 24 + to)) (fun to => Wa ((sl + 1) * 24 + to)) (i + 1))))]) (cnt_gt (F := (fun to => Tu (k * 24 + to) + Ta ((sl + 1) * 24 + to))) (G := (fun to => Wa ((sl + 1) * 24 + to))) (Nat.lt_of_le_of_ne c2 (fun z => c3 z.symm))) 8 rfl rfl ?_
              refine kx_lv (lv2 := [(0, .ref (K 0)), (1, .int (nI (sl))), (2, .int (nI (k))), (3, .int (nI ((sl) * (24) + (k)))), (4, .int (nI (minN (fun to => Tu (k * 24 + to) + Ta ((sl + 1) * 24 + to)) kBIG (i + 1)))), (5, .long (lN (cntN (fun to => Tu (k * 24 + to) + Ta ((sl + 1) * 24 + to)) (fun to => Wa ((sl + 1) * 24 + to)) (i + 1)))), (7, .int (nI (i + 1)))]) [3, 4, 5, 6, 7, 8, 0] rfl ?_
              refine kx_eqw (ws2 := (kwW E K b y o n ls bc tk hk P Wt Tu Sc Ta Wa He Fk Pk)) rfl ?_
              exact ih_lp47 (i + 1) (by omega) (by omega)
            · skip
              refine kx_lload C dX0_fillTail_117 7 rfl ?_
              refine kx_aload_n C dX0_fillTail_119 rfl 2 rfl ?_
              refine kx_get (v := .ref (K 6)) (ci := 0) C kin0 0 rfl rfl 9 (by decide) fl0_25 rfl rfl dX0_fillTail_120 ?_
              refine kx_iload C dX0_fillTail_123 1 rfl ?_
              refine kx_lald C 6 rfl (j := (sl + 1) * 24 + i) (by omega) (by decide) dX0_fillTail_125 ?_
              refine kx_callSl (rest := []) (wr := (kwW E K b y o n ls bc tk hk P Wt Tu Sc Ta Wa He Fk Pk)) C (c_cappedSum E (cntN (fun to => Tu (k * 24 + to) + Ta ((sl + 1) * 24 + to)) (fun to => Wa ((sl + 1) * 24 + to)) i) (Wa ((sl + 1) * 24 + i)) (cntN_le _ _ _) (HWa i (by omega))) g0_199 2 rfl (by decide +kernel) ⟨Nat.le_of_ble_eq_true rfl, Nat.le_of_ble_eq_true rfl⟩ ⟨Nat.le_of_ble_eq_true rfl, Nat.le_of_ble_eq_true rfl⟩ [] [0, 1, 2, 3, 4, 5, 6, 7, 8, 9] rfl rfl (by decide) (by decide) (by decide) rfl (Nat.le_of_ble_eq_true rfl) dX0_fillTail_126 (fun v w q4 => ?_)
              obtain ⟨rfl, rfl⟩ := q4
              refine kx_eqw (ws2 := (kwW E K b y o n ls bc tk hk P Wt Tu Sc Ta Wa He Fk Pk)) (List.append_nil _) ?_
              refine kx_lstore (lv2 := [(5, .long (lN (min (cntN (fun to => Tu (k * 24 + to) + Ta ((sl + 1) * 24 + to)) (fun to => Wa ((sl + 1) * 24 + to)) i + Wa ((sl + 1) * 24 + i)) 1000000000000000000))), (9, .int (nI ((Tu (((k) * (24)) + (i))) + (Ta ((sl + 1) * 24 + i))))), (8, .int (nI ((sl + 1) * 24 + i))), (0, .ref (K 0)), (1, .int (nI (sl))), (2, .int (nI (k))), (3, .int (nI ((sl) * (24) + (k)))), (4, .int (nI (minN (fun to => Tu (k * 24 + to) + Ta ((sl + 1) * 24 + to)) kBIG i))), (7, .int (nI (i)))]) C dX0_fillTail_129 (by decide) rfl ?_
              refine kx_iinc (v := nI (i + 1)) (lv2 := [(7, .int (nI (i + 1))), (5, .long (lN (min (cntN (fun to => Tu (k * 24 + to) + Ta ((sl + 1) * 24 + to)) (fun to => Wa ((sl + 1) * 24 + to)) i + Wa ((sl + 1) * 24 + i)) 1000000000000000000))), (9, .int (nI ((Tu (((k) * (24)) + (i))) + (Ta ((sl + 1) * 24 + i))))), (8, .int (nI ((sl + 1) * 24 + i))), (0, .ref (K 0)), (1, .int (nI (sl))), (2, .int (nI (k))), (3, .int (nI ((sl) * (24) + (k)))), (4, .int (nI (minN (fun to => Tu (k * 24 + to) + Ta ((sl + 1) * 24 + to)) kBIG i)))]) C dX0_fillTail_131 8 rfl (kI1 _) (by decide) rfl ?_
              refine kx_goto (tgt := 47) C dX0_fillTail_134 (by decide) ?_
              refine kx_lvn (a := minN (fun to => Tu (k * 24 + to) + Ta ((sl + 1) * 24 + to)) kBIG i) (b := minN (fun to => Tu (k * 24 + to) + Ta ((sl + 1) * 24 + to)) kBIG (i + 1)) (lv2 := [(7, .int (nI (i + 1))), (5, .long (lN (min (cntN (fun to => Tu (k * 24 + to) + Ta ((sl + 1) * 24 + to)) (fun to => Wa ((sl + 1) * 24 + to)) i + Wa ((sl + 1) * 24 + i)) 1000000000000000000))), (9, .int (nI ((Tu (((k) * (24)) + (i))) + (Ta ((sl + 1) * 24 + i))))), (8, .int (nI ((sl + 1) * 24 + i))), (0, .ref (K 0)), (1, .int (nI (sl))), (2, .int (nI (k))), (3, .int (nI ((sl) * (24) + (k)))), (4, .int (nI (minN (fun to => Tu (k * 24 + to) + Ta ((sl + 1) * 24 + to)) kBIG (i + 1))))]) (min_ge (F := (fun to => Tu (k * 24 + to) + Ta ((sl + 1) * 24 + to))) c2) 8 rfl rfl ?_
              refine kx_lvL (a := min (cntN (fun to => Tu (k * 24 + to) + Ta ((sl + 1) * 24 + to)) (fun to => Wa ((sl + 1) * 24 + to)) i + Wa ((sl + 1) * 24 + i)) 1000000000000000000) (b := cntN (fun to => Tu (k * 24 + to) + Ta ((sl + 1) * 24 + to)) (fun to => Wa ((sl + 1) * 24 + to)) (i + 1)) (lv2 := [(7, .int (nI (i + 1))), (5, .long (lN (cntN (fun to => Tu (k * 24 + to) + Ta ((sl + 1) * 24 + to)) (fun to => Wa ((sl + 1) * 24 + to)) (i + 1)))), (9, .int (nI ((Tu (((k) * (24)) + (i))) + (Ta ((sl + 1) * 24 + i))))), (8, .int (nI ((sl + 1) * 24 + i))), (0, .ref (K 0)), (1, .int (nI (sl))), (2, .int (nI (k))), (3, .int (nI ((sl) * (24) + (k)))), (4, .int (nI (minN (fun to => Tu (k * 24 + to) + Ta ((sl + 1) * 24 + to)) kBIG (i + 1))))]) (cnt_eq (F := (fun to => Tu (k * 24 + to) + Ta ((sl + 1) * 24 + to))) (G := (fun to => Wa ((sl + 1) * 24 + to))) c3) 1 rfl rfl ?_
              refine kx_lv (lv2 := [(0, .ref (K 0)), (1, .int (nI (sl))), (2, .int (nI (k))), (3, .int (nI ((sl) * (24) + (k)))), (4, .int (nI (minN (fun to => Tu (k * 24 + to) + Ta ((sl + 1) * 24 + to)) kBIG (i + 1)))), (5, .long (lN (cntN (fun to => Tu (k * 24 + to) + Ta ((sl + 1) * 24 + to)) (fun to => Wa ((sl + 1) * 24 + to)) (i + 1)))), (7, .int (nI (i + 1)))]) [4, 5, 6, 7, 8, 1, 0] rfl ?_
              refine kx_eqw (ws2 := (kwW E K b y o n ls bc tk hk P Wt Tu Sc Ta Wa He Fk Pk)) rfl ?_
              exact ih_lp47 (i + 1) (by omega) (by omega)
          · skip
            refine kx_iload C dX0_fillTail_94 0 rfl ?_
            refine kx_istore (lv2 := [(4, .int (nI ((Tu (((k) * (24)) + (i))) + (Ta ((sl + 1) * 24 + i))))), (9, .int (nI ((Tu (((k) * (24)) + (i))) + (Ta ((sl + 1) * 24 + i))))), (8, .int (nI ((sl + 1) * 24 + i))), (0, .ref (K 0)), (1, .int (nI (sl))), (2, .int (nI (k))), (3, .int (nI ((sl) * (24) + (k)))), (5, .long (lN (cntN (fun to => Tu (k * 24 + to) + Ta ((sl + 1) * 24 + to)) (fun to => Wa ((sl + 1) * 24 + to)) i))), (7, .int (nI (i)))]) C dX0_fillTail_96 (by decide) rfl ?_
            refine kx_aload_n C dX0_fillTail_98 rfl 3 rfl ?_
            refine kx_get (v := .ref (K 6)) (ci := 0) C kin0 0 rfl rfl 9 (by decide) fl0_25 rfl rfl dX0_fillTail_99 ?_
            refine kx_iload C dX0_fillTail_102 2 rfl ?_
            refine kx_lald C 6 rfl (j := (sl + 1) * 24 + i) (by omega) (by decide) dX0_fillTail_104 ?_
            refine kx_lstore (lv2 := [(5, .long (lN (Wa ((sl + 1) * 24 + i)))), (4, .int (nI ((Tu (((k) * (24)) + (i))) + (Ta ((sl + 1) * 24 + i))))), (9, .int (nI ((Tu (((k) * (24)) + (i))) + (Ta ((sl + 1) * 24 + i))))), (8, .int (nI ((sl + 1) * 24 + i))), (0, .ref (K 0)), (1, .int (nI (sl))), (2, .int (nI (k))), (3, .int (nI ((sl) * (24) + (k)))), (7, .int (nI (i)))]) C dX0_fillTail_105 (by decide) rfl ?_
            refine kx_goto (tgt := 131) C dX0_fillTail_107 (by decide) ?_
            refine kx_iinc (v := nI (i + 1)) (lv2 := [(7, .int (nI (i + 1))), (5, .long (lN (Wa ((sl + 1) * 24 + i)))), (4, .int (nI ((Tu (((k) * (24)) + (i))) + (Ta ((sl + 1) * 24 + i))))), (9, .int (nI ((Tu (((k) * (24)) + (i))) + (Ta ((sl + 1) * 24 + i))))), (8, .int (nI ((sl + 1) * 24 + i))), (0, .ref (K 0)), (1, .int (nI (sl))), (2, .int (nI (k))), (3, .int (nI ((sl) * (24) + (k))))]) C dX0_fillTail_131 8 rfl (kI1 _) (by decide) rfl ?_
            refine kx_goto (tgt := 47) C dX0_fillTail_134 (by decide) ?_
            refine kx_lvn (a := (Tu (((k) * (24)) + (i))) + (Ta ((sl + 1) * 24 + i))) (b := minN (fun to => Tu (k * 24 + to) + Ta ((sl + 1) * 24 + to)) kBIG (i + 1)) (lv2 := [(7, .int (nI (i + 1))), (5, .long (lN (Wa ((sl + 1) * 24 + i)))), (4, .int (nI (minN (fun to => Tu (k * 24 + to) + Ta ((sl + 1) * 24 + to)) kBIG (i + 1)))), (9, .int (nI ((Tu (((k) * (24)) + (i))) + (Ta ((sl + 1) * 24 + i))))), (8, .int (nI ((sl + 1) * 24 + i))), (0, .ref (K 0)), (1, .int (nI (sl))), (2, .int (nI (k))), (3, .int (nI ((sl) * (24) + (k))))]) (min_lt (F := (fun to => Tu (k * 24 + to) + Ta ((sl + 1) * 24 + to))) c2) 2 rfl rfl ?_
            refine kx_lvL (a := Wa ((sl + 1) * 24 + i)) (b := cntN (fun to => Tu (k * 24 + to) + Ta ((sl + 1) * 24 + to)) (fun to => Wa ((sl + 1) * 24 + to)) (i + 1)) (lv2 := [(7, .int (nI (i + 1))), (5, .long (lN (cntN (fun to => Tu (k * 24 + to) + Ta ((sl + 1) * 24 + to)) (fun to => Wa ((sl + 1) * 24 + to)) (i + 1)))), (4, .int (nI (minN (fun to => Tu (k * 24 + to) + Ta ((sl + 1) * 24 + to)) kBIG (i + 1)))), (9, .int (nI ((Tu (((k) * (24)) + (i))) + (Ta ((sl + 1) * 24 + i))))), (8, .int (nI ((sl + 1) * 24 + i))), (0, .ref (K 0)), (1, .int (nI (sl))), (2, .int (nI (k))), (3, .int (nI ((sl) * (24) + (k))))]) (cnt_lt (F := (fun to => Tu (k * 24 + to) + Ta ((sl + 1) * 24 + to))) (G := (fun to => Wa ((sl + 1) * 24 + to))) c2 (HWa i (by omega))) 1 rfl rfl ?_
            refine kx_lv (lv2 := [(0, .ref (K 0)), (1, .int (nI (sl))), (2, .int (nI (k))), (3, .int (nI ((sl) * (24) + (k)))), (4, .int (nI (minN (fun to => Tu (k * 24 + to) + Ta ((sl + 1) * 24 + to)) kBIG (i + 1)))), (5, .long (lN (cntN (fun to => Tu (k * 24 + to) + Ta ((sl + 1) * 24 + to)) (fun to => Wa ((sl + 1) * 24 + to)) (i + 1)))), (7, .int (nI (i + 1)))]) [5, 6, 7, 8, 2, 1, 0] rfl ?_
            refine kx_eqw (ws2 := (kwW E K b y o n ls bc tk hk P Wt Tu Sc Ta Wa He Fk Pk)) rfl ?_
            exact ih_lp47 (i + 1) (by omega) (by omega)
    exact lp47 25 0 (by omega) (by omega)
  refine kx_iload_n C dX0_fillTail_0 rfl 1 rfl ?_
  refine kx_bipush (v := nI 24) C dX0_fillTail_1 (by decide +kernel) ?_
  refine kx_imul C dX0_fillTail_3 ?_
  refine kx_iload_n C dX0_fillTail_4 rfl 2 rfl ?_
  refine kx_iadd C dX0_fillTail_5 ?_
  refine kx_istore_n (lv2 := [(3, .int (nI (((sl) * (24)) + (k)))), (0, .ref (K 0)), (1, .int (nI (sl))), (2, .int (nI (k)))]) C dX0_fillTail_6 rfl (by decide) rfl ?_
  refine kx_iload_n C dX0_fillTail_7 rfl 2 rfl ?_
  refine kx_aload_n C dX0_fillTail_8 rfl 1 rfl ?_
  refine kx_get (v := .int (nI (n))) (ci := 0) C kin0 0 rfl rfl 5 (by decide) fl0_41 rfl rfl dX0_fillTail_9 ?_
  refine kx_iconst (v := nI 1) C dX0_fillTail_12 (by decide +kernel) ?_
  refine kx_isub C (by omega) dX0_fillTail_13 ?_
  refine kx_icmp_ne (tgt := 37) C (by omega) (by omega) dX0_fillTail_14 (by decide) (fun c1 => ?_) (fun c1 => ?_)
  · skip
    refine kx_ldc (v := nI 1000000000) C kc0_198 dX0_fillTail_37 ?_
    refine kx_istore (lv2 := [(4, .int (nI (1000000000))), (3, .int (nI (((sl) * (24)) + (k)))), (0, .ref (K 0)), (1, .int (nI (sl))), (2, .int (nI (k)))]) C dX0_fillTail_39 (by decide) rfl ?_
    refine kx_lconst (v := lN 0) C dX0_fillTail_41 (by decide +kernel) ?_
    refine kx_lstore (lv2 := [(5, .long (lN (0))), (4, .int (nI (1000000000))), (3, .int (nI (((sl) * (24)) + (k)))), (0, .ref (K 0)), (1, .int (nI (sl))), (2, .int (nI (k)))]) C dX0_fillTail_42 (by decide) rfl ?_
    refine kx_iconst (v := nI 0) C dX0_fillTail_44 (by decide +kernel) ?_
    refine kx_istore (lv2 := [(7, .int (nI (0))), (5, .long (lN (0))), (4, .int (nI (1000000000))), (3, .int (nI (((sl) * (24)) + (k)))), (0, .ref (K 0)), (1, .int (nI (sl))), (2, .int (nI (k)))]) C dX0_fillTail_45 (by decide) rfl ?_
    refine kx_lv (lv2 := [(0, .ref (K 0)), (1, .int (nI (sl))), (2, .int (nI (k))), (3, .int (nI ((sl) * (24) + (k)))), (4, .int (nI (minN (fun to => Tu (k * 24 + to) + Ta ((sl + 1) * 24 + to)) kBIG 0))), (5, .long (lN (cntN (fun to => Tu (k * 24 + to) + Ta ((sl + 1) * 24 + to)) (fun to => Wa ((sl + 1) * 24 + to)) 0))), (7, .int (nI (0)))]) [4, 5, 6, 3, 2, 1, 0] rfl ?_
    exact lpA c1
  · skip
    refine kx_aload_n C dX0_fillTail_17 rfl 1 rfl ?_
    refine kx_get (v := .ref (K 5)) (ci := 0) C kin0 0 rfl rfl 8 (by decide) fl0_22 rfl rfl dX0_fillTail_18 ?_
    refine kx_iload_n C dX0_fillTail_21 rfl 0 rfl ?_
    refine kx_aload_n C dX0_fillTail_22 rfl 1 rfl ?_
    refine kx_get (v := .ref (K 4)) (ci := 0) C kin0 0 rfl rfl 7 (by decide) fl0_19 rfl rfl dX0_fillTail_23 ?_
    refine kx_iload_n C dX0_fillTail_26 rfl 0 rfl ?_
    refine kx_iald C 4 rfl (j := ((sl) * (24)) + (k)) (by omega) (by decide) dX0_fillTail_27 ?_
    refine kx_iast (ws2 := (kwW E K b y o n ls bc tk hk P Wt Tu Sc (va_up Ta (((sl) * (24)) + (k)) (Sc (((sl) * (24)) + (k)))) Wa He Fk Pk)) C 5 rfl (j := ((sl) * (24)) + (k)) (v := Sc (((sl) * (24)) + (k))) (by omega) (by decide) rfl dX0_fillTail_28 ?_
    refine kx_aload_n C dX0_fillTail_29 rfl 1 rfl ?_
    refine kx_get (v := .ref (K 6)) (ci := 0) C kin0 0 rfl rfl 9 (by decide) fl0_25 rfl rfl dX0_fillTail_30 ?_
    refine kx_iload_n C dX0_fillTail_33 rfl 0 rfl ?_
    refine kx_lconst (v := lN 1) C dX0_fillTail_34 (by decide +kernel) ?_
    refine kx_last (ws2 := (kwW E K b y o n ls bc tk hk P Wt Tu Sc (va_up Ta (((sl) * (24)) + (k)) (Sc (((sl) * (24)) + (k)))) (va_up Wa (((sl) * (24)) + (k)) (1)) He Fk Pk)) C 6 rfl (j := ((sl) * (24)) + (k)) (v := 1) (by omega) (by decide) rfl dX0_fillTail_35 ?_
    exact hE (Nat.le_of_ble_eq_true rfl) (Nat.le_of_ble_eq_true rfl) dX0_fillTail_36 (kFT1 c1)
end
section
theorem min_one {F : Nat → Nat} (h : F 0 ≤ 10000000) : F 0 = minN F kBIG 1 := by
  simp only [minN]
  have : kBIG = 1000000000 := rfl
  omega
theorem cap_in {F G : Nat → Nat} {L i : Nat} (h : F i = L) : min (min kCAP (sumN (fun j => if F j = L then G j else 0) i) + G i) 1000000000000000000 = min kCAP (sumN (fun j => if F j = L then G j else 0) (i + 1)) := by
  simp only [sumN]
  rw [if_pos h]
  have : kCAP = 1000000000000000000 := rfl
  omega
theorem cap_out {F G : Nat → Nat} {L i : Nat} (h : F i ≠ L) : min kCAP (sumN (fun j => if F j = L then G j else 0) i) = min kCAP (sumN (fun j => if F j = L then G j else 0) (i + 1)) := by
  simp only [sumN]
  rw [if_neg h]
  rfl

set_option maxHeartbeats 4000000 in
set_option maxRecDepth 100000 in
theorem c_fillLeast (E : KE) (K : Nat → Nat) (b y o n ls bc tk hk : Nat) (P Wt Tu Sc Ta Wa He Fk Pk : Nat → Nat) (HTa : ∀ j, j < 24 → Ta j ≤ 10000000) (HWa : ∀ j, j < 24 → Wa j ≤ 1000000000000000000) (H1 : n ≤ 40) : kMv E yX0_fillLeast cX0_fillLeast 2 (rk 2 0) [.ref (K 0)] (kwW E K b y o n ls bc tk hk P Wt Tu Sc Ta Wa He Fk Pk) (fun w => (n = 0 → w = (kwW E K b y o n 0 1 tk hk P Wt Tu Sc Ta Wa He Fk Pk)) ∧ (n ≠ 0 → w = (kwW E K b y o n (minN Ta kBIG 24) (cntN Ta Wa 24) tk hk P Wt Tu Sc Ta Wa He Fk Pk))) := by
  refine kMv_of (cc := cX0_fillLeast) (maxL := 2) (by decide) (Nat.le_of_ble_eq_true rfl) ?_
  intro G C hE
  have lp66 : ∀ (N_lp66 : Nat) (i : Nat), (i ≤ 24) → (n ≠ 0) → (24 < i + N_lp66) → kx E (rk 2 0) G 2 0 0 (kwW E K b y o n (minN Ta kBIG 24) (min kCAP (sumN (fun j => if Ta j = minN Ta kBIG 24 then Wa j else 0) i)) tk hk P Wt Tu Sc Ta Wa He Fk Pk) [(0, .ref (K 0)), (1, .int (nI (i)))] 66 [] := by
    intro N_lp66
    induction N_lp66 with
    | zero =>
      intro i h0_lp66 h1_lp66 hm_lp66
      exact absurd hm_lp66 (by omega)
    | succ N_lp66 ih_lp66 =>
      intro i h0_lp66 h1_lp66 hm_lp66
      refine kx_iload_n C dX0_fillLeast_66 rfl 1 rfl ?_
      refine kx_bipush (v := nI 24) C dX0_fillLeast_67 (by decide +kernel) ?_
      refine kx_icmp_ge (tgt := 108) C (by omega) (by omega) dX0_fillLeast_69 (by decide) (fun c1 => ?_) (fun c1 => ?_)
      · skip
        obtain rfl : 24 = i := by omega
        exact hE (Nat.le_of_ble_eq_true rfl) (Nat.le_of_ble_eq_true rfl) dX0_fillLeast_108 ⟨fun z => absurd z h1_lp66, fun _ => rfl⟩
      · skip
        refine kx_aload_n C dX0_fillLeast_72 rfl 0 rfl ?_
        refine kx_get (v := .ref (K 5)) (ci := 0) C kin0 0 rfl rfl 8 (by decide) fl0_22 rfl rfl dX0_fillLeast_73 ?_
        refine kx_iload_n C dX0_fillLeast_76 rfl 1 rfl ?_
        refine kx_iald C 5 rfl (j := i) (by omega) (by decide) dX0_fillLeast_77 ?_
        refine kx_aload_n C dX0_fillLeast_78 rfl 0 rfl ?_
        refine kx_get (v := .int (nI ((minN Ta kBIG 24)))) (ci := 0) C kin0 0 rfl rfl 13 (by decide) fl0_93 rfl rfl dX0_fillLeast_79 ?_
        refine kx_icmp_ne (tgt := 102) C (by have := HTa i (by omega); omega) (minN_lt31 Ta 24) dX0_fillLeast_82 (by decide) (fun c2 => ?_) (fun c2 => ?_)
        · skip
          refine kx_iinc (v := nI (i + 1)) (lv2 := [(1, .int (nI (i + 1))), (0, .ref (K 0))]) C dX0_fillLeast_102 1 rfl (kI1 _) (by decide) rfl ?_
          refine kx_goto (tgt := 66) C dX0_fillLeast_105 (by decide) ?_
          refine kx_eqw (ws2 := (kwW E K b y o n (minN Ta kBIG 24) (min kCAP (sumN (fun j => if Ta j = minN Ta kBIG 24 then Wa j else 0) (i + 1))) tk hk P Wt Tu Sc Ta Wa He Fk Pk)) (by rw [cap_out (F := Ta) (G := Wa) c2]) ?_
          refine kx_lv (lv2 := [(0, .ref (K 0)), (1, .int (nI (i + 1)))]) [1, 0] rfl ?_
          refine kx_eqw (ws2 := (kwW E K b y o n (minN Ta kBIG 24) (min kCAP (sumN (fun j => if Ta j = minN Ta kBIG 24 then Wa j else 0) (i + 1))) tk hk P Wt Tu Sc Ta Wa He Fk Pk)) rfl ?_
          exact ih_lp66 (i + 1) (by omega) h1_lp66 (by omega)
        · skip
          refine kx_aload_n C dX0_fillLeast_85 rfl 0 rfl ?_
          refine kx_aload_n C dX0_fillLeast_86 rfl 0 rfl ?_
          refine kx_get (v := .long (lN (min kCAP (sumN (fun j => if Ta j = minN Ta kBIG 24 then Wa j else 0) i)))) (ci := 0) C kin0 0 rfl rfl 14 (by decide) fl0_96 rfl rfl dX0_fillLeast_87 ?_
          refine kx_aload_n C dX0_fillLeast_90 rfl 0 rfl ?_
          refine kx_get (v := .ref (K 6)) (ci := 0) C kin0 0 rfl rfl 9 (by decide) fl0_25 rfl rfl dX0_fillLeast_91 ?_
          refine kx_iload_n C dX0_fillLeast_94 rfl 1 rfl ?_
          refine kx_lald C 6 rfl (j := i) (by omega) (by decide) dX0_fillLeast_95 ?_
          refine kx_callSl (rest := [.ref (K 0)]) (wr := (kwW E K b y o n (minN Ta kBIG 24) (min kCAP (sumN (fun j => if Ta j = minN Ta kBIG 24 then Wa j else 0) i)) tk hk P Wt Tu Sc Ta Wa He Fk Pk)) C (c_cappedSum E (min kCAP (sumN (fun j => if Ta j = minN Ta kBIG 24 then Wa j else 0) i)) (Wa (i)) (Nat.min_le_left _ _) (HWa i (by omega))) g0_199 2 rfl (by decide +kernel) ⟨Nat.le_of_ble_eq_true rfl, Nat.le_of_ble_eq_true rfl⟩ ⟨Nat.le_of_ble_eq_true rfl, Nat.le_of_ble_eq_true rfl⟩ [] [0, 1, 2, 3, 4, 5, 6, 7, 8, 9] rfl rfl (by decide) (by decide) (by decide) rfl (Nat.le_of_ble_eq_true rfl) dX0_fillLeast_96 (fun v w q3 => ?_)
          obtain ⟨rfl, rfl⟩ := q3
          refine kx_eqw (ws2 := (kwW E K b y o n (minN Ta kBIG 24) (min kCAP (sumN (fun j => if Ta j = minN Ta kBIG 24 then Wa j else 0) i)) tk hk P Wt Tu Sc Ta Wa He Fk Pk)) (List.append_nil _) ?_
          refine kx_put (ws2 := (kwW E K b y o n (minN Ta kBIG 24) (min (min kCAP (sumN (fun j => if Ta j = minN Ta kBIG 24 then Wa j else 0) i) + Wa (i)) 1000000000000000000) tk hk P Wt Tu Sc Ta Wa He Fk Pk)) (ci := 0) C kin0 tyX0_ok nmX0 0 rfl rfl 14 (by decide) fl0_96 rfl rfl rfl rfl (Nat.le_of_ble_eq_true rfl) rfl dX0_fillLeast_99 ?_
          refine kx_iinc (v := nI (i + 1)) (lv2 := [(1, .int (nI (i + 1))), (0, .ref (K 0))]) C dX0_fillLeast_102 1 rfl (kI1 _) (by decide) rfl ?_
          refine kx_goto (tgt := 66) C dX0_fillLeast_105 (by decide) ?_
          refine kx_eqw (ws2 := (kwW E K b y o n (minN Ta kBIG 24) (min kCAP (sumN (fun j => if Ta j = minN Ta kBIG 24 then Wa j else 0) (i + 1))) tk hk P Wt Tu Sc Ta Wa He Fk Pk)) (by rw [cap_in (F := Ta) (G := Wa) c2]) ?_
          refine kx_lv (lv2 := [(0, .ref (K 0)), (1, .int (nI (i + 1)))]) [1, 0] rfl ?_
          refine kx_eqw (ws2 := (kwW E K b y o n (minN Ta kBIG 24) (min kCAP (sumN (fun j => if Ta j = minN Ta kBIG 24 then Wa j else 0) (i + 1))) tk hk P Wt Tu Sc Ta Wa He Fk Pk)) rfl ?_
          exact ih_lp66 (i + 1) (by omega) h1_lp66 (by omega)
  have lp30 : ∀ (N_lp30 : Nat) (i : Nat), (1 ≤ i) → (i ≤ 24) → (n ≠ 0) → (24 < i + N_lp30) → kx E (rk 2 0) G 2 0 0 (kwW E K b y o n (minN Ta kBIG i) 1 tk hk P Wt Tu Sc Ta Wa He Fk Pk) [(0, .ref (K 0)), (1, .int (nI (i)))] 30 [] := by
    intro N_lp30
    induction N_lp30 with
    | zero =>
      intro i h0_lp30 h1_lp30 h2_lp30 hm_lp30
      exact absurd hm_lp30 (by omega)
    | succ N_lp30 ih_lp30 =>
      intro i h0_lp30 h1_lp30 h2_lp30 hm_lp30
      refine kx_iload_n C dX0_fillLeast_30 rfl 1 rfl ?_
      refine kx_bipush (v := nI 24) C dX0_fillLeast_31 (by decide +kernel) ?_
      refine kx_icmp_ge (tgt := 59) C (by omega) (by omega) dX0_fillLeast_33 (by decide) (fun c4 => ?_) (fun c4 => ?_)
      · skip
        obtain rfl : 24 = i := by omega
        refine kx_aload_n C dX0_fillLeast_59 rfl 0 rfl ?_
        refine kx_lconst (v := lN 0) C dX0_fillLeast_60 (by decide +kernel) ?_
        refine kx_put (ws2 := (kwW E K b y o n (minN Ta kBIG 24) 0 tk hk P Wt Tu Sc Ta Wa He Fk Pk)) (ci := 0) C kin0 tyX0_ok nmX0 0 rfl rfl 14 (by decide) fl0_96 rfl rfl rfl rfl (Nat.le_of_ble_eq_true rfl) rfl dX0_fillLeast_61 ?_
        refine kx_iconst (v := nI 0) C dX0_fillLeast_64 (by decide +kernel) ?_
        refine kx_istore_n (lv2 := [(1, .int (nI (0))), (0, .ref (K 0))]) C dX0_fillLeast_65 rfl (by decide) rfl ?_
        refine kx_lv (lv2 := [(0, .ref (K 0)), (1, .int (nI (0)))]) [1, 0] rfl ?_
        refine kx_eqw (ws2 := (kwW E K b y o n (minN Ta kBIG 24) (min kCAP (sumN (fun j => if Ta j = minN Ta kBIG 24 then Wa j else 0) 0)) tk hk P Wt Tu Sc Ta Wa He Fk Pk)) rfl ?_
        exact lp66 25 0 (by omega) h2_lp30 (by omega)
      · skip
        refine kx_aload_n C dX0_fillLeast_36 rfl 0 rfl ?_
        refine kx_aload_n C dX0_fillLeast_37 rfl 0 rfl ?_
        refine kx_get (v := .int (nI (minN Ta kBIG i))) (ci := 0) C kin0 0 rfl rfl 13 (by decide) fl0_93 rfl rfl dX0_fillLeast_38 ?_
        refine kx_aload_n C dX0_fillLeast_41 rfl 0 rfl ?_
        refine kx_get (v := .ref (K 5)) (ci := 0) C kin0 0 rfl rfl 8 (by decide) fl0_22 rfl rfl dX0_fillLeast_42 ?_
        refine kx_iload_n C dX0_fillLeast_45 rfl 1 rfl ?_
        refine kx_iald C 5 rfl (j := i) (by omega) (by decide) dX0_fillLeast_46 ?_
        refine kx_mmin C (minN_lt31 Ta i) (by have := HTa i (by omega); omega) m0_182 m_mmins m_math m_mminc (Nat.le_of_ble_eq_true rfl) (Nat.le_of_ble_eq_true rfl) (Nat.le_of_ble_eq_true rfl) (Nat.le_of_ble_eq_true rfl) dX0_fillLeast_47 ?_
        refine kx_put (ws2 := (kwW E K b y o n (min (minN Ta kBIG i) (Ta (i))) 1 tk hk P Wt Tu Sc Ta Wa He Fk Pk)) (ci := 0) C kin0 tyX0_ok nmX0 0 rfl rfl 13 (by decide) fl0_93 rfl rfl rfl rfl (Nat.le_of_ble_eq_true rfl) rfl dX0_fillLeast_50 ?_
        refine kx_iinc (v := nI (i + 1)) (lv2 := [(1, .int (nI (i + 1))), (0, .ref (K 0))]) C dX0_fillLeast_53 1 rfl (kI1 _) (by decide) rfl ?_
        refine kx_goto (tgt := 30) C dX0_fillLeast_56 (by decide) ?_
        refine kx_lv (lv2 := [(0, .ref (K 0)), (1, .int (nI (i + 1)))]) [1, 0] rfl ?_
        refine kx_eqw (ws2 := (kwW E K b y o n (minN Ta kBIG (i + 1)) 1 tk hk P Wt Tu Sc Ta Wa He Fk Pk)) rfl ?_
        exact ih_lp30 (i + 1) (by omega) (by omega) h2_lp30 (by omega)
  refine kx_aload_n C dX0_fillLeast_0 rfl 0 rfl ?_
  refine kx_iconst (v := nI 0) C dX0_fillLeast_1 (by decide +kernel) ?_
  refine kx_put (ws2 := (kwW E K b y o n 0 bc tk hk P Wt Tu Sc Ta Wa He Fk Pk)) (ci := 0) C kin0 tyX0_ok nmX0 0 rfl rfl 13 (by decide) fl0_93 rfl rfl rfl rfl (Nat.le_of_ble_eq_true rfl) rfl dX0_fillLeast_2 ?_
  refine kx_aload_n C dX0_fillLeast_5 rfl 0 rfl ?_
  refine kx_lconst (v := lN 1) C dX0_fillLeast_6 (by decide +kernel) ?_
  refine kx_put (ws2 := (kwW E K b y o n 0 1 tk hk P Wt Tu Sc Ta Wa He Fk Pk)) (ci := 0) C kin0 tyX0_ok nmX0 0 rfl rfl 14 (by decide) fl0_96 rfl rfl rfl rfl (Nat.le_of_ble_eq_true rfl) rfl dX0_fillLeast_7 ?_
  refine kx_aload_n C dX0_fillLeast_10 rfl 0 rfl ?_
  refine kx_get (v := .int (nI (n))) (ci := 0) C kin0 0 rfl rfl 5 (by decide) fl0_41 rfl rfl dX0_fillLeast_11 ?_
  refine kx_if_ne (tgt := 18) C (by omega) dX0_fillLeast_14 (by decide) (fun c5 => ?_) (fun c5 => ?_)
  · skip
    refine kx_aload_n C dX0_fillLeast_18 rfl 0 rfl ?_
    refine kx_aload_n C dX0_fillLeast_19 rfl 0 rfl ?_
    refine kx_get (v := .ref (K 5)) (ci := 0) C kin0 0 rfl rfl 8 (by decide) fl0_22 rfl rfl dX0_fillLeast_20 ?_
    refine kx_iconst (v := nI 0) C dX0_fillLeast_23 (by decide +kernel) ?_
    refine kx_iald C 5 rfl (j := 0) (by omega) (by decide) dX0_fillLeast_24 ?_
    refine kx_put (ws2 := (kwW E K b y o n (Ta (0)) 1 tk hk P Wt Tu Sc Ta Wa He Fk Pk)) (ci := 0) C kin0 tyX0_ok nmX0 0 rfl rfl 13 (by decide) fl0_93 rfl rfl rfl rfl (Nat.le_of_ble_eq_true rfl) rfl dX0_fillLeast_25 ?_
    refine kx_iconst (v := nI 1) C dX0_fillLeast_28 (by decide +kernel) ?_
    refine kx_istore_n (lv2 := [(1, .int (nI (1))), (0, .ref (K 0))]) C dX0_fillLeast_29 rfl (by decide) rfl ?_
    refine kx_eqw (ws2 := (kwW E K b y o n (minN Ta kBIG 1) 1 tk hk P Wt Tu Sc Ta Wa He Fk Pk)) (by rw [min_one (HTa 0 (by omega))]) ?_
    refine kx_lv (lv2 := [(0, .ref (K 0)), (1, .int (nI (1)))]) [1, 0] rfl ?_
    refine kx_eqw (ws2 := (kwW E K b y o n (minN Ta kBIG 1) 1 tk hk P Wt Tu Sc Ta Wa He Fk Pk)) rfl ?_
    exact lp30 25 1 (by omega) (by omega) (by omega) (by omega)
  · skip
    exact hE (Nat.le_of_ble_eq_true rfl) (Nat.le_of_ble_eq_true rfl) dX0_fillLeast_17 ⟨fun _ => rfl, fun z => absurd z (by omega)⟩
end
section
def kO (x : Nat) : Int32 := if x = 24 then -1 else nI x
theorem kO_lt {x : Nat} (h : x < 24) : kO x = nI x := by unfold kO; rw [if_neg (by omega)]
theorem kO_24 : kO 24 = -1 := rfl
theorem k_nIm1 {x : Nat} (h : x < 2 ^ 31) : ¬ nI x = -1 := fun z => by
  have h1 := nI_toInt h
  rw [z] at h1
  have h2 : (-1 : Int32).toInt = -1 := by decide +kernel
  omega

set_option maxHeartbeats 4000000 in
set_option maxRecDepth 100000 in
theorem c_restAfter0 (E : KE) (K : Nat → Nat) (b y o n ls bc tk hk : Nat) (P Wt Tu Sc Ta Wa He Fk Pk : Nat → Nat) (x : Int32) : kMi E yX0_restAfter cX0_restAfter 3 (rk 0 0) [.ref (K 0), .int (-1), .int (x)] (kwW E K b y o n ls bc tk hk P Wt Tu Sc Ta Wa He Fk Pk) (fun r w => r = nI ls ∧ w = (kwW E K b y o n ls bc tk hk P Wt Tu Sc Ta Wa He Fk Pk)) := by
  refine kMi_of (cc := cX0_restAfter) (maxL := 3) (by decide) (Nat.le_of_ble_eq_true rfl) ?_
  intro G C hE
  refine kx_iload_n C dX0_restAfter_0 rfl 1 rfl ?_
  refine kx_if_ltR (tgt := 9) C dX0_restAfter_1 (by decide) (fun c1 => ?_) (fun c1 => ?_)
  · skip
    refine kx_aload_n C dX0_restAfter_9 rfl 0 rfl ?_
    refine kx_get (v := .int (nI (ls))) (ci := 0) C kin0 0 rfl rfl 13 (by decide) fl0_93 rfl rfl dX0_restAfter_10 ?_
    refine kx_goto (tgt := 39) C dX0_restAfter_13 (by decide) ?_
    exact hE (Nat.le_of_ble_eq_true rfl) (Nat.le_of_ble_eq_true rfl) dX0_restAfter_39 ⟨rfl, rfl⟩
  · skip
    exact absurd (by decide +kernel) c1

set_option maxHeartbeats 4000000 in
set_option maxRecDepth 100000 in
theorem c_restAfter1 (E : KE) (K : Nat → Nat) (b y o n ls bc tk hk : Nat) (P Wt Tu Sc Ta Wa He Fk Pk : Nat → Nat) (sl k : Nat) (H0 : sl < 40) (H1 : k < 24) (H2 : Sc (sl * 24 + k) ≤ Ta (sl * 24 + k)) : kMi E yX0_restAfter cX0_restAfter 3 (rk 0 0) [.ref (K 0), .int (nI (sl)), .int (nI (k))] (kwW E K b y o n ls bc tk hk P Wt Tu Sc Ta Wa He Fk Pk) (fun r w => r = nI (Ta (sl * 24 + k) - Sc (sl * 24 + k)) ∧ w = (kwW E K b y o n ls bc tk hk P Wt Tu Sc Ta Wa He Fk Pk)) := by
  refine kMi_of (cc := cX0_restAfter) (maxL := 3) (by decide) (Nat.le_of_ble_eq_true rfl) ?_
  intro G C hE
  refine kx_iload_n C dX0_restAfter_0 rfl 1 rfl ?_
  refine kx_if_ltR (tgt := 9) C dX0_restAfter_1 (by decide) (fun c1 => ?_) (fun c1 => ?_)
  · skip
    exact absurd c1 (nI_pos (by omega))
  · skip
    refine kx_iload_n C dX0_restAfter_4 rfl 2 rfl ?_
    refine kx_iconst (v := (-1)) C dX0_restAfter_5 (by decide +kernel) ?_
    refine kx_icmp_neR (tgt := 16) C dX0_restAfter_6 (by decide) (fun c2 => ?_) (fun c2 => ?_)
    · skip
      refine kx_aload_n C dX0_restAfter_16 rfl 0 rfl ?_
      refine kx_get (v := .ref (K 5)) (ci := 0) C kin0 0 rfl rfl 8 (by decide) fl0_22 rfl rfl dX0_restAfter_17 ?_
      refine kx_iload_n C dX0_restAfter_20 rfl 1 rfl ?_
      refine kx_bipush (v := nI 24) C dX0_restAfter_21 (by decide +kernel) ?_
      refine kx_imul C dX0_restAfter_23 ?_
      refine kx_iload_n C dX0_restAfter_24 rfl 2 rfl ?_
      refine kx_iadd C dX0_restAfter_25 ?_
      refine kx_iald C 5 rfl (j := ((sl) * (24)) + (k)) (by omega) (by decide) dX0_restAfter_26 ?_
      refine kx_aload_n C dX0_restAfter_27 rfl 0 rfl ?_
      refine kx_get (v := .ref (K 4)) (ci := 0) C kin0 0 rfl rfl 7 (by decide) fl0_19 rfl rfl dX0_restAfter_28 ?_
      refine kx_iload_n C dX0_restAfter_31 rfl 1 rfl ?_
      refine kx_bipush (v := nI 24) C dX0_restAfter_32 (by decide +kernel) ?_
      refine kx_imul C dX0_restAfter_34 ?_
      refine kx_iload_n C dX0_restAfter_35 rfl 2 rfl ?_
      refine kx_iadd C dX0_restAfter_36 ?_
      refine kx_iald C 4 rfl (j := ((sl) * (24)) + (k)) (by omega) (by decide) dX0_restAfter_37 ?_
      refine kx_isub C H2 dX0_restAfter_38 ?_
      exact hE (Nat.le_of_ble_eq_true rfl) (Nat.le_of_ble_eq_true rfl) dX0_restAfter_39 ⟨rfl, rfl⟩
    · skip
      exact absurd c2 (k_nIm1 (by omega))

set_option maxHeartbeats 4000000 in
set_option maxRecDepth 100000 in
theorem c_turnInto0 (E : KE) (K : Nat → Nat) (b y o n ls bc tk hk : Nat) (P Wt Tu Sc Ta Wa He Fk Pk : Nat → Nat) (k : Nat) : kMi E yX0_turnInto cX0_turnInto 3 (rk 0 0) [.ref (K 0), .int (-1), .int (nI (k))] (kwW E K b y o n ls bc tk hk P Wt Tu Sc Ta Wa He Fk Pk) (fun r w => r = nI 0 ∧ w = (kwW E K b y o n ls bc tk hk P Wt Tu Sc Ta Wa He Fk Pk)) := by
  refine kMi_of (cc := cX0_turnInto) (maxL := 3) (by decide) (Nat.le_of_ble_eq_true rfl) ?_
  intro G C hE
  refine kx_iload_n C dX0_turnInto_0 rfl 1 rfl ?_
  refine kx_iconst (v := (-1)) C dX0_turnInto_1 (by decide +kernel) ?_
  refine kx_icmp_neR (tgt := 9) C dX0_turnInto_2 (by decide) (fun c1 => ?_) (fun c1 => ?_)
  · skip
    exact absurd rfl c1
  · skip
    refine kx_iconst (v := nI 0) C dX0_turnInto_5 (by decide +kernel) ?_
    refine kx_goto (tgt := 20) C dX0_turnInto_6 (by decide) ?_
    exact hE (Nat.le_of_ble_eq_true rfl) (Nat.le_of_ble_eq_true rfl) dX0_turnInto_20 ⟨rfl, rfl⟩

set_option maxHeartbeats 4000000 in
set_option maxRecDepth 100000 in
theorem c_turnInto1 (E : KE) (K : Nat → Nat) (b y o n ls bc tk hk : Nat) (P Wt Tu Sc Ta Wa He Fk Pk : Nat → Nat) (f k : Nat) (H0 : f < 24) (H1 : k < 24) : kMi E yX0_turnInto cX0_turnInto 3 (rk 0 0) [.ref (K 0), .int (nI (f)), .int (nI (k))] (kwW E K b y o n ls bc tk hk P Wt Tu Sc Ta Wa He Fk Pk) (fun r w => r = nI (Tu (f * 24 + k)) ∧ w = (kwW E K b y o n ls bc tk hk P Wt Tu Sc Ta Wa He Fk Pk)) := by
  refine kMi_of (cc := cX0_turnInto) (maxL := 3) (by decide) (Nat.le_of_ble_eq_true rfl) ?_
  intro G C hE
  refine kx_iload_n C dX0_turnInto_0 rfl 1 rfl ?_
  refine kx_iconst (v := (-1)) C dX0_turnInto_1 (by decide +kernel) ?_
  refine kx_icmp_neR (tgt := 9) C dX0_turnInto_2 (by decide) (fun c1 => ?_) (fun c1 => ?_)
  · skip
    refine kx_aload_n C dX0_turnInto_9 rfl 0 rfl ?_
    refine kx_get (v := .ref (K 3)) (ci := 0) C kin0 0 rfl rfl 6 (by decide) fl0_16 rfl rfl dX0_turnInto_10 ?_
    refine kx_iload_n C dX0_turnInto_13 rfl 1 rfl ?_
    refine kx_bipush (v := nI 24) C dX0_turnInto_14 (by decide +kernel) ?_
    refine kx_imul C dX0_turnInto_16 ?_
    refine kx_iload_n C dX0_turnInto_17 rfl 2 rfl ?_
    refine kx_iadd C dX0_turnInto_18 ?_
    refine kx_iald C 3 rfl (j := ((f) * (24)) + (k)) (by omega) (by decide) dX0_turnInto_19 ?_
    exact hE (Nat.le_of_ble_eq_true rfl) (Nat.le_of_ble_eq_true rfl) dX0_turnInto_20 ⟨rfl, rfl⟩
  · skip
    exact absurd c1 (k_nIm1 (by omega))

set_option maxHeartbeats 4000000 in
set_option maxRecDepth 100000 in
theorem c_leastThrough (E : KE) (K : Nat → Nat) (b y o n ls bc tk hk : Nat) (P Wt Tu Sc Ta Wa He Fk Pk : Nat → Nat) (sl k : Nat) (H0 : sl < 40) (H1 : k < 24) (H2 : Sc (sl * 24 + k) ≤ He (sl * 24 + k) + Ta (sl * 24 + k)) : kMi E yX0_leastThrough cX0_leastThrough 4 (rk 0 0) [.ref (K 0), .int (nI (sl)), .int (nI (k))] (kwW E K b y o n ls bc tk hk P Wt Tu Sc Ta Wa He Fk Pk) (fun r w => r = nI (He (sl * 24 + k) + Ta (sl * 24 + k) - Sc (sl * 24 + k)) ∧ w = (kwW E K b y o n ls bc tk hk P Wt Tu Sc Ta Wa He Fk Pk)) := by
  refine kMi_of (cc := cX0_leastThrough) (maxL := 4) (by decide) (Nat.le_of_ble_eq_true rfl) ?_
  intro G C hE
  refine kx_iload_n C dX0_leastThrough_0 rfl 1 rfl ?_
  refine kx_bipush (v := nI 24) C dX0_leastThrough_1 (by decide +kernel) ?_
  refine kx_imul C dX0_leastThrough_3 ?_
  refine kx_iload_n C dX0_leastThrough_4 rfl 2 rfl ?_
  refine kx_iadd C dX0_leastThrough_5 ?_
  refine kx_istore_n (lv2 := [(3, .int (nI (((sl) * (24)) + (k)))), (0, .ref (K 0)), (1, .int (nI (sl))), (2, .int (nI (k)))]) C dX0_leastThrough_6 rfl (by decide) rfl ?_
  refine kx_aload_n C dX0_leastThrough_7 rfl 1 rfl ?_
  refine kx_get (v := .ref (K 7)) (ci := 0) C kin0 0 rfl rfl 10 (by decide) fl0_29 rfl rfl dX0_leastThrough_8 ?_
  refine kx_iload_n C dX0_leastThrough_11 rfl 0 rfl ?_
  refine kx_iald C 7 rfl (j := ((sl) * (24)) + (k)) (by omega) (by decide) dX0_leastThrough_12 ?_
  refine kx_aload_n C dX0_leastThrough_13 rfl 1 rfl ?_
  refine kx_get (v := .ref (K 5)) (ci := 0) C kin0 0 rfl rfl 8 (by decide) fl0_22 rfl rfl dX0_leastThrough_14 ?_
  refine kx_iload_n C dX0_leastThrough_17 rfl 0 rfl ?_
  refine kx_iald C 5 rfl (j := ((sl) * (24)) + (k)) (by omega) (by decide) dX0_leastThrough_18 ?_
  refine kx_iadd C dX0_leastThrough_19 ?_
  refine kx_aload_n C dX0_leastThrough_20 rfl 1 rfl ?_
  refine kx_get (v := .ref (K 4)) (ci := 0) C kin0 0 rfl rfl 7 (by decide) fl0_19 rfl rfl dX0_leastThrough_21 ?_
  refine kx_iload_n C dX0_leastThrough_24 rfl 0 rfl ?_
  refine kx_iald C 4 rfl (j := ((sl) * (24)) + (k)) (by omega) (by decide) dX0_leastThrough_25 ?_
  refine kx_isub C H2 dX0_leastThrough_26 ?_
  exact hE (Nat.le_of_ble_eq_true rfl) (Nat.le_of_ble_eq_true rfl) dX0_leastThrough_27 ⟨rfl, rfl⟩

set_option maxHeartbeats 4000000 in
set_option maxRecDepth 100000 in
theorem c_changesAt (E : KE) (K : Nat → Nat) (b y o n ls bc tk hk : Nat) (P Wt Tu Sc Ta Wa He Fk Pk : Nat → Nat) (sl : Nat) (H0 : sl < 40) (H1 : 1 ≤ sl) (HFk : ∀ j, Fk j ≤ 24) : kMz E yX0_changesAt cX0_changesAt 2 (rk 0 0) [.ref (K 0), .int (nI (sl))] (kwW E K b y o n ls bc tk hk P Wt Tu Sc Ta Wa He Fk Pk) (fun r w => r = nI (if Fk sl = Fk (sl - 1) then 0 else 1) ∧ w = (kwW E K b y o n ls bc tk hk P Wt Tu Sc Ta Wa He Fk Pk)) := by
  refine kMz_of (cc := cX0_changesAt) (maxL := 2) (by decide) (Nat.le_of_ble_eq_true rfl) ?_
  intro G C hE
  refine kx_aload_n C dX0_changesAt_0 rfl 0 rfl ?_
  refine kx_get (v := .ref (K 8)) (ci := 0) C kin0 0 rfl rfl 11 (by decide) fl0_32 rfl rfl dX0_changesAt_1 ?_
  refine kx_iload_n C dX0_changesAt_4 rfl 1 rfl ?_
  refine kx_iald C 8 rfl (j := sl) (by omega) (by decide) dX0_changesAt_5 ?_
  refine kx_aload_n C dX0_changesAt_6 rfl 0 rfl ?_
  refine kx_get (v := .ref (K 8)) (ci := 0) C kin0 0 rfl rfl 11 (by decide) fl0_32 rfl rfl dX0_changesAt_7 ?_
  refine kx_iload_n C dX0_changesAt_10 rfl 1 rfl ?_
  refine kx_iconst (v := nI 1) C dX0_changesAt_11 (by decide +kernel) ?_
  refine kx_isub C (by omega) dX0_changesAt_12 ?_
  refine kx_iald C 8 rfl (j := (sl) - (1)) (by omega) (by decide) dX0_changesAt_13 ?_
  refine kx_icmp_eq (tgt := 21) C (by have := HFk sl; omega) (by have := HFk (sl - 1); omega) dX0_changesAt_14 (by decide) (fun c1 => ?_) (fun c1 => ?_)
  · skip
    refine kx_iconst (v := nI 0) C dX0_changesAt_21 (by decide +kernel) ?_
    exact hE (Nat.le_of_ble_eq_true rfl) (Nat.le_of_ble_eq_true rfl) dX0_changesAt_22 (by decide +kernel) ⟨by simp [*], rfl⟩
  · skip
    refine kx_iconst (v := nI 1) C dX0_changesAt_17 (by decide +kernel) ?_
    refine kx_goto (tgt := 22) C dX0_changesAt_18 (by decide) ?_
    exact hE (Nat.le_of_ble_eq_true rfl) (Nat.le_of_ble_eq_true rfl) dX0_changesAt_22 (by decide +kernel) ⟨by simp [*], rfl⟩

set_option maxHeartbeats 4000000 in
set_option maxRecDepth 100000 in
theorem c_leastInto (E : KE) (K : Nat → Nat) (b y o n ls bc tk hk : Nat) (P Wt Tu Sc Ta Wa He Fk Pk : Nat → Nat) (sl k : Nat) (H0 : sl < 40) (H1 : 1 ≤ sl) (H2 : k < 24) (HTu : ∀ j, j < 576 → Tu j ≤ 8000) (HHe : ∀ j, j < 24 → He ((sl - 1) * 24 + j) ≤ 10000000) : kMi E yX0_leastInto cX0_leastInto 5 (rk 1 0) [.ref (K 0), .int (nI (sl)), .int (nI (k))] (kwW E K b y o n ls bc tk hk P Wt Tu Sc Ta Wa He Fk Pk) (fun r w => r = nI (minN (fun fr => He ((sl - 1) * 24 + fr) + Tu (fr * 24 + k)) kBIG 24) ∧ w = (kwW E K b y o n ls bc tk hk P Wt Tu Sc Ta Wa He Fk Pk)) := by
  refine kMi_of (cc := cX0_leastInto) (maxL := 5) (by decide) (Nat.le_of_ble_eq_true rfl) ?_
  intro G C hE
  have lp6 : ∀ (N_lp6 : Nat) (i : Nat), (i ≤ 24) → (24 < i + N_lp6) → kx E (rk 1 0) G 5 0 0 (kwW E K b y o n ls bc tk hk P Wt Tu Sc Ta Wa He Fk Pk) [(0, .ref (K 0)), (1, .int (nI (sl))), (2, .int (nI (k))), (3, .int (nI (minN (fun fr => He ((sl - 1) * 24 + fr) + Tu (fr * 24 + k)) kBIG i))), (4, .int (nI (i)))] 6 [] := by
    intro N_lp6
    induction N_lp6 with
    | zero =>
      intro i h0_lp6 hm_lp6
      exact absurd hm_lp6 (by omega)
    | succ N_lp6 ih_lp6 =>
      intro i h0_lp6 hm_lp6
      refine kx_iload C dX0_leastInto_6 4 rfl ?_
      refine kx_bipush (v := nI 24) C dX0_leastInto_8 (by decide +kernel) ?_
      refine kx_icmp_ge (tgt := 51) C (by omega) (by omega) dX0_leastInto_10 (by decide) (fun c1 => ?_) (fun c1 => ?_)
      · skip
        obtain rfl : 24 = i := by omega
        refine kx_iload_n C dX0_leastInto_51 rfl 3 rfl ?_
        exact hE (Nat.le_of_ble_eq_true rfl) (Nat.le_of_ble_eq_true rfl) dX0_leastInto_52 ⟨rfl, rfl⟩
      · skip
        refine kx_iload_n C dX0_leastInto_13 rfl 3 rfl ?_
        refine kx_aload_n C dX0_leastInto_14 rfl 0 rfl ?_
        refine kx_get (v := .ref (K 7)) (ci := 0) C kin0 0 rfl rfl 10 (by decide) fl0_29 rfl rfl dX0_leastInto_15 ?_
        refine kx_iload_n C dX0_leastInto_18 rfl 1 rfl ?_
        refine kx_iconst (v := nI 1) C dX0_leastInto_19 (by decide +kernel) ?_
        refine kx_isub C (by omega) dX0_leastInto_20 ?_
        refine kx_bipush (v := nI 24) C dX0_leastInto_21 (by decide +kernel) ?_
        refine kx_imul C dX0_leastInto_23 ?_
        refine kx_iload C dX0_leastInto_24 4 rfl ?_
        refine kx_iadd C dX0_leastInto_26 ?_
        refine kx_iald C 7 rfl (j := (((sl) - (1)) * (24)) + (i)) (by omega) (by decide) dX0_leastInto_27 ?_
        refine kx_aload_n C dX0_leastInto_28 rfl 0 rfl ?_
        refine kx_get (v := .ref (K 3)) (ci := 0) C kin0 0 rfl rfl 6 (by decide) fl0_16 rfl rfl dX0_leastInto_29 ?_
        refine kx_iload C dX0_leastInto_32 4 rfl ?_
        refine kx_bipush (v := nI 24) C dX0_leastInto_34 (by decide +kernel) ?_
        refine kx_imul C dX0_leastInto_36 ?_
        refine kx_iload_n C dX0_leastInto_37 rfl 2 rfl ?_
        refine kx_iadd C dX0_leastInto_38 ?_
        refine kx_iald C 3 rfl (j := ((i) * (24)) + (k)) (by omega) (by decide) dX0_leastInto_39 ?_
        refine kx_iadd C dX0_leastInto_40 ?_
        refine kx_mmin C (minN_lt31 (fun fr => He ((sl - 1) * 24 + fr) + Tu (fr * 24 + k)) i) (by have := HTu (i * 24 + k) (by omega); have := HHe i (by omega); omega) m0_182 m_mmins m_math m_mminc (Nat.le_of_ble_eq_true rfl) (Nat.le_of_ble_eq_true rfl) (Nat.le_of_ble_eq_true rfl) (Nat.le_of_ble_eq_true rfl) dX0_leastInto_41 ?_
        refine kx_istore_n (lv2 := [(3, .int (nI (min (minN (fun fr => He ((sl - 1) * 24 + fr) + Tu (fr * 24 + k)) kBIG i) ((He ((((sl) - (1)) * (24)) + (i))) + (Tu (((i) * (24)) + (k))))))), (0, .ref (K 0)), (1, .int (nI (sl))), (2, .int (nI (k))), (4, .int (nI (i)))]) C dX0_leastInto_44 rfl (by decide) rfl ?_
        refine kx_iinc (v := nI (i + 1)) (lv2 := [(4, .int (nI (i + 1))), (3, .int (nI (min (minN (fun fr => He ((sl - 1) * 24 + fr) + Tu (fr * 24 + k)) kBIG i) ((He ((((sl) - (1)) * (24)) + (i))) + (Tu (((i) * (24)) + (k))))))), (0, .ref (K 0)), (1, .int (nI (sl))), (2, .int (nI (k)))]) C dX0_leastInto_45 4 rfl (kI1 _) (by decide) rfl ?_
        refine kx_goto (tgt := 6) C dX0_leastInto_48 (by decide) ?_
        refine kx_lv (lv2 := [(0, .ref (K 0)), (1, .int (nI (sl))), (2, .int (nI (k))), (3, .int (nI (minN (fun fr => He ((sl - 1) * 24 + fr) + Tu (fr * 24 + k)) kBIG (i + 1)))), (4, .int (nI (i + 1)))]) [2, 3, 4, 1, 0] rfl ?_
        refine kx_eqw (ws2 := (kwW E K b y o n ls bc tk hk P Wt Tu Sc Ta Wa He Fk Pk)) rfl ?_
        exact ih_lp6 (i + 1) (by omega) (by omega)
  refine kx_ldc (v := nI 1000000000) C kc0_198 dX0_leastInto_0 ?_
  refine kx_istore_n (lv2 := [(3, .int (nI (1000000000))), (0, .ref (K 0)), (1, .int (nI (sl))), (2, .int (nI (k)))]) C dX0_leastInto_2 rfl (by decide) rfl ?_
  refine kx_iconst (v := nI 0) C dX0_leastInto_3 (by decide +kernel) ?_
  refine kx_istore (lv2 := [(4, .int (nI (0))), (3, .int (nI (1000000000))), (0, .ref (K 0)), (1, .int (nI (sl))), (2, .int (nI (k)))]) C dX0_leastInto_4 (by decide) rfl ?_
  refine kx_lv (lv2 := [(0, .ref (K 0)), (1, .int (nI (sl))), (2, .int (nI (k))), (3, .int (nI (minN (fun fr => He ((sl - 1) * 24 + fr) + Tu (fr * 24 + k)) kBIG 0))), (4, .int (nI (0)))]) [2, 3, 4, 1, 0] rfl ?_
  refine kx_eqw (ws2 := (kwW E K b y o n ls bc tk hk P Wt Tu Sc Ta Wa He Fk Pk)) rfl ?_
  exact lp6 25 0 (by omega) (by omega)

set_option maxHeartbeats 4000000 in
set_option maxRecDepth 100000 in
theorem c_forget (E : KE) (K : Nat → Nat) (b y o n ls bc tk hk : Nat) (P Wt Tu Sc Ta Wa He Fk Pk : Nat → Nat) : kMv E yX0_forget cX0_forget 1 (rk 0 0) [.ref (K 0)] (kwW E K b y o n ls bc tk hk P Wt Tu Sc Ta Wa He Fk Pk) (fun w => w = (kwW E K b y o n ls bc 0 0 P Wt Tu Sc Ta Wa He Fk Pk)) := by
  refine kMv_of (cc := cX0_forget) (maxL := 1) (by decide) (Nat.le_of_ble_eq_true rfl) ?_
  intro G C hE
  refine kx_aload_n C dX0_forget_0 rfl 0 rfl ?_
  refine kx_iconst (v := nI 0) C dX0_forget_1 (by decide +kernel) ?_
  refine kx_put (ws2 := (kwW E K b y o n ls bc 0 hk P Wt Tu Sc Ta Wa He Fk Pk)) (ci := 0) C kin0 tyX0_ok nmX0 0 rfl rfl 15 (by decide) fl0_156 rfl rfl (by decide +kernel) (by decide +kernel) (Nat.le_of_ble_eq_true rfl) rfl dX0_forget_2 ?_
  refine kx_aload_n C dX0_forget_5 rfl 0 rfl ?_
  refine kx_iconst (v := nI 0) C dX0_forget_6 (by decide +kernel) ?_
  refine kx_put (ws2 := (kwW E K b y o n ls bc 0 0 P Wt Tu Sc Ta Wa He Fk Pk)) (ci := 0) C kin0 tyX0_ok nmX0 0 rfl rfl 16 (by decide) fl0_160 rfl rfl (by decide +kernel) (by decide +kernel) (Nat.le_of_ble_eq_true rfl) rfl dX0_forget_7 ?_
  exact hE (Nat.le_of_ble_eq_true rfl) (Nat.le_of_ble_eq_true rfl) dX0_forget_10 rfl
end
section
/-! what the rows of tails hold when they are known -/
def tlS (n b y o : Nat) (P Wt : Nat → Nat) (s k : Nat) : Nat := tlN (costN P Wt) (turnN b y o) (n - 1 - s) s k
def wyS (n b y o : Nat) (P Wt : Nat → Nat) (s k : Nat) : Nat := wyN (costN P Wt) (turnN b y o) (n - 1 - s) s k
/-- the rows at and behind slice m -/
def kRows (n b y o : Nat) (P Wt Sc Ta Wa : Nat → Nat) (m : Nat) : Prop := ∀ s, m ≤ s → s < n → ∀ k, k < 24 → Sc (s * 24 + k) = costN P Wt s k ∧ Ta (s * 24 + k) = tlS n b y o P Wt s k ∧ Wa (s * 24 + k) = wyS n b y o P Wt s k
def kTuOk (b y o : Nat) (Tu : Nat → Nat) : Prop := ∀ j, j < 576 → Tu j = turnN b y o (j / 24) (j % 24)
theorem kTuOk.at {b y o : Nat} {Tu : Nat → Nat} (h : kTuOk b y o Tu) {f t : Nat} (hf : f < 24) (ht : t < 24) : Tu (f * 24 + t) = turnN b y o f t := by
  rw [h _ (by omega), show (f * 24 + t) / 24 = f by omega, show (f * 24 + t) % 24 = t by omega]
theorem kTuOk.le {b y o : Nat} {Tu : Nat → Nat} (h : kTuOk b y o Tu) (hb : b ≤ 1000) (hy : y ≤ 1000) (ho : o ≤ 1000) : ∀ j, j < 576 → Tu j ≤ 8000 := fun j hj => by rw [h j hj]; exact turnN_le hb hy ho _ _
theorem tail_val {n b y o : Nat} {P Wt Tu Sc Ta Wa : Nat → Nat} {sl k : Nat} (hT : kTuOk b y o Tu) (hn : sl < n) (hk : k < 24) (hS : Sc (sl * 24 + k) = costN P Wt sl k) (hR : kRows n b y o P Wt Sc Ta Wa (sl + 1)) : tailV n Tu Sc Ta sl k = tlS n b y o P Wt sl k ∧ wayV n Tu Ta Wa sl k = wyS n b y o P Wt sl k := by
  unfold tailV wayV tlS wyS
  by_cases e : sl = n - 1
  · rw [if_pos e, if_pos e, show n - 1 - sl = 0 by omega]
    exact ⟨hS, rfl⟩
  · rw [if_neg e, if_neg e]
    obtain ⟨m, hm⟩ : ∃ m, n - 1 - sl = m + 1 := ⟨n - 1 - sl - 1, by omega⟩
    have hm2 : n - 1 - (sl + 1) = m := by omega
    have hF : ∀ to, to < 24 → Tu (k * 24 + to) + Ta ((sl + 1) * 24 + to) = turnN b y o k to + tlN (costN P Wt) (turnN b y o) m (sl + 1) to := fun to ht => by
      rw [hT.at hk ht, (hR (sl + 1) (Nat.le_refl _) (by omega) to ht).2.1]
      unfold tlS
      rw [hm2]
    have hmin : minN (fun to => Tu (k * 24 + to) + Ta ((sl + 1) * 24 + to)) kBIG 24 = minN (fun to => turnN b y o k to + tlN (costN P Wt) (turnN b y o) m (sl + 1) to) kBIG 24 := minN_congr hF
    rw [hm]
    refine ⟨?_, ?_⟩
    · rw [tlN, hS, hmin]
    · rw [wyN, cntN, hmin]
      refine congrArg (min kCAP) (sumN_congr fun to ht => ?_)
      rw [hF to ht]
      have hw := (hR (sl + 1) (Nat.le_refl _) (by omega) to ht).2.2
      unfold wyS at hw
      rw [hm2] at hw
      rw [hw]
theorem tlS_le {n b y o : Nat} {P Wt : Nat → Nat} (hn : n ≤ 40) (hP : ∀ j, P j ≤ 99) (hW : ∀ j, Wt j ≤ 200) (hb : b ≤ 1000) (hy : y ≤ 1000) (ho : o ≤ 1000) {s : Nat} (hs : s < n) (k : Nat) : tlS n b y o P Wt s k ≤ 10000000 := by
  have h := tlN_le (costN_le hP hW) (turnN_le hb hy ho) (n - 1 - s) s k
  have h2 : (n - 1 - s + 1) * 245600 ≤ 40 * 245600 := Nat.mul_le_mul_right _ (by omega)
  unfold tlS
  omega
theorem wyS_le (n b y o : Nat) (P Wt : Nat → Nat) (s k : Nat) : wyS n b y o P Wt s k ≤ 1000000000000000000 := wyN_le _ _ _ _ _
theorem cost_le_tl {c t : Nat → Nat → Nat} : ∀ (m s k : Nat), c s k ≤ tlN c t m s k
  | 0, _, _ => Nat.le_refl _
  | m + 1, s, k => by simp only [tlN]; omega
/-- one more row is filled -/
theorem kRows.put {n b y o : Nat} {P Wt Sc Ta Wa : Nat → Nat} {m k v x : Nat} (hR : kRows n b y o P Wt Sc Ta Wa (m + 1)) (hk : k < 24) : kRows n b y o P Wt Sc (va_up Ta (m * 24 + k) v) (va_up Wa (m * 24 + k) x) (m + 1) := by
  intro s h1 h2 q hq
  rw [va_up_ne _ _ (by omega), va_up_ne _ _ (by omega)]
  exact hR s h1 h2 q hq
theorem kRows.sc {n b y o : Nat} {P Wt Sc Sv Ta Wa : Nat → Nat} {m : Nat} (hR : kRows n b y o P Wt Sc Ta Wa (m + 1)) (h : ∀ j, j < m * 24 ∨ m * 24 + 24 ≤ j → Sv j = Sc j) : kRows n b y o P Wt Sv Ta Wa (m + 1) := by
  intro s h1 h2 q hq
  rw [h _ (by omega)]
  exact hR s h1 h2 q hq
/-- the keys of the first best walk, by the tails -/
def kFs (n b y o : Nat) (P Wt : Nat → Nat) (ls i : Nat) : Nat → Nat × Nat
  | 0 => (24, i)
  | s + 1 => if s ≠ 0 ∧ (kFs n b y o P Wt ls i s).1 = 24 then (24, 0) else
      selN (fun k => (if (kFs n b y o P Wt ls i s).1 = 24 then 0 else turnN b y o (kFs n b y o P Wt ls i s).1 k) + tlS n b y o P Wt s k) (fun k => wyS n b y o P Wt s k)
        (if (kFs n b y o P Wt ls i s).1 = 24 then ls else tlS n b y o P Wt (s - 1) (kFs n b y o P Wt ls i s).1 - costN P Wt (s - 1) (kFs n b y o P Wt ls i s).1) (kFs n b y o P Wt ls i s).2 24
theorem selN_congr {f f2 g g2 : Nat → Nat} {rest left : Nat} : ∀ {m : Nat}, (∀ k, k < m → f k = f2 k ∧ g k = g2 k) → selN f g rest left m = selN f2 g2 rest left m
  | 0, _ => rfl
  | m + 1, h => by
    simp only [selN]
    rw [selN_congr (m := m) (fun k hk => h k (by omega)), (h m (by omega)).1, (h m (by omega)).2]
theorem pth_fs {n b y o : Nat} {P Wt Tu Sc Ta Wa : Nat → Nat} {ls i : Nat} (hT : kTuOk b y o Tu) (hR : kRows n b y o P Wt Sc Ta Wa 0) : ∀ s, s ≤ n → pthV ls Tu Sc Ta Wa i s = kFs n b y o P Wt ls i s
  | 0, _ => rfl
  | s + 1, hs => by
    have ih := pth_fs (ls := ls) (i := i) hT hR s (by omega)
    have hle : (kFs n b y o P Wt ls i s).1 ≤ 24 := by rw [← ih]; exact pthV_le s
    rw [pthV, kFs, ih]
    by_cases e : s ≠ 0 ∧ (kFs n b y o P Wt ls i s).1 = 24
    · rw [if_pos e, if_pos e]
    · rw [if_neg e, if_neg e]
      unfold selS
      have er : rstV ls Sc Ta s (kFs n b y o P Wt ls i s).1 = (if (kFs n b y o P Wt ls i s).1 = 24 then ls else tlS n b y o P Wt (s - 1) (kFs n b y o P Wt ls i s).1 - costN P Wt (s - 1) (kFs n b y o P Wt ls i s).1) := by
        unfold rstV
        by_cases e2 : (kFs n b y o P Wt ls i s).1 = 24
        · rw [if_pos e2, if_pos e2]
        · rw [if_neg e2, if_neg e2]
          obtain ⟨q1, q2, -⟩ := hR (s - 1) (Nat.zero_le _) (by omega) (kFs n b y o P Wt ls i s).1 (by omega)
          rw [q1, q2]
      rw [er]
      refine selN_congr fun k hk => ⟨?_, (hR s (Nat.zero_le _) (by omega) k hk).2.2⟩
      rw [(hR s (Nat.zero_le _) (by omega) k hk).2.1]
      unfold tinV
      by_cases e2 : (kFs n b y o P Wt ls i s).1 = 24
      · rw [if_pos e2, if_pos e2]
      · rw [if_neg e2, if_neg e2, hT.at (by omega) hk]
/-- what is known when the tails are -/
def kTails (n b y o : Nat) (P Wt : Nat → Nat) (ls bc : Nat) (Tu Sc Ta Wa Fk : Nat → Nat) : Prop :=
  kTuOk b y o Tu ∧ kRows n b y o P Wt Sc Ta Wa 0 ∧ (n = 0 → ls = 0 ∧ bc = 1) ∧ (n ≠ 0 → ls = minN (fun k => tlS n b y o P Wt 0 k) kBIG 24 ∧ bc = min kCAP (sumN (fun k => if tlS n b y o P Wt 0 k = minN (fun k => tlS n b y o P Wt 0 k) kBIG 24 then wyS n b y o P Wt 0 k else 0) 24)) ∧
  ∀ s, s < n → (kFs n b y o P Wt ls 0 (s + 1)).1 ≠ 24 → Fk s = (kFs n b y o P Wt ls 0 (s + 1)).1
def kHeads (n b y o : Nat) (P Wt He : Nat → Nat) : Prop := ∀ s, s < n → ∀ k, k < 24 → He (s * 24 + k) = hdN (costN P Wt) (turnN b y o) s k
/-- an object as it may be: what was told is within its bounds, what is kept is known or may be anything -/
def kOk (b y o n ls bc tk hk : Nat) (P Wt Tu Sc Ta Wa He Fk Pk : Nat → Nat) : Prop :=
  n ≤ 40 ∧ (∀ j, P j ≤ 99) ∧ (∀ j, Wt j ≤ 200) ∧ b ≤ 1000 ∧ y ≤ 1000 ∧ o ≤ 1000 ∧ tk ≤ 1 ∧ hk ≤ 1 ∧ ls ≤ 10000000 ∧ (∀ j, Ta j ≤ 10000000) ∧ (∀ j, Wa j ≤ 1000000000000000000) ∧ (∀ j, He j ≤ 10000000) ∧ (∀ j, Fk j ≤ 24) ∧ (∀ j, Pk j ≤ 24) ∧
  (tk ≠ 0 → kTails n b y o P Wt ls bc Tu Sc Ta Wa Fk) ∧ (hk ≠ 0 → tk ≠ 0 ∧ kHeads n b y o P Wt He)
theorem kRows.row {n b y o : Nat} {P Wt Sc Ta Wa : Nat → Nat} {m : Nat} (hR : kRows n b y o P Wt Sc Ta Wa (m + 1)) (hS : ∀ k, k < 24 → Sc (m * 24 + k) = costN P Wt m k) (hA : ∀ k, k < 24 → Ta (m * 24 + k) = tlS n b y o P Wt m k ∧ Wa (m * 24 + k) = wyS n b y o P Wt m k) : kRows n b y o P Wt Sc Ta Wa m := by
  intro s h1 h2 k hk
  by_cases e : s = m
  · subst e; exact ⟨hS k hk, (hA k hk).1, (hA k hk).2⟩
  · exact hR s (by omega) h2 k hk
theorem kRows.st {n b y o : Nat} {P Wt Sc Ta Wa : Nat → Nat} (hR : kRows n b y o P Wt Sc Ta Wa 0) : ∀ j, j < n * 24 → Sc j ≤ Ta j := by
  intro j hj
  have h := hR (j / 24) (Nat.zero_le _) (by omega) (j % 24) (Nat.mod_lt _ (by decide))
  rw [show j / 24 * 24 + j % 24 = j by omega] at h
  rw [h.1, h.2.1]
  exact cost_le_tl _ _ _
theorem kRowS {F Q : Nat → Nat} {m q v : Nat} (h : ∀ k, k < q → F (m * 24 + k) = Q k) (hv : v = Q q) : ∀ k, k < q + 1 → va_up F (m * 24 + q) v (m * 24 + k) = Q k := by
  intro k hk
  by_cases e : k = q
  · subst e; rw [va_up_self]; exact hv
  · rw [va_up_ne _ _ (by omega)]; exact h k (by omega)
theorem kTails_mk {n b y o : Nat} {P Wt Tu Sc Ta Wa Fk : Nat → Nat} (hn : n ≠ 0) (hT : kTuOk b y o Tu) (hR : kRows n b y o P Wt Sc Ta Wa 0)
    (hF : ∀ j, j ≤ n - 1 → (pthV (minN Ta kBIG 24) Tu Sc Ta Wa 0 (j + 1)).1 ≠ 24 → Fk j = (pthV (minN Ta kBIG 24) Tu Sc Ta Wa 0 (j + 1)).1) : kTails n b y o P Wt (minN Ta kBIG 24) (cntN Ta Wa 24) Tu Sc Ta Wa Fk := by
  have h0 : ∀ k, k < 24 → Ta k = tlS n b y o P Wt 0 k ∧ Wa k = wyS n b y o P Wt 0 k := fun k hk => by
    have h := (hR 0 (Nat.le_refl _) (by omega) k hk).2
    rw [Nat.zero_mul, Nat.zero_add] at h
    exact h
  have hm : minN Ta kBIG 24 = minN (fun k => tlS n b y o P Wt 0 k) kBIG 24 := minN_congr fun k hk => (h0 k hk).1
  refine ⟨hT, hR, fun z => absurd z hn, fun _ => ⟨hm, ?_⟩, fun s hs hne => ?_⟩
  · unfold cntN
    refine congrArg (min kCAP) (sumN_congr fun k hk => ?_)
    rw [(h0 k hk).1, (h0 k hk).2, hm]
  · rw [← pth_fs hT hR (s + 1) (by omega)] at hne ⊢
    exact hF s (by omega) hne
end
section
theorem c_restAfter (E : KE) (K : Nat → Nat) (b y o n ls bc tk hk : Nat) (P Wt Tu Sc Ta Wa He Fk Pk : Nat → Nat) (s bf : Nat) (H0 : s ≤ 40) (H1 : bf ≤ 24) (H2 : s = 0 → bf = 24) (H3 : s ≠ 0 → bf < 24 ∧ Sc ((s - 1) * 24 + bf) ≤ Ta ((s - 1) * 24 + bf)) : kMi E yX0_restAfter cX0_restAfter 3 (rk 0 0) [.ref (K 0), .int (nI s - nI 1), .int (kO bf)] (kwW E K b y o n ls bc tk hk P Wt Tu Sc Ta Wa He Fk Pk) (fun r w => r = nI (rstV ls Sc Ta s bf) ∧ w = (kwW E K b y o n ls bc tk hk P Wt Tu Sc Ta Wa He Fk Pk)) := by
  by_cases e : s = 0
  · subst e
    obtain rfl := H2 rfl
    exact c_restAfter0 E K b y o n ls bc tk hk P Wt Tu Sc Ta Wa He Fk Pk (kO 24)
  · obtain ⟨h1, h2⟩ := H3 e
    rw [pk_sub (by omega), kO_lt h1]
    have h3 := c_restAfter1 E K b y o n ls bc tk hk P Wt Tu Sc Ta Wa He Fk Pk (s - 1) bf (by omega) h1 h2
    unfold rstV
    rw [if_neg (by omega)]
    exact h3
theorem c_turnInto (E : KE) (K : Nat → Nat) (b y o n ls bc tk hk : Nat) (P Wt Tu Sc Ta Wa He Fk Pk : Nat → Nat) (bf k : Nat) (H0 : bf ≤ 24) (H1 : k < 24) : kMi E yX0_turnInto cX0_turnInto 3 (rk 0 0) [.ref (K 0), .int (kO bf), .int (nI k)] (kwW E K b y o n ls bc tk hk P Wt Tu Sc Ta Wa He Fk Pk) (fun r w => r = nI (tinV Tu bf k) ∧ w = (kwW E K b y o n ls bc tk hk P Wt Tu Sc Ta Wa He Fk Pk)) := by
  by_cases e : bf = 24
  · subst e
    exact c_turnInto0 E K b y o n ls bc tk hk P Wt Tu Sc Ta Wa He Fk Pk k
  · rw [kO_lt (by omega)]
    unfold tinV
    rw [if_neg e]
    exact c_turnInto1 E K b y o n ls bc tk hk P Wt Tu Sc Ta Wa He Fk Pk bf k (by omega) H1

theorem kRow {Rv Q : Nat → Nat} {s v : Nat} (h : ∀ j, j < s → Rv j = Q j) (hv : v = Q s) : ∀ j, j < s + 1 → va_up Rv s v j = Q j := by
  intro j hj
  by_cases e : j = s
  · subst e; rw [va_up_self]; exact hv
  · rw [va_up_ne _ _ e]; exact h j (by omega)

set_option maxHeartbeats 4000000 in
set_option maxRecDepth 100000 in
theorem c_followBest8 (E : KE) (K : Nat → Nat) (b y o n ls bc tk hk : Nat) (P Wt Tu Sc Ta Wa He Fk Pk : Nat → Nat) (i0 la : Nat) (H0 : la < 40) (H1 : i0 ≤ 1000000000000000000) (Hls : ls ≤ 10000000) (HTu : ∀ j, j < 576 → Tu j ≤ 8000) (HTa : ∀ j, Ta j ≤ 10000000) (HWa : ∀ j, Wa j ≤ 1000000000000000000) (HST : ∀ j, j < (la + 1) * 24 → Sc j ≤ Ta j) (HRw : ∀ j, Fk j ≤ 24) : kMi E yX0_followBest cX0_followBest 13 (rk 1 0) [.ref (K 0), .long (lN (i0)), .int (nI (la)), .ref (K 8)] (kwW E K b y o n ls bc tk hk P Wt Tu Sc Ta Wa He Fk Pk) (fun r w => r = kO (pthV ls Tu Sc Ta Wa i0 (la + 1)).1 ∧ ∃ Rv : Nat → Nat, (∀ j, j ≤ la → (pthV ls Tu Sc Ta Wa i0 (j + 1)).1 ≠ 24 → Rv j = (pthV ls Tu Sc Ta Wa i0 (j + 1)).1) ∧ (∀ j, Rv j ≤ 24) ∧ w = (kwW E K b y o n ls bc tk hk P Wt Tu Sc Ta Wa He Rv Pk)) := by
  refine kMi_of (cc := cX0_followBest) (maxL := 13) (by decide) (Nat.le_of_ble_eq_true rfl) ?_
  intro G C hE
  have lp9 : ∀ (N_lp9 : Nat) (s : Nat) (Rv : Nat → Nat), (s ≤ la + 1) → (s ≠ 0 → (pthV ls Tu Sc Ta Wa i0 s).1 < 24) → (∀ j, j < s → Rv j = (pthV ls Tu Sc Ta Wa i0 (j + 1)).1) → (∀ j, Rv j ≤ 24) → (la + 1 < s + N_lp9) → kx E (rk 1 0) G 13 0 0 (kwW E K b y o n ls bc tk hk P Wt Tu Sc Ta Wa He Rv Pk) [(0, .ref (K 0)), (1, .long (lN (i0))), (3, .int (nI (la))), (4, .ref (K 8)), (5, .long (lN ((pthV ls Tu Sc Ta Wa i0 s).2))), (7, .int (kO (pthV ls Tu Sc Ta Wa i0 s).1)), (8, .int (nI (s)))] 9 [] := by
    intro N_lp9
    induction N_lp9 with
    | zero =>
      intro s Rv h0_lp9 h1_lp9 h2_lp9 h3_lp9 hm_lp9
      exact absurd hm_lp9 (by omega)
    | succ N_lp9 ih_lp9 =>
      intro s Rv h0_lp9 h1_lp9 h2_lp9 h3_lp9 hm_lp9
      have hz0 : s = 0 → (pthV ls Tu Sc Ta Wa i0 s).1 = 24 := fun z => by subst z; rfl
      have hz1 : s ≠ 0 → (pthV ls Tu Sc Ta Wa i0 s).1 < 24 ∧ Sc ((s - 1) * 24 + (pthV ls Tu Sc Ta Wa i0 s).1) ≤ Ta ((s - 1) * 24 + (pthV ls Tu Sc Ta Wa i0 s).1) := fun z => ⟨h1_lp9 z, HST _ (by have := h1_lp9 z; omega)⟩
      have hps : (pthV ls Tu Sc Ta Wa i0 (s + 1)) = (selS ls Tu Sc Ta Wa s (pthV ls Tu Sc Ta Wa i0 s).1 (pthV ls Tu Sc Ta Wa i0 s).2 24) := by rw [pthV, if_neg (fun z => absurd z.2 (Nat.ne_of_lt (h1_lp9 z.1)))]
      have hrb : rstV ls Sc Ta s (pthV ls Tu Sc Ta Wa i0 s).1 ≤ 10000000 := by unfold rstV; split; exact Hls; exact Nat.le_trans (Nat.sub_le _ _) (HTa _)
      have htb : ∀ i, i < 24 → tinV Tu (pthV ls Tu Sc Ta Wa i0 s).1 i ≤ 8000 := fun i hi => by unfold tinV; split; exact Nat.zero_le _; exact HTu _ (by have := pthV_le (ls := ls) (Tu := Tu) (Sc := Sc) (Ta := Ta) (Wa := Wa) (i := i0) s; omega)
      have h115 : s ≤ la → kx E (rk 1 0) G 13 0 0 (kwW E K b y o n ls bc tk hk P Wt Tu Sc Ta Wa He Rv Pk) [(0, .ref (K 0)), (1, .long (lN (i0))), (3, .int (nI (la))), (4, .ref (K 8)), (5, .long (lN ((selS ls Tu Sc Ta Wa s (pthV ls Tu Sc Ta Wa i0 s).1 (pthV ls Tu Sc Ta Wa i0 s).2 24).2))), (7, .int (kO (pthV ls Tu Sc Ta Wa i0 s).1)), (8, .int (nI (s))), (10, .int (kO (selS ls Tu Sc Ta Wa s (pthV ls Tu Sc Ta Wa i0 s).1 (pthV ls Tu Sc Ta Wa i0 s).2 24).1))] 115 [] := by
        intro hsla
        refine kx_iload C dX0_followBest_115 7 rfl ?_
        refine kx_iconst (v := (-1)) C dX0_followBest_117 (by decide +kernel) ?_
        refine kx_icmp_neR (tgt := 123) C dX0_followBest_118 (by decide) (fun c1 => ?_) (fun c1 => ?_)
        · skip
          have e24 : (selS ls Tu Sc Ta Wa s (pthV ls Tu Sc Ta Wa i0 s).1 (pthV ls Tu Sc Ta Wa i0 s).2 24).1 < 24 := by have hle : (selS ls Tu Sc Ta Wa s (pthV ls Tu Sc Ta Wa i0 s).1 (pthV ls Tu Sc Ta Wa i0 s).2 24).1 ≤ 24 := selN_le (Nat.le_refl _); refine Nat.lt_of_le_of_ne hle fun z => c1 ?_; rw [z]; rfl
          refine kx_lvv (x := .int (kO (selS ls Tu Sc Ta Wa s (pthV ls Tu Sc Ta Wa i0 s).1 (pthV ls Tu Sc Ta Wa i0 s).2 24).1)) (z := .int (nI ((selS ls Tu Sc Ta Wa s (pthV ls Tu Sc Ta Wa i0 s).1 (pthV ls Tu Sc Ta Wa i0 s).2 24).1))) (lv2 := [(0, .ref (K 0)), (1, .long (lN (i0))), (3, .int (nI (la))), (4, .ref (K 8)), (5, .long (lN ((selS ls Tu Sc Ta Wa s (pthV ls Tu Sc Ta Wa i0 s).1 (pthV ls Tu Sc Ta Wa i0 s).2 24).2))), (7, .int (kO (pthV ls Tu Sc Ta Wa i0 s).1)), (8, .int (nI (s))), (10, .int (nI ((selS ls Tu Sc Ta Wa s (pthV ls Tu Sc Ta Wa i0 s).1 (pthV ls Tu Sc Ta Wa i0 s).2 24).1)))]) (by rw [kO_lt e24]) 7 rfl rfl ?_
          refine kx_aload C dX0_followBest_123 3 rfl ?_
          refine kx_iload C dX0_followBest_125 6 rfl ?_
          refine kx_iload C dX0_followBest_127 7 rfl ?_
          refine kx_iast (ws2 := (kwW E K b y o n ls bc tk hk P Wt Tu Sc Ta Wa He (va_up Rv (s) ((selS ls Tu Sc Ta Wa s (pthV ls Tu Sc Ta Wa i0 s).1 (pthV ls Tu Sc Ta Wa i0 s).2 24).1)) Pk)) C 8 rfl (j := s) (v := (selS ls Tu Sc Ta Wa s (pthV ls Tu Sc Ta Wa i0 s).1 (pthV ls Tu Sc Ta Wa i0 s).2 24).1) (by omega) (by decide) rfl dX0_followBest_129 ?_
          refine kx_iload C dX0_followBest_130 7 rfl ?_
          refine kx_istore (lv2 := [(7, .int (nI ((selS ls Tu Sc Ta Wa s (pthV ls Tu Sc Ta Wa i0 s).1 (pthV ls Tu Sc Ta Wa i0 s).2 24).1))), (0, .ref (K 0)), (1, .long (lN (i0))), (3, .int (nI (la))), (4, .ref (K 8)), (5, .long (lN ((selS ls Tu Sc Ta Wa s (pthV ls Tu Sc Ta Wa i0 s).1 (pthV ls Tu Sc Ta Wa i0 s).2 24).2))), (8, .int (nI (s))), (10, .int (nI ((selS ls Tu Sc Ta Wa s (pthV ls Tu Sc Ta Wa i0 s).1 (pthV ls Tu Sc Ta Wa i0 s).2 24).1)))]) C dX0_followBest_132 (by decide) rfl ?_
          refine kx_iinc (v := nI (s + 1)) (lv2 := [(8, .int (nI (s + 1))), (7, .int (nI ((selS ls Tu Sc Ta Wa s (pthV ls Tu Sc Ta Wa i0 s).1 (pthV ls Tu Sc Ta Wa i0 s).2 24).1))), (0, .ref (K 0)), (1, .long (lN (i0))), (3, .int (nI (la))), (4, .ref (K 8)), (5, .long (lN ((selS ls Tu Sc Ta Wa s (pthV ls Tu Sc Ta Wa i0 s).1 (pthV ls Tu Sc Ta Wa i0 s).2 24).2))), (10, .int (nI ((selS ls Tu Sc Ta Wa s (pthV ls Tu Sc Ta Wa i0 s).1 (pthV ls Tu Sc Ta Wa i0 s).2 24).1)))]) C dX0_followBest_134 6 rfl (kI1 _) (by decide) rfl ?_
          refine kx_goto (tgt := 9) C dX0_followBest_137 (by decide) ?_
          refine kx_lvL (a := (selS ls Tu Sc Ta Wa s (pthV ls Tu Sc Ta Wa i0 s).1 (pthV ls Tu Sc Ta Wa i0 s).2 24).2) (b := (pthV ls Tu Sc Ta Wa i0 (s + 1)).2) (lv2 := [(8, .int (nI (s + 1))), (7, .int (nI ((selS ls Tu Sc Ta Wa s (pthV ls Tu Sc Ta Wa i0 s).1 (pthV ls Tu Sc Ta Wa i0 s).2 24).1))), (0, .ref (K 0)), (1, .long (lN (i0))), (3, .int (nI (la))), (4, .ref (K 8)), (5, .long (lN ((pthV ls Tu Sc Ta Wa i0 (s + 1)).2))), (10, .int (nI ((selS ls Tu Sc Ta Wa s (pthV ls Tu Sc Ta Wa i0 s).1 (pthV ls Tu Sc Ta Wa i0 s).2 24).1)))]) (by rw [hps]) 6 rfl rfl ?_
          refine kx_lvv (x := .int (nI ((selS ls Tu Sc Ta Wa s (pthV ls Tu Sc Ta Wa i0 s).1 (pthV ls Tu Sc Ta Wa i0 s).2 24).1))) (z := .int (kO (pthV ls Tu Sc Ta Wa i0 (s + 1)).1)) (lv2 := [(8, .int (nI (s + 1))), (7, .int (kO (pthV ls Tu Sc Ta Wa i0 (s + 1)).1)), (0, .ref (K 0)), (1, .long (lN (i0))), (3, .int (nI (la))), (4, .ref (K 8)), (5, .long (lN ((pthV ls Tu Sc Ta Wa i0 (s + 1)).2))), (10, .int (nI ((selS ls Tu Sc Ta Wa s (pthV ls Tu Sc Ta Wa i0 s).1 (pthV ls Tu Sc Ta Wa i0 s).2 24).1)))]) (by rw [hps, kO_lt e24]) 1 rfl rfl ?_
          refine kx_lv (lv2 := [(0, .ref (K 0)), (1, .long (lN (i0))), (3, .int (nI (la))), (4, .ref (K 8)), (5, .long (lN ((pthV ls Tu Sc Ta Wa i0 (s + 1)).2))), (7, .int (kO (pthV ls Tu Sc Ta Wa i0 (s + 1)).1)), (8, .int (nI (s + 1)))]) [2, 3, 4, 5, 6, 1, 0] rfl ?_
          refine kx_eqw (ws2 := (kwW E K b y o n ls bc tk hk P Wt Tu Sc Ta Wa He (va_up Rv (s) ((selS ls Tu Sc Ta Wa s (pthV ls Tu Sc Ta Wa i0 s).1 (pthV ls Tu Sc Ta Wa i0 s).2 24).1)) Pk)) rfl ?_
          exact ih_lp9 (s + 1) (va_up Rv (s) ((selS ls Tu Sc Ta Wa s (pthV ls Tu Sc Ta Wa i0 s).1 (pthV ls Tu Sc Ta Wa i0 s).2 24).1)) (by omega) (fun _ => by rw [hps]; exact e24) (kRow h2_lp9 (by rw [hps])) (up_le h3_lp9 (Nat.le_of_lt e24)) (by omega)
        · skip
          have e24 : (selS ls Tu Sc Ta Wa s (pthV ls Tu Sc Ta Wa i0 s).1 (pthV ls Tu Sc Ta Wa i0 s).2 24).1 = 24 := by have hle : (selS ls Tu Sc Ta Wa s (pthV ls Tu Sc Ta Wa i0 s).1 (pthV ls Tu Sc Ta Wa i0 s).2 24).1 ≤ 24 := selN_le (Nat.le_refl _); refine Nat.le_antisymm hle (Nat.not_lt.mp fun z => k_nIm1 (x := (selS ls Tu Sc Ta Wa s (pthV ls Tu Sc Ta Wa i0 s).1 (pthV ls Tu Sc Ta Wa i0 s).2 24).1) (by omega) ?_); rw [← kO_lt z]; exact c1
          have hfail : ∀ m, s ≤ m → (pthV ls Tu Sc Ta Wa i0 (m + 1)).1 = 24 := fun m hm => by have := pthV_stick (s := s) (by rw [hps]; exact e24) (m - s); rw [show s + 1 + (m - s) = m + 1 by omega] at this; exact this
          have hrow9 : ∀ j, j ≤ la → (pthV ls Tu Sc Ta Wa i0 (j + 1)).1 ≠ 24 → Rv j = (pthV ls Tu Sc Ta Wa i0 (j + 1)).1 := fun j hj hne => h2_lp9 j (Nat.not_le.mp fun z => hne (hfail j z))
          refine kx_iconst (v := (-1)) C dX0_followBest_121 (by decide +kernel) ?_
          exact hE (Nat.le_of_ble_eq_true rfl) (Nat.le_of_ble_eq_true rfl) dX0_followBest_122 ⟨(kO_24.symm.trans (congrArg kO (hfail la (by omega)).symm)), Rv, hrow9, h3_lp9, rfl⟩
      have lp33 : ∀ (N_lp33 : Nat) (i : Nat), (i ≤ 24) → (s ≤ la) → (24 < i + N_lp33) → kx E (rk 1 0) G 13 0 0 (kwW E K b y o n ls bc tk hk P Wt Tu Sc Ta Wa He Rv Pk) [(0, .ref (K 0)), (1, .long (lN (i0))), (3, .int (nI (la))), (4, .ref (K 8)), (5, .long (lN ((selS ls Tu Sc Ta Wa s (pthV ls Tu Sc Ta Wa i0 s).1 (pthV ls Tu Sc Ta Wa i0 s).2 i).2))), (7, .int (kO (pthV ls Tu Sc Ta Wa i0 s).1)), (8, .int (nI (s))), (9, .int (nI (rstV ls Sc Ta s (pthV ls Tu Sc Ta Wa i0 s).1))), (10, .int (kO (selS ls Tu Sc Ta Wa s (pthV ls Tu Sc Ta Wa i0 s).1 (pthV ls Tu Sc Ta Wa i0 s).2 i).1)), (11, .int (nI (i)))] 33 [] := by
        intro N_lp33
        induction N_lp33 with
        | zero =>
          intro i h0_lp33 h1_lp33 hm_lp33
          exact absurd hm_lp33 (by omega)
        | succ N_lp33 ih_lp33 =>
          intro i h0_lp33 h1_lp33 hm_lp33
          refine kx_iload C dX0_followBest_33 9 rfl ?_
          refine kx_bipush (v := nI 24) C dX0_followBest_35 (by decide +kernel) ?_
          refine kx_icmp_ge (tgt := 115) C (by omega) (by omega) dX0_followBest_37 (by decide) (fun c2 => ?_) (fun c2 => ?_)
          · skip
            obtain rfl : 24 = i := by omega
            refine kx_lv (lv2 := [(0, .ref (K 0)), (1, .long (lN (i0))), (3, .int (nI (la))), (4, .ref (K 8)), (5, .long (lN ((selS ls Tu Sc Ta Wa s (pthV ls Tu Sc Ta Wa i0 s).1 (pthV ls Tu Sc Ta Wa i0 s).2 24).2))), (7, .int (kO (pthV ls Tu Sc Ta Wa i0 s).1)), (8, .int (nI (s))), (10, .int (kO (selS ls Tu Sc Ta Wa s (pthV ls Tu Sc Ta Wa i0 s).1 (pthV ls Tu Sc Ta Wa i0 s).2 24).1))]) [0, 1, 2, 3, 4, 5, 6, 8] rfl ?_
            exact h115 (by omega)
          · skip
            refine kx_iload C dX0_followBest_40 8 rfl ?_
            refine kx_iconst (v := (-1)) C dX0_followBest_42 (by decide +kernel) ?_
            refine kx_icmp_neR (tgt := 115) C dX0_followBest_43 (by decide) (fun c3 => ?_) (fun c3 => ?_)
            · skip
              have e25 : (selS ls Tu Sc Ta Wa s (pthV ls Tu Sc Ta Wa i0 s).1 (pthV ls Tu Sc Ta Wa i0 s).2 24) = (selS ls Tu Sc Ta Wa s (pthV ls Tu Sc Ta Wa i0 s).1 (pthV ls Tu Sc Ta Wa i0 s).2 i) := by have hne : (selS ls Tu Sc Ta Wa s (pthV ls Tu Sc Ta Wa i0 s).1 (pthV ls Tu Sc Ta Wa i0 s).2 i).1 ≠ 24 := fun z => c3 (by rw [z]; rfl); have := selN_stay hne (24 - i); rw [show i + (24 - i) = 24 by omega] at this; exact this
              refine kx_lvL (a := (selS ls Tu Sc Ta Wa s (pthV ls Tu Sc Ta Wa i0 s).1 (pthV ls Tu Sc Ta Wa i0 s).2 i).2) (b := (selS ls Tu Sc Ta Wa s (pthV ls Tu Sc Ta Wa i0 s).1 (pthV ls Tu Sc Ta Wa i0 s).2 24).2) (lv2 := [(0, .ref (K 0)), (1, .long (lN (i0))), (3, .int (nI (la))), (4, .ref (K 8)), (5, .long (lN ((selS ls Tu Sc Ta Wa s (pthV ls Tu Sc Ta Wa i0 s).1 (pthV ls Tu Sc Ta Wa i0 s).2 24).2))), (7, .int (kO (pthV ls Tu Sc Ta Wa i0 s).1)), (8, .int (nI (s))), (9, .int (nI (rstV ls Sc Ta s (pthV ls Tu Sc Ta Wa i0 s).1))), (10, .int (kO (selS ls Tu Sc Ta Wa s (pthV ls Tu Sc Ta Wa i0 s).1 (pthV ls Tu Sc Ta Wa i0 s).2 i).1)), (11, .int (nI (i)))]) (by rw [e25]) 4 rfl rfl ?_
              refine kx_lvv (x := .int (kO (selS ls Tu Sc Ta Wa s (pthV ls Tu Sc Ta Wa i0 s).1 (pthV ls Tu Sc Ta Wa i0 s).2 i).1)) (z := .int (kO (selS ls Tu Sc Ta Wa s (pthV ls Tu Sc Ta Wa i0 s).1 (pthV ls Tu Sc Ta Wa i0 s).2 24).1)) (lv2 := [(0, .ref (K 0)), (1, .long (lN (i0))), (3, .int (nI (la))), (4, .ref (K 8)), (5, .long (lN ((selS ls Tu Sc Ta Wa s (pthV ls Tu Sc Ta Wa i0 s).1 (pthV ls Tu Sc Ta Wa i0 s).2 24).2))), (7, .int (kO (pthV ls Tu Sc Ta Wa i0 s).1)), (8, .int (nI (s))), (9, .int (nI (rstV ls Sc Ta s (pthV ls Tu Sc Ta Wa i0 s).1))), (10, .int (kO (selS ls Tu Sc Ta Wa s (pthV ls Tu Sc Ta Wa i0 s).1 (pthV ls Tu Sc Ta Wa i0 s).2 24).1)), (11, .int (nI (i)))]) (by rw [e25]) 8 rfl rfl ?_
              refine kx_lv (lv2 := [(0, .ref (K 0)), (1, .long (lN (i0))), (3, .int (nI (la))), (4, .ref (K 8)), (5, .long (lN ((selS ls Tu Sc Ta Wa s (pthV ls Tu Sc Ta Wa i0 s).1 (pthV ls Tu Sc Ta Wa i0 s).2 24).2))), (7, .int (kO (pthV ls Tu Sc Ta Wa i0 s).1)), (8, .int (nI (s))), (10, .int (kO (selS ls Tu Sc Ta Wa s (pthV ls Tu Sc Ta Wa i0 s).1 (pthV ls Tu Sc Ta Wa i0 s).2 24).1))]) [0, 1, 2, 3, 4, 5, 6, 8] rfl ?_
              exact h115 (by omega)
            · skip
              have e26 : (selS ls Tu Sc Ta Wa s (pthV ls Tu Sc Ta Wa i0 s).1 (pthV ls Tu Sc Ta Wa i0 s).2 i).1 = 24 := by have hle : (selS ls Tu Sc Ta Wa s (pthV ls Tu Sc Ta Wa i0 s).1 (pthV ls Tu Sc Ta Wa i0 s).2 i).1 ≤ 24 := selN_le h0_lp33; refine Nat.le_antisymm hle (Nat.not_lt.mp fun z => k_nIm1 (x := (selS ls Tu Sc Ta Wa s (pthV ls Tu Sc Ta Wa i0 s).1 (pthV ls Tu Sc Ta Wa i0 s).2 i).1) (by omega) ?_); rw [← kO_lt z]; exact c3
              refine kx_iload C dX0_followBest_46 6 rfl ?_
              refine kx_bipush (v := nI 24) C dX0_followBest_48 (by decide +kernel) ?_
              refine kx_imul C dX0_followBest_50 ?_
              refine kx_iload C dX0_followBest_51 9 rfl ?_
              refine kx_iadd C dX0_followBest_53 ?_
              refine kx_istore (lv2 := [(12, .int (nI (((s) * (24)) + (i)))), (0, .ref (K 0)), (1, .long (lN (i0))), (3, .int (nI (la))), (4, .ref (K 8)), (5, .long (lN ((selS ls Tu Sc Ta Wa s (pthV ls Tu Sc Ta Wa i0 s).1 (pthV ls Tu Sc Ta Wa i0 s).2 i).2))), (7, .int (kO (pthV ls Tu Sc Ta Wa i0 s).1)), (8, .int (nI (s))), (9, .int (nI (rstV ls Sc Ta s (pthV ls Tu Sc Ta Wa i0 s).1))), (10, .int (kO (selS ls Tu Sc Ta Wa s (pthV ls Tu Sc Ta Wa i0 s).1 (pthV ls Tu Sc Ta Wa i0 s).2 i).1)), (11, .int (nI (i)))]) C dX0_followBest_54 (by decide) rfl ?_
              refine kx_aload_n C dX0_followBest_56 rfl 1 rfl ?_
              refine kx_iload C dX0_followBest_57 6 rfl ?_
              refine kx_iload C dX0_followBest_59 10 rfl ?_
              refine kx_callVi (rest := []) (wr := []) C (c_turnInto E K b y o n ls bc tk hk P Wt Tu Sc Ta Wa He Rv Pk (pthV ls Tu Sc Ta Wa i0 s).1 i (pthV_le s) (by omega)) g0_208 2 rfl (by decide +kernel) ⟨Nat.le_of_ble_eq_true rfl, Nat.le_of_ble_eq_true rfl⟩ ⟨Nat.le_of_ble_eq_true rfl, Nat.le_of_ble_eq_true rfl⟩ [0, 1, 2, 3, 4, 5, 6, 7, 8, 9] [] rfl rfl (by decide) (by decide) (by decide) 0 rfl rfl rfl (Nat.le_of_ble_eq_true rfl) dX0_followBest_61 (fun v w q4 => ?_)
              obtain ⟨rfl, rfl⟩ := q4
              refine kx_eqw (ws2 := (kwW E K b y o n ls bc tk hk P Wt Tu Sc Ta Wa He Rv Pk)) rfl ?_
              refine kx_aload_n C dX0_followBest_64 rfl 1 rfl ?_
              refine kx_get (v := .ref (K 5)) (ci := 0) C kin0 0 rfl rfl 8 (by decide) fl0_22 rfl rfl dX0_followBest_65 ?_
              refine kx_iload C dX0_followBest_68 0 rfl ?_
              refine kx_iald C 5 rfl (j := ((s) * (24)) + (i)) (by omega) (by decide) dX0_followBest_70 ?_
              refine kx_iadd C dX0_followBest_71 ?_
              refine kx_iload C dX0_followBest_72 8 rfl ?_
              refine kx_icmp_ne (tgt := 109) C (by have := htb i (by omega); have := HTa (s * 24 + i); omega) (by omega) dX0_followBest_74 (by decide) (fun c5 => ?_) (fun c5 => ?_)
              · skip
                refine kx_iinc (v := nI (i + 1)) (lv2 := [(11, .int (nI (i + 1))), (12, .int (nI (((s) * (24)) + (i)))), (0, .ref (K 0)), (1, .long (lN (i0))), (3, .int (nI (la))), (4, .ref (K 8)), (5, .long (lN ((selS ls Tu Sc Ta Wa s (pthV ls Tu Sc Ta Wa i0 s).1 (pthV ls Tu Sc Ta Wa i0 s).2 i).2))), (7, .int (kO (pthV ls Tu Sc Ta Wa i0 s).1)), (8, .int (nI (s))), (9, .int (nI (rstV ls Sc Ta s (pthV ls Tu Sc Ta Wa i0 s).1))), (10, .int (kO (selS ls Tu Sc Ta Wa s (pthV ls Tu Sc Ta Wa i0 s).1 (pthV ls Tu Sc Ta Wa i0 s).2 i).1))]) C dX0_followBest_109 10 rfl (kI1 _) (by decide) rfl ?_
                refine kx_goto (tgt := 33) C dX0_followBest_112 (by decide) ?_
                have e27 : (selS ls Tu Sc Ta Wa s (pthV ls Tu Sc Ta Wa i0 s).1 (pthV ls Tu Sc Ta Wa i0 s).2 (i + 1)) = (24, (selS ls Tu Sc Ta Wa s (pthV ls Tu Sc Ta Wa i0 s).1 (pthV ls Tu Sc Ta Wa i0 s).2 i).2) := selN_ne (f := fun k => tinV Tu (pthV ls Tu Sc Ta Wa i0 s).1 k + Ta (s * 24 + k)) (g := fun k => Wa (s * 24 + k)) e26 c5
                refine kx_lvv (x := .int (kO (selS ls Tu Sc Ta Wa s (pthV ls Tu Sc Ta Wa i0 s).1 (pthV ls Tu Sc Ta Wa i0 s).2 i).1)) (z := .int (kO (selS ls Tu Sc Ta Wa s (pthV ls Tu Sc Ta Wa i0 s).1 (pthV ls Tu Sc Ta Wa i0 s).2 (i + 1)).1)) (lv2 := [(11, .int (nI (i + 1))), (12, .int (nI (((s) * (24)) + (i)))), (0, .ref (K 0)), (1, .long (lN (i0))), (3, .int (nI (la))), (4, .ref (K 8)), (5, .long (lN ((selS ls Tu Sc Ta Wa s (pthV ls Tu Sc Ta Wa i0 s).1 (pthV ls Tu Sc Ta Wa i0 s).2 i).2))), (7, .int (kO (pthV ls Tu Sc Ta Wa i0 s).1)), (8, .int (nI (s))), (9, .int (nI (rstV ls Sc Ta s (pthV ls Tu Sc Ta Wa i0 s).1))), (10, .int (kO (selS ls Tu Sc Ta Wa s (pthV ls Tu Sc Ta Wa i0 s).1 (pthV ls Tu Sc Ta Wa i0 s).2 (i + 1)).1))]) (by rw [e27, e26]) 10 rfl rfl ?_
                refine kx_lvL (a := (selS ls Tu Sc Ta Wa s (pthV ls Tu Sc Ta Wa i0 s).1 (pthV ls Tu Sc Ta Wa i0 s).2 i).2) (b := (selS ls Tu Sc Ta Wa s (pthV ls Tu Sc Ta Wa i0 s).1 (pthV ls Tu Sc Ta Wa i0 s).2 (i + 1)).2) (lv2 := [(11, .int (nI (i + 1))), (12, .int (nI (((s) * (24)) + (i)))), (0, .ref (K 0)), (1, .long (lN (i0))), (3, .int (nI (la))), (4, .ref (K 8)), (5, .long (lN ((selS ls Tu Sc Ta Wa s (pthV ls Tu Sc Ta Wa i0 s).1 (pthV ls Tu Sc Ta Wa i0 s).2 (i + 1)).2))), (7, .int (kO (pthV ls Tu Sc Ta Wa i0 s).1)), (8, .int (nI (s))), (9, .int (nI (rstV ls Sc Ta s (pthV ls Tu Sc Ta Wa i0 s).1))), (10, .int (kO (selS ls Tu Sc Ta Wa s (pthV ls Tu Sc Ta Wa i0 s).1 (pthV ls Tu Sc Ta Wa i0 s).2 (i + 1)).1))]) (by rw [e27]) 6 rfl rfl ?_
                refine kx_lv (lv2 := [(0, .ref (K 0)), (1, .long (lN (i0))), (3, .int (nI (la))), (4, .ref (K 8)), (5, .long (lN ((selS ls Tu Sc Ta Wa s (pthV ls Tu Sc Ta Wa i0 s).1 (pthV ls Tu Sc Ta Wa i0 s).2 (i + 1)).2))), (7, .int (kO (pthV ls Tu Sc Ta Wa i0 s).1)), (8, .int (nI (s))), (9, .int (nI (rstV ls Sc Ta s (pthV ls Tu Sc Ta Wa i0 s).1))), (10, .int (kO (selS ls Tu Sc Ta Wa s (pthV ls Tu Sc Ta Wa i0 s).1 (pthV ls Tu Sc Ta Wa i0 s).2 (i + 1)).1)), (11, .int (nI (i + 1)))]) [2, 3, 4, 5, 6, 7, 8, 9, 10, 0] rfl ?_
                refine kx_eqw (ws2 := (kwW E K b y o n ls bc tk hk P Wt Tu Sc Ta Wa He Rv Pk)) rfl ?_
                exact ih_lp33 (i + 1) (by omega) h1_lp33 (by omega)
              · skip
                refine kx_lload C dX0_followBest_77 5 rfl ?_
                refine kx_aload_n C dX0_followBest_79 rfl 1 rfl ?_
                refine kx_get (v := .ref (K 6)) (ci := 0) C kin0 0 rfl rfl 9 (by decide) fl0_25 rfl rfl dX0_followBest_80 ?_
                refine kx_iload C dX0_followBest_83 0 rfl ?_
                refine kx_lald C 6 rfl (j := ((s) * (24)) + (i)) (by omega) (by decide) dX0_followBest_85 ?_
                refine kx_lcmp_ge (tgt := 97) C (Nat.lt_of_le_of_lt (Nat.le_trans (selN_left _) (pthV_left s)) (by omega)) (by have := HWa (s * 24 + i); omega) dX0_followBest_86 dX0_followBest_87 (by decide) (fun c6 => ?_) (fun c6 => ?_)
                · skip
                  refine kx_lload C dX0_followBest_97 5 rfl ?_
                  refine kx_aload_n C dX0_followBest_99 rfl 1 rfl ?_
                  refine kx_get (v := .ref (K 6)) (ci := 0) C kin0 0 rfl rfl 9 (by decide) fl0_25 rfl rfl dX0_followBest_100 ?_
                  refine kx_iload C dX0_followBest_103 0 rfl ?_
                  refine kx_lald C 6 rfl (j := ((s) * (24)) + (i)) (by omega) (by decide) dX0_followBest_105 ?_
                  refine kx_lsub C (by omega) dX0_followBest_106 ?_
                  refine kx_lstore (lv2 := [(5, .long (lN (((selS ls Tu Sc Ta Wa s (pthV ls Tu Sc Ta Wa i0 s).1 (pthV ls Tu Sc Ta Wa i0 s).2 i).2) - (Wa (((s) * (24)) + (i)))))), (12, .int (nI (((s) * (24)) + (i)))), (0, .ref (K 0)), (1, .long (lN (i0))), (3, .int (nI (la))), (4, .ref (K 8)), (7, .int (kO (pthV ls Tu Sc Ta Wa i0 s).1)), (8, .int (nI (s))), (9, .int (nI (rstV ls Sc Ta s (pthV ls Tu Sc Ta Wa i0 s).1))), (10, .int (kO (selS ls Tu Sc Ta Wa s (pthV ls Tu Sc Ta Wa i0 s).1 (pthV ls Tu Sc Ta Wa i0 s).2 i).1)), (11, .int (nI (i)))]) C dX0_followBest_107 (by decide) rfl ?_
                  refine kx_iinc (v := nI (i + 1)) (lv2 := [(11, .int (nI (i + 1))), (5, .long (lN (((selS ls Tu Sc Ta Wa s (pthV ls Tu Sc Ta Wa i0 s).1 (pthV ls Tu Sc Ta Wa i0 s).2 i).2) - (Wa (((s) * (24)) + (i)))))), (12, .int (nI (((s) * (24)) + (i)))), (0, .ref (K 0)), (1, .long (lN (i0))), (3, .int (nI (la))), (4, .ref (K 8)), (7, .int (kO (pthV ls Tu Sc Ta Wa i0 s).1)), (8, .int (nI (s))), (9, .int (nI (rstV ls Sc Ta s (pthV ls Tu Sc Ta Wa i0 s).1))), (10, .int (kO (selS ls Tu Sc Ta Wa s (pthV ls Tu Sc Ta Wa i0 s).1 (pthV ls Tu Sc Ta Wa i0 s).2 i).1))]) C dX0_followBest_109 10 rfl (kI1 _) (by decide) rfl ?_
                  refine kx_goto (tgt := 33) C dX0_followBest_112 (by decide) ?_
                  have e27 : (selS ls Tu Sc Ta Wa s (pthV ls Tu Sc Ta Wa i0 s).1 (pthV ls Tu Sc Ta Wa i0 s).2 (i + 1)) = (24, (selS ls Tu Sc Ta Wa s (pthV ls Tu Sc Ta Wa i0 s).1 (pthV ls Tu Sc Ta Wa i0 s).2 i).2 - Wa (s * 24 + i)) := selN_sub (f := fun k => tinV Tu (pthV ls Tu Sc Ta Wa i0 s).1 k + Ta (s * 24 + k)) (g := fun k => Wa (s * 24 + k)) e26 c5 c6
                  refine kx_lvv (x := .int (kO (selS ls Tu Sc Ta Wa s (pthV ls Tu Sc Ta Wa i0 s).1 (pthV ls Tu Sc Ta Wa i0 s).2 i).1)) (z := .int (kO (selS ls Tu Sc Ta Wa s (pthV ls Tu Sc Ta Wa i0 s).1 (pthV ls Tu Sc Ta Wa i0 s).2 (i + 1)).1)) (lv2 := [(11, .int (nI (i + 1))), (5, .long (lN (((selS ls Tu Sc Ta Wa s (pthV ls Tu Sc Ta Wa i0 s).1 (pthV ls Tu Sc Ta Wa i0 s).2 i).2) - (Wa (((s) * (24)) + (i)))))), (12, .int (nI (((s) * (24)) + (i)))), (0, .ref (K 0)), (1, .long (lN (i0))), (3, .int (nI (la))), (4, .ref (K 8)), (7, .int (kO (pthV ls Tu Sc Ta Wa i0 s).1)), (8, .int (nI (s))), (9, .int (nI (rstV ls Sc Ta s (pthV ls Tu Sc Ta Wa i0 s).1))), (10, .int (kO (selS ls Tu Sc Ta Wa s (pthV ls Tu Sc Ta Wa i0 s).1 (pthV ls Tu Sc Ta Wa i0 s).2 (i + 1)).1))]) (by rw [e27, e26]) 10 rfl rfl ?_
                  refine kx_lvL (a := ((selS ls Tu Sc Ta Wa s (pthV ls Tu Sc Ta Wa i0 s).1 (pthV ls Tu Sc Ta Wa i0 s).2 i).2) - (Wa (((s) * (24)) + (i)))) (b := (selS ls Tu Sc Ta Wa s (pthV ls Tu Sc Ta Wa i0 s).1 (pthV ls Tu Sc Ta Wa i0 s).2 (i + 1)).2) (lv2 := [(11, .int (nI (i + 1))), (5, .long (lN ((selS ls Tu Sc Ta Wa s (pthV ls Tu Sc Ta Wa i0 s).1 (pthV ls Tu Sc Ta Wa i0 s).2 (i + 1)).2))), (12, .int (nI (((s) * (24)) + (i)))), (0, .ref (K 0)), (1, .long (lN (i0))), (3, .int (nI (la))), (4, .ref (K 8)), (7, .int (kO (pthV ls Tu Sc Ta Wa i0 s).1)), (8, .int (nI (s))), (9, .int (nI (rstV ls Sc Ta s (pthV ls Tu Sc Ta Wa i0 s).1))), (10, .int (kO (selS ls Tu Sc Ta Wa s (pthV ls Tu Sc Ta Wa i0 s).1 (pthV ls Tu Sc Ta Wa i0 s).2 (i + 1)).1))]) (by rw [e27]) 1 rfl rfl ?_
                  refine kx_lv (lv2 := [(0, .ref (K 0)), (1, .long (lN (i0))), (3, .int (nI (la))), (4, .ref (K 8)), (5, .long (lN ((selS ls Tu Sc Ta Wa s (pthV ls Tu Sc Ta Wa i0 s).1 (pthV ls Tu Sc Ta Wa i0 s).2 (i + 1)).2))), (7, .int (kO (pthV ls Tu Sc Ta Wa i0 s).1)), (8, .int (nI (s))), (9, .int (nI (rstV ls Sc Ta s (pthV ls Tu Sc Ta Wa i0 s).1))), (10, .int (kO (selS ls Tu Sc Ta Wa s (pthV ls Tu Sc Ta Wa i0 s).1 (pthV ls Tu Sc Ta Wa i0 s).2 (i + 1)).1)), (11, .int (nI (i + 1)))]) [3, 4, 5, 6, 1, 7, 8, 9, 10, 0] rfl ?_
                  refine kx_eqw (ws2 := (kwW E K b y o n ls bc tk hk P Wt Tu Sc Ta Wa He Rv Pk)) rfl ?_
                  exact ih_lp33 (i + 1) (by omega) h1_lp33 (by omega)
                · skip
                  refine kx_iload C dX0_followBest_90 10 rfl ?_
                  refine kx_istore (lv2 := [(10, .int (nI (i))), (12, .int (nI (((s) * (24)) + (i)))), (0, .ref (K 0)), (1, .long (lN (i0))), (3, .int (nI (la))), (4, .ref (K 8)), (5, .long (lN ((selS ls Tu Sc Ta Wa s (pthV ls Tu Sc Ta Wa i0 s).1 (pthV ls Tu Sc Ta Wa i0 s).2 i).2))), (7, .int (kO (pthV ls Tu Sc Ta Wa i0 s).1)), (8, .int (nI (s))), (9, .int (nI (rstV ls Sc Ta s (pthV ls Tu Sc Ta Wa i0 s).1))), (11, .int (nI (i)))]) C dX0_followBest_92 (by decide) rfl ?_
                  refine kx_goto (tgt := 109) C dX0_followBest_94 (by decide) ?_
                  refine kx_iinc (v := nI (i + 1)) (lv2 := [(11, .int (nI (i + 1))), (10, .int (nI (i))), (12, .int (nI (((s) * (24)) + (i)))), (0, .ref (K 0)), (1, .long (lN (i0))), (3, .int (nI (la))), (4, .ref (K 8)), (5, .long (lN ((selS ls Tu Sc Ta Wa s (pthV ls Tu Sc Ta Wa i0 s).1 (pthV ls Tu Sc Ta Wa i0 s).2 i).2))), (7, .int (kO (pthV ls Tu Sc Ta Wa i0 s).1)), (8, .int (nI (s))), (9, .int (nI (rstV ls Sc Ta s (pthV ls Tu Sc Ta Wa i0 s).1)))]) C dX0_followBest_109 10 rfl (kI1 _) (by decide) rfl ?_
                  refine kx_goto (tgt := 33) C dX0_followBest_112 (by decide) ?_
                  have e27 : (selS ls Tu Sc Ta Wa s (pthV ls Tu Sc Ta Wa i0 s).1 (pthV ls Tu Sc Ta Wa i0 s).2 (i + 1)) = (i, (selS ls Tu Sc Ta Wa s (pthV ls Tu Sc Ta Wa i0 s).1 (pthV ls Tu Sc Ta Wa i0 s).2 i).2) := selN_hit (f := fun k => tinV Tu (pthV ls Tu Sc Ta Wa i0 s).1 k + Ta (s * 24 + k)) (g := fun k => Wa (s * 24 + k)) e26 c5 c6
                  refine kx_lvv (x := .int (nI (i))) (z := .int (kO (selS ls Tu Sc Ta Wa s (pthV ls Tu Sc Ta Wa i0 s).1 (pthV ls Tu Sc Ta Wa i0 s).2 (i + 1)).1)) (lv2 := [(11, .int (nI (i + 1))), (10, .int (kO (selS ls Tu Sc Ta Wa s (pthV ls Tu Sc Ta Wa i0 s).1 (pthV ls Tu Sc Ta Wa i0 s).2 (i + 1)).1)), (12, .int (nI (((s) * (24)) + (i)))), (0, .ref (K 0)), (1, .long (lN (i0))), (3, .int (nI (la))), (4, .ref (K 8)), (5, .long (lN ((selS ls Tu Sc Ta Wa s (pthV ls Tu Sc Ta Wa i0 s).1 (pthV ls Tu Sc Ta Wa i0 s).2 i).2))), (7, .int (kO (pthV ls Tu Sc Ta Wa i0 s).1)), (8, .int (nI (s))), (9, .int (nI (rstV ls Sc Ta s (pthV ls Tu Sc Ta Wa i0 s).1)))]) (by rw [e27, kO_lt (by omega)]) 1 rfl rfl ?_
                  refine kx_lvL (a := (selS ls Tu Sc Ta Wa s (pthV ls Tu Sc Ta Wa i0 s).1 (pthV ls Tu Sc Ta Wa i0 s).2 i).2) (b := (selS ls Tu Sc Ta Wa s (pthV ls Tu Sc Ta Wa i0 s).1 (pthV ls Tu Sc Ta Wa i0 s).2 (i + 1)).2) (lv2 := [(11, .int (nI (i + 1))), (10, .int (kO (selS ls Tu Sc Ta Wa s (pthV ls Tu Sc Ta Wa i0 s).1 (pthV ls Tu Sc Ta Wa i0 s).2 (i + 1)).1)), (12, .int (nI (((s) * (24)) + (i)))), (0, .ref (K 0)), (1, .long (lN (i0))), (3, .int (nI (la))), (4, .ref (K 8)), (5, .long (lN ((selS ls Tu Sc Ta Wa s (pthV ls Tu Sc Ta Wa i0 s).1 (pthV ls Tu Sc Ta Wa i0 s).2 (i + 1)).2))), (7, .int (kO (pthV ls Tu Sc Ta Wa i0 s).1)), (8, .int (nI (s))), (9, .int (nI (rstV ls Sc Ta s (pthV ls Tu Sc Ta Wa i0 s).1)))]) (by rw [e27]) 7 rfl rfl ?_
                  refine kx_lv (lv2 := [(0, .ref (K 0)), (1, .long (lN (i0))), (3, .int (nI (la))), (4, .ref (K 8)), (5, .long (lN ((selS ls Tu Sc Ta Wa s (pthV ls Tu Sc Ta Wa i0 s).1 (pthV ls Tu Sc Ta Wa i0 s).2 (i + 1)).2))), (7, .int (kO (pthV ls Tu Sc Ta Wa i0 s).1)), (8, .int (nI (s))), (9, .int (nI (rstV ls Sc Ta s (pthV ls Tu Sc Ta Wa i0 s).1))), (10, .int (kO (selS ls Tu Sc Ta Wa s (pthV ls Tu Sc Ta Wa i0 s).1 (pthV ls Tu Sc Ta Wa i0 s).2 (i + 1)).1)), (11, .int (nI (i + 1)))]) [3, 4, 5, 6, 7, 8, 9, 10, 1, 0] rfl ?_
                  refine kx_eqw (ws2 := (kwW E K b y o n ls bc tk hk P Wt Tu Sc Ta Wa He Rv Pk)) rfl ?_
                  exact ih_lp33 (i + 1) (by omega) h1_lp33 (by omega)
      refine kx_iload C dX0_followBest_9 6 rfl ?_
      refine kx_iload_n C dX0_followBest_11 rfl 2 rfl ?_
      refine kx_icmp_gt (tgt := 140) C (by omega) (by omega) dX0_followBest_12 (by decide) (fun c7 => ?_) (fun c7 => ?_)
      · skip
        obtain rfl : la + 1 = s := by omega
        refine kx_iload C dX0_followBest_140 5 rfl ?_
        exact hE (Nat.le_of_ble_eq_true rfl) (Nat.le_of_ble_eq_true rfl) dX0_followBest_142 ⟨rfl, Rv, fun j hj _ => h2_lp9 j (by omega), h3_lp9, rfl⟩
      · skip
        refine kx_aload_n C dX0_followBest_15 rfl 0 rfl ?_
        refine kx_iload C dX0_followBest_16 6 rfl ?_
        refine kx_iconst (v := nI 1) C dX0_followBest_18 (by decide +kernel) ?_
        refine kx_isubR C dX0_followBest_19 ?_
        refine kx_iload C dX0_followBest_20 5 rfl ?_
        refine kx_callVi (rest := []) (wr := []) C (c_restAfter E K b y o n ls bc tk hk P Wt Tu Sc Ta Wa He Rv Pk s (pthV ls Tu Sc Ta Wa i0 s).1 (by omega) (pthV_le s) hz0 hz1) g0_205 2 rfl (by decide +kernel) ⟨Nat.le_of_ble_eq_true rfl, Nat.le_of_ble_eq_true rfl⟩ ⟨Nat.le_of_ble_eq_true rfl, Nat.le_of_ble_eq_true rfl⟩ [0, 1, 2, 3, 4, 5, 6, 7, 8, 9] [] rfl rfl (by decide) (by decide) (by decide) 0 rfl rfl rfl (Nat.le_of_ble_eq_true rfl) dX0_followBest_22 (fun v w q8 => ?_)
        obtain ⟨rfl, rfl⟩ := q8
        refine kx_eqw (ws2 := (kwW E K b y o n ls bc tk hk P Wt Tu Sc Ta Wa He Rv Pk)) rfl ?_
        refine kx_istore (lv2 := [(9, .int (nI (rstV ls Sc Ta s (pthV ls Tu Sc Ta Wa i0 s).1))), (0, .ref (K 0)), (1, .long (lN (i0))), (3, .int (nI (la))), (4, .ref (K 8)), (5, .long (lN ((pthV ls Tu Sc Ta Wa i0 s).2))), (7, .int (kO (pthV ls Tu Sc Ta Wa i0 s).1)), (8, .int (nI (s)))]) C dX0_followBest_25 (by decide) rfl ?_
        refine kx_iconst (v := (-1)) C dX0_followBest_27 (by decide +kernel) ?_
        refine kx_istore (lv2 := [(10, .int ((-1))), (9, .int (nI (rstV ls Sc Ta s (pthV ls Tu Sc Ta Wa i0 s).1))), (0, .ref (K 0)), (1, .long (lN (i0))), (3, .int (nI (la))), (4, .ref (K 8)), (5, .long (lN ((pthV ls Tu Sc Ta Wa i0 s).2))), (7, .int (kO (pthV ls Tu Sc Ta Wa i0 s).1)), (8, .int (nI (s)))]) C dX0_followBest_28 (by decide) rfl ?_
        refine kx_iconst (v := nI 0) C dX0_followBest_30 (by decide +kernel) ?_
        refine kx_istore (lv2 := [(11, .int (nI (0))), (10, .int ((-1))), (9, .int (nI (rstV ls Sc Ta s (pthV ls Tu Sc Ta Wa i0 s).1))), (0, .ref (K 0)), (1, .long (lN (i0))), (3, .int (nI (la))), (4, .ref (K 8)), (5, .long (lN ((pthV ls Tu Sc Ta Wa i0 s).2))), (7, .int (kO (pthV ls Tu Sc Ta Wa i0 s).1)), (8, .int (nI (s)))]) C dX0_followBest_31 (by decide) rfl ?_
        refine kx_lv (lv2 := [(0, .ref (K 0)), (1, .long (lN (i0))), (3, .int (nI (la))), (4, .ref (K 8)), (5, .long (lN ((selS ls Tu Sc Ta Wa s (pthV ls Tu Sc Ta Wa i0 s).1 (pthV ls Tu Sc Ta Wa i0 s).2 0).2))), (7, .int (kO (pthV ls Tu Sc Ta Wa i0 s).1)), (8, .int (nI (s))), (9, .int (nI (rstV ls Sc Ta s (pthV ls Tu Sc Ta Wa i0 s).1))), (10, .int (kO (selS ls Tu Sc Ta Wa s (pthV ls Tu Sc Ta Wa i0 s).1 (pthV ls Tu Sc Ta Wa i0 s).2 0).1)), (11, .int (nI (0)))]) [3, 4, 5, 6, 7, 8, 9, 2, 1, 0] rfl ?_
        refine kx_eqw (ws2 := (kwW E K b y o n ls bc tk hk P Wt Tu Sc Ta Wa He Rv Pk)) rfl ?_
        exact lp33 25 0 (by omega) (by omega) (by omega)
  refine kx_lload_n C dX0_followBest_0 rfl 1 rfl ?_
  refine kx_lstore (lv2 := [(5, .long (lN (i0))), (0, .ref (K 0)), (1, .long (lN (i0))), (3, .int (nI (la))), (4, .ref (K 8))]) C dX0_followBest_1 (by decide) rfl ?_
  refine kx_iconst (v := (-1)) C dX0_followBest_3 (by decide +kernel) ?_
  refine kx_istore (lv2 := [(7, .int ((-1))), (5, .long (lN (i0))), (0, .ref (K 0)), (1, .long (lN (i0))), (3, .int (nI (la))), (4, .ref (K 8))]) C dX0_followBest_4 (by decide) rfl ?_
  refine kx_iconst (v := nI 0) C dX0_followBest_6 (by decide +kernel) ?_
  refine kx_istore (lv2 := [(8, .int (nI (0))), (7, .int ((-1))), (5, .long (lN (i0))), (0, .ref (K 0)), (1, .long (lN (i0))), (3, .int (nI (la))), (4, .ref (K 8))]) C dX0_followBest_7 (by decide) rfl ?_
  refine kx_lv (lv2 := [(0, .ref (K 0)), (1, .long (lN (i0))), (3, .int (nI (la))), (4, .ref (K 8)), (5, .long (lN ((pthV ls Tu Sc Ta Wa i0 0).2))), (7, .int (kO (pthV ls Tu Sc Ta Wa i0 0).1)), (8, .int (nI (0)))]) [3, 4, 5, 6, 2, 1, 0] rfl ?_
  refine kx_eqw (ws2 := (kwW E K b y o n ls bc tk hk P Wt Tu Sc Ta Wa He Fk Pk)) rfl ?_
  exact lp9 42 0 Fk (by omega) (fun z => absurd rfl z) (fun j hj => absurd hj (by omega)) HRw (by omega)

set_option maxHeartbeats 4000000 in
set_option maxRecDepth 100000 in
theorem c_followBest9 (E : KE) (K : Nat → Nat) (b y o n ls bc tk hk : Nat) (P Wt Tu Sc Ta Wa He Fk Pk : Nat → Nat) (i0 la : Nat) (H0 : la < 40) (H1 : i0 ≤ 1000000000000000000) (Hls : ls ≤ 10000000) (HTu : ∀ j, j < 576 → Tu j ≤ 8000) (HTa : ∀ j, Ta j ≤ 10000000) (HWa : ∀ j, Wa j ≤ 1000000000000000000) (HST : ∀ j, j < (la + 1) * 24 → Sc j ≤ Ta j) (HRw : ∀ j, Pk j ≤ 24) : kMi E yX0_followBest cX0_followBest 13 (rk 1 0) [.ref (K 0), .long (lN (i0)), .int (nI (la)), .ref (K 9)] (kwW E K b y o n ls bc tk hk P Wt Tu Sc Ta Wa He Fk Pk) (fun r w => r = kO (pthV ls Tu Sc Ta Wa i0 (la + 1)).1 ∧ ∃ Rv : Nat → Nat, (∀ j, j ≤ la → (pthV ls Tu Sc Ta Wa i0 (j + 1)).1 ≠ 24 → Rv j = (pthV ls Tu Sc Ta Wa i0 (j + 1)).1) ∧ (∀ j, Rv j ≤ 24) ∧ w = (kwW E K b y o n ls bc tk hk P Wt Tu Sc Ta Wa He Fk Rv)) := by
  refine kMi_of (cc := cX0_followBest) (maxL := 13) (by decide) (Nat.le_of_ble_eq_true rfl) ?_
  intro G C hE
  have lp9 : ∀ (N_lp9 : Nat) (s : Nat) (Rv : Nat → Nat), (s ≤ la + 1) → (s ≠ 0 → (pthV ls Tu Sc Ta Wa i0 s).1 < 24) → (∀ j, j < s → Rv j = (pthV ls Tu Sc Ta Wa i0 (j + 1)).1) → (∀ j, Rv j ≤ 24) → (la + 1 < s + N_lp9) → kx E (rk 1 0) G 13 0 0 (kwW E K b y o n ls bc tk hk P Wt Tu Sc Ta Wa He Fk Rv) [(0, .ref (K 0)), (1, .long (lN (i0))), (3, .int (nI (la))), (4, .ref (K 9)), (5, .long (lN ((pthV ls Tu Sc Ta Wa i0 s).2))), (7, .int (kO (pthV ls Tu Sc Ta Wa i0 s).1)), (8, .int (nI (s)))] 9 [] := by
    intro N_lp9
    induction N_lp9 with
    | zero =>
      intro s Rv h0_lp9 h1_lp9 h2_lp9 h3_lp9 hm_lp9
      exact absurd hm_lp9 (by omega)
    | succ N_lp9 ih_lp9 =>
      intro s Rv h0_lp9 h1_lp9 h2_lp9 h3_lp9 hm_lp9
      have hz0 : s = 0 → (pthV ls Tu Sc Ta Wa i0 s).1 = 24 := fun z => by subst z; rfl
      have hz1 : s ≠ 0 → (pthV ls Tu Sc Ta Wa i0 s).1 < 24 ∧ Sc ((s - 1) * 24 + (pthV ls Tu Sc Ta Wa i0 s).1) ≤ Ta ((s - 1) * 24 + (pthV ls Tu Sc Ta Wa i0 s).1) := fun z => ⟨h1_lp9 z, HST _ (by have := h1_lp9 z; omega)⟩
      have hps : (pthV ls Tu Sc Ta Wa i0 (s + 1)) = (selS ls Tu Sc Ta Wa s (pthV ls Tu Sc Ta Wa i0 s).1 (pthV ls Tu Sc Ta Wa i0 s).2 24) := by rw [pthV, if_neg (fun z => absurd z.2 (Nat.ne_of_lt (h1_lp9 z.1)))]
      have hrb : rstV ls Sc Ta s (pthV ls Tu Sc Ta Wa i0 s).1 ≤ 10000000 := by unfold rstV; split; exact Hls; exact Nat.le_trans (Nat.sub_le _ _) (HTa _)
      have htb : ∀ i, i < 24 → tinV Tu (pthV ls Tu Sc Ta Wa i0 s).1 i ≤ 8000 := fun i hi => by unfold tinV; split; exact Nat.zero_le _; exact HTu _ (by have := pthV_le (ls := ls) (Tu := Tu) (Sc := Sc) (Ta := Ta) (Wa := Wa) (i := i0) s; omega)
      have h115 : s ≤ la → kx E (rk 1 0) G 13 0 0 (kwW E K b y o n ls bc tk hk P Wt Tu Sc Ta Wa He Fk Rv) [(0, .ref (K 0)), (1, .long (lN (i0))), (3, .int (nI (la))), (4, .ref (K 9)), (5, .long (lN ((selS ls Tu Sc Ta Wa s (pthV ls Tu Sc Ta Wa i0 s).1 (pthV ls Tu Sc Ta Wa i0 s).2 24).2))), (7, .int (kO (pthV ls Tu Sc Ta Wa i0 s).1)), (8, .int (nI (s))), (10, .int (kO (selS ls Tu Sc Ta Wa s (pthV ls Tu Sc Ta Wa i0 s).1 (pthV ls Tu Sc Ta Wa i0 s).2 24).1))] 115 [] := by
        intro hsla
        refine kx_iload C dX0_followBest_115 7 rfl ?_
        refine kx_iconst (v := (-1)) C dX0_followBest_117 (by decide +kernel) ?_
        refine kx_icmp_neR (tgt := 123) C dX0_followBest_118 (by decide) (fun c1 => ?_) (fun c1 => ?_)
        · skip
          have e24 : (selS ls Tu Sc Ta Wa s (pthV ls Tu Sc Ta Wa i0 s).1 (pthV ls Tu Sc Ta Wa i0 s).2 24).1 < 24 := by have hle : (selS ls Tu Sc Ta Wa s (pthV ls Tu Sc Ta Wa i0 s).1 (pthV ls Tu Sc Ta Wa i0 s).2 24).1 ≤ 24 := selN_le (Nat.le_refl _); refine Nat.lt_of_le_of_ne hle fun z => c1 ?_; rw [z]; rfl
          refine kx_lvv (x := .int (kO (selS ls Tu Sc Ta Wa s (pthV ls Tu Sc Ta Wa i0 s).1 (pthV ls Tu Sc Ta Wa i0 s).2 24).1)) (z := .int (nI ((selS ls Tu Sc Ta Wa s (pthV ls Tu Sc Ta Wa i0 s).1 (pthV ls Tu Sc Ta Wa i0 s).2 24).1))) (lv2 := [(0, .ref (K 0)), (1, .long (lN (i0))), (3, .int (nI (la))), (4, .ref (K 9)), (5, .long (lN ((selS ls Tu Sc Ta Wa s (pthV ls Tu Sc Ta Wa i0 s).1 (pthV ls Tu Sc Ta Wa i0 s).2 24).2))), (7, .int (kO (pthV ls Tu Sc Ta Wa i0 s).1)), (8, .int (nI (s))), (10, .int (nI ((selS ls Tu Sc Ta Wa s (pthV ls Tu Sc Ta Wa i0 s).1 (pthV ls Tu Sc Ta Wa i0 s).2 24).1)))]) (by rw [kO_lt e24]) 7 rfl rfl ?_
          refine kx_aload C dX0_followBest_123 3 rfl ?_
          refine kx_iload C dX0_followBest_125 6 rfl ?_
          refine kx_iload C dX0_followBest_127 7 rfl ?_
          refine kx_iast (ws2 := (kwW E K b y o n ls bc tk hk P Wt Tu Sc Ta Wa He Fk (va_up Rv (s) ((selS ls Tu Sc Ta Wa s (pthV ls Tu Sc Ta Wa i0 s).1 (pthV ls Tu Sc Ta Wa i0 s).2 24).1)))) C 9 rfl (j := s) (v := (selS ls Tu Sc Ta Wa s (pthV ls Tu Sc Ta Wa i0 s).1 (pthV ls Tu Sc Ta Wa i0 s).2 24).1) (by omega) (by decide) rfl dX0_followBest_129 ?_
          refine kx_iload C dX0_followBest_130 7 rfl ?_
          refine kx_istore (lv2 := [(7, .int (nI ((selS ls Tu Sc Ta Wa s (pthV ls Tu Sc Ta Wa i0 s).1 (pthV ls Tu Sc Ta Wa i0 s).2 24).1))), (0, .ref (K 0)), (1, .long (lN (i0))), (3, .int (nI (la))), (4, .ref (K 9)), (5, .long (lN ((selS ls Tu Sc Ta Wa s (pthV ls Tu Sc Ta Wa i0 s).1 (pthV ls Tu Sc Ta Wa i0 s).2 24).2))), (8, .int (nI (s))), (10, .int (nI ((selS ls Tu Sc Ta Wa s (pthV ls Tu Sc Ta Wa i0 s).1 (pthV ls Tu Sc Ta Wa i0 s).2 24).1)))]) C dX0_followBest_132 (by decide) rfl ?_
          refine kx_iinc (v := nI (s + 1)) (lv2 := [(8, .int (nI (s + 1))), (7, .int (nI ((selS ls Tu Sc Ta Wa s (pthV ls Tu Sc Ta Wa i0 s).1 (pthV ls Tu Sc Ta Wa i0 s).2 24).1))), (0, .ref (K 0)), (1, .long (lN (i0))), (3, .int (nI (la))), (4, .ref (K 9)), (5, .long (lN ((selS ls Tu Sc Ta Wa s (pthV ls Tu Sc Ta Wa i0 s).1 (pthV ls Tu Sc Ta Wa i0 s).2 24).2))), (10, .int (nI ((selS ls Tu Sc Ta Wa s (pthV ls Tu Sc Ta Wa i0 s).1 (pthV ls Tu Sc Ta Wa i0 s).2 24).1)))]) C dX0_followBest_134 6 rfl (kI1 _) (by decide) rfl ?_
          refine kx_goto (tgt := 9) C dX0_followBest_137 (by decide) ?_
          refine kx_lvL (a := (selS ls Tu Sc Ta Wa s (pthV ls Tu Sc Ta Wa i0 s).1 (pthV ls Tu Sc Ta Wa i0 s).2 24).2) (b := (pthV ls Tu Sc Ta Wa i0 (s + 1)).2) (lv2 := [(8, .int (nI (s + 1))), (7, .int (nI ((selS ls Tu Sc Ta Wa s (pthV ls Tu Sc Ta Wa i0 s).1 (pthV ls Tu Sc Ta Wa i0 s).2 24).1))), (0, .ref (K 0)), (1, .long (lN (i0))), (3, .int (nI (la))), (4, .ref (K 9)), (5, .long (lN ((pthV ls Tu Sc Ta Wa i0 (s + 1)).2))), (10, .int (nI ((selS ls Tu Sc Ta Wa s (pthV ls Tu Sc Ta Wa i0 s).1 (pthV ls Tu Sc Ta Wa i0 s).2 24).1)))]) (by rw [hps]) 6 rfl rfl ?_
          refine kx_lvv (x := .int (nI ((selS ls Tu Sc Ta Wa s (pthV ls Tu Sc Ta Wa i0 s).1 (pthV ls Tu Sc Ta Wa i0 s).2 24).1))) (z := .int (kO (pthV ls Tu Sc Ta Wa i0 (s + 1)).1)) (lv2 := [(8, .int (nI (s + 1))), (7, .int (kO (pthV ls Tu Sc Ta Wa i0 (s + 1)).1)), (0, .ref (K 0)), (1, .long (lN (i0))), (3, .int (nI (la))), (4, .ref (K 9)), (5, .long (lN ((pthV ls Tu Sc Ta Wa i0 (s + 1)).2))), (10, .int (nI ((selS ls Tu Sc Ta Wa s (pthV ls Tu Sc Ta Wa i0 s).1 (pthV ls Tu Sc Ta Wa i0 s).2 24).1)))]) (by rw [hps, kO_lt e24]) 1 rfl rfl ?_
          refine kx_lv (lv2 := [(0, .ref (K 0)), (1, .long (lN (i0))), (3, .int (nI (la))), (4, .ref (K 9)), (5, .long (lN ((pthV ls Tu Sc Ta Wa i0 (s + 1)).2))), (7, .int (kO (pthV ls Tu Sc Ta Wa i0 (s + 1)).1)), (8, .int (nI (s + 1)))]) [2, 3, 4, 5, 6, 1, 0] rfl ?_
          refine kx_eqw (ws2 := (kwW E K b y o n ls bc tk hk P Wt Tu Sc Ta Wa He Fk (va_up Rv (s) ((selS ls Tu Sc Ta Wa s (pthV ls Tu Sc Ta Wa i0 s).1 (pthV ls Tu Sc Ta Wa i0 s).2 24).1)))) rfl ?_
          exact ih_lp9 (s + 1) (va_up Rv (s) ((selS ls Tu Sc Ta Wa s (pthV ls Tu Sc Ta Wa i0 s).1 (pthV ls Tu Sc Ta Wa i0 s).2 24).1)) (by omega) (fun _ => by rw [hps]; exact e24) (kRow h2_lp9 (by rw [hps])) (up_le h3_lp9 (Nat.le_of_lt e24)) (by omega)
        · skip
          have e24 : (selS ls Tu Sc Ta Wa s (pthV ls Tu Sc Ta Wa i0 s).1 (pthV ls Tu Sc Ta Wa i0 s).2 24).1 = 24 := by have hle : (selS ls Tu Sc Ta Wa s (pthV ls Tu Sc Ta Wa i0 s).1 (pthV ls Tu Sc Ta Wa i0 s).2 24).1 ≤ 24 := selN_le (Nat.le_refl _); refine Nat.le_antisymm hle (Nat.not_lt.mp fun z => k_nIm1 (x := (selS ls Tu Sc Ta Wa s (pthV ls Tu Sc Ta Wa i0 s).1 (pthV ls Tu Sc Ta Wa i0 s).2 24).1) (by omega) ?_); rw [← kO_lt z]; exact c1
          have hfail : ∀ m, s ≤ m → (pthV ls Tu Sc Ta Wa i0 (m + 1)).1 = 24 := fun m hm => by have := pthV_stick (s := s) (by rw [hps]; exact e24) (m - s); rw [show s + 1 + (m - s) = m + 1 by omega] at this; exact this
          have hrow9 : ∀ j, j ≤ la → (pthV ls Tu Sc Ta Wa i0 (j + 1)).1 ≠ 24 → Rv j = (pthV ls Tu Sc Ta Wa i0 (j + 1)).1 := fun j hj hne => h2_lp9 j (Nat.not_le.mp fun z => hne (hfail j z))
          refine kx_iconst (v := (-1)) C dX0_followBest_121 (by decide +kernel) ?_
          exact hE (Nat.le_of_ble_eq_true rfl) (Nat.le_of_ble_eq_true rfl) dX0_followBest_122 ⟨(kO_24.symm.trans (congrArg kO (hfail la (by omega)).symm)), Rv, hrow9, h3_lp9, rfl⟩
      have lp33 : ∀ (N_lp33 : Nat) (i : Nat), (i ≤ 24) → (s ≤ la) → (24 < i + N_lp33) → kx E (rk 1 0) G 13 0 0 (kwW E K b y o n ls bc tk hk P Wt Tu Sc Ta Wa He Fk Rv) [(0, .ref (K 0)), (1, .long (lN (i0))), (3, .int (nI (la))), (4, .ref (K 9)), (5, .long (lN ((selS ls Tu Sc Ta Wa s (pthV ls Tu Sc Ta Wa i0 s).1 (pthV ls Tu Sc Ta Wa i0 s).2 i).2))), (7, .int (kO (pthV ls Tu Sc Ta Wa i0 s).1)), (8, .int (nI (s))), (9, .int (nI (rstV ls Sc Ta s (pthV ls Tu Sc Ta Wa i0 s).1))), (10, .int (kO (selS ls Tu Sc Ta Wa s (pthV ls Tu Sc Ta Wa i0 s).1 (pthV ls Tu Sc Ta Wa i0 s).2 i).1)), (11, .int (nI (i)))] 33 [] := by
        intro N_lp33
        induction N_lp33 with
        | zero =>
          intro i h0_lp33 h1_lp33 hm_lp33
          exact absurd hm_lp33 (by omega)
        | succ N_lp33 ih_lp33 =>
          intro i h0_lp33 h1_lp33 hm_lp33
          refine kx_iload C dX0_followBest_33 9 rfl ?_
          refine kx_bipush (v := nI 24) C dX0_followBest_35 (by decide +kernel) ?_
          refine kx_icmp_ge (tgt := 115) C (by omega) (by omega) dX0_followBest_37 (by decide) (fun c2 => ?_) (fun c2 => ?_)
          · skip
            obtain rfl : 24 = i := by omega
            refine kx_lv (lv2 := [(0, .ref (K 0)), (1, .long (lN (i0))), (3, .int (nI (la))), (4, .ref (K 9)), (5, .long (lN ((selS ls Tu Sc Ta Wa s (pthV ls Tu Sc Ta Wa i0 s).1 (pthV ls Tu Sc Ta Wa i0 s).2 24).2))), (7, .int (kO (pthV ls Tu Sc Ta Wa i0 s).1)), (8, .int (nI (s))), (10, .int (kO (selS ls Tu Sc Ta Wa s (pthV ls Tu Sc Ta Wa i0 s).1 (pthV ls Tu Sc Ta Wa i0 s).2 24).1))]) [0, 1, 2, 3, 4, 5, 6, 8] rfl ?_
            exact h115 (by omega)
          · skip
            refine kx_iload C dX0_followBest_40 8 rfl ?_
            refine kx_iconst (v := (-1)) C dX0_followBest_42 (by decide +kernel) ?_
            refine kx_icmp_neR (tgt := 115) C dX0_followBest_43 (by decide) (fun c3 => ?_) (fun c3 => ?_)
            · skip
              have e25 : (selS ls Tu Sc Ta Wa s (pthV ls Tu Sc Ta Wa i0 s).1 (pthV ls Tu Sc Ta Wa i0 s).2 24) = (selS ls Tu Sc Ta Wa s (pthV ls Tu Sc Ta Wa i0 s).1 (pthV ls Tu Sc Ta Wa i0 s).2 i) := by have hne : (selS ls Tu Sc Ta Wa s (pthV ls Tu Sc Ta Wa i0 s).1 (pthV ls Tu Sc Ta Wa i0 s).2 i).1 ≠ 24 := fun z => c3 (by rw [z]; rfl); have := selN_stay hne (24 - i); rw [show i + (24 - i) = 24 by omega] at this; exact this
              refine kx_lvL (a := (selS ls Tu Sc Ta Wa s (pthV ls Tu Sc Ta Wa i0 s).1 (pthV ls Tu Sc Ta Wa i0 s).2 i).2) (b := (selS ls Tu Sc Ta Wa s (pthV ls Tu Sc Ta Wa i0 s).1 (pthV ls Tu Sc Ta Wa i0 s).2 24).2) (lv2 := [(0, .ref (K 0)), (1, .long (lN (i0))), (3, .int (nI (la))), (4, .ref (K 9)), (5, .long (lN ((selS ls Tu Sc Ta Wa s (pthV ls Tu Sc Ta Wa i0 s).1 (pthV ls Tu Sc Ta Wa i0 s).2 24).2))), (7, .int (kO (pthV ls Tu Sc Ta Wa i0 s).1)), (8, .int (nI (s))), (9, .int (nI (rstV ls Sc Ta s (pthV ls Tu Sc Ta Wa i0 s).1))), (10, .int (kO (selS ls Tu Sc Ta Wa s (pthV ls Tu Sc Ta Wa i0 s).1 (pthV ls Tu Sc Ta Wa i0 s).2 i).1)), (11, .int (nI (i)))]) (by rw [e25]) 4 rfl rfl ?_
              refine kx_lvv (x := .int (kO (selS ls Tu Sc Ta Wa s (pthV ls Tu Sc Ta Wa i0 s).1 (pthV ls Tu Sc Ta Wa i0 s).2 i).1)) (z := .int (kO (selS ls Tu Sc Ta Wa s (pthV ls Tu Sc Ta Wa i0 s).1 (pthV ls Tu Sc Ta Wa i0 s).2 24).1)) (lv2 := [(0, .ref (K 0)), (1, .long (lN (i0))), (3, .int (nI (la))), (4, .ref (K 9)), (5, .long (lN ((selS ls Tu Sc Ta Wa s (pthV ls Tu Sc Ta Wa i0 s).1 (pthV ls Tu Sc Ta Wa i0 s).2 24).2))), (7, .int (kO (pthV ls Tu Sc Ta Wa i0 s).1)), (8, .int (nI (s))), (9, .int (nI (rstV ls Sc Ta s (pthV ls Tu Sc Ta Wa i0 s).1))), (10, .int (kO (selS ls Tu Sc Ta Wa s (pthV ls Tu Sc Ta Wa i0 s).1 (pthV ls Tu Sc Ta Wa i0 s).2 24).1)), (11, .int (nI (i)))]) (by rw [e25]) 8 rfl rfl ?_
              refine kx_lv (lv2 := [(0, .ref (K 0)), (1, .long (lN (i0))), (3, .int (nI (la))), (4, .ref (K 9)), (5, .long (lN ((selS ls Tu Sc Ta Wa s (pthV ls Tu Sc Ta Wa i0 s).1 (pthV ls Tu Sc Ta Wa i0 s).2 24).2))), (7, .int (kO (pthV ls Tu Sc Ta Wa i0 s).1)), (8, .int (nI (s))), (10, .int (kO (selS ls Tu Sc Ta Wa s (pthV ls Tu Sc Ta Wa i0 s).1 (pthV ls Tu Sc Ta Wa i0 s).2 24).1))]) [0, 1, 2, 3, 4, 5, 6, 8] rfl ?_
              exact h115 (by omega)
            · skip
              have e26 : (selS ls Tu Sc Ta Wa s (pthV ls Tu Sc Ta Wa i0 s).1 (pthV ls Tu Sc Ta Wa i0 s).2 i).1 = 24 := by have hle : (selS ls Tu Sc Ta Wa s (pthV ls Tu Sc Ta Wa i0 s).1 (pthV ls Tu Sc Ta Wa i0 s).2 i).1 ≤ 24 := selN_le h0_lp33; refine Nat.le_antisymm hle (Nat.not_lt.mp fun z => k_nIm1 (x := (selS ls Tu Sc Ta Wa s (pthV ls Tu Sc Ta Wa i0 s).1 (pthV ls Tu Sc Ta Wa i0 s).2 i).1) (by omega) ?_); rw [← kO_lt z]; exact c3
              refine kx_iload C dX0_followBest_46 6 rfl ?_
              refine kx_bipush (v := nI 24) C dX0_followBest_48 (by decide +kernel) ?_
              refine kx_imul C dX0_followBest_50 ?_
              refine kx_iload C dX0_followBest_51 9 rfl ?_
              refine kx_iadd C dX0_followBest_53 ?_
              refine kx_istore (lv2 := [(12, .int (nI (((s) * (24)) + (i)))), (0, .ref (K 0)), (1, .long (lN (i0))), (3, .int (nI (la))), (4, .ref (K 9)), (5, .long (lN ((selS ls Tu Sc Ta Wa s (pthV ls Tu Sc Ta Wa i0 s).1 (pthV ls Tu Sc Ta Wa i0 s).2 i).2))), (7, .int (kO (pthV ls Tu Sc Ta Wa i0 s).1)), (8, .int (nI (s))), (9, .int (nI (rstV ls Sc Ta s (pthV ls Tu Sc Ta Wa i0 s).1))), (10, .int (kO (selS ls Tu Sc Ta Wa s (pthV ls Tu Sc Ta Wa i0 s).1 (pthV ls Tu Sc Ta Wa i0 s).2 i).1)), (11, .int (nI (i)))]) C dX0_followBest_54 (by decide) rfl ?_
              refine kx_aload_n C dX0_followBest_56 rfl 1 rfl ?_
              refine kx_iload C dX0_followBest_57 6 rfl ?_
              refine kx_iload C dX0_followBest_59 10 rfl ?_
              refine kx_callVi (rest := []) (wr := []) C (c_turnInto E K b y o n ls bc tk hk P Wt Tu Sc Ta Wa He Fk Rv (pthV ls Tu Sc Ta Wa i0 s).1 i (pthV_le s) (by omega)) g0_208 2 rfl (by decide +kernel) ⟨Nat.le_of_ble_eq_true rfl, Nat.le_of_ble_eq_true rfl⟩ ⟨Nat.le_of_ble_eq_true rfl, Nat.le_of_ble_eq_true rfl⟩ [0, 1, 2, 3, 4, 5, 6, 7, 8, 9] [] rfl rfl (by decide) (by decide) (by decide) 0 rfl rfl rfl (Nat.le_of_ble_eq_true rfl) dX0_followBest_61 (fun v w q4 => ?_)
              obtain ⟨rfl, rfl⟩ := q4
              refine kx_eqw (ws2 := (kwW E K b y o n ls bc tk hk P Wt Tu Sc Ta Wa He Fk Rv)) rfl ?_
              refine kx_aload_n C dX0_followBest_64 rfl 1 rfl ?_
              refine kx_get (v := .ref (K 5)) (ci := 0) C kin0 0 rfl rfl 8 (by decide) fl0_22 rfl rfl dX0_followBest_65 ?_
              refine kx_iload C dX0_followBest_68 0 rfl ?_
              refine kx_iald C 5 rfl (j := ((s) * (24)) + (i)) (by omega) (by decide) dX0_followBest_70 ?_
              refine kx_iadd C dX0_followBest_71 ?_
              refine kx_iload C dX0_followBest_72 8 rfl ?_
              refine kx_icmp_ne (tgt := 109) C (by have := htb i (by omega); have := HTa (s * 24 + i); omega) (by omega) dX0_followBest_74 (by decide) (fun c5 => ?_) (fun c5 => ?_)
              · skip
                refine kx_iinc (v := nI (i + 1)) (lv2 := [(11, .int (nI (i + 1))), (12, .int (nI (((s) * (24)) + (i)))), (0, .ref (K 0)), (1, .long (lN (i0))), (3, .int (nI (la))), (4, .ref (K 9)), (5, .long (lN ((selS ls Tu Sc Ta Wa s (pthV ls Tu Sc Ta Wa i0 s).1 (pthV ls Tu Sc Ta Wa i0 s).2 i).2))), (7, .int (kO (pthV ls Tu Sc Ta Wa i0 s).1)), (8, .int (nI (s))), (9, .int (nI (rstV ls Sc Ta s (pthV ls Tu Sc Ta Wa i0 s).1))), (10, .int (kO (selS ls Tu Sc Ta Wa s (pthV ls Tu Sc Ta Wa i0 s).1 (pthV ls Tu Sc Ta Wa i0 s).2 i).1))]) C dX0_followBest_109 10 rfl (kI1 _) (by decide) rfl ?_
                refine kx_goto (tgt := 33) C dX0_followBest_112 (by decide) ?_
                have e27 : (selS ls Tu Sc Ta Wa s (pthV ls Tu Sc Ta Wa i0 s).1 (pthV ls Tu Sc Ta Wa i0 s).2 (i + 1)) = (24, (selS ls Tu Sc Ta Wa s (pthV ls Tu Sc Ta Wa i0 s).1 (pthV ls Tu Sc Ta Wa i0 s).2 i).2) := selN_ne (f := fun k => tinV Tu (pthV ls Tu Sc Ta Wa i0 s).1 k + Ta (s * 24 + k)) (g := fun k => Wa (s * 24 + k)) e26 c5
                refine kx_lvv (x := .int (kO (selS ls Tu Sc Ta Wa s (pthV ls Tu Sc Ta Wa i0 s).1 (pthV ls Tu Sc Ta Wa i0 s).2 i).1)) (z := .int (kO (selS ls Tu Sc Ta Wa s (pthV ls Tu Sc Ta Wa i0 s).1 (pthV ls Tu Sc Ta Wa i0 s).2 (i + 1)).1)) (lv2 := [(11, .int (nI (i + 1))), (12, .int (nI (((s) * (24)) + (i)))), (0, .ref (K 0)), (1, .long (lN (i0))), (3, .int (nI (la))), (4, .ref (K 9)), (5, .long (lN ((selS ls Tu Sc Ta Wa s (pthV ls Tu Sc Ta Wa i0 s).1 (pthV ls Tu Sc Ta Wa i0 s).2 i).2))), (7, .int (kO (pthV ls Tu Sc Ta Wa i0 s).1)), (8, .int (nI (s))), (9, .int (nI (rstV ls Sc Ta s (pthV ls Tu Sc Ta Wa i0 s).1))), (10, .int (kO (selS ls Tu Sc Ta Wa s (pthV ls Tu Sc Ta Wa i0 s).1 (pthV ls Tu Sc Ta Wa i0 s).2 (i + 1)).1))]) (by rw [e27, e26]) 10 rfl rfl ?_
                refine kx_lvL (a := (selS ls Tu Sc Ta Wa s (pthV ls Tu Sc Ta Wa i0 s).1 (pthV ls Tu Sc Ta Wa i0 s).2 i).2) (b := (selS ls Tu Sc Ta Wa s (pthV ls Tu Sc Ta Wa i0 s).1 (pthV ls Tu Sc Ta Wa i0 s).2 (i + 1)).2) (lv2 := [(11, .int (nI (i + 1))), (12, .int (nI (((s) * (24)) + (i)))), (0, .ref (K 0)), (1, .long (lN (i0))), (3, .int (nI (la))), (4, .ref (K 9)), (5, .long (lN ((selS ls Tu Sc Ta Wa s (pthV ls Tu Sc Ta Wa i0 s).1 (pthV ls Tu Sc Ta Wa i0 s).2 (i + 1)).2))), (7, .int (kO (pthV ls Tu Sc Ta Wa i0 s).1)), (8, .int (nI (s))), (9, .int (nI (rstV ls Sc Ta s (pthV ls Tu Sc Ta Wa i0 s).1))), (10, .int (kO (selS ls Tu Sc Ta Wa s (pthV ls Tu Sc Ta Wa i0 s).1 (pthV ls Tu Sc Ta Wa i0 s).2 (i + 1)).1))]) (by rw [e27]) 6 rfl rfl ?_
                refine kx_lv (lv2 := [(0, .ref (K 0)), (1, .long (lN (i0))), (3, .int (nI (la))), (4, .ref (K 9)), (5, .long (lN ((selS ls Tu Sc Ta Wa s (pthV ls Tu Sc Ta Wa i0 s).1 (pthV ls Tu Sc Ta Wa i0 s).2 (i + 1)).2))), (7, .int (kO (pthV ls Tu Sc Ta Wa i0 s).1)), (8, .int (nI (s))), (9, .int (nI (rstV ls Sc Ta s (pthV ls Tu Sc Ta Wa i0 s).1))), (10, .int (kO (selS ls Tu Sc Ta Wa s (pthV ls Tu Sc Ta Wa i0 s).1 (pthV ls Tu Sc Ta Wa i0 s).2 (i + 1)).1)), (11, .int (nI (i + 1)))]) [2, 3, 4, 5, 6, 7, 8, 9, 10, 0] rfl ?_
                refine kx_eqw (ws2 := (kwW E K b y o n ls bc tk hk P Wt Tu Sc Ta Wa He Fk Rv)) rfl ?_
                exact ih_lp33 (i + 1) (by omega) h1_lp33 (by omega)
              · skip
                refine kx_lload C dX0_followBest_77 5 rfl ?_
                refine kx_aload_n C dX0_followBest_79 rfl 1 rfl ?_
                refine kx_get (v := .ref (K 6)) (ci := 0) C kin0 0 rfl rfl 9 (by decide) fl0_25 rfl rfl dX0_followBest_80 ?_
                refine kx_iload C dX0_followBest_83 0 rfl ?_
                refine kx_lald C 6 rfl (j := ((s) * (24)) + (i)) (by omega) (by decide) dX0_followBest_85 ?_
                refine kx_lcmp_ge (tgt := 97) C (Nat.lt_of_le_of_lt (Nat.le_trans (selN_left _) (pthV_left s)) (by omega)) (by have := HWa (s * 24 + i); omega) dX0_followBest_86 dX0_followBest_87 (by decide) (fun c6 => ?_) (fun c6 => ?_)
                · skip
                  refine kx_lload C dX0_followBest_97 5 rfl ?_
                  refine kx_aload_n C dX0_followBest_99 rfl 1 rfl ?_
                  refine kx_get (v := .ref (K 6)) (ci := 0) C kin0 0 rfl rfl 9 (by decide) fl0_25 rfl rfl dX0_followBest_100 ?_
                  refine kx_iload C dX0_followBest_103 0 rfl ?_
                  refine kx_lald C 6 rfl (j := ((s) * (24)) + (i)) (by omega) (by decide) dX0_followBest_105 ?_
                  refine kx_lsub C (by omega) dX0_followBest_106 ?_
                  refine kx_lstore (lv2 := [(5, .long (lN (((selS ls Tu Sc Ta Wa s (pthV ls Tu Sc Ta Wa i0 s).1 (pthV ls Tu Sc Ta Wa i0 s).2 i).2) - (Wa (((s) * (24)) + (i)))))), (12, .int (nI (((s) * (24)) + (i)))), (0, .ref (K 0)), (1, .long (lN (i0))), (3, .int (nI (la))), (4, .ref (K 9)), (7, .int (kO (pthV ls Tu Sc Ta Wa i0 s).1)), (8, .int (nI (s))), (9, .int (nI (rstV ls Sc Ta s (pthV ls Tu Sc Ta Wa i0 s).1))), (10, .int (kO (selS ls Tu Sc Ta Wa s (pthV ls Tu Sc Ta Wa i0 s).1 (pthV ls Tu Sc Ta Wa i0 s).2 i).1)), (11, .int (nI (i)))]) C dX0_followBest_107 (by decide) rfl ?_
                  refine kx_iinc (v := nI (i + 1)) (lv2 := [(11, .int (nI (i + 1))), (5, .long (lN (((selS ls Tu Sc Ta Wa s (pthV ls Tu Sc Ta Wa i0 s).1 (pthV ls Tu Sc Ta Wa i0 s).2 i).2) - (Wa (((s) * (24)) + (i)))))), (12, .int (nI (((s) * (24)) + (i)))), (0, .ref (K 0)), (1, .long (lN (i0))), (3, .int (nI (la))), (4, .ref (K 9)), (7, .int (kO (pthV ls Tu Sc Ta Wa i0 s).1)), (8, .int (nI (s))), (9, .int (nI (rstV ls Sc Ta s (pthV ls Tu Sc Ta Wa i0 s).1))), (10, .int (kO (selS ls Tu Sc Ta Wa s (pthV ls Tu Sc Ta Wa i0 s).1 (pthV ls Tu Sc Ta Wa i0 s).2 i).1))]) C dX0_followBest_109 10 rfl (kI1 _) (by decide) rfl ?_
                  refine kx_goto (tgt := 33) C dX0_followBest_112 (by decide) ?_
                  have e27 : (selS ls Tu Sc Ta Wa s (pthV ls Tu Sc Ta Wa i0 s).1 (pthV ls Tu Sc Ta Wa i0 s).2 (i + 1)) = (24, (selS ls Tu Sc Ta Wa s (pthV ls Tu Sc Ta Wa i0 s).1 (pthV ls Tu Sc Ta Wa i0 s).2 i).2 - Wa (s * 24 + i)) := selN_sub (f := fun k => tinV Tu (pthV ls Tu Sc Ta Wa i0 s).1 k + Ta (s * 24 + k)) (g := fun k => Wa (s * 24 + k)) e26 c5 c6
                  refine kx_lvv (x := .int (kO (selS ls Tu Sc Ta Wa s (pthV ls Tu Sc Ta Wa i0 s).1 (pthV ls Tu Sc Ta Wa i0 s).2 i).1)) (z := .int (kO (selS ls Tu Sc Ta Wa s (pthV ls Tu Sc Ta Wa i0 s).1 (pthV ls Tu Sc Ta Wa i0 s).2 (i + 1)).1)) (lv2 := [(11, .int (nI (i + 1))), (5, .long (lN (((selS ls Tu Sc Ta Wa s (pthV ls Tu Sc Ta Wa i0 s).1 (pthV ls Tu Sc Ta Wa i0 s).2 i).2) - (Wa (((s) * (24)) + (i)))))), (12, .int (nI (((s) * (24)) + (i)))), (0, .ref (K 0)), (1, .long (lN (i0))), (3, .int (nI (la))), (4, .ref (K 9)), (7, .int (kO (pthV ls Tu Sc Ta Wa i0 s).1)), (8, .int (nI (s))), (9, .int (nI (rstV ls Sc Ta s (pthV ls Tu Sc Ta Wa i0 s).1))), (10, .int (kO (selS ls Tu Sc Ta Wa s (pthV ls Tu Sc Ta Wa i0 s).1 (pthV ls Tu Sc Ta Wa i0 s).2 (i + 1)).1))]) (by rw [e27, e26]) 10 rfl rfl ?_
                  refine kx_lvL (a := ((selS ls Tu Sc Ta Wa s (pthV ls Tu Sc Ta Wa i0 s).1 (pthV ls Tu Sc Ta Wa i0 s).2 i).2) - (Wa (((s) * (24)) + (i)))) (b := (selS ls Tu Sc Ta Wa s (pthV ls Tu Sc Ta Wa i0 s).1 (pthV ls Tu Sc Ta Wa i0 s).2 (i + 1)).2) (lv2 := [(11, .int (nI (i + 1))), (5, .long (lN ((selS ls Tu Sc Ta Wa s (pthV ls Tu Sc Ta Wa i0 s).1 (pthV ls Tu Sc Ta Wa i0 s).2 (i + 1)).2))), (12, .int (nI (((s) * (24)) + (i)))), (0, .ref (K 0)), (1, .long (lN (i0))), (3, .int (nI (la))), (4, .ref (K 9)), (7, .int (kO (pthV ls Tu Sc Ta Wa i0 s).1)), (8, .int (nI (s))), (9, .int (nI (rstV ls Sc Ta s (pthV ls Tu Sc Ta Wa i0 s).1))), (10, .int (kO (selS ls Tu Sc Ta Wa s (pthV ls Tu Sc Ta Wa i0 s).1 (pthV ls Tu Sc Ta Wa i0 s).2 (i + 1)).1))]) (by rw [e27]) 1 rfl rfl ?_
                  refine kx_lv (lv2 := [(0, .ref (K 0)), (1, .long (lN (i0))), (3, .int (nI (la))), (4, .ref (K 9)), (5, .long (lN ((selS ls Tu Sc Ta Wa s (pthV ls Tu Sc Ta Wa i0 s).1 (pthV ls Tu Sc Ta Wa i0 s).2 (i + 1)).2))), (7, .int (kO (pthV ls Tu Sc Ta Wa i0 s).1)), (8, .int (nI (s))), (9, .int (nI (rstV ls Sc Ta s (pthV ls Tu Sc Ta Wa i0 s).1))), (10, .int (kO (selS ls Tu Sc Ta Wa s (pthV ls Tu Sc Ta Wa i0 s).1 (pthV ls Tu Sc Ta Wa i0 s).2 (i + 1)).1)), (11, .int (nI (i + 1)))]) [3, 4, 5, 6, 1, 7, 8, 9, 10, 0] rfl ?_
                  refine kx_eqw (ws2 := (kwW E K b y o n ls bc tk hk P Wt Tu Sc Ta Wa He Fk Rv)) rfl ?_
                  exact ih_lp33 (i + 1) (by omega) h1_lp33 (by omega)
                · skip
                  refine kx_iload C dX0_followBest_90 10 rfl ?_
                  refine kx_istore (lv2 := [(10, .int (nI (i))), (12, .int (nI (((s) * (24)) + (i)))), (0, .ref (K 0)), (1, .long (lN (i0))), (3, .int (nI (la))), (4, .ref (K 9)), (5, .long (lN ((selS ls Tu Sc Ta Wa s (pthV ls Tu Sc Ta Wa i0 s).1 (pthV ls Tu Sc Ta Wa i0 s).2 i).2))), (7, .int (kO (pthV ls Tu Sc Ta Wa i0 s).1)), (8, .int (nI (s))), (9, .int (nI (rstV ls Sc Ta s (pthV ls Tu Sc Ta Wa i0 s).1))), (11, .int (nI (i)))]) C dX0_followBest_92 (by decide) rfl ?_
                  refine kx_goto (tgt := 109) C dX0_followBest_94 (by decide) ?_
                  refine kx_iinc (v := nI (i + 1)) (lv2 := [(11, .int (nI (i + 1))), (10, .int (nI (i))), (12, .int (nI (((s) * (24)) + (i)))), (0, .ref (K 0)), (1, .long (lN (i0))), (3, .int (nI (la))), (4, .ref (K 9)), (5, .long (lN ((selS ls Tu Sc Ta Wa s (pthV ls Tu Sc Ta Wa i0 s).1 (pthV ls Tu Sc Ta Wa i0 s).2 i).2))), (7, .int (kO (pthV ls Tu Sc Ta Wa i0 s).1)), (8, .int (nI (s))), (9, .int (nI (rstV ls Sc Ta s (pthV ls Tu Sc Ta Wa i0 s).1)))]) C dX0_followBest_109 10 rfl (kI1 _) (by decide) rfl ?_
                  refine kx_goto (tgt := 33) C dX0_followBest_112 (by decide) ?_
                  have e27 : (selS ls Tu Sc Ta Wa s (pthV ls Tu Sc Ta Wa i0 s).1 (pthV ls Tu Sc Ta Wa i0 s).2 (i + 1)) = (i, (selS ls Tu Sc Ta Wa s (pthV ls Tu Sc Ta Wa i0 s).1 (pthV ls Tu Sc Ta Wa i0 s).2 i).2) := selN_hit (f := fun k => tinV Tu (pthV ls Tu Sc Ta Wa i0 s).1 k + Ta (s * 24 + k)) (g := fun k => Wa (s * 24 + k)) e26 c5 c6
                  refine kx_lvv (x := .int (nI (i))) (z := .int (kO (selS ls Tu Sc Ta Wa s (pthV ls Tu Sc Ta Wa i0 s).1 (pthV ls Tu Sc Ta Wa i0 s).2 (i + 1)).1)) (lv2 := [(11, .int (nI (i + 1))), (10, .int (kO (selS ls Tu Sc Ta Wa s (pthV ls Tu Sc Ta Wa i0 s).1 (pthV ls Tu Sc Ta Wa i0 s).2 (i + 1)).1)), (12, .int (nI (((s) * (24)) + (i)))), (0, .ref (K 0)), (1, .long (lN (i0))), (3, .int (nI (la))), (4, .ref (K 9)), (5, .long (lN ((selS ls Tu Sc Ta Wa s (pthV ls Tu Sc Ta Wa i0 s).1 (pthV ls Tu Sc Ta Wa i0 s).2 i).2))), (7, .int (kO (pthV ls Tu Sc Ta Wa i0 s).1)), (8, .int (nI (s))), (9, .int (nI (rstV ls Sc Ta s (pthV ls Tu Sc Ta Wa i0 s).1)))]) (by rw [e27, kO_lt (by omega)]) 1 rfl rfl ?_
                  refine kx_lvL (a := (selS ls Tu Sc Ta Wa s (pthV ls Tu Sc Ta Wa i0 s).1 (pthV ls Tu Sc Ta Wa i0 s).2 i).2) (b := (selS ls Tu Sc Ta Wa s (pthV ls Tu Sc Ta Wa i0 s).1 (pthV ls Tu Sc Ta Wa i0 s).2 (i + 1)).2) (lv2 := [(11, .int (nI (i + 1))), (10, .int (kO (selS ls Tu Sc Ta Wa s (pthV ls Tu Sc Ta Wa i0 s).1 (pthV ls Tu Sc Ta Wa i0 s).2 (i + 1)).1)), (12, .int (nI (((s) * (24)) + (i)))), (0, .ref (K 0)), (1, .long (lN (i0))), (3, .int (nI (la))), (4, .ref (K 9)), (5, .long (lN ((selS ls Tu Sc Ta Wa s (pthV ls Tu Sc Ta Wa i0 s).1 (pthV ls Tu Sc Ta Wa i0 s).2 (i + 1)).2))), (7, .int (kO (pthV ls Tu Sc Ta Wa i0 s).1)), (8, .int (nI (s))), (9, .int (nI (rstV ls Sc Ta s (pthV ls Tu Sc Ta Wa i0 s).1)))]) (by rw [e27]) 7 rfl rfl ?_
                  refine kx_lv (lv2 := [(0, .ref (K 0)), (1, .long (lN (i0))), (3, .int (nI (la))), (4, .ref (K 9)), (5, .long (lN ((selS ls Tu Sc Ta Wa s (pthV ls Tu Sc Ta Wa i0 s).1 (pthV ls Tu Sc Ta Wa i0 s).2 (i + 1)).2))), (7, .int (kO (pthV ls Tu Sc Ta Wa i0 s).1)), (8, .int (nI (s))), (9, .int (nI (rstV ls Sc Ta s (pthV ls Tu Sc Ta Wa i0 s).1))), (10, .int (kO (selS ls Tu Sc Ta Wa s (pthV ls Tu Sc Ta Wa i0 s).1 (pthV ls Tu Sc Ta Wa i0 s).2 (i + 1)).1)), (11, .int (nI (i + 1)))]) [3, 4, 5, 6, 7, 8, 9, 10, 1, 0] rfl ?_
                  refine kx_eqw (ws2 := (kwW E K b y o n ls bc tk hk P Wt Tu Sc Ta Wa He Fk Rv)) rfl ?_
                  exact ih_lp33 (i + 1) (by omega) h1_lp33 (by omega)
      refine kx_iload C dX0_followBest_9 6 rfl ?_
      refine kx_iload_n C dX0_followBest_11 rfl 2 rfl ?_
      refine kx_icmp_gt (tgt := 140) C (by omega) (by omega) dX0_followBest_12 (by decide) (fun c7 => ?_) (fun c7 => ?_)
      · skip
        obtain rfl : la + 1 = s := by omega
        refine kx_iload C dX0_followBest_140 5 rfl ?_
        exact hE (Nat.le_of_ble_eq_true rfl) (Nat.le_of_ble_eq_true rfl) dX0_followBest_142 ⟨rfl, Rv, fun j hj _ => h2_lp9 j (by omega), h3_lp9, rfl⟩
      · skip
        refine kx_aload_n C dX0_followBest_15 rfl 0 rfl ?_
        refine kx_iload C dX0_followBest_16 6 rfl ?_
        refine kx_iconst (v := nI 1) C dX0_followBest_18 (by decide +kernel) ?_
        refine kx_isubR C dX0_followBest_19 ?_
        refine kx_iload C dX0_followBest_20 5 rfl ?_
        refine kx_callVi (rest := []) (wr := []) C (c_restAfter E K b y o n ls bc tk hk P Wt Tu Sc Ta Wa He Fk Rv s (pthV ls Tu Sc Ta Wa i0 s).1 (by omega) (pthV_le s) hz0 hz1) g0_205 2 rfl (by decide +kernel) ⟨Nat.le_of_ble_eq_true rfl, Nat.le_of_ble_eq_true rfl⟩ ⟨Nat.le_of_ble_eq_true rfl, Nat.le_of_ble_eq_true rfl⟩ [0, 1, 2, 3, 4, 5, 6, 7, 8, 9] [] rfl rfl (by decide) (by decide) (by decide) 0 rfl rfl rfl (Nat.le_of_ble_eq_true rfl) dX0_followBest_22 (fun v w q8 => ?_)
        obtain ⟨rfl, rfl⟩ := q8
        refine kx_eqw (ws2 := (kwW E K b y o n ls bc tk hk P Wt Tu Sc Ta Wa He Fk Rv)) rfl ?_
        refine kx_istore (lv2 := [(9, .int (nI (rstV ls Sc Ta s (pthV ls Tu Sc Ta Wa i0 s).1))), (0, .ref (K 0)), (1, .long (lN (i0))), (3, .int (nI (la))), (4, .ref (K 9)), (5, .long (lN ((pthV ls Tu Sc Ta Wa i0 s).2))), (7, .int (kO (pthV ls Tu Sc Ta Wa i0 s).1)), (8, .int (nI (s)))]) C dX0_followBest_25 (by decide) rfl ?_
        refine kx_iconst (v := (-1)) C dX0_followBest_27 (by decide +kernel) ?_
        refine kx_istore (lv2 := [(10, .int ((-1))), (9, .int (nI (rstV ls Sc Ta s (pthV ls Tu Sc Ta Wa i0 s).1))), (0, .ref (K 0)), (1, .long (lN (i0))), (3, .int (nI (la))), (4, .ref (K 9)), (5, .long (lN ((pthV ls Tu Sc Ta Wa i0 s).2))), (7, .int (kO (pthV ls Tu Sc Ta Wa i0 s).1)), (8, .int (nI (s)))]) C dX0_followBest_28 (by decide) rfl ?_
        refine kx_iconst (v := nI 0) C dX0_followBest_30 (by decide +kernel) ?_
        refine kx_istore (lv2 := [(11, .int (nI (0))), (10, .int ((-1))), (9, .int (nI (rstV ls Sc Ta s (pthV ls Tu Sc Ta Wa i0 s).1))), (0, .ref (K 0)), (1, .long (lN (i0))), (3, .int (nI (la))), (4, .ref (K 9)), (5, .long (lN ((pthV ls Tu Sc Ta Wa i0 s).2))), (7, .int (kO (pthV ls Tu Sc Ta Wa i0 s).1)), (8, .int (nI (s)))]) C dX0_followBest_31 (by decide) rfl ?_
        refine kx_lv (lv2 := [(0, .ref (K 0)), (1, .long (lN (i0))), (3, .int (nI (la))), (4, .ref (K 9)), (5, .long (lN ((selS ls Tu Sc Ta Wa s (pthV ls Tu Sc Ta Wa i0 s).1 (pthV ls Tu Sc Ta Wa i0 s).2 0).2))), (7, .int (kO (pthV ls Tu Sc Ta Wa i0 s).1)), (8, .int (nI (s))), (9, .int (nI (rstV ls Sc Ta s (pthV ls Tu Sc Ta Wa i0 s).1))), (10, .int (kO (selS ls Tu Sc Ta Wa s (pthV ls Tu Sc Ta Wa i0 s).1 (pthV ls Tu Sc Ta Wa i0 s).2 0).1)), (11, .int (nI (0)))]) [3, 4, 5, 6, 7, 8, 9, 2, 1, 0] rfl ?_
        refine kx_eqw (ws2 := (kwW E K b y o n ls bc tk hk P Wt Tu Sc Ta Wa He Fk Rv)) rfl ?_
        exact lp33 25 0 (by omega) (by omega) (by omega)
  refine kx_lload_n C dX0_followBest_0 rfl 1 rfl ?_
  refine kx_lstore (lv2 := [(5, .long (lN (i0))), (0, .ref (K 0)), (1, .long (lN (i0))), (3, .int (nI (la))), (4, .ref (K 9))]) C dX0_followBest_1 (by decide) rfl ?_
  refine kx_iconst (v := (-1)) C dX0_followBest_3 (by decide +kernel) ?_
  refine kx_istore (lv2 := [(7, .int ((-1))), (5, .long (lN (i0))), (0, .ref (K 0)), (1, .long (lN (i0))), (3, .int (nI (la))), (4, .ref (K 9))]) C dX0_followBest_4 (by decide) rfl ?_
  refine kx_iconst (v := nI 0) C dX0_followBest_6 (by decide +kernel) ?_
  refine kx_istore (lv2 := [(8, .int (nI (0))), (7, .int ((-1))), (5, .long (lN (i0))), (0, .ref (K 0)), (1, .long (lN (i0))), (3, .int (nI (la))), (4, .ref (K 9))]) C dX0_followBest_7 (by decide) rfl ?_
  refine kx_lv (lv2 := [(0, .ref (K 0)), (1, .long (lN (i0))), (3, .int (nI (la))), (4, .ref (K 9)), (5, .long (lN ((pthV ls Tu Sc Ta Wa i0 0).2))), (7, .int (kO (pthV ls Tu Sc Ta Wa i0 0).1)), (8, .int (nI (0)))]) [3, 4, 5, 6, 2, 1, 0] rfl ?_
  refine kx_eqw (ws2 := (kwW E K b y o n ls bc tk hk P Wt Tu Sc Ta Wa He Fk Pk)) rfl ?_
  exact lp9 42 0 Pk (by omega) (fun z => absurd rfl z) (fun j hj => absurd hj (by omega)) HRw (by omega)
end
section
set_option maxHeartbeats 4000000 in
set_option maxRecDepth 100000 in
theorem c_knowTails (E : KE) (K : Nat → Nat) (b y o n ls bc tk hk : Nat) (P Wt Tu Sc Ta Wa He Fk Pk : Nat → Nat) (HO : kOk b y o n ls bc tk hk P Wt Tu Sc Ta Wa He Fk Pk) : kMv E yX0_knowTails cX0_knowTails 3 (rk 4 0) [.ref (K 0)] (kwW E K b y o n ls bc tk hk P Wt Tu Sc Ta Wa He Fk Pk) (fun w => ∃ (ls2 bc2 : Nat) (Tv Sv Av Vv Fv : Nat → Nat), kOk b y o n ls2 bc2 1 hk P Wt Tv Sv Av Vv He Fv Pk ∧ w = (kwW E K b y o n ls2 bc2 1 hk P Wt Tv Sv Av Vv He Fv Pk)) := by
  refine kMv_of (cc := cX0_knowTails) (maxL := 3) (by decide) (Nat.le_of_ble_eq_true rfl) ?_
  intro G C hE
  obtain ⟨H1, HP, HW, Hb, Hy, Ho, Htk, Hhk, Hls, HTa, HWa, HHe, HFk, HPk, HK, HH⟩ := id HO
  refine kx_aload_n C dX0_knowTails_0 rfl 0 rfl ?_
  refine kx_get (v := .int (nI (tk))) (ci := 0) C kin0 0 rfl rfl 15 (by decide) fl0_156 rfl rfl dX0_knowTails_1 ?_
  refine kx_if_eq (tgt := 8) C (by omega) dX0_knowTails_4 (by decide) (fun c1 => ?_) (fun c1 => ?_)
  · skip
    refine kx_aload_n C dX0_knowTails_8 rfl 0 rfl ?_
    refine kx_callVv (rest := []) (wr := []) C (c_fillTurns E K b y o n ls bc tk hk P Wt Tu Sc Ta Wa He Fk Pk) g0_185 0 rfl (by decide +kernel) ⟨Nat.le_of_ble_eq_true rfl, Nat.le_of_ble_eq_true rfl⟩ ⟨Nat.le_of_ble_eq_true rfl, Nat.le_of_ble_eq_true rfl⟩ [0, 1, 2, 3, 4, 5, 6, 7, 8, 9] [] rfl rfl (by decide) (by decide) (by decide) 0 rfl rfl rfl (Nat.le_of_ble_eq_true rfl) dX0_knowTails_9 (fun w q2 => ?_)
    obtain ⟨Tv, hTv, rfl⟩ := q2
    refine kx_eqw (ws2 := (kwW E K b y o n ls bc tk hk P Wt Tv Sc Ta Wa He Fk Pk)) rfl ?_
    have hTv : kTuOk b y o Tv := hTv
    have hTl := hTv.le Hb Hy Ho
    have h54 : ∀ (Sv Av Vv : Nat → Nat), kRows n b y o P Wt Sv Av Vv 0 → (∀ j, Av j ≤ 10000000) → (∀ j, Vv j ≤ 1000000000000000000) → kx E (rk 4 0) G 3 0 0 (kwW E K b y o n ls bc tk hk P Wt Tv Sv Av Vv He Fk Pk) [(0, .ref (K 0))] 54 [] := by
      intro Sv Av Vv hR hA hV
      by_cases e0 : n = 0
      · skip
        refine kx_aload_n C dX0_knowTails_54 rfl 0 rfl ?_
        refine kx_callVv (rest := []) (wr := []) C (c_fillLeast E K b y o n ls bc tk hk P Wt Tv Sv Av Vv He Fk Pk (fun j _ => hA j) (fun j _ => hV j) H1) g0_195 0 rfl (by decide +kernel) ⟨Nat.le_of_ble_eq_true rfl, Nat.le_of_ble_eq_true rfl⟩ ⟨Nat.le_of_ble_eq_true rfl, Nat.le_of_ble_eq_true rfl⟩ [0, 1, 2, 3, 4, 5, 6, 7, 8, 9] [] rfl rfl (by decide) (by decide) (by decide) 0 rfl rfl rfl (Nat.le_of_ble_eq_true rfl) dX0_knowTails_55 (fun w q3 => ?_)
        obtain rfl := q3.1 e0
        refine kx_eqw (ws2 := (kwW E K b y o n 0 1 tk hk P Wt Tv Sv Av Vv He Fk Pk)) rfl ?_
        refine kx_aload_n C dX0_knowTails_58 rfl 0 rfl ?_
        refine kx_get (v := .int (nI (n))) (ci := 0) C kin0 0 rfl rfl 5 (by decide) fl0_41 rfl rfl dX0_knowTails_59 ?_
        refine kx_if_le (tgt := 81) C (by omega) dX0_knowTails_62 (by decide) (fun c4 => ?_) (fun c4 => ?_)
        · skip
          refine kx_aload_n C dX0_knowTails_81 rfl 0 rfl ?_
          refine kx_iconst (v := nI 1) C dX0_knowTails_82 (by decide +kernel) ?_
          refine kx_put (ws2 := (kwW E K b y o n 0 1 1 hk P Wt Tv Sv Av Vv He Fk Pk)) (ci := 0) C kin0 tyX0_ok nmX0 0 rfl rfl 15 (by decide) fl0_156 rfl rfl (by decide +kernel) (by decide +kernel) (Nat.le_of_ble_eq_true rfl) rfl dX0_knowTails_83 ?_
          exact hE (Nat.le_of_ble_eq_true rfl) (Nat.le_of_ble_eq_true rfl) dX0_knowTails_86 ⟨_, _, _, _, _, _, _, ⟨H1, HP, HW, Hb, Hy, Ho, Nat.le_refl _, Hhk, Nat.zero_le _, hA, hV, HHe, HFk, HPk, fun _ => ⟨hTv, hR, fun _ => ⟨rfl, rfl⟩, fun z => absurd e0 z, fun s hs => absurd hs (by omega)⟩, fun z => ⟨by decide, (HH z).2⟩⟩, rfl⟩
        · skip
          exact absurd c4 (by omega)
      · skip
        refine kx_aload_n C dX0_knowTails_54 rfl 0 rfl ?_
        refine kx_callVv (rest := []) (wr := []) C (c_fillLeast E K b y o n ls bc tk hk P Wt Tv Sv Av Vv He Fk Pk (fun j _ => hA j) (fun j _ => hV j) H1) g0_195 0 rfl (by decide +kernel) ⟨Nat.le_of_ble_eq_true rfl, Nat.le_of_ble_eq_true rfl⟩ ⟨Nat.le_of_ble_eq_true rfl, Nat.le_of_ble_eq_true rfl⟩ [0, 1, 2, 3, 4, 5, 6, 7, 8, 9] [] rfl rfl (by decide) (by decide) (by decide) 0 rfl rfl rfl (Nat.le_of_ble_eq_true rfl) dX0_knowTails_55 (fun w q5 => ?_)
        obtain rfl := q5.2 e0
        refine kx_eqw (ws2 := (kwW E K b y o n (minN Av kBIG 24) (cntN Av Vv 24) tk hk P Wt Tv Sv Av Vv He Fk Pk)) rfl ?_
        refine kx_aload_n C dX0_knowTails_58 rfl 0 rfl ?_
        refine kx_get (v := .int (nI (n))) (ci := 0) C kin0 0 rfl rfl 5 (by decide) fl0_41 rfl rfl dX0_knowTails_59 ?_
        refine kx_if_le (tgt := 81) C (by omega) dX0_knowTails_62 (by decide) (fun c6 => ?_) (fun c6 => ?_)
        · skip
          exact absurd c6 (by omega)
        · skip
          have hls : minN Av kBIG 24 ≤ 10000000 := Nat.le_trans (minN_le (f := Av) (M := kBIG) (n := 24) (j := 0) (by decide)) (hA 0)
          refine kx_aload_n C dX0_knowTails_65 rfl 0 rfl ?_
          refine kx_lconst (v := lN 0) C dX0_knowTails_66 (by decide +kernel) ?_
          refine kx_aload_n C dX0_knowTails_67 rfl 0 rfl ?_
          refine kx_get (v := .int (nI (n))) (ci := 0) C kin0 0 rfl rfl 5 (by decide) fl0_41 rfl rfl dX0_knowTails_68 ?_
          refine kx_iconst (v := nI 1) C dX0_knowTails_71 (by decide +kernel) ?_
          refine kx_isub C (by omega) dX0_knowTails_72 ?_
          refine kx_aload_n C dX0_knowTails_73 rfl 0 rfl ?_
          refine kx_get (v := .ref (K 8)) (ci := 0) C kin0 0 rfl rfl 11 (by decide) fl0_32 rfl rfl dX0_knowTails_74 ?_
          refine kx_callVi (rest := []) (wr := []) C (c_followBest8 E K b y o n (minN Av kBIG 24) (cntN Av Vv 24) tk hk P Wt Tv Sv Av Vv He Fk Pk 0 (n - 1) (by omega) (by omega) hls hTl hA hV (fun j hj => hR.st j (by omega)) HFk) g0_107 3 rfl (by decide +kernel) ⟨Nat.le_of_ble_eq_true rfl, Nat.le_of_ble_eq_true rfl⟩ ⟨Nat.le_of_ble_eq_true rfl, Nat.le_of_ble_eq_true rfl⟩ [0, 1, 2, 3, 4, 5, 6, 7, 8, 9] [] rfl rfl (by decide) (by decide) (by decide) 0 rfl rfl rfl (Nat.le_of_ble_eq_true rfl) dX0_knowTails_77 (fun v w q7 => ?_)
          obtain ⟨-, Fv, hrow, hFb, rfl⟩ := q7
          refine kx_eqw (ws2 := (kwW E K b y o n (minN Av kBIG 24) (cntN Av Vv 24) tk hk P Wt Tv Sv Av Vv He Fv Pk)) rfl ?_
          refine kx_pop C dX0_knowTails_80 rfl ?_
          refine kx_aload_n C dX0_knowTails_81 rfl 0 rfl ?_
          refine kx_iconst (v := nI 1) C dX0_knowTails_82 (by decide +kernel) ?_
          refine kx_put (ws2 := (kwW E K b y o n (minN Av kBIG 24) (cntN Av Vv 24) 1 hk P Wt Tv Sv Av Vv He Fv Pk)) (ci := 0) C kin0 tyX0_ok nmX0 0 rfl rfl 15 (by decide) fl0_156 rfl rfl (by decide +kernel) (by decide +kernel) (Nat.le_of_ble_eq_true rfl) rfl dX0_knowTails_83 ?_
          exact hE (Nat.le_of_ble_eq_true rfl) (Nat.le_of_ble_eq_true rfl) dX0_knowTails_86 ⟨_, _, _, _, _, _, _, ⟨H1, HP, HW, Hb, Hy, Ho, Nat.le_refl _, Hhk, hls, hA, hV, HHe, hFb, HPk, fun _ => kTails_mk e0 hTv hR hrow, fun z => ⟨by decide, (HH z).2⟩⟩, rfl⟩
    have lp19 : ∀ (N_lp19 : Nat) (m : Nat) (Sv : Nat → Nat) (Av : Nat → Nat) (Vv : Nat → Nat), (m ≤ n) → (kRows n b y o P Wt Sv Av Vv m) → (∀ j, Av j ≤ 10000000) → (∀ j, Vv j ≤ 1000000000000000000) → (m < 0 + N_lp19) → kx E (rk 4 0) G 3 0 0 (kwW E K b y o n ls bc tk hk P Wt Tv Sv Av Vv He Fk Pk) [(0, .ref (K 0)), (1, .int ((nI (m)) - (nI (1))))] 19 [] := by
      intro N_lp19
      induction N_lp19 with
      | zero =>
        intro m Sv Av Vv h0_lp19 h1_lp19 h2_lp19 h3_lp19 hm_lp19
        exact absurd hm_lp19 (by omega)
      | succ N_lp19 ih_lp19 =>
        intro m Sv Av Vv h0_lp19 h1_lp19 h2_lp19 h3_lp19 hm_lp19
        refine kx_iload_n C dX0_knowTails_19 rfl 1 rfl ?_
        refine kx_if_ltR (tgt := 54) C dX0_knowTails_20 (by decide) (fun c8 => ?_) (fun c8 => ?_)
        · skip
          obtain rfl : m = 0 := (kD_neg (by omega)).mp c8
          refine kx_lv (lv2 := [(0, .ref (K 0))]) [0] rfl ?_
          exact h54 _ _ _ h1_lp19 h2_lp19 h3_lp19
        · skip
          obtain ⟨m1, rfl⟩ : ∃ x, m = x + 1 := ⟨m - 1, by have hz : m ≠ 0 := fun z => c8 ((kD_neg (by omega)).mpr z); omega⟩
          refine kx_lvv (x := .int ((nI ((m1 + 1))) - (nI (1)))) (z := .int (nI (m1))) (lv2 := [(0, .ref (K 0)), (1, .int (nI (m1)))]) (by rw [pk_sub (Nat.le_add_left 1 m1)]; rfl) 1 rfl rfl ?_
          refine kx_aload_n C dX0_knowTails_23 rfl 0 rfl ?_
          refine kx_iload_n C dX0_knowTails_24 rfl 1 rfl ?_
          refine kx_callVv (rest := []) (wr := []) C (c_fillSliceCosts E K b y o n ls bc tk hk P Wt Tv Sv Av Vv He Fk Pk m1 (by omega) HP HW) g0_188 1 rfl (by decide +kernel) ⟨Nat.le_of_ble_eq_true rfl, Nat.le_of_ble_eq_true rfl⟩ ⟨Nat.le_of_ble_eq_true rfl, Nat.le_of_ble_eq_true rfl⟩ [0, 1, 2, 3, 4, 5, 6, 7, 8, 9] [] rfl rfl (by decide) (by decide) (by decide) 0 rfl rfl rfl (Nat.le_of_ble_eq_true rfl) dX0_knowTails_25 (fun w q9 => ?_)
          obtain ⟨Sw, hS1, hS2, rfl⟩ := q9
          refine kx_eqw (ws2 := (kwW E K b y o n ls bc tk hk P Wt Tv Sw Av Vv He Fk Pk)) rfl ?_
          have hR1 := h1_lp19.sc hS2
          have lp30 : ∀ (N_lp30 : Nat) (q : Nat) (Aw : Nat → Nat) (Vw : Nat → Nat), (q ≤ 24) → (kRows n b y o P Wt Sw Aw Vw (m1 + 1)) → (∀ k, k < q → Aw (m1 * 24 + k) = tlS n b y o P Wt m1 k) → (∀ k, k < q → Vw (m1 * 24 + k) = wyS n b y o P Wt m1 k) → (∀ j, Aw j ≤ 10000000) → (∀ j, Vw j ≤ 1000000000000000000) → (24 < q + N_lp30) → kx E (rk 4 0) G 3 0 0 (kwW E K b y o n ls bc tk hk P Wt Tv Sw Aw Vw He Fk Pk) [(0, .ref (K 0)), (1, .int (nI (m1))), (2, .int (nI (q)))] 30 [] := by
            intro N_lp30
            induction N_lp30 with
            | zero =>
              intro q Aw Vw h0_lp30 h1_lp30 h2_lp30 h3_lp30 h4_lp30 h5_lp30 hm_lp30
              exact absurd hm_lp30 (by omega)
            | succ N_lp30 ih_lp30 =>
              intro q Aw Vw h0_lp30 h1_lp30 h2_lp30 h3_lp30 h4_lp30 h5_lp30 hm_lp30
              refine kx_iload_n C dX0_knowTails_30 rfl 2 rfl ?_
              refine kx_bipush (v := nI 24) C dX0_knowTails_31 (by decide +kernel) ?_
              refine kx_icmp_ge (tgt := 48) C (by omega) (by omega) dX0_knowTails_33 (by decide) (fun c10 => ?_) (fun c10 => ?_)
              · skip
                obtain rfl : 24 = q := by omega
                refine kx_iinc (v := (nI (m1)) - (nI (1))) (lv2 := [(1, .int ((nI (m1)) - (nI (1)))), (0, .ref (K 0)), (2, .int (nI (24)))]) C dX0_knowTails_48 1 rfl (kID _) (by decide) rfl ?_
                refine kx_goto (tgt := 19) C dX0_knowTails_51 (by decide) ?_
                refine kx_lv (lv2 := [(0, .ref (K 0)), (1, .int ((nI (m1)) - (nI (1))))]) [1, 0] rfl ?_
                refine kx_eqw (ws2 := (kwW E K b y o n ls bc tk hk P Wt Tv Sw Aw Vw He Fk Pk)) rfl ?_
                exact ih_lp19 m1 Sw Aw Vw (by omega) (h1_lp30.row hS1 (fun k hk => ⟨h2_lp30 k hk, h3_lp30 k hk⟩)) h4_lp30 h5_lp30 (by omega)
              · skip
                refine kx_aload_n C dX0_knowTails_36 rfl 0 rfl ?_
                refine kx_iload_n C dX0_knowTails_37 rfl 1 rfl ?_
                refine kx_iload_n C dX0_knowTails_38 rfl 2 rfl ?_
                refine kx_callVv (rest := []) (wr := []) C (c_fillTail E K b y o n ls bc tk hk P Wt Tv Sw Aw Vw He Fk Pk m1 q (by omega) H1 (by omega) hTl (fun j _ => h4_lp30 _) (fun j _ => h5_lp30 _)) g0_191 2 rfl (by decide +kernel) ⟨Nat.le_of_ble_eq_true rfl, Nat.le_of_ble_eq_true rfl⟩ ⟨Nat.le_of_ble_eq_true rfl, Nat.le_of_ble_eq_true rfl⟩ [0, 1, 2, 3, 4, 5, 6, 7, 8, 9] [] rfl rfl (by decide) (by decide) (by decide) 0 rfl rfl rfl (Nat.le_of_ble_eq_true rfl) dX0_knowTails_39 (fun w q11 => ?_)
                obtain rfl := q11
                obtain ⟨t1, t2⟩ := tail_val hTv (sl := m1) (k := q) (by omega) (by omega) (hS1 q (by omega)) h1_lp30
                refine kx_eqw (ws2 := (kwW E K b y o n ls bc tk hk P Wt Tv Sw (va_up Aw (m1 * 24 + q) (tlS n b y o P Wt m1 q)) (va_up Vw (m1 * 24 + q) (wyS n b y o P Wt m1 q)) He Fk Pk)) (by rw [← t1, ← t2]; rfl) ?_
                refine kx_iinc (v := nI (q + 1)) (lv2 := [(2, .int (nI (q + 1))), (0, .ref (K 0)), (1, .int (nI (m1)))]) C dX0_knowTails_42 2 rfl (kI1 _) (by decide) rfl ?_
                refine kx_goto (tgt := 30) C dX0_knowTails_45 (by decide) ?_
                refine kx_lv (lv2 := [(0, .ref (K 0)), (1, .int (nI (m1))), (2, .int (nI (q + 1)))]) [1, 2, 0] rfl ?_
                refine kx_eqw (ws2 := (kwW E K b y o n ls bc tk hk P Wt Tv Sw (va_up Aw (m1 * 24 + q) (tlS n b y o P Wt m1 q)) (va_up Vw (m1 * 24 + q) (wyS n b y o P Wt m1 q)) He Fk Pk)) rfl ?_
                exact ih_lp30 (q + 1) (va_up Aw (m1 * 24 + q) (tlS n b y o P Wt m1 q)) (va_up Vw (m1 * 24 + q) (wyS n b y o P Wt m1 q)) (by omega) (h1_lp30.put (by omega)) (kRowS h2_lp30 rfl) (kRowS h3_lp30 rfl) (up_le h4_lp30 (tlS_le H1 HP HW Hb Hy Ho (by omega) q)) (up_le h5_lp30 (wyS_le _ _ _ _ _ _ _ _)) (by omega)
          refine kx_iconst (v := nI 0) C dX0_knowTails_28 (by decide +kernel) ?_
          refine kx_istore_n (lv2 := [(2, .int (nI (0))), (0, .ref (K 0)), (1, .int (nI (m1)))]) C dX0_knowTails_29 rfl (by decide) rfl ?_
          refine kx_lv (lv2 := [(0, .ref (K 0)), (1, .int (nI (m1))), (2, .int (nI (0)))]) [1, 2, 0] rfl ?_
          refine kx_eqw (ws2 := (kwW E K b y o n ls bc tk hk P Wt Tv Sw Av Vv He Fk Pk)) rfl ?_
          exact lp30 25 0 Av Vv (by omega) hR1 (fun k hk => absurd hk (by omega)) (fun k hk => absurd hk (by omega)) h2_lp19 h3_lp19 (by omega)
    refine kx_aload_n C dX0_knowTails_12 rfl 0 rfl ?_
    refine kx_get (v := .int (nI (n))) (ci := 0) C kin0 0 rfl rfl 5 (by decide) fl0_41 rfl rfl dX0_knowTails_13 ?_
    refine kx_iconst (v := nI 1) C dX0_knowTails_16 (by decide +kernel) ?_
    refine kx_isubR C dX0_knowTails_17 ?_
    refine kx_istore_n (lv2 := [(1, .int ((nI (n)) - (nI (1)))), (0, .ref (K 0))]) C dX0_knowTails_18 rfl (by decide) rfl ?_
    refine kx_lv (lv2 := [(0, .ref (K 0)), (1, .int ((nI (n)) - (nI (1))))]) [1, 0] rfl ?_
    refine kx_eqw (ws2 := (kwW E K b y o n ls bc tk hk P Wt Tv Sc Ta Wa He Fk Pk)) rfl ?_
    exact lp19 41 n Sc Ta Wa (Nat.le_refl _) (fun s h1 h2 => absurd h2 (by omega)) HTa HWa (by omega)
  · skip
    have tk1 : tk = 1 := by omega
    exact hE (Nat.le_of_ble_eq_true rfl) (Nat.le_of_ble_eq_true rfl) dX0_knowTails_7 ⟨ls, bc, Tu, Sc, Ta, Wa, Fk, by rw [← tk1]; exact HO, by rw [← tk1]⟩
end
section
theorem head0 {P Wt Sv : Nat → Nat} {b y o s q : Nat} (hs : s = 0) (hS : Sv (s * 24 + q) = costN P Wt s q) : Sv (s * 24 + q) + 0 = hdN (costN P Wt) (turnN b y o) s q := by
  subst hs
  rw [hS]
  rfl
theorem head1 {P Wt Sv Hv Tv : Nat → Nat} {b y o s q : Nat} (hs : s ≠ 0) (hq : q < 24) (hS : Sv (s * 24 + q) = costN P Wt s q) (hT : kTuOk b y o Tv) (hH : ∀ k, k < 24 → Hv ((s - 1) * 24 + k) = hdN (costN P Wt) (turnN b y o) (s - 1) k) : Sv (s * 24 + q) + minN (fun fr => Hv ((s - 1) * 24 + fr) + Tv (fr * 24 + q)) kBIG 24 = hdN (costN P Wt) (turnN b y o) s q := by
  obtain ⟨z, rfl⟩ : ∃ z, s = z + 1 := ⟨s - 1, by omega⟩
  rw [hdN, hS]
  refine congrArg (costN P Wt (z + 1) q + ·) (minN_congr fun fr hf => ?_)
  rw [hH fr hf, hT.at hf hq]
  rfl
theorem kHd_le {n b y o : Nat} {P Wt : Nat → Nat} (hn : n ≤ 40) (hP : ∀ j, P j ≤ 99) (hW : ∀ j, Wt j ≤ 200) (hb : b ≤ 1000) (hy : y ≤ 1000) (ho : o ≤ 1000) {s : Nat} (hs : s < n) (k : Nat) : hdN (costN P Wt) (turnN b y o) s k ≤ 10000000 := by
  have h := hdN_le (costN_le hP hW) (turnN_le hb hy ho) s k
  have h2 : (s + 1) * 245600 ≤ 40 * 245600 := Nat.mul_le_mul_right _ (by omega)
  omega
theorem kHeadS {Hv Q : Nat → Nat} {s q v : Nat} (h : ∀ z, z < s → ∀ k, k < 24 → Hv (z * 24 + k) = Q (z * 24 + k)) (hq : q < 24) : ∀ z, z < s → ∀ k, k < 24 → va_up Hv (s * 24 + q) v (z * 24 + k) = Q (z * 24 + k) := by
  intro z hz k hk
  rw [va_up_ne _ _ (by omega)]
  exact h z hz k hk

theorem kHeadT {b y o : Nat} {P Wt Hv : Nat → Nat} {s q v : Nat} (h : ∀ z, z < s → ∀ k, k < 24 → Hv (z * 24 + k) = hdN (costN P Wt) (turnN b y o) z k) (hq : q < 24) : ∀ z, z < s → ∀ k, k < 24 → va_up Hv (s * 24 + q) v (z * 24 + k) = hdN (costN P Wt) (turnN b y o) z k := by
  intro z hz k hk
  rw [va_up_ne _ _ (by omega)]
  exact h z hz k hk
theorem kHeadR {b y o : Nat} {P Wt Hv : Nat → Nat} {s : Nat} (h : ∀ z, z < s → ∀ k, k < 24 → Hv (z * 24 + k) = hdN (costN P Wt) (turnN b y o) z k) (h2 : ∀ k, k < 24 → Hv (s * 24 + k) = hdN (costN P Wt) (turnN b y o) s k) : ∀ z, z < s + 1 → ∀ k, k < 24 → Hv (z * 24 + k) = hdN (costN P Wt) (turnN b y o) z k := by
  intro z hz k hk
  by_cases e : z = s
  · subst e; exact h2 k hk
  · exact h z (by omega) k hk

set_option maxHeartbeats 4000000 in
set_option maxRecDepth 100000 in
theorem c_knowHeads (E : KE) (K : Nat → Nat) (b y o n ls bc tk hk : Nat) (P Wt Tu Sc Ta Wa He Fk Pk : Nat → Nat) (HO : kOk b y o n ls bc tk hk P Wt Tu Sc Ta Wa He Fk Pk) : kMv E yX0_knowHeads cX0_knowHeads 4 (rk 5 0) [.ref (K 0)] (kwW E K b y o n ls bc tk hk P Wt Tu Sc Ta Wa He Fk Pk) (fun w => ∃ (ls2 bc2 : Nat) (Tv Sv Av Vv Fv Hv : Nat → Nat), kOk b y o n ls2 bc2 1 1 P Wt Tv Sv Av Vv Hv Fv Pk ∧ w = (kwW E K b y o n ls2 bc2 1 1 P Wt Tv Sv Av Vv Hv Fv Pk)) := by
  refine kMv_of (cc := cX0_knowHeads) (maxL := 4) (by decide) (Nat.le_of_ble_eq_true rfl) ?_
  intro G C hE
  obtain ⟨H1, HP, HW, Hb, Hy, Ho, Htk, Hhk, Hls, HTa, HWa, HHe, HFk, HPk, HK, HH⟩ := id HO
  refine kx_aload_n C dX0_knowHeads_0 rfl 0 rfl ?_
  refine kx_callVv (rest := []) (wr := []) C (c_knowTails E K b y o n ls bc tk hk P Wt Tu Sc Ta Wa He Fk Pk HO) g0_90 0 rfl (by decide +kernel) ⟨Nat.le_of_ble_eq_true rfl, Nat.le_of_ble_eq_true rfl⟩ ⟨Nat.le_of_ble_eq_true rfl, Nat.le_of_ble_eq_true rfl⟩ [0, 1, 2, 3, 4, 5, 6, 7, 8, 9] [] rfl rfl (by decide) (by decide) (by decide) 0 rfl rfl rfl (Nat.le_of_ble_eq_true rfl) dX0_knowHeads_1 (fun w q1 => ?_)
  obtain ⟨ls2, bc2, Tv, Sv, Av, Vv, Fv, HO2, rfl⟩ := q1
  refine kx_eqw (ws2 := (kwW E K b y o n ls2 bc2 1 hk P Wt Tv Sv Av Vv He Fv Pk)) rfl ?_
  obtain ⟨G1, GP, GW, Gb, Gy, Go, Gtk, Ghk, Gls, GTa, GWa, GHe, GFk, GPk, GK, GH⟩ := id HO2
  obtain ⟨GT, GR, G0, Gn, GF⟩ := GK (by decide)
  have lp14 : ∀ (N_lp14 : Nat) (s : Nat) (Hv : Nat → Nat), (s ≤ n) → (∀ z, z < s → ∀ k, k < 24 → Hv (z * 24 + k) = hdN (costN P Wt) (turnN b y o) z k) → (∀ j, Hv j ≤ 10000000) → (n < s + N_lp14) → kx E (rk 5 0) G 4 0 0 (kwW E K b y o n ls2 bc2 1 hk P Wt Tv Sv Av Vv Hv Fv Pk) [(0, .ref (K 0)), (1, .int (nI (s)))] 14 [] := by
    intro N_lp14
    induction N_lp14 with
    | zero =>
      intro s Hv h0_lp14 h1_lp14 h2_lp14 hm_lp14
      exact absurd hm_lp14 (by omega)
    | succ N_lp14 ih_lp14 =>
      intro s Hv h0_lp14 h1_lp14 h2_lp14 hm_lp14
      have lp24 : ∀ (N_lp24 : Nat) (q : Nat) (Hv : Nat → Nat), (q ≤ 24) → (∀ z, z < s → ∀ k, k < 24 → Hv (z * 24 + k) = hdN (costN P Wt) (turnN b y o) z k) → (∀ k, k < q → Hv (s * 24 + k) = hdN (costN P Wt) (turnN b y o) s k) → (∀ j, Hv j ≤ 10000000) → (s < n) → (24 < q + N_lp24) → kx E (rk 5 0) G 4 0 0 (kwW E K b y o n ls2 bc2 1 hk P Wt Tv Sv Av Vv Hv Fv Pk) [(0, .ref (K 0)), (1, .int (nI (s))), (2, .int (nI (q)))] 24 [] := by
        intro N_lp24
        induction N_lp24 with
        | zero =>
          intro q Hv h0_lp24 h1_lp24 h2_lp24 h3_lp24 h4_lp24 hm_lp24
          exact absurd hm_lp24 (by omega)
        | succ N_lp24 ih_lp24 =>
          intro q Hv h0_lp24 h1_lp24 h2_lp24 h3_lp24 h4_lp24 hm_lp24
          refine kx_iload_n C dX0_knowHeads_24 rfl 2 rfl ?_
          refine kx_bipush (v := nI 24) C dX0_knowHeads_25 (by decide +kernel) ?_
          refine kx_icmp_ge (tgt := 70) C (by omega) (by omega) dX0_knowHeads_27 (by decide) (fun c2 => ?_) (fun c2 => ?_)
          · skip
            obtain rfl : 24 = q := by omega
            refine kx_iinc (v := nI (s + 1)) (lv2 := [(1, .int (nI (s + 1))), (0, .ref (K 0)), (2, .int (nI (24)))]) C dX0_knowHeads_70 1 rfl (kI1 _) (by decide) rfl ?_
            refine kx_goto (tgt := 14) C dX0_knowHeads_73 (by decide) ?_
            refine kx_lv (lv2 := [(0, .ref (K 0)), (1, .int (nI (s + 1)))]) [1, 0] rfl ?_
            refine kx_eqw (ws2 := (kwW E K b y o n ls2 bc2 1 hk P Wt Tv Sv Av Vv Hv Fv Pk)) rfl ?_
            exact ih_lp14 (s + 1) Hv (by omega) (kHeadR h1_lp24 h2_lp24) h3_lp24 (by omega)
          · skip
            refine kx_iload_n C dX0_knowHeads_30 rfl 1 rfl ?_
            refine kx_bipush (v := nI 24) C dX0_knowHeads_31 (by decide +kernel) ?_
            refine kx_imul C dX0_knowHeads_33 ?_
            refine kx_iload_n C dX0_knowHeads_34 rfl 2 rfl ?_
            refine kx_iadd C dX0_knowHeads_35 ?_
            refine kx_istore_n (lv2 := [(3, .int (nI (((s) * (24)) + (q)))), (0, .ref (K 0)), (1, .int (nI (s))), (2, .int (nI (q)))]) C dX0_knowHeads_36 rfl (by decide) rfl ?_
            refine kx_aload_n C dX0_knowHeads_37 rfl 1 rfl ?_
            refine kx_get (v := .ref (K 7)) (ci := 0) C kin0 0 rfl rfl 10 (by decide) fl0_29 rfl rfl dX0_knowHeads_38 ?_
            refine kx_iload_n C dX0_knowHeads_41 rfl 0 rfl ?_
            refine kx_aload_n C dX0_knowHeads_42 rfl 1 rfl ?_
            refine kx_get (v := .ref (K 4)) (ci := 0) C kin0 0 rfl rfl 7 (by decide) fl0_19 rfl rfl dX0_knowHeads_43 ?_
            refine kx_iload_n C dX0_knowHeads_46 rfl 0 rfl ?_
            refine kx_iald C 4 rfl (j := ((s) * (24)) + (q)) (by omega) (by decide) dX0_knowHeads_47 ?_
            refine kx_iload_n C dX0_knowHeads_48 rfl 2 rfl ?_
            refine kx_if_ne (tgt := 56) C (by omega) dX0_knowHeads_49 (by decide) (fun c3 => ?_) (fun c3 => ?_)
            · skip
              have hs0 : s ≠ 0 := c3
              refine kx_aload_n C dX0_knowHeads_56 rfl 1 rfl ?_
              refine kx_iload_n C dX0_knowHeads_57 rfl 2 rfl ?_
              refine kx_iload_n C dX0_knowHeads_58 rfl 3 rfl ?_
              refine kx_callVi (rest := [.int (nI (Sv (((s) * (24)) + (q)))), .int (nI (((s) * (24)) + (q))), .ref (K 7)]) (wr := []) C (c_leastInto E K b y o n ls2 bc2 1 hk P Wt Tv Sv Av Vv Hv Fv Pk s q (by omega) (by omega) (by omega) (GT.le Gb Gy Go) (fun j _ => h3_lp24 _)) g0_211 2 rfl (by decide +kernel) ⟨Nat.le_of_ble_eq_true rfl, Nat.le_of_ble_eq_true rfl⟩ ⟨Nat.le_of_ble_eq_true rfl, Nat.le_of_ble_eq_true rfl⟩ [0, 1, 2, 3, 4, 5, 6, 7, 8, 9] [] rfl rfl (by decide) (by decide) (by decide) 0 rfl rfl rfl (Nat.le_of_ble_eq_true rfl) dX0_knowHeads_59 (fun v w q4 => ?_)
              obtain ⟨rfl, rfl⟩ := q4
              refine kx_eqw (ws2 := (kwW E K b y o n ls2 bc2 1 hk P Wt Tv Sv Av Vv Hv Fv Pk)) rfl ?_
              refine kx_iadd C dX0_knowHeads_62 ?_
              refine kx_topn (b := hdN (costN P Wt) (turnN b y o) s q) (head1 hs0 (by omega) (GR s (Nat.zero_le _) (by omega) q (by omega)).1 GT (fun k hk => h1_lp24 (s - 1) (by omega) k hk)) ?_
              refine kx_iast (ws2 := (kwW E K b y o n ls2 bc2 1 hk P Wt Tv Sv Av Vv (va_up Hv (((s) * (24)) + (q)) (hdN (costN P Wt) (turnN b y o) s q)) Fv Pk)) C 7 rfl (j := ((s) * (24)) + (q)) (v := hdN (costN P Wt) (turnN b y o) s q) (by omega) (by decide) rfl dX0_knowHeads_63 ?_
              refine kx_iinc (v := nI (q + 1)) (lv2 := [(2, .int (nI (q + 1))), (3, .int (nI (((s) * (24)) + (q)))), (0, .ref (K 0)), (1, .int (nI (s)))]) C dX0_knowHeads_64 3 rfl (kI1 _) (by decide) rfl ?_
              refine kx_goto (tgt := 24) C dX0_knowHeads_67 (by decide) ?_
              refine kx_lv (lv2 := [(0, .ref (K 0)), (1, .int (nI (s))), (2, .int (nI (q + 1)))]) [2, 3, 0] rfl ?_
              refine kx_eqw (ws2 := (kwW E K b y o n ls2 bc2 1 hk P Wt Tv Sv Av Vv (va_up Hv (((s) * (24)) + (q)) (hdN (costN P Wt) (turnN b y o) s q)) Fv Pk)) rfl ?_
              exact ih_lp24 (q + 1) (va_up Hv (((s) * (24)) + (q)) (hdN (costN P Wt) (turnN b y o) s q)) (by omega) (kHeadT h1_lp24 (by omega)) (kRowS h2_lp24 rfl) (up_le h3_lp24 (kHd_le G1 GP GW Gb Gy Go h4_lp24 q)) h4_lp24 (by omega)
            · skip
              have hs0 : s = 0 := c3
              refine kx_iconst (v := nI 0) C dX0_knowHeads_52 (by decide +kernel) ?_
              refine kx_goto (tgt := 62) C dX0_knowHeads_53 (by decide) ?_
              refine kx_iadd C dX0_knowHeads_62 ?_
              refine kx_topn (b := hdN (costN P Wt) (turnN b y o) s q) (head0 hs0 (GR s (Nat.zero_le _) (by omega) q (by omega)).1) ?_
              refine kx_iast (ws2 := (kwW E K b y o n ls2 bc2 1 hk P Wt Tv Sv Av Vv (va_up Hv (((s) * (24)) + (q)) (hdN (costN P Wt) (turnN b y o) s q)) Fv Pk)) C 7 rfl (j := ((s) * (24)) + (q)) (v := hdN (costN P Wt) (turnN b y o) s q) (by omega) (by decide) rfl dX0_knowHeads_63 ?_
              refine kx_iinc (v := nI (q + 1)) (lv2 := [(2, .int (nI (q + 1))), (3, .int (nI (((s) * (24)) + (q)))), (0, .ref (K 0)), (1, .int (nI (s)))]) C dX0_knowHeads_64 3 rfl (kI1 _) (by decide) rfl ?_
              refine kx_goto (tgt := 24) C dX0_knowHeads_67 (by decide) ?_
              refine kx_lv (lv2 := [(0, .ref (K 0)), (1, .int (nI (s))), (2, .int (nI (q + 1)))]) [2, 3, 0] rfl ?_
              refine kx_eqw (ws2 := (kwW E K b y o n ls2 bc2 1 hk P Wt Tv Sv Av Vv (va_up Hv (((s) * (24)) + (q)) (hdN (costN P Wt) (turnN b y o) s q)) Fv Pk)) rfl ?_
              exact ih_lp24 (q + 1) (va_up Hv (((s) * (24)) + (q)) (hdN (costN P Wt) (turnN b y o) s q)) (by omega) (kHeadT h1_lp24 (by omega)) (kRowS h2_lp24 rfl) (up_le h3_lp24 (kHd_le G1 GP GW Gb Gy Go h4_lp24 q)) h4_lp24 (by omega)
      refine kx_iload_n C dX0_knowHeads_14 rfl 1 rfl ?_
      refine kx_aload_n C dX0_knowHeads_15 rfl 0 rfl ?_
      refine kx_get (v := .int (nI (n))) (ci := 0) C kin0 0 rfl rfl 5 (by decide) fl0_41 rfl rfl dX0_knowHeads_16 ?_
      refine kx_icmp_ge (tgt := 76) C (by omega) (by omega) dX0_knowHeads_19 (by decide) (fun c5 => ?_) (fun c5 => ?_)
      · skip
        obtain rfl : n = s := by omega
        refine kx_aload_n C dX0_knowHeads_76 rfl 0 rfl ?_
        refine kx_iconst (v := nI 1) C dX0_knowHeads_77 (by decide +kernel) ?_
        refine kx_put (ws2 := (kwW E K b y o n ls2 bc2 1 1 P Wt Tv Sv Av Vv Hv Fv Pk)) (ci := 0) C kin0 tyX0_ok nmX0 0 rfl rfl 16 (by decide) fl0_160 rfl rfl (by decide +kernel) (by decide +kernel) (Nat.le_of_ble_eq_true rfl) rfl dX0_knowHeads_78 ?_
        exact hE (Nat.le_of_ble_eq_true rfl) (Nat.le_of_ble_eq_true rfl) dX0_knowHeads_81 ⟨ls2, bc2, Tv, Sv, Av, Vv, Fv, Hv, ⟨G1, GP, GW, Gb, Gy, Go, Gtk, Nat.le_refl _, Gls, GTa, GWa, h2_lp14, GFk, GPk, GK, fun _ => ⟨by decide, fun z hz k hk => h1_lp14 z (by omega) k hk⟩⟩, rfl⟩
      · skip
        refine kx_iconst (v := nI 0) C dX0_knowHeads_22 (by decide +kernel) ?_
        refine kx_istore_n (lv2 := [(2, .int (nI (0))), (0, .ref (K 0)), (1, .int (nI (s)))]) C dX0_knowHeads_23 rfl (by decide) rfl ?_
        refine kx_lv (lv2 := [(0, .ref (K 0)), (1, .int (nI (s))), (2, .int (nI (0)))]) [1, 2, 0] rfl ?_
        refine kx_eqw (ws2 := (kwW E K b y o n ls2 bc2 1 hk P Wt Tv Sv Av Vv Hv Fv Pk)) rfl ?_
        exact lp24 25 0 Hv (by omega) h1_lp14 (fun k hk => absurd hk (by omega)) h2_lp14 (by omega) (by omega)
  refine kx_aload_n C dX0_knowHeads_4 rfl 0 rfl ?_
  refine kx_get (v := .int (nI (hk))) (ci := 0) C kin0 0 rfl rfl 16 (by decide) fl0_160 rfl rfl dX0_knowHeads_5 ?_
  refine kx_if_eq (tgt := 12) C (by omega) dX0_knowHeads_8 (by decide) (fun c6 => ?_) (fun c6 => ?_)
  · skip
    refine kx_iconst (v := nI 0) C dX0_knowHeads_12 (by decide +kernel) ?_
    refine kx_istore_n (lv2 := [(1, .int (nI (0))), (0, .ref (K 0))]) C dX0_knowHeads_13 rfl (by decide) rfl ?_
    refine kx_lv (lv2 := [(0, .ref (K 0)), (1, .int (nI (0)))]) [1, 0] rfl ?_
    refine kx_eqw (ws2 := (kwW E K b y o n ls2 bc2 1 hk P Wt Tv Sv Av Vv He Fv Pk)) rfl ?_
    exact lp14 42 0 He (by omega) (fun z hz => absurd hz (by omega)) GHe (by omega)
  · skip
    have hk1 : hk = 1 := by omega
    exact hE (Nat.le_of_ble_eq_true rfl) (Nat.le_of_ble_eq_true rfl) dX0_knowHeads_11 ⟨ls2, bc2, Tv, Sv, Av, Vv, Fv, He, by subst hk1; exact HO2, by subst hk1; rfl⟩

set_option maxHeartbeats 4000000 in
set_option maxRecDepth 100000 in
theorem c_nextCost (E : KE) (K : Nat → Nat) (b y o n ls bc tk hk : Nat) (P Wt Tu Sc Ta Wa He Fk Pk : Nat → Nat) (sl : Nat) (H0 : sl < 40) (HTa : ∀ j, Ta j ≤ 10000000) (HHe : ∀ j, He j ≤ 10000000) (HFk : ∀ j, Fk j ≤ 24) (HST : ∀ k, k < 24 → Sc (sl * 24 + k) ≤ He (sl * 24 + k) + Ta (sl * 24 + k)) : kMi E yX0_nextCost cX0_nextCost 4 (rk 1 0) [.ref (K 0), .int (nI (sl))] (kwW E K b y o n ls bc tk hk P Wt Tu Sc Ta Wa He Fk Pk) (fun r w => r = nI (minN (fun k => if k = Fk sl then kBIG else He (sl * 24 + k) + Ta (sl * 24 + k) - Sc (sl * 24 + k)) kBIG 24) ∧ w = (kwW E K b y o n ls bc tk hk P Wt Tu Sc Ta Wa He Fk Pk)) := by
  refine kMi_of (cc := cX0_nextCost) (maxL := 4) (by decide) (Nat.le_of_ble_eq_true rfl) ?_
  intro G C hE
  have lp5 : ∀ (N_lp5 : Nat) (i : Nat), (i ≤ 24) → (24 < i + N_lp5) → kx E (rk 1 0) G 4 0 0 (kwW E K b y o n ls bc tk hk P Wt Tu Sc Ta Wa He Fk Pk) [(0, .ref (K 0)), (1, .int (nI (sl))), (2, .int (nI (minN (fun k => if k = Fk sl then kBIG else He (sl * 24 + k) + Ta (sl * 24 + k) - Sc (sl * 24 + k)) kBIG i))), (3, .int (nI (i)))] 5 [] := by
    intro N_lp5
    induction N_lp5 with
    | zero =>
      intro i h0_lp5 hm_lp5
      exact absurd hm_lp5 (by omega)
    | succ N_lp5 ih_lp5 =>
      intro i h0_lp5 hm_lp5
      refine kx_iload_n C dX0_nextCost_5 rfl 3 rfl ?_
      refine kx_bipush (v := nI 24) C dX0_nextCost_6 (by decide +kernel) ?_
      refine kx_icmp_ge (tgt := 38) C (by omega) (by omega) dX0_nextCost_8 (by decide) (fun c1 => ?_) (fun c1 => ?_)
      · skip
        obtain rfl : 24 = i := by omega
        refine kx_iload_n C dX0_nextCost_38 rfl 2 rfl ?_
        exact hE (Nat.le_of_ble_eq_true rfl) (Nat.le_of_ble_eq_true rfl) dX0_nextCost_39 ⟨rfl, rfl⟩
      · skip
        refine kx_iload_n C dX0_nextCost_11 rfl 3 rfl ?_
        refine kx_aload_n C dX0_nextCost_12 rfl 0 rfl ?_
        refine kx_get (v := .ref (K 8)) (ci := 0) C kin0 0 rfl rfl 11 (by decide) fl0_32 rfl rfl dX0_nextCost_13 ?_
        refine kx_iload_n C dX0_nextCost_16 rfl 1 rfl ?_
        refine kx_iald C 8 rfl (j := sl) (by omega) (by decide) dX0_nextCost_17 ?_
        refine kx_icmp_eq (tgt := 32) C (by omega) (by have := HFk sl; omega) dX0_nextCost_18 (by decide) (fun c2 => ?_) (fun c2 => ?_)
        · skip
          refine kx_iinc (v := nI (i + 1)) (lv2 := [(3, .int (nI (i + 1))), (0, .ref (K 0)), (1, .int (nI (sl))), (2, .int (nI (minN (fun k => if k = Fk sl then kBIG else He (sl * 24 + k) + Ta (sl * 24 + k) - Sc (sl * 24 + k)) kBIG i)))]) C dX0_nextCost_32 3 rfl (kI1 _) (by decide) rfl ?_
          refine kx_goto (tgt := 5) C dX0_nextCost_35 (by decide) ?_
          refine kx_lvn (a := minN (fun k => if k = Fk sl then kBIG else He (sl * 24 + k) + Ta (sl * 24 + k) - Sc (sl * 24 + k)) kBIG i) (b := minN (fun k => if k = Fk sl then kBIG else He (sl * 24 + k) + Ta (sl * 24 + k) - Sc (sl * 24 + k)) kBIG (i + 1)) (lv2 := [(3, .int (nI (i + 1))), (0, .ref (K 0)), (1, .int (nI (sl))), (2, .int (nI (minN (fun k => if k = Fk sl then kBIG else He (sl * 24 + k) + Ta (sl * 24 + k) - Sc (sl * 24 + k)) kBIG (i + 1))))]) (by simp only [minN]; rw [if_pos c2]; exact (Nat.min_eq_left (minN_leM i)).symm) 3 rfl rfl ?_
          refine kx_lv (lv2 := [(0, .ref (K 0)), (1, .int (nI (sl))), (2, .int (nI (minN (fun k => if k = Fk sl then kBIG else He (sl * 24 + k) + Ta (sl * 24 + k) - Sc (sl * 24 + k)) kBIG (i + 1)))), (3, .int (nI (i + 1)))]) [1, 2, 3, 0] rfl ?_
          refine kx_eqw (ws2 := (kwW E K b y o n ls bc tk hk P Wt Tu Sc Ta Wa He Fk Pk)) rfl ?_
          exact ih_lp5 (i + 1) (by omega) (by omega)
        · skip
          refine kx_iload_n C dX0_nextCost_21 rfl 2 rfl ?_
          refine kx_aload_n C dX0_nextCost_22 rfl 0 rfl ?_
          refine kx_iload_n C dX0_nextCost_23 rfl 1 rfl ?_
          refine kx_iload_n C dX0_nextCost_24 rfl 3 rfl ?_
          refine kx_callVi (rest := [.int (nI (minN (fun k => if k = Fk sl then kBIG else He (sl * 24 + k) + Ta (sl * 24 + k) - Sc (sl * 24 + k)) kBIG i))]) (wr := []) C (c_leastThrough E K b y o n ls bc tk hk P Wt Tu Sc Ta Wa He Fk Pk sl i H0 (by omega) (HST i (by omega))) g0_114 2 rfl (by decide +kernel) ⟨Nat.le_of_ble_eq_true rfl, Nat.le_of_ble_eq_true rfl⟩ ⟨Nat.le_of_ble_eq_true rfl, Nat.le_of_ble_eq_true rfl⟩ [0, 1, 2, 3, 4, 5, 6, 7, 8, 9] [] rfl rfl (by decide) (by decide) (by decide) 0 rfl rfl rfl (Nat.le_of_ble_eq_true rfl) dX0_nextCost_25 (fun v w q3 => ?_)
          obtain ⟨rfl, rfl⟩ := q3
          refine kx_eqw (ws2 := (kwW E K b y o n ls bc tk hk P Wt Tu Sc Ta Wa He Fk Pk)) rfl ?_
          refine kx_mmin C (minN_lt31 (fun k => if k = Fk sl then kBIG else He (sl * 24 + k) + Ta (sl * 24 + k) - Sc (sl * 24 + k)) i) (by have := HHe (sl * 24 + i); have := HTa (sl * 24 + i); omega) m0_182 m_mmins m_math m_mminc (Nat.le_of_ble_eq_true rfl) (Nat.le_of_ble_eq_true rfl) (Nat.le_of_ble_eq_true rfl) (Nat.le_of_ble_eq_true rfl) dX0_nextCost_28 ?_
          refine kx_istore_n (lv2 := [(2, .int (nI (min (minN (fun k => if k = Fk sl then kBIG else He (sl * 24 + k) + Ta (sl * 24 + k) - Sc (sl * 24 + k)) kBIG i) (He (sl * 24 + i) + Ta (sl * 24 + i) - Sc (sl * 24 + i))))), (0, .ref (K 0)), (1, .int (nI (sl))), (3, .int (nI (i)))]) C dX0_nextCost_31 rfl (by decide) rfl ?_
          refine kx_iinc (v := nI (i + 1)) (lv2 := [(3, .int (nI (i + 1))), (2, .int (nI (min (minN (fun k => if k = Fk sl then kBIG else He (sl * 24 + k) + Ta (sl * 24 + k) - Sc (sl * 24 + k)) kBIG i) (He (sl * 24 + i) + Ta (sl * 24 + i) - Sc (sl * 24 + i))))), (0, .ref (K 0)), (1, .int (nI (sl)))]) C dX0_nextCost_32 3 rfl (kI1 _) (by decide) rfl ?_
          refine kx_goto (tgt := 5) C dX0_nextCost_35 (by decide) ?_
          refine kx_lvn (a := min (minN (fun k => if k = Fk sl then kBIG else He (sl * 24 + k) + Ta (sl * 24 + k) - Sc (sl * 24 + k)) kBIG i) (He (sl * 24 + i) + Ta (sl * 24 + i) - Sc (sl * 24 + i))) (b := minN (fun k => if k = Fk sl then kBIG else He (sl * 24 + k) + Ta (sl * 24 + k) - Sc (sl * 24 + k)) kBIG (i + 1)) (lv2 := [(3, .int (nI (i + 1))), (2, .int (nI (minN (fun k => if k = Fk sl then kBIG else He (sl * 24 + k) + Ta (sl * 24 + k) - Sc (sl * 24 + k)) kBIG (i + 1)))), (0, .ref (K 0)), (1, .int (nI (sl)))]) (by simp only [minN]; rw [if_neg c2]) 1 rfl rfl ?_
          refine kx_lv (lv2 := [(0, .ref (K 0)), (1, .int (nI (sl))), (2, .int (nI (minN (fun k => if k = Fk sl then kBIG else He (sl * 24 + k) + Ta (sl * 24 + k) - Sc (sl * 24 + k)) kBIG (i + 1)))), (3, .int (nI (i + 1)))]) [2, 3, 1, 0] rfl ?_
          refine kx_eqw (ws2 := (kwW E K b y o n ls bc tk hk P Wt Tu Sc Ta Wa He Fk Pk)) rfl ?_
          exact ih_lp5 (i + 1) (by omega) (by omega)
  refine kx_ldc (v := nI 1000000000) C kc0_198 dX0_nextCost_0 ?_
  refine kx_istore_n (lv2 := [(2, .int (nI (1000000000))), (0, .ref (K 0)), (1, .int (nI (sl)))]) C dX0_nextCost_2 rfl (by decide) rfl ?_
  refine kx_iconst (v := nI 0) C dX0_nextCost_3 (by decide +kernel) ?_
  refine kx_istore_n (lv2 := [(3, .int (nI (0))), (2, .int (nI (1000000000))), (0, .ref (K 0)), (1, .int (nI (sl)))]) C dX0_nextCost_4 rfl (by decide) rfl ?_
  refine kx_lv (lv2 := [(0, .ref (K 0)), (1, .int (nI (sl))), (2, .int (nI (minN (fun k => if k = Fk sl then kBIG else He (sl * 24 + k) + Ta (sl * 24 + k) - Sc (sl * 24 + k)) kBIG 0))), (3, .int (nI (0)))]) [2, 3, 1, 0] rfl ?_
  refine kx_eqw (ws2 := (kwW E K b y o n ls bc tk hk P Wt Tu Sc Ta Wa He Fk Pk)) rfl ?_
  exact lp5 25 0 (by omega) (by omega)

def chN (F : Nat → Nat) : Nat → Nat
  | 0 => 0
  | m + 1 => chN F m + (if m = 0 then 0 else if F m = F (m - 1) then 0 else 1)
theorem chN_le (F : Nat → Nat) : ∀ m, chN F m ≤ m
  | 0 => Nat.le_refl _
  | m + 1 => by
    have := chN_le F m
    simp only [chN]
    split
    · omega
    · split <;> omega
theorem chN_end {F : Nat → Nat} {n i : Nat} (h1 : n ≤ i) (h2 : i ≤ n ∨ i = 1) : chN F i = chN F n := by
  by_cases e : i = n
  · rw [e]
  · obtain rfl : n = 0 := by omega
    obtain rfl : i = 1 := by omega
    rfl
theorem chN_at {F : Nat → Nat} {m : Nat} (h : m ≠ 0) : chN F (m + 1) = chN F m + (if F m = F (m - 1) then 0 else 1) := by
  rw [chN, if_neg h]

set_option maxHeartbeats 4000000 in
set_option maxRecDepth 100000 in
theorem c_changesOfFirst (E : KE) (K : Nat → Nat) (b y o n ls bc tk hk : Nat) (P Wt Tu Sc Ta Wa He Fk Pk : Nat → Nat) (HO : kOk b y o n ls bc tk hk P Wt Tu Sc Ta Wa He Fk Pk) : kMi E yX0_changesOfFirst cX0_changesOfFirst 3 (rk 5 0) [.ref (K 0)] (kwW E K b y o n ls bc tk hk P Wt Tu Sc Ta Wa He Fk Pk) (fun r w => ∃ (ls2 bc2 : Nat) (Tv Sv Av Vv Fv : Nat → Nat), r = nI (chN Fv n) ∧ kOk b y o n ls2 bc2 1 hk P Wt Tv Sv Av Vv He Fv Pk ∧ w = (kwW E K b y o n ls2 bc2 1 hk P Wt Tv Sv Av Vv He Fv Pk)) := by
  refine kMi_of (cc := cX0_changesOfFirst) (maxL := 3) (by decide) (Nat.le_of_ble_eq_true rfl) ?_
  intro G C hE
  obtain ⟨H1, HP, HW, Hb, Hy, Ho, Htk, Hhk, Hls, HTa, HWa, HHe, HFk, HPk, HK, HH⟩ := id HO
  refine kx_aload_n C dX0_changesOfFirst_0 rfl 0 rfl ?_
  refine kx_callVv (rest := []) (wr := []) C (c_knowTails E K b y o n ls bc tk hk P Wt Tu Sc Ta Wa He Fk Pk HO) g0_90 0 rfl (by decide +kernel) ⟨Nat.le_of_ble_eq_true rfl, Nat.le_of_ble_eq_true rfl⟩ ⟨Nat.le_of_ble_eq_true rfl, Nat.le_of_ble_eq_true rfl⟩ [0, 1, 2, 3, 4, 5, 6, 7, 8, 9] [] rfl rfl (by decide) (by decide) (by decide) 0 rfl rfl rfl (Nat.le_of_ble_eq_true rfl) dX0_changesOfFirst_1 (fun w q1 => ?_)
  obtain ⟨ls2, bc2, Tv, Sv, Av, Vv, Fv, HO2, rfl⟩ := q1
  refine kx_eqw (ws2 := (kwW E K b y o n ls2 bc2 1 hk P Wt Tv Sv Av Vv He Fv Pk)) rfl ?_
  obtain ⟨G1, GP, GW, Gb, Gy, Go, Gtk, Ghk, Gls, GTa, GWa, GHe, GFk, GPk, GK, GH⟩ := id HO2
  obtain ⟨GT, GR, G0, Gn, GF⟩ := GK (by decide)
  have lp8 : ∀ (N_lp8 : Nat) (i : Nat), (1 ≤ i) → (i ≤ n ∨ i = 1) → (n + 1 < i + N_lp8) → kx E (rk 5 0) G 3 0 0 (kwW E K b y o n ls2 bc2 1 hk P Wt Tv Sv Av Vv He Fv Pk) [(0, .ref (K 0)), (1, .int (nI (chN Fv i))), (2, .int (nI (i)))] 8 [] := by
    intro N_lp8
    induction N_lp8 with
    | zero =>
      intro i h0_lp8 h1_lp8 hm_lp8
      exact absurd hm_lp8 (by omega)
    | succ N_lp8 ih_lp8 =>
      intro i h0_lp8 h1_lp8 hm_lp8
      refine kx_iload_n C dX0_changesOfFirst_8 rfl 2 rfl ?_
      refine kx_aload_n C dX0_changesOfFirst_9 rfl 0 rfl ?_
      refine kx_get (v := .int (nI (n))) (ci := 0) C kin0 0 rfl rfl 5 (by decide) fl0_41 rfl rfl dX0_changesOfFirst_10 ?_
      refine kx_icmp_ge (tgt := 33) C (by omega) (by omega) dX0_changesOfFirst_13 (by decide) (fun c2 => ?_) (fun c2 => ?_)
      · skip
        have hcz : chN Fv i = chN Fv n := chN_end (by omega) (by omega)
        refine kx_iload_n C dX0_changesOfFirst_33 rfl 1 rfl ?_
        exact hE (Nat.le_of_ble_eq_true rfl) (Nat.le_of_ble_eq_true rfl) dX0_changesOfFirst_34 ⟨ls2, bc2, Tv, Sv, Av, Vv, Fv, by rw [hcz], HO2, rfl⟩
      · skip
        refine kx_aload_n C dX0_changesOfFirst_16 rfl 0 rfl ?_
        refine kx_iload_n C dX0_changesOfFirst_17 rfl 2 rfl ?_
        refine kx_callVz (rest := []) (wr := []) C (c_changesAt E K b y o n ls2 bc2 1 hk P Wt Tv Sv Av Vv He Fv Pk i (by omega) (by omega) GFk) g0_128 1 rfl (by decide +kernel) ⟨Nat.le_of_ble_eq_true rfl, Nat.le_of_ble_eq_true rfl⟩ ⟨Nat.le_of_ble_eq_true rfl, Nat.le_of_ble_eq_true rfl⟩ [0, 1, 2, 3, 4, 5, 6, 7, 8, 9] [] rfl rfl (by decide) (by decide) (by decide) 0 rfl rfl rfl (Nat.le_of_ble_eq_true rfl) dX0_changesOfFirst_18 (fun v w q3 => ?_)
        obtain ⟨rfl, rfl⟩ := q3
        refine kx_eqw (ws2 := (kwW E K b y o n ls2 bc2 1 hk P Wt Tv Sv Av Vv He Fv Pk)) rfl ?_
        refine kx_if_eq (tgt := 27) C (by split <;> omega) dX0_changesOfFirst_21 (by decide) (fun c4 => ?_) (fun c4 => ?_)
        · skip
          refine kx_iinc (v := nI (i + 1)) (lv2 := [(2, .int (nI (i + 1))), (0, .ref (K 0)), (1, .int (nI (chN Fv i)))]) C dX0_changesOfFirst_27 2 rfl (kI1 _) (by decide) rfl ?_
          refine kx_goto (tgt := 8) C dX0_changesOfFirst_30 (by decide) ?_
          refine kx_lvn (a := chN Fv i) (b := chN Fv (i + 1)) (lv2 := [(2, .int (nI (i + 1))), (0, .ref (K 0)), (1, .int (nI (chN Fv (i + 1))))]) (by rw [chN_at (by omega)]; split at c4 <;> simp_all) 2 rfl rfl ?_
          refine kx_lv (lv2 := [(0, .ref (K 0)), (1, .int (nI (chN Fv (i + 1)))), (2, .int (nI (i + 1)))]) [1, 2, 0] rfl ?_
          refine kx_eqw (ws2 := (kwW E K b y o n ls2 bc2 1 hk P Wt Tv Sv Av Vv He Fv Pk)) rfl ?_
          exact ih_lp8 (i + 1) (by omega) (by omega) (by omega)
        · skip
          refine kx_iinc (v := nI (chN Fv i + 1)) (lv2 := [(1, .int (nI (chN Fv i + 1))), (0, .ref (K 0)), (2, .int (nI (i)))]) C dX0_changesOfFirst_24 1 rfl (kI1 _) (by decide) rfl ?_
          refine kx_iinc (v := nI (i + 1)) (lv2 := [(2, .int (nI (i + 1))), (1, .int (nI (chN Fv i + 1))), (0, .ref (K 0))]) C dX0_changesOfFirst_27 2 rfl (kI1 _) (by decide) rfl ?_
          refine kx_goto (tgt := 8) C dX0_changesOfFirst_30 (by decide) ?_
          refine kx_lvn (a := chN Fv i + 1) (b := chN Fv (i + 1)) (lv2 := [(2, .int (nI (i + 1))), (1, .int (nI (chN Fv (i + 1)))), (0, .ref (K 0))]) (by rw [chN_at (by omega)]; split at c4 <;> simp_all) 1 rfl rfl ?_
          refine kx_lv (lv2 := [(0, .ref (K 0)), (1, .int (nI (chN Fv (i + 1)))), (2, .int (nI (i + 1)))]) [2, 1, 0] rfl ?_
          refine kx_eqw (ws2 := (kwW E K b y o n ls2 bc2 1 hk P Wt Tv Sv Av Vv He Fv Pk)) rfl ?_
          exact ih_lp8 (i + 1) (by omega) (by omega) (by omega)
  refine kx_iconst (v := nI 0) C dX0_changesOfFirst_4 (by decide +kernel) ?_
  refine kx_istore_n (lv2 := [(1, .int (nI (0))), (0, .ref (K 0))]) C dX0_changesOfFirst_5 rfl (by decide) rfl ?_
  refine kx_iconst (v := nI 1) C dX0_changesOfFirst_6 (by decide +kernel) ?_
  refine kx_istore_n (lv2 := [(2, .int (nI (1))), (1, .int (nI (0))), (0, .ref (K 0))]) C dX0_changesOfFirst_7 rfl (by decide) rfl ?_
  refine kx_lv (lv2 := [(0, .ref (K 0)), (1, .int (nI (chN Fv 1))), (2, .int (nI (1)))]) [2, 1, 0] rfl ?_
  refine kx_eqw (ws2 := (kwW E K b y o n ls2 bc2 1 hk P Wt Tv Sv Av Vv He Fv Pk)) rfl ?_
  exact lp8 42 1 (by omega) (by omega) (by omega)
end
section
/-! calls of methods that either throw or leave the heap as it is: what they might have made isn't counted when they return -/
theorem k_tight {p : Program} {l : Launch} {e : Env} {R : Room} {s : State} {m : MethodId} {args : Array Value} {below : List Frame} {meth : Method} {c : Code} {T T2 : State} {locs L : List Loc} {cells slots k n : Nat}
    (X : Stand p l e R s m args below meth c T locs cells slots) (X2 : Stand p l e R s m args below meth c T2 L k n) (h : T2.heap = T.heap) : Stand p l e R s m args below meth c T2 locs cells slots := by
  obtain ⟨q1, q2, q3, q4, q5, q6⟩ := X2.same
  obtain ⟨r1, r2, r3, r4, r5, r6⟩ := X.same
  have hh : (T2.setVm s.vm).heap = (T.setVm s.vm).heap := h
  rw [← hh] at r3 r5 r6
  exact { X2 with same := ⟨q1, q2, r3, q4, r5, r6⟩ }
def kRv (E : KE) (y : MethodName) (cc : ByteArray) (maxL : Nat) (rm : Room) (av : List Value) (wc : va_W) (pq : Prop) (px : String → Prop) : Prop := ∀ sz : Nat, vx_Met E.1 y (Cond.code y cc maxL none :: kTb) rm (va_Pc av (kPre E wc sz)) (fun _ st o t => o = .returned none ∧ t.heap = st.heap ∧ pq) (vx_X (fun _ : va_W => True) (kBX E (va_A wc sz) (fun n w => px n ∧ w = wc)) (va_A wc sz)) rm.cells rm.slots (va_A wc sz)
section KQ
variable {E : KE} {R : Room} {G : KG} {cc : ByteArray} {nL : Nat} {own : String} {cells slots : Nat} {ws : va_W} {lv : List (Nat × Value)} {pc : Nat} {st : List Value} {y : MethodName} {rm : Room} {bytes : ByteArray} {maxL index : Nat} {Cn : String} {ci : Nat} {T : u_T} {N : Nat} {b : Nat} {fs : List Value} {As rest : List Value} {wc wr : va_W}
theorem kx_callVR {pq : Prop} {px : String → Prop} (C : kc E G cc nL own) (hM : kRv E y bytes maxL rm (.ref b :: As) wc pq px) (hg : GoodIn kTb (wsV own index Cn y (Cond.code y bytes maxL none :: kTb))) (n9 : Nat) (hn9 : As.length = n9) (hd0 : y.cls = Cn ∧ y.cls ≠ "java/lang/invoke/MethodHandle" ∧ y.cls ≠ "java/lang/invoke/VarHandle" ∧ (parseMethodDescriptor y.desc).map (fun d => d.parameters.length) = some n9) (hR : rm.frames + 1 ≤ R.frames ∧ 8 + (maxL + 11) + rm.locals ≤ R.locals) (hf : cells + rm.cells ≤ R.cells ∧ slots + rm.slots ≤ R.slots) (isC isR : List Nat) (hC : isC.map (fun i => ws[i]?) = wc.map some) (hRr : isR.map (fun i => ws[i]?) = wr.map some) (hnC : va_nd isC = true) (hnR : va_nd isR = true) (hdis : ∀ i ∈ isR, i ∉ isC) (q0 : Nat) (hcl : kCl[ci]? = some (Cn, T, N)) (he : wc[q0]? = some (b, .inr (ci, fs))) (hst : As.reverse ++ .ref b :: rest = st) (hroom : (rest.map fun v => v.category).sum ≤ 8) (hd : decode cc pc = .ok (.invokevirtual index, 3)) (kx9 : ∀ n : String, px n → kxx E R G nL (cells + rm.cells) (slots + rm.slots) (wr ++ wc) n lv pc rest) (kk : pq → kx E R G nL cells slots ws lv (pc + 3) rest) : kx E R G nL cells slots ws lv pc st := by
  obtain ⟨p, e, s, m, args, below, meth, c, A, Q⟩ := G
  obtain ⟨hx, hb, hml, hown, hts, hK, hA, hN, ham, hNs, hlk⟩ := C
  intro H locs ls hP hD hS hl
  have hPc := hP.sub (ws' := wc) isC (k_fm hC)
  have hDc := hD.sub (ws' := wc) isC hnC hC
  have hFc := va_free (wc := wc) hD hS hA isC hC
  have hamH : amb (kN E) s H := amb_kept ham (fun a h1 h2 => hS.2.1 a h1 (fun z => h2 (hN a z)))
  have hr := vx_runV (e := e) (g := F0 m pc ls st) (below := below) (meth := meth) (locs := locs) (As := As) (rest := rest) ⟨hx, hb, hml, hown, hts⟩ (hM H.size) (cwV n9 hts hg rfl rfl rfl hd0 hR) ⟨kPre_blind E _ wc H.size, va_recv hK hPc hcl he, fun U hU hW => ⟨rfl, by rw [hU], Nat.le_trans hNs hS.1, by rw [hU]; exact amb_warm hW hamH, by rw [hU]; exact hPc, va_K.moved hW.alike hK, hDc.weaken (fun _ _ _ h => hN _ h)⟩⟩ rfl hn9 hl.1 hst.symm (lv_room hroom) hd hf
  intro T0 hT X
  rcases hr T0 hT X with ⟨v, st₀, t, T', L, h0, X', hL, e1, e2, ⟨hv, hh, hp⟩, sg⟩ | ⟨q, st₀, t, T', L, n, ce, h0, X', hL, e1, e2, ⟨w, -, ⟨⟨hpx, hwc⟩, hP1, hD1⟩, hF⟩, hce, hcv, hcl, sg⟩
  · cases hv
    have hTT : T'.heap = T0.heap := by rw [e1, hh, h0, hT]
    obtain ⟨t2, a1, b1⟩ := kk hp H locs ls hP hD hS hl T' (by rw [hTT, hT]) (k_tight X X' hTT)
    exact ⟨t2, sg t2 a1, b1⟩
  · subst hwc
    obtain ⟨k1, k2, k3⟩ := vx_keep h0 e1 hS (fun q _ h => hFc q h) hFc hL hF
    rw [← e1] at hP1
    obtain ⟨hP2, hD2⟩ := va_join (wr := wr) (w1 := w) hP hD isC isR hC hRr hnR hdis k2 hFc hP1 hD1
    obtain ⟨t2, a1, b1⟩ := kx9 n hpx T'.heap (locs ++ L) ls q ce hP2 hD2 k3 hl (by rw [e1]; exact hce) hcv hcl T' rfl X'
    exact ⟨t2, sg.trans a1, b1⟩
theorem kx_callSR {pq : Prop} {px : String → Prop} (C : kc E G cc nL own) (hM : kRv E y bytes maxL rm As wc pq px) (hg : GoodIn kTb (va_wsS own index y (Cond.code y bytes maxL none :: kTb))) (n9 : Nat) (hn9 : As.length = n9) (hd0 : y.cls ≠ "java/lang/invoke/MethodHandle" ∧ y.cls ≠ "java/lang/invoke/VarHandle" ∧ (parseMethodDescriptor y.desc).map (fun d => d.parameters.length) = some n9) (hR : rm.frames + 1 ≤ R.frames ∧ 8 + (maxL + 11) + rm.locals ≤ R.locals) (hf : cells + rm.cells ≤ R.cells ∧ slots + rm.slots ≤ R.slots) (isC isR : List Nat) (hC : isC.map (fun i => ws[i]?) = wc.map some) (hRr : isR.map (fun i => ws[i]?) = wr.map some) (hnC : va_nd isC = true) (hnR : va_nd isR = true) (hdis : ∀ i ∈ isR, i ∉ isC) (hst : As.reverse ++ rest = st) (hroom : (rest.map fun v => v.category).sum ≤ 8) (hd : decode cc pc = .ok (.invokestatic index, 3)) (kx9 : ∀ n : String, px n → kxx E R G nL (cells + rm.cells) (slots + rm.slots) (wr ++ wc) n lv pc rest) (kk : pq → kx E R G nL cells slots ws lv (pc + 3) rest) : kx E R G nL cells slots ws lv pc st := by
  obtain ⟨p, e, s, m, args, below, meth, c, A, Q⟩ := G
  obtain ⟨hx, hb, hml, hown, hts, hK, hA, hN, ham, hNs, hlk⟩ := C
  intro H locs ls hP hD hS hl
  have hPc := hP.sub (ws' := wc) isC (k_fm hC)
  have hDc := hD.sub (ws' := wc) isC hnC hC
  have hFc := va_free (wc := wc) hD hS hA isC hC
  have hamH : amb (kN E) s H := amb_kept ham (fun a h1 h2 => hS.2.1 a h1 (fun z => h2 (hN a z)))
  have hr := vx_runS (e := e) (g := F0 m pc ls st) (below := below) (meth := meth) (locs := locs) (As := As) (rest := rest) ⟨hx, hb, hml, hown, hts⟩ (hM H.size) (va_cwS n9 hts hg rfl rfl rfl hd0 hR) ⟨kPre_blind E _ wc H.size, fun U hU hW => ⟨rfl, by rw [hU], Nat.le_trans hNs hS.1, by rw [hU]; exact amb_warm hW hamH, by rw [hU]; exact hPc, va_K.moved hW.alike hK, hDc.weaken (fun _ _ _ h => hN _ h)⟩⟩ rfl hn9 hl.1 hst.symm (lv_room hroom) hd hf
  intro T0 hT X
  rcases hr T0 hT X with ⟨v, st₀, t, T', L, h0, X', hL, e1, e2, ⟨hv, hh, hp⟩, sg⟩ | ⟨q, st₀, t, T', L, n, ce, h0, X', hL, e1, e2, ⟨w, -, ⟨⟨hpx, hwc⟩, hP1, hD1⟩, hF⟩, hce, hcv, hcl, sg⟩
  · cases hv
    have hTT : T'.heap = T0.heap := by rw [e1, hh, h0, hT]
    obtain ⟨t2, a1, b1⟩ := kk hp H locs ls hP hD hS hl T' (by rw [hTT, hT]) (k_tight X X' hTT)
    exact ⟨t2, sg t2 a1, b1⟩
  · subst hwc
    obtain ⟨k1, k2, k3⟩ := vx_keep h0 e1 hS (fun q _ h => hFc q h) hFc hL hF
    rw [← e1] at hP1
    obtain ⟨hP2, hD2⟩ := va_join (wr := wr) (w1 := w) hP hD isC isR hC hRr hnR hdis k2 hFc hP1 hD1
    obtain ⟨t2, a1, b1⟩ := kx9 n hpx T'.heap (locs ++ L) ls q ce hP2 hD2 k3 hl (by rw [e1]; exact hce) hcv hcl T' rfl X'
    exact ⟨t2, sg.trans a1, b1⟩
end KQ
/-- entry of such a method: it walks in the heap of its start, writing nothing; the body is given at the machine's own level -/
theorem kRv_of {E : KE} {y : MethodName} {rm : Room} {av : List Value} {wc : va_W} {pq : Prop} {px : String → Prop} {cc : ByteArray} {maxL : Nat} (hy : plainName y.cls = true) (hal : (lg_sl av).length ≤ maxL)
    (body : ∀ (p : Program) (e : Env) (s : State) (m : MethodId) (below : List Frame) (meth : Method) (c : Code) (Q : State → Prop), p.tables.exec = Jvm.exec → c.code = cc → c.maxLocals = maxL → s.vm.findClass y.cls = some m.cls → (∀ w ∈ kTb, w.before av.toArray s = true) → va_K E.2.1 kCl (kT E) s → kN E ≤ s.heap.size → amb (kN E) s s.heap → va_P E.2.1 kCl wc s.heap → va_D (fun q : Nat => kN E ≤ q) wc →
      (∀ {pc : Nat} {ls : Array Slot}, decode cc pc = .ok (.return_, 1) → pq → W p E.1 e rm s m av.toArray below meth c s.heap [] 0 0 Q (F0 m pc ls [])) →
      (∀ {pc : Nat} {ls : Array Slot} {st : List Value} {cls text : String} {names : List String} {ik is ic : Nat}, kThr E rm cc y.cls cls text names ik is ic pc st → ls.size = maxL → 1 ≤ rm.cells → 6 ≤ rm.slots → px cls → W p E.1 e rm s m av.toArray below meth c s.heap [] 0 0 Q (F0 m pc ls st)) →
      (∀ {H : Heap} {locs : List Loc} {cells slots pc : Nat} {ls : Array Slot} {st : List Value} {n : String} {q : Addr} {ce : Cell}, va_P E.2.1 kCl wc H → va_S (va_A wc s.heap.size) s.heap H locs → H[q]? = some ce → ce.vm = .none → s.vm.findClass n = some ce.cls → cells ≤ rm.cells → slots ≤ rm.slots → px n → vx_W p E.1 e rm s m av.toArray below meth c H locs cells slots Q (F0 m pc ls st) q) →
      ∀ ls : Array Slot, lv_has ls maxL (lv_args 0 av) → W p E.1 e rm s m av.toArray below meth c s.heap [] 0 0 Q (F0 m 0 ls [])) : kRv E y cc maxL rm av wc pq px := by
  intro sz
  refine vx_ofW (cc := cc) (maxL := maxL) (ret := none) hy rfl ?_
  intro p e s m args below meth c s₁ B hml htb hv
  obtain ⟨rfl, hsz, hNs, ham, hP, hK, hD0⟩ := hv
  subst hsz
  have hts0 := atoms_spec (ws := Cond.code y cc maxL none :: kTb) B.pre
  have hts : ∀ w ∈ kTb, w.before av.toArray s = true := fun w h => hts0 w (List.mem_cons_of_mem _ h)
  have hown : s.vm.findClass y.cls = some m.cls := findClass_of_methodNamed B.named
  have hl := lv_entry av (n := maxL) hal
  rw [lg_entry_eq]
  have hD := hD0.self (sz := s.heap.size)
  have hN : ∀ q : Nat, va_A wc s.heap.size q → kN E ≤ q := by
    intro q hq
    rcases hq with ⟨k, e9, h⟩ | h
    · exact hD0.2 k _ h
    · exact Nat.le_trans hNs h
  have hS : va_S (va_A wc s.heap.size) s.heap s.heap [] := va_S.rf
  refine body p e s m below meth c _ B.exec B.bytes hml hown hts hK hNs ham hP hD0 ?_ ?_ ?_ _ hl
  · intro pc ls hd hp
    refine vx_ret ?_
    refine W.widen (k := rm.cells) (n := rm.slots) (Nat.zero_le _) (Nat.zero_le _) ?_
    exact W.vret B.exec B.bytes B.returns (fun t ht hW => ⟨rfl, ht, hp⟩) (fun q h => by cases h) hd B.notSynchronized
  · intro pc ls st cls text names ik is ic hthr hsl hc hs hpx
    obtain ⟨h1, h2, h3, h4, h5, h6, h7, h8, d0, d3, d4, d6, d9, r1, r2, ho⟩ := hthr
    obtain ⟨sa, hsa⟩ := amb_str ham h6
    exact vx_throwS B.exec B.bytes h1 hown h2 h3 (hts _ h4) (hts _ h5) (by rw [ho]; exact hsa) (fun w9 h9 => (h7 w9 h9).elim (fun z => hts _ z) (fun z => amb_fa ham z)) h8 (amb_U (fun q h => hN q h) ham) (amb_S (fun q h => hN q h) ham) hS (hsl.trans hml.symm) d0 d3 d4 d6 d9 (fun x hx => (htb x hx).elim) r1 r2 (by rw [Nat.zero_add]; exact hc) (by rw [Nat.zero_add]; exact hs) B.notSynchronized
      (fun t ha hz hk => ⟨wc, trivial, ⟨⟨hpx, rfl⟩, va_P.kept hP (fun k q hq => hk q.1 ((hP k q hq).lt)), hD⟩, ⟨hz, fun q h1 h2 => hk q h1⟩⟩) (fun z h => by cases h) (by rw [Nat.zero_add]; exact hc) (by rw [Nat.zero_add]; exact hs)
  · intro H locs cells slots pc ls st n q ce hPH hSH hce hcv hcl hc hs hpx
    exact vx_out (fun x hx => (htb x hx).elim) B.notSynchronized hce hcv hcl (fun t ht ha => ⟨wc, trivial, ⟨⟨hpx, rfl⟩, by rw [ht]; exact hPH, hD⟩, hSH.F ht⟩) hSH.2.2 hc hs
/-- a call of such a method, from one that walks in the heap of its own start -/
theorem kw_callSR {E : KE} {R : Room} {p : Program} {e : Env} {s : State} {m : MethodId} {args : Array Value} {below : List Frame} {meth : Method} {c : Code} {Q : State → Prop} {cc : ByteArray} {nL : Nat} {own : String} {pc : Nat} {ls : Array Slot} {st : List Value} {y : MethodName} {rm : Room} {bytes : ByteArray} {maxL index : Nat} {As rest : List Value} {wc : va_W} {pq : Prop} {px : String → Prop}
    (hx : p.tables.exec = Jvm.exec) (hb : c.code = cc) (hml : c.maxLocals = nL) (hown : s.vm.findClass own = some m.cls) (hts : ∀ w ∈ kTb, w.before args s = true) (hK : va_K E.2.1 kCl (kT E) s) (hNs : kN E ≤ s.heap.size) (ham : amb (kN E) s s.heap) (hP : va_P E.2.1 kCl wc s.heap)
    (hM : kRv E y bytes maxL rm As [] pq px) (hg : GoodIn kTb (va_wsS own index y (Cond.code y bytes maxL none :: kTb))) (n9 : Nat) (hn9 : As.length = n9) (hd0 : y.cls ≠ "java/lang/invoke/MethodHandle" ∧ y.cls ≠ "java/lang/invoke/VarHandle" ∧ (parseMethodDescriptor y.desc).map (fun d => d.parameters.length) = some n9) (hR : rm.frames + 1 ≤ R.frames ∧ 8 + (maxL + 11) + rm.locals ≤ R.locals) (hf : 0 + rm.cells ≤ R.cells ∧ 0 + rm.slots ≤ R.slots) (hsz : ls.size = nL) (hst : As.reverse ++ rest = st) (hroom : (rest.map fun v => v.category).sum ≤ 8) (hd : decode cc pc = .ok (.invokestatic index, 3))
    (kx9 : ∀ (n : String) (H : Heap) (locs : List Loc) (q : Addr) (ce : Cell), px n → va_P E.2.1 kCl wc H → va_S (va_A wc s.heap.size) s.heap H locs → H[q]? = some ce → ce.vm = .none → s.vm.findClass n = some ce.cls → vx_W p E.1 e R s m args below meth c H locs (0 + rm.cells) (0 + rm.slots) Q (F0 m pc ls rest) q)
    (kk : pq → W p E.1 e R s m args below meth c s.heap [] 0 0 Q (F0 m (pc + 3) ls rest)) : W p E.1 e R s m args below meth c s.heap [] 0 0 Q (F0 m pc ls st) := by
  have hr := vx_runS (e := e) (g := F0 m pc ls st) (below := below) (meth := meth) (H := s.heap) (locs := []) (cells := 0) (slots := 0) (As := As) (rest := rest) ⟨hx, hb, hml, hown, hts⟩ (hM s.heap.size) (va_cwS n9 hts hg rfl rfl rfl hd0 hR) ⟨kPre_blind E _ [] s.heap.size, fun U hU hW => ⟨rfl, by rw [hU], hNs, by rw [hU]; exact amb_warm hW ham, fun k q h => by simp at h, va_K.moved hW.alike hK, ⟨fun i j p q h => by simp at h, fun k q h => by simp at h⟩⟩⟩ rfl hn9 hsz hst.symm (lv_room hroom) hd hf
  intro T0 hT X
  rcases hr T0 hT X with ⟨v, st₀, t, T', L, h0, X', hL, e1, e2, ⟨hv, hh, hp⟩, sg⟩ | ⟨q, st₀, t, T', L, n, ce, h0, X', hL, e1, e2, ⟨w, -, ⟨⟨hpx, hwc⟩, hP1, hD1⟩, hF⟩, hce, hcv, hcl, sg⟩
  · cases hv
    have hTT : T'.heap = T0.heap := by rw [e1, hh, h0, hT]
    obtain ⟨t2, a1, b1⟩ := kk hp T' (by rw [hTT, hT]) (k_tight X X' hTT)
    exact ⟨t2, sg t2 a1, b1⟩
  · have hS0 : va_S (va_A wc s.heap.size) s.heap s.heap [] := va_S.rf
    have hsub : ∀ q, va_A ([] : va_W) s.heap.size q → va_A wc s.heap.size q := fun q h => by
      rcases h with ⟨k, e9, h⟩ | h
      · simp at h
      · exact Or.inr h
    obtain ⟨k1, k2, k3⟩ := vx_keep h0 e1 hS0 (fun q _ h => hsub q h) hsub hL hF
    have hP2 : va_P E.2.1 kCl wc T'.heap := hP.kept (fun k q hq => k2 q.1 ((hP k q hq).lt) (fun z => by
      rcases z with ⟨k9, e9, z⟩ | z
      · simp at z
      · exact absurd z (Nat.not_le.mpr ((hP k q hq).lt))))
    obtain ⟨t2, a1, b1⟩ := kx9 n T'.heap ([] ++ L) q ce hpx hP2 k3 (by rw [e1]; exact hce) hcv hcl T' rfl X'
    exact ⟨t2, sg.trans a1, b1⟩
end
section
theorem kthr_requireWithin_10 (E : KE) (h : E.1.stackTraces = false) : kThr E (rk 8 1) cX0_requireWithin yX0_requireWithin.cls kEx_102 kTx_163 kNm_102 102 163 106 10 [] := ⟨h, by decide +kernel, by decide +kernel, kcl0_102, kini_102, by decide +kernel, kat_102_106, kot_102_106, dX0_requireWithin_10, dX0_requireWithin_13, dX0_requireWithin_14, dX0_requireWithin_16, dX0_requireWithin_19, Nat.le_of_ble_eq_true rfl, Nat.le_of_ble_eq_true rfl, rfl⟩
theorem kSl1 {n : Nat} {x : Int32} (hn : n ≤ 40) (h1 : ¬ x < nI 0) (h2 : ¬ nI n - nI 1 < x) : ∃ j, j < n ∧ x = nI j := by
  obtain ⟨j, hj, rfl⟩ := nI_of (x := x) h1
  by_cases e : n = 0
  · subst e
    exact absurd (show nI 0 - nI 1 < nI j from by
      have hz : nI 0 - nI 1 < 0 := by decide +kernel
      have h3 := Int32.lt_iff_toInt_lt.mp hz
      have h4 := nI_toInt hj
      refine Int32.lt_iff_toInt_lt.mpr ?_
      have h5 : (0 : Int32).toInt = 0 := by decide +kernel
      omega) h2
  · rw [pk_sub (by omega)] at h2
    refine ⟨j, ?_, rfl⟩
    have h3 : ¬ n - 1 < j := fun z => h2 ((nI_ltI (by omega) hj).mpr z)
    omega
theorem kSl2 {n : Nat} {x : Int32} (hn : n ≤ 40) (h : x < nI 0 ∨ nI n - nI 1 < x) : ¬ ∃ j, j < n ∧ x = nI j := by
  rintro ⟨j, hj, rfl⟩
  rcases h with h | h
  · exact nI_pos (by omega) h
  · rw [pk_sub (by omega)] at h
    have := (nI_ltI (by omega) (by omega)).mp h
    omega
theorem kIn1 {x : Int32} {m : Nat} (hm : m < 2 ^ 31) (h1 : ¬ x < nI 0) (h2 : ¬ nI m < x) : ∃ j, j ≤ m ∧ x = nI j := by
  obtain ⟨j, hj, rfl⟩ := nI_of (x := x) h1
  exact ⟨j, Nat.not_lt.mp fun z => h2 ((nI_ltI hm hj).mpr z), rfl⟩
theorem kIn2 {x : Int32} {m : Nat} (hm : m < 2 ^ 31) (h : x < nI 0 ∨ nI m < x) : ¬ ∃ j, j ≤ m ∧ x = nI j := by
  rintro ⟨j, hj, rfl⟩
  rcases h with h | h
  · exact nI_pos (by omega) h
  · have := (nI_ltI hm (by omega)).mp h
    omega
set_option maxRecDepth 100000 in
theorem c_requireWithin (E : KE) (x lo hi : Int32) (HX : E.1.stackTraces = false) : kRv E yX0_requireWithin cX0_requireWithin 3 (rk 8 1) [.int x, .int lo, .int hi] [] (¬ x < lo ∧ ¬ hi < x) (fun n => n = "java/lang/IllegalArgumentException" ∧ (x < lo ∨ hi < x)) := by
  refine kRv_of (cc := cX0_requireWithin) (maxL := 3) (by decide) (Nat.le_of_ble_eq_true rfl) ?_
  intro p e s m below meth c Q hx hb hml hown hts hK hNs ham hP hD hE hT hO ls hl
  have hl : lv_has ls 3 [(0, .int x), (1, .int lo), (2, .int hi)] := hl
  refine lv_iload_n hx hb dX0_requireWithin_0 rfl (lv_at hl 0 rfl) ?_
  refine lv_iload_n hx hb dX0_requireWithin_1 rfl (lv_at hl 1 rfl) ?_
  refine lv_icmp_lt (tgt := 10) hx hb dX0_requireWithin_2 (by decide) (fun c1 => ?_) (fun c1 => ?_)
  · exact hT (kthr_requireWithin_10 E HX) hl.1 (Nat.le_of_ble_eq_true rfl) (Nat.le_of_ble_eq_true rfl) ⟨rfl, Or.inl c1⟩
  · refine lv_iload_n hx hb dX0_requireWithin_5 rfl (lv_at hl 0 rfl) ?_
    refine lv_iload_n hx hb dX0_requireWithin_6 rfl (lv_at hl 2 rfl) ?_
    refine lv_icmp_le (tgt := 20) hx hb dX0_requireWithin_7 (by decide) (fun c2 => ?_) (fun c2 => ?_)
    · exact hE dX0_requireWithin_20 ⟨c1, Int32.not_lt.mpr c2⟩
    · exact hT (kthr_requireWithin_10 E HX) hl.1 (Nat.le_of_ble_eq_true rfl) (Nat.le_of_ble_eq_true rfl) ⟨rfl, Or.inr (Int32.not_le.mp c2)⟩
set_option maxRecDepth 100000 in
theorem c_requireKey (E : KE) (x : Int32) (HX : E.1.stackTraces = false) : kRv E yX0_requireKey cX0_requireKey 1 (rk 9 1) [.int x] [] (∃ j, j ≤ 23 ∧ x = nI j) (fun n => n = "java/lang/IllegalArgumentException" ∧ ¬ ∃ j, j ≤ 23 ∧ x = nI j) := by
  refine kRv_of (cc := cX0_requireKey) (maxL := 1) (by decide) (Nat.le_of_ble_eq_true rfl) ?_
  intro p e s m below meth c Q hx hb hml hown hts hK hNs ham hP hD hE hT hO ls hl
  have hl : lv_has ls 1 [(0, .int x)] := hl
  refine lv_iload_n hx hb dX0_requireKey_0 rfl (lv_at hl 0 rfl) ?_
  refine lv_iconst (v := nI 0) hx hb dX0_requireKey_1 (by decide +kernel) ?_
  refine lv_bipush (v := nI 23) hx hb dX0_requireKey_2 (by decide +kernel) ?_
  refine kw_callSR (rest := []) hx hb hml hown hts hK hNs ham hP (c_requireWithin E x (nI 0) (nI 23) HX) g0_45 3 rfl (by decide +kernel) ⟨Nat.le_of_ble_eq_true rfl, Nat.le_of_ble_eq_true rfl⟩ ⟨Nat.le_of_ble_eq_true rfl, Nat.le_of_ble_eq_true rfl⟩ hl.1 rfl (Nat.le_of_ble_eq_true rfl) dX0_requireKey_4 (fun n H locs q ce h hPH hSH hce hcv hcl => ?_) (fun h => ?_)
  · exact hO hPH hSH hce hcv hcl (Nat.le_of_ble_eq_true rfl) (Nat.le_of_ble_eq_true rfl) ⟨h.1, kIn2 (by decide) h.2⟩
  · exact hE dX0_requireKey_7 (kIn1 (by decide) h.1 h.2)
set_option maxRecDepth 100000 in
theorem c_requireSlice (E : KE) (K : Nat → Nat) (b y o n ls bc tk hk : Nat) (P Wt Tu Sc Ta Wa He Fk Pk : Nat → Nat) (x : Int32) (HX : E.1.stackTraces = false) (H1 : n ≤ 40) : kRv E yX0_requireSlice cX0_requireSlice 2 (rk 9 1) [.ref (K 0), .int x] (kwW E K b y o n ls bc tk hk P Wt Tu Sc Ta Wa He Fk Pk) (∃ j, j < n ∧ x = nI j) (fun n9 => n9 = "java/lang/IllegalArgumentException" ∧ ¬ ∃ j, j < n ∧ x = nI j) := by
  refine kRv_of (cc := cX0_requireSlice) (maxL := 2) (by decide) (Nat.le_of_ble_eq_true rfl) ?_
  intro p e s m below meth c Q hx hb hml hown hts hK hNs ham hP hD hE hT hO ls hl
  have hl : lv_has ls 2 [(0, .ref (K 0)), (1, .int x)] := hl
  refine lv_iload_n hx hb dX0_requireSlice_0 rfl (lv_at hl 1 rfl) ?_
  refine lv_iconst (v := nI 0) hx hb dX0_requireSlice_1 (by decide +kernel) ?_
  refine lv_aload_n hx hb dX0_requireSlice_2 rfl (lv_at hl 0 rfl) ?_
  refine va_get (D := E.2.1) (ci := 0) (v := .int (nI n)) hx hb hts kin0 hown hK hP 0 rfl rfl 5 (by decide) (hts _ fl0_41) (fun _ h9 => h9) rfl dX0_requireSlice_3 ?_
  refine lv_iconst (v := nI 1) hx hb dX0_requireSlice_6 (by decide +kernel) ?_
  refine lv_isub hx hb dX0_requireSlice_7 ?_
  refine kw_callSR (rest := []) hx hb hml hown hts hK hNs ham hP (c_requireWithin E x (nI 0) (nI n - nI 1) HX) g0_45 3 rfl (by decide +kernel) ⟨Nat.le_of_ble_eq_true rfl, Nat.le_of_ble_eq_true rfl⟩ ⟨Nat.le_of_ble_eq_true rfl, Nat.le_of_ble_eq_true rfl⟩ hl.1 rfl (Nat.le_of_ble_eq_true rfl) dX0_requireSlice_8 (fun n H locs q ce h hPH hSH hce hcv hcl => ?_) (fun h => ?_)
  · exact hO hPH hSH hce hcv hcl (Nat.le_of_ble_eq_true rfl) (Nat.le_of_ble_eq_true rfl) ⟨h.1, kSl2 H1 h.2⟩
  · exact hE dX0_requireSlice_11 (kSl1 H1 h.1 h.2)
end
section
theorem kIn3 {x : Int32} {m : Nat} (hm : m < 2 ^ 31) (h1 : ¬ x < nI 1) (h2 : ¬ nI m < x) : ∃ j, (1 ≤ j ∧ j ≤ m) ∧ x = nI j := by
  have h0 : ¬ x < 0 := fun z => h1 (Int32.lt_iff_toInt_lt.mpr (by
    have a := Int32.lt_iff_toInt_lt.mp z
    have e0 : (0 : Int32).toInt = 0 := by decide +kernel
    have e1 : (nI 1).toInt = 1 := by decide +kernel
    omega))
  obtain ⟨j, hj, rfl⟩ := nI_of (x := x) h0
  exact ⟨j, ⟨Nat.not_lt.mp fun z => h1 ((nI_ltI hj (by decide)).mpr z), Nat.not_lt.mp fun z => h2 ((nI_ltI hm hj).mpr z)⟩, rfl⟩
theorem kIn4 {x : Int32} {m : Nat} (hm : m < 2 ^ 31) (h : x < nI 1 ∨ nI m < x) : ¬ ∃ j, 1 ≤ j ∧ j ≤ m ∧ x = nI j := by
  rintro ⟨j, h1, hj, rfl⟩
  rcases h with h | h
  · have := (nI_ltI (by omega) (by decide)).mp h
    omega
  · have := (nI_ltI hm (by omega)).mp h
    omega
theorem kW0 {Wv : Nat → Nat} {n i : Nat} (h : ∀ j, j < i → Wv (n * 12 + j) = 0) : ∀ j, j < i + 1 → va_up Wv (n * 12 + i) 0 (n * 12 + j) = 0 := by
  intro j hj
  by_cases e : j = i
  · subst e; rw [va_up_self]
  · rw [va_up_ne _ _ (by omega)]; exact h j (by omega)
theorem kW1 {Wv Wt : Nat → Nat} {n i v : Nat} (h : ∀ j, j < n * 12 ∨ n * 12 + 12 ≤ j → Wv j = Wt j) (hi : i < 12) : ∀ j, j < n * 12 ∨ n * 12 + 12 ≤ j → va_up Wv (n * 12 + i) v j = Wt j := by
  intro j hj
  rw [va_up_ne _ _ (by omega)]
  exact h j hj
theorem kthr_drop_7 (E : KE) (h : E.1.stackTraces = false) : kThr E (rk 10 1) cX0_drop yX0_drop.cls kEx_61 kTx_74 kNm_61 61 74 65 7 [] := ⟨h, by decide +kernel, by decide +kernel, kcl0_61, kini_61, by decide +kernel, kat_61_65, kot_61_65, dX0_drop_7, dX0_drop_10, dX0_drop_11, dX0_drop_13, dX0_drop_16, Nat.le_of_ble_eq_true rfl, Nat.le_of_ble_eq_true rfl, rfl⟩
theorem kthr_slice_9 (E : KE) (h : E.1.stackTraces = false) : kThr E (rk 10 1) cX0_slice yX0_slice.cls kEx_61 kTx_63 kNm_61 61 63 65 9 [] := ⟨h, by decide +kernel, by decide +kernel, kcl0_61, kini_61, by decide +kernel, kat_61_65, kot_61_65, dX0_slice_9, dX0_slice_12, dX0_slice_13, dX0_slice_15, dX0_slice_18, Nat.le_of_ble_eq_true rfl, Nat.le_of_ble_eq_true rfl, rfl⟩
theorem kthr_note_47 (E : KE) (h : E.1.stackTraces = false) : kThr E (rk 10 1) cX0_note yX0_note.cls kEx_61 kTx_72 kNm_61 61 72 65 47 [] := ⟨h, by decide +kernel, by decide +kernel, kcl0_61, kini_61, by decide +kernel, kat_61_65, kot_61_65, dX0_note_47, dX0_note_50, dX0_note_51, dX0_note_53, dX0_note_56, Nat.le_of_ble_eq_true rfl, Nat.le_of_ble_eq_true rfl, rfl⟩
set_option maxHeartbeats 4000000 in
set_option maxRecDepth 100000 in
theorem c_fit (E : KE) (K : Nat → Nat) (b y o n ls bc tk hk : Nat) (P Wt Tu Sc Ta Wa He Fk Pk : Nat → Nat) (x0 x1 : Int32) (HX : E.1.stackTraces = false) (HO : kOk b y o n ls bc tk hk P Wt Tu Sc Ta Wa He Fk Pk) : kTi E yX0_fit cX0_fit 3 (rk 10 1) [.ref (K 0), .int (x0), .int (x1)] (kwW E K b y o n ls bc tk hk P Wt Tu Sc Ta Wa He Fk Pk) (fun r w => ∃ sl k, x0 = nI sl ∧ sl < n ∧ x1 = nI k ∧ k ≤ 23 ∧ r = nI (fitN P Wt sl k) ∧ w = (kwW E K b y o n ls bc tk hk P Wt Tu Sc Ta Wa He Fk Pk)) (fun n9 w => n9 = "java/lang/IllegalArgumentException" ∧ ¬ ((∃ j, j < n ∧ x0 = nI j) ∧ (∃ j, j ≤ 23 ∧ x1 = nI j)) ∧ w = (kwW E K b y o n ls bc tk hk P Wt Tu Sc Ta Wa He Fk Pk)) := by
  refine kTi_of (cc := cX0_fit) (maxL := 3) (by decide) (Nat.le_of_ble_eq_true rfl) ?_
  intro G C hE hX hT
  obtain ⟨H1, HP, HW, Hb, Hy, Ho, Htk, Hhk, Hls, HTa, HWa, HHe, HFk, HPk, HK, HH⟩ := id HO
  refine kx_aload_n C dX0_fit_0 rfl 0 rfl ?_
  refine kx_iload_n C dX0_fit_1 rfl 1 rfl ?_
  refine kx_callVR (rest := []) (wr := []) C (c_requireSlice E K b y o n ls bc tk hk P Wt Tu Sc Ta Wa He Fk Pk x0 HX H1) g0_68 1 rfl (by decide +kernel) ⟨Nat.le_of_ble_eq_true rfl, Nat.le_of_ble_eq_true rfl⟩ ⟨Nat.le_of_ble_eq_true rfl, Nat.le_of_ble_eq_true rfl⟩ [0, 1, 2, 3, 4, 5, 6, 7, 8, 9] [] rfl rfl (by decide) (by decide) (by decide) 0 rfl rfl rfl (Nat.le_of_ble_eq_true rfl) dX0_fit_2 (fun n9 q1 => ?_) (fun q1 => ?_)
  · skip
    exact hX (Nat.le_of_ble_eq_true rfl) (Nat.le_of_ble_eq_true rfl) ⟨q1.1, (fun z => q1.2 z.1), rfl⟩
  obtain ⟨sl, esl, rfl⟩ := q1
  refine kx_iload_n C dX0_fit_5 rfl 2 rfl ?_
  refine kx_callSR (rest := []) (wr := (kwW E K b y o n ls bc tk hk P Wt Tu Sc Ta Wa He Fk Pk)) C (c_requireKey E x1 HX) g0_76 1 rfl (by decide +kernel) ⟨Nat.le_of_ble_eq_true rfl, Nat.le_of_ble_eq_true rfl⟩ ⟨Nat.le_of_ble_eq_true rfl, Nat.le_of_ble_eq_true rfl⟩ [] [0, 1, 2, 3, 4, 5, 6, 7, 8, 9] rfl rfl (by decide) (by decide) (by decide) rfl (Nat.le_of_ble_eq_true rfl) dX0_fit_6 (fun n9 q2 => ?_) (fun q2 => ?_)
  · skip
    exact hX (Nat.le_of_ble_eq_true rfl) (Nat.le_of_ble_eq_true rfl) ⟨q2.1, (fun z => q2.2 z.2), (List.append_nil _)⟩
  obtain ⟨k, ek, rfl⟩ := q2
  refine kx_aload_n C dX0_fit_9 rfl 0 rfl ?_
  refine kx_iload_n C dX0_fit_10 rfl 1 rfl ?_
  refine kx_iload_n C dX0_fit_11 rfl 2 rfl ?_
  refine kx_callVi (rest := []) (wr := []) C (c_fitIn E K b y o n ls bc tk hk P Wt Tu Sc Ta Wa He Fk Pk sl k (by omega) (by omega)) g0_79 2 rfl (by decide +kernel) ⟨Nat.le_of_ble_eq_true rfl, Nat.le_of_ble_eq_true rfl⟩ ⟨Nat.le_of_ble_eq_true rfl, Nat.le_of_ble_eq_true rfl⟩ [0, 1, 2, 3, 4, 5, 6, 7, 8, 9] [] rfl rfl (by decide) (by decide) (by decide) 0 rfl rfl rfl (Nat.le_of_ble_eq_true rfl) dX0_fit_12 (fun v w q3 => ?_)
  obtain ⟨rfl, rfl⟩ := q3
  refine kx_eqw (ws2 := (kwW E K b y o n ls bc tk hk P Wt Tu Sc Ta Wa He Fk Pk)) rfl ?_
  exact hE (Nat.le_of_ble_eq_true rfl) (Nat.le_of_ble_eq_true rfl) dX0_fit_15 ⟨sl, k, rfl, esl, rfl, ek, rfl, rfl⟩

set_option maxHeartbeats 4000000 in
set_option maxRecDepth 100000 in
theorem c_cost (E : KE) (K : Nat → Nat) (b y o n ls bc tk hk : Nat) (P Wt Tu Sc Ta Wa He Fk Pk : Nat → Nat) (x0 x1 : Int32) (HX : E.1.stackTraces = false) (HO : kOk b y o n ls bc tk hk P Wt Tu Sc Ta Wa He Fk Pk) : kTi E yX0_cost cX0_cost 3 (rk 10 1) [.ref (K 0), .int (x0), .int (x1)] (kwW E K b y o n ls bc tk hk P Wt Tu Sc Ta Wa He Fk Pk) (fun r w => ∃ sl k, x0 = nI sl ∧ sl < n ∧ x1 = nI k ∧ k ≤ 23 ∧ r = nI (costN P Wt sl k) ∧ w = (kwW E K b y o n ls bc tk hk P Wt Tu Sc Ta Wa He Fk Pk)) (fun n9 w => n9 = "java/lang/IllegalArgumentException" ∧ ¬ ((∃ j, j < n ∧ x0 = nI j) ∧ (∃ j, j ≤ 23 ∧ x1 = nI j)) ∧ w = (kwW E K b y o n ls bc tk hk P Wt Tu Sc Ta Wa He Fk Pk)) := by
  refine kTi_of (cc := cX0_cost) (maxL := 3) (by decide) (Nat.le_of_ble_eq_true rfl) ?_
  intro G C hE hX hT
  obtain ⟨H1, HP, HW, Hb, Hy, Ho, Htk, Hhk, Hls, HTa, HWa, HHe, HFk, HPk, HK, HH⟩ := id HO
  refine kx_aload_n C dX0_cost_0 rfl 0 rfl ?_
  refine kx_iload_n C dX0_cost_1 rfl 1 rfl ?_
  refine kx_callVR (rest := []) (wr := []) C (c_requireSlice E K b y o n ls bc tk hk P Wt Tu Sc Ta Wa He Fk Pk x0 HX H1) g0_68 1 rfl (by decide +kernel) ⟨Nat.le_of_ble_eq_true rfl, Nat.le_of_ble_eq_true rfl⟩ ⟨Nat.le_of_ble_eq_true rfl, Nat.le_of_ble_eq_true rfl⟩ [0, 1, 2, 3, 4, 5, 6, 7, 8, 9] [] rfl rfl (by decide) (by decide) (by decide) 0 rfl rfl rfl (Nat.le_of_ble_eq_true rfl) dX0_cost_2 (fun n9 q1 => ?_) (fun q1 => ?_)
  · skip
    exact hX (Nat.le_of_ble_eq_true rfl) (Nat.le_of_ble_eq_true rfl) ⟨q1.1, (fun z => q1.2 z.1), rfl⟩
  obtain ⟨sl, esl, rfl⟩ := q1
  refine kx_iload_n C dX0_cost_5 rfl 2 rfl ?_
  refine kx_callSR (rest := []) (wr := (kwW E K b y o n ls bc tk hk P Wt Tu Sc Ta Wa He Fk Pk)) C (c_requireKey E x1 HX) g0_76 1 rfl (by decide +kernel) ⟨Nat.le_of_ble_eq_true rfl, Nat.le_of_ble_eq_true rfl⟩ ⟨Nat.le_of_ble_eq_true rfl, Nat.le_of_ble_eq_true rfl⟩ [] [0, 1, 2, 3, 4, 5, 6, 7, 8, 9] rfl rfl (by decide) (by decide) (by decide) rfl (Nat.le_of_ble_eq_true rfl) dX0_cost_6 (fun n9 q2 => ?_) (fun q2 => ?_)
  · skip
    exact hX (Nat.le_of_ble_eq_true rfl) (Nat.le_of_ble_eq_true rfl) ⟨q2.1, (fun z => q2.2 z.2), (List.append_nil _)⟩
  obtain ⟨k, ek, rfl⟩ := q2
  refine kx_aload_n C dX0_cost_9 rfl 0 rfl ?_
  refine kx_iload_n C dX0_cost_10 rfl 1 rfl ?_
  refine kx_callVi (rest := []) (wr := []) C (c_greatestFit E K b y o n ls bc tk hk P Wt Tu Sc Ta Wa He Fk Pk sl (by omega) HP HW) g0_83 1 rfl (by decide +kernel) ⟨Nat.le_of_ble_eq_true rfl, Nat.le_of_ble_eq_true rfl⟩ ⟨Nat.le_of_ble_eq_true rfl, Nat.le_of_ble_eq_true rfl⟩ [0, 1, 2, 3, 4, 5, 6, 7, 8, 9] [] rfl rfl (by decide) (by decide) (by decide) 0 rfl rfl rfl (Nat.le_of_ble_eq_true rfl) dX0_cost_11 (fun v w q3 => ?_)
  obtain ⟨rfl, rfl⟩ := q3
  refine kx_eqw (ws2 := (kwW E K b y o n ls bc tk hk P Wt Tu Sc Ta Wa He Fk Pk)) rfl ?_
  refine kx_aload_n C dX0_cost_14 rfl 0 rfl ?_
  refine kx_iload_n C dX0_cost_15 rfl 1 rfl ?_
  refine kx_iload_n C dX0_cost_16 rfl 2 rfl ?_
  refine kx_callVi (rest := [.int (nI (gfit P Wt sl))]) (wr := []) C (c_fitIn E K b y o n ls bc tk hk P Wt Tu Sc Ta Wa He Fk Pk sl k (by omega) (by omega)) g0_79 2 rfl (by decide +kernel) ⟨Nat.le_of_ble_eq_true rfl, Nat.le_of_ble_eq_true rfl⟩ ⟨Nat.le_of_ble_eq_true rfl, Nat.le_of_ble_eq_true rfl⟩ [0, 1, 2, 3, 4, 5, 6, 7, 8, 9] [] rfl rfl (by decide) (by decide) (by decide) 0 rfl rfl rfl (Nat.le_of_ble_eq_true rfl) dX0_cost_17 (fun v w q4 => ?_)
  obtain ⟨rfl, rfl⟩ := q4
  refine kx_eqw (ws2 := (kwW E K b y o n ls bc tk hk P Wt Tu Sc Ta Wa He Fk Pk)) rfl ?_
  refine kx_isub C (le_maxN (f := fun k => fitN P Wt sl k) (by omega)) dX0_cost_20 ?_
  exact hE (Nat.le_of_ble_eq_true rfl) (Nat.le_of_ble_eq_true rfl) dX0_cost_21 ⟨sl, k, rfl, esl, rfl, ek, rfl, rfl⟩

set_option maxHeartbeats 4000000 in
set_option maxRecDepth 100000 in
theorem c_turn (E : KE) (K : Nat → Nat) (b y o n ls bc tk hk : Nat) (P Wt Tu Sc Ta Wa He Fk Pk : Nat → Nat) (x0 x1 : Int32) (HX : E.1.stackTraces = false) (HO : kOk b y o n ls bc tk hk P Wt Tu Sc Ta Wa He Fk Pk) : kTi E yX0_turn cX0_turn 3 (rk 10 1) [.ref (K 0), .int (x0), .int (x1)] (kwW E K b y o n ls bc tk hk P Wt Tu Sc Ta Wa He Fk Pk) (fun r w => ∃ f t, x0 = nI f ∧ f ≤ 23 ∧ x1 = nI t ∧ t ≤ 23 ∧ r = nI (turnN b y o f t) ∧ w = (kwW E K b y o n ls bc tk hk P Wt Tu Sc Ta Wa He Fk Pk)) (fun n9 w => n9 = "java/lang/IllegalArgumentException" ∧ ¬ ((∃ j, j ≤ 23 ∧ x0 = nI j) ∧ (∃ j, j ≤ 23 ∧ x1 = nI j)) ∧ w = (kwW E K b y o n ls bc tk hk P Wt Tu Sc Ta Wa He Fk Pk)) := by
  refine kTi_of (cc := cX0_turn) (maxL := 3) (by decide) (Nat.le_of_ble_eq_true rfl) ?_
  intro G C hE hX hT
  obtain ⟨H1, HP, HW, Hb, Hy, Ho, Htk, Hhk, Hls, HTa, HWa, HHe, HFk, HPk, HK, HH⟩ := id HO
  refine kx_iload_n C dX0_turn_0 rfl 1 rfl ?_
  refine kx_callSR (rest := []) (wr := (kwW E K b y o n ls bc tk hk P Wt Tu Sc Ta Wa He Fk Pk)) C (c_requireKey E x0 HX) g0_76 1 rfl (by decide +kernel) ⟨Nat.le_of_ble_eq_true rfl, Nat.le_of_ble_eq_true rfl⟩ ⟨Nat.le_of_ble_eq_true rfl, Nat.le_of_ble_eq_true rfl⟩ [] [0, 1, 2, 3, 4, 5, 6, 7, 8, 9] rfl rfl (by decide) (by decide) (by decide) rfl (Nat.le_of_ble_eq_true rfl) dX0_turn_1 (fun n9 q1 => ?_) (fun q1 => ?_)
  · skip
    exact hX (Nat.le_of_ble_eq_true rfl) (Nat.le_of_ble_eq_true rfl) ⟨q1.1, (fun z => q1.2 z.1), (List.append_nil _)⟩
  obtain ⟨f, ef, rfl⟩ := q1
  refine kx_iload_n C dX0_turn_4 rfl 2 rfl ?_
  refine kx_callSR (rest := []) (wr := (kwW E K b y o n ls bc tk hk P Wt Tu Sc Ta Wa He Fk Pk)) C (c_requireKey E x1 HX) g0_76 1 rfl (by decide +kernel) ⟨Nat.le_of_ble_eq_true rfl, Nat.le_of_ble_eq_true rfl⟩ ⟨Nat.le_of_ble_eq_true rfl, Nat.le_of_ble_eq_true rfl⟩ [] [0, 1, 2, 3, 4, 5, 6, 7, 8, 9] rfl rfl (by decide) (by decide) (by decide) rfl (Nat.le_of_ble_eq_true rfl) dX0_turn_5 (fun n9 q2 => ?_) (fun q2 => ?_)
  · skip
    exact hX (Nat.le_of_ble_eq_true rfl) (Nat.le_of_ble_eq_true rfl) ⟨q2.1, (fun z => q2.2 z.2), (List.append_nil _)⟩
  obtain ⟨t, et, rfl⟩ := q2
  refine kx_aload_n C dX0_turn_8 rfl 0 rfl ?_
  refine kx_iload_n C dX0_turn_9 rfl 1 rfl ?_
  refine kx_iload_n C dX0_turn_10 rfl 2 rfl ?_
  refine kx_callVi (rest := []) (wr := []) C (c_turnBetween E K b y o n ls bc tk hk P Wt Tu Sc Ta Wa He Fk Pk f t (by omega) (by omega)) g0_87 2 rfl (by decide +kernel) ⟨Nat.le_of_ble_eq_true rfl, Nat.le_of_ble_eq_true rfl⟩ ⟨Nat.le_of_ble_eq_true rfl, Nat.le_of_ble_eq_true rfl⟩ [0, 1, 2, 3, 4, 5, 6, 7, 8, 9] [] rfl rfl (by decide) (by decide) (by decide) 0 rfl rfl rfl (Nat.le_of_ble_eq_true rfl) dX0_turn_11 (fun v w q3 => ?_)
  obtain ⟨rfl, rfl⟩ := q3
  refine kx_eqw (ws2 := (kwW E K b y o n ls bc tk hk P Wt Tu Sc Ta Wa He Fk Pk)) rfl ?_
  exact hE (Nat.le_of_ble_eq_true rfl) (Nat.le_of_ble_eq_true rfl) dX0_turn_14 ⟨f, t, rfl, ef, rfl, et, rfl, rfl⟩

set_option maxHeartbeats 4000000 in
set_option maxRecDepth 100000 in
theorem c_least (E : KE) (K : Nat → Nat) (b y o n ls bc tk hk : Nat) (P Wt Tu Sc Ta Wa He Fk Pk : Nat → Nat) (HO : kOk b y o n ls bc tk hk P Wt Tu Sc Ta Wa He Fk Pk) : kMi E yX0_least cX0_least 1 (rk 10 0) [.ref (K 0)] (kwW E K b y o n ls bc tk hk P Wt Tu Sc Ta Wa He Fk Pk) (fun r w => ∃ (ls2 bc2 : Nat) (Tv Sv Av Vv Fv : Nat → Nat), r = nI ls2 ∧ kOk b y o n ls2 bc2 1 hk P Wt Tv Sv Av Vv He Fv Pk ∧ w = (kwW E K b y o n ls2 bc2 1 hk P Wt Tv Sv Av Vv He Fv Pk)) := by
  refine kMi_of (cc := cX0_least) (maxL := 1) (by decide) (Nat.le_of_ble_eq_true rfl) ?_
  intro G C hE
  obtain ⟨H1, HP, HW, Hb, Hy, Ho, Htk, Hhk, Hls, HTa, HWa, HHe, HFk, HPk, HK, HH⟩ := id HO
  refine kx_aload_n C dX0_least_0 rfl 0 rfl ?_
  refine kx_callVv (rest := []) (wr := []) C (c_knowTails E K b y o n ls bc tk hk P Wt Tu Sc Ta Wa He Fk Pk HO) g0_90 0 rfl (by decide +kernel) ⟨Nat.le_of_ble_eq_true rfl, Nat.le_of_ble_eq_true rfl⟩ ⟨Nat.le_of_ble_eq_true rfl, Nat.le_of_ble_eq_true rfl⟩ [0, 1, 2, 3, 4, 5, 6, 7, 8, 9] [] rfl rfl (by decide) (by decide) (by decide) 0 rfl rfl rfl (Nat.le_of_ble_eq_true rfl) dX0_least_1 (fun w q1 => ?_)
  obtain ⟨ls2, bc2, Tv, Sv, Av, Vv, Fv, HO2, rfl⟩ := q1
  refine kx_eqw (ws2 := (kwW E K b y o n ls2 bc2 1 hk P Wt Tv Sv Av Vv He Fv Pk)) rfl ?_
  obtain ⟨G1, GP, GW, Gb, Gy, Go, Gtk, Ghk, Gls, GTa, GWa, GHe, GFk, GPk, GK, GH⟩ := id HO2
  obtain ⟨GT, GR, G0, Gn, GF⟩ := GK (by decide)
  refine kx_aload_n C dX0_least_4 rfl 0 rfl ?_
  refine kx_get (v := .int (nI (ls2))) (ci := 0) C kin0 0 rfl rfl 13 (by decide) fl0_93 rfl rfl dX0_least_5 ?_
  exact hE (Nat.le_of_ble_eq_true rfl) (Nat.le_of_ble_eq_true rfl) dX0_least_8 ⟨ls2, bc2, Tv, Sv, Av, Vv, Fv, rfl, HO2, rfl⟩

set_option maxHeartbeats 4000000 in
set_option maxRecDepth 100000 in
theorem c_count (E : KE) (K : Nat → Nat) (b y o n ls bc tk hk : Nat) (P Wt Tu Sc Ta Wa He Fk Pk : Nat → Nat) (HO : kOk b y o n ls bc tk hk P Wt Tu Sc Ta Wa He Fk Pk) : kMl E yX0_count cX0_count 1 (rk 10 0) [.ref (K 0)] (kwW E K b y o n ls bc tk hk P Wt Tu Sc Ta Wa He Fk Pk) (fun r w => ∃ (ls2 bc2 : Nat) (Tv Sv Av Vv Fv : Nat → Nat), r = lN bc2 ∧ kOk b y o n ls2 bc2 1 hk P Wt Tv Sv Av Vv He Fv Pk ∧ w = (kwW E K b y o n ls2 bc2 1 hk P Wt Tv Sv Av Vv He Fv Pk)) := by
  refine kMl_of (cc := cX0_count) (maxL := 1) (by decide) (Nat.le_of_ble_eq_true rfl) ?_
  intro G C hE
  obtain ⟨H1, HP, HW, Hb, Hy, Ho, Htk, Hhk, Hls, HTa, HWa, HHe, HFk, HPk, HK, HH⟩ := id HO
  refine kx_aload_n C dX0_count_0 rfl 0 rfl ?_
  refine kx_callVv (rest := []) (wr := []) C (c_knowTails E K b y o n ls bc tk hk P Wt Tu Sc Ta Wa He Fk Pk HO) g0_90 0 rfl (by decide +kernel) ⟨Nat.le_of_ble_eq_true rfl, Nat.le_of_ble_eq_true rfl⟩ ⟨Nat.le_of_ble_eq_true rfl, Nat.le_of_ble_eq_true rfl⟩ [0, 1, 2, 3, 4, 5, 6, 7, 8, 9] [] rfl rfl (by decide) (by decide) (by decide) 0 rfl rfl rfl (Nat.le_of_ble_eq_true rfl) dX0_count_1 (fun w q1 => ?_)
  obtain ⟨ls2, bc2, Tv, Sv, Av, Vv, Fv, HO2, rfl⟩ := q1
  refine kx_eqw (ws2 := (kwW E K b y o n ls2 bc2 1 hk P Wt Tv Sv Av Vv He Fv Pk)) rfl ?_
  obtain ⟨G1, GP, GW, Gb, Gy, Go, Gtk, Ghk, Gls, GTa, GWa, GHe, GFk, GPk, GK, GH⟩ := id HO2
  obtain ⟨GT, GR, G0, Gn, GF⟩ := GK (by decide)
  refine kx_aload_n C dX0_count_4 rfl 0 rfl ?_
  refine kx_get (v := .long (lN (bc2))) (ci := 0) C kin0 0 rfl rfl 14 (by decide) fl0_96 rfl rfl dX0_count_5 ?_
  exact hE (Nat.le_of_ble_eq_true rfl) (Nat.le_of_ble_eq_true rfl) dX0_count_8 ⟨ls2, bc2, Tv, Sv, Av, Vv, Fv, rfl, HO2, rfl⟩

set_option maxHeartbeats 4000000 in
set_option maxRecDepth 100000 in
theorem c_key (E : KE) (K : Nat → Nat) (b y o n ls bc tk hk : Nat) (P Wt Tu Sc Ta Wa He Fk Pk : Nat → Nat) (x0 : Int32) (HX : E.1.stackTraces = false) (HO : kOk b y o n ls bc tk hk P Wt Tu Sc Ta Wa He Fk Pk) : kTi E yX0_key cX0_key 2 (rk 10 1) [.ref (K 0), .int (x0)] (kwW E K b y o n ls bc tk hk P Wt Tu Sc Ta Wa He Fk Pk) (fun r w => ∃ sl, x0 = nI sl ∧ sl < n ∧ ∃ (ls2 bc2 : Nat) (Tv Sv Av Vv Fv : Nat → Nat), r = nI (Fv sl) ∧ kOk b y o n ls2 bc2 1 hk P Wt Tv Sv Av Vv He Fv Pk ∧ w = (kwW E K b y o n ls2 bc2 1 hk P Wt Tv Sv Av Vv He Fv Pk)) (fun n9 w => n9 = "java/lang/IllegalArgumentException" ∧ ¬ (∃ j, j < n ∧ x0 = nI j) ∧ w = (kwW E K b y o n ls bc tk hk P Wt Tu Sc Ta Wa He Fk Pk)) := by
  refine kTi_of (cc := cX0_key) (maxL := 2) (by decide) (Nat.le_of_ble_eq_true rfl) ?_
  intro G C hE hX hT
  obtain ⟨H1, HP, HW, Hb, Hy, Ho, Htk, Hhk, Hls, HTa, HWa, HHe, HFk, HPk, HK, HH⟩ := id HO
  refine kx_aload_n C dX0_key_0 rfl 0 rfl ?_
  refine kx_iload_n C dX0_key_1 rfl 1 rfl ?_
  refine kx_callVR (rest := []) (wr := []) C (c_requireSlice E K b y o n ls bc tk hk P Wt Tu Sc Ta Wa He Fk Pk x0 HX H1) g0_68 1 rfl (by decide +kernel) ⟨Nat.le_of_ble_eq_true rfl, Nat.le_of_ble_eq_true rfl⟩ ⟨Nat.le_of_ble_eq_true rfl, Nat.le_of_ble_eq_true rfl⟩ [0, 1, 2, 3, 4, 5, 6, 7, 8, 9] [] rfl rfl (by decide) (by decide) (by decide) 0 rfl rfl rfl (Nat.le_of_ble_eq_true rfl) dX0_key_2 (fun n9 q1 => ?_) (fun q1 => ?_)
  · skip
    exact hX (Nat.le_of_ble_eq_true rfl) (Nat.le_of_ble_eq_true rfl) ⟨q1.1, q1.2, rfl⟩
  obtain ⟨sl, esl, rfl⟩ := q1
  refine kx_aload_n C dX0_key_5 rfl 0 rfl ?_
  refine kx_callVv (rest := []) (wr := []) C (c_knowTails E K b y o n ls bc tk hk P Wt Tu Sc Ta Wa He Fk Pk HO) g0_90 0 rfl (by decide +kernel) ⟨Nat.le_of_ble_eq_true rfl, Nat.le_of_ble_eq_true rfl⟩ ⟨Nat.le_of_ble_eq_true rfl, Nat.le_of_ble_eq_true rfl⟩ [0, 1, 2, 3, 4, 5, 6, 7, 8, 9] [] rfl rfl (by decide) (by decide) (by decide) 0 rfl rfl rfl (Nat.le_of_ble_eq_true rfl) dX0_key_6 (fun w q2 => ?_)
  obtain ⟨ls2, bc2, Tv, Sv, Av, Vv, Fv, HO2, rfl⟩ := q2
  refine kx_eqw (ws2 := (kwW E K b y o n ls2 bc2 1 hk P Wt Tv Sv Av Vv He Fv Pk)) rfl ?_
  obtain ⟨G1, GP, GW, Gb, Gy, Go, Gtk, Ghk, Gls, GTa, GWa, GHe, GFk, GPk, GK, GH⟩ := id HO2
  obtain ⟨GT, GR, G0, Gn, GF⟩ := GK (by decide)
  refine kx_aload_n C dX0_key_9 rfl 0 rfl ?_
  refine kx_get (v := .ref (K 8)) (ci := 0) C kin0 0 rfl rfl 11 (by decide) fl0_32 rfl rfl dX0_key_10 ?_
  refine kx_iload_n C dX0_key_13 rfl 1 rfl ?_
  refine kx_iald C 8 rfl (j := sl) (by omega) (by decide) dX0_key_14 ?_
  exact hE (Nat.le_of_ble_eq_true rfl) (Nat.le_of_ble_eq_true rfl) dX0_key_15 ⟨sl, rfl, esl, ls2, bc2, Tv, Sv, Av, Vv, Fv, rfl, HO2, rfl⟩

set_option maxHeartbeats 4000000 in
set_option maxRecDepth 100000 in
theorem c_drop (E : KE) (K : Nat → Nat) (b y o n ls bc tk hk : Nat) (P Wt Tu Sc Ta Wa He Fk Pk : Nat → Nat) (HX : E.1.stackTraces = false) (HO : kOk b y o n ls bc tk hk P Wt Tu Sc Ta Wa He Fk Pk) : kTi E yX0_drop cX0_drop 1 (rk 10 1) [.ref (K 0)] (kwW E K b y o n ls bc tk hk P Wt Tu Sc Ta Wa He Fk Pk) (fun r w => 0 < n ∧ r = nI (n - 1) ∧ kOk b y o (n - 1) ls bc 0 0 P Wt Tu Sc Ta Wa He Fk Pk ∧ w = (kwW E K b y o (n - 1) ls bc 0 0 P Wt Tu Sc Ta Wa He Fk Pk)) (fun n9 w => n9 = "java/lang/IllegalStateException" ∧ n = 0 ∧ w = (kwW E K b y o n ls bc tk hk P Wt Tu Sc Ta Wa He Fk Pk)) := by
  refine kTi_of (cc := cX0_drop) (maxL := 1) (by decide) (Nat.le_of_ble_eq_true rfl) ?_
  intro G C hE hX hT
  obtain ⟨H1, HP, HW, Hb, Hy, Ho, Htk, Hhk, Hls, HTa, HWa, HHe, HFk, HPk, HK, HH⟩ := id HO
  refine kx_aload_n C dX0_drop_0 rfl 0 rfl ?_
  refine kx_get (v := .int (nI (n))) (ci := 0) C kin0 0 rfl rfl 5 (by decide) fl0_41 rfl rfl dX0_drop_1 ?_
  refine kx_if_gt (tgt := 17) C (by omega) dX0_drop_4 (by decide) (fun c1 => ?_) (fun c1 => ?_)
  · skip
    refine kx_aload_n C dX0_drop_17 rfl 0 rfl ?_
    refine kx_dup C dX0_drop_18 rfl ?_
    refine kx_get (v := .int (nI (n))) (ci := 0) C kin0 0 rfl rfl 5 (by decide) fl0_41 rfl rfl dX0_drop_19 ?_
    refine kx_iconst (v := nI 1) C dX0_drop_22 (by decide +kernel) ?_
    refine kx_isub C (by omega) dX0_drop_23 ?_
    refine kx_put (ws2 := (kwW E K b y o ((n) - (1)) ls bc tk hk P Wt Tu Sc Ta Wa He Fk Pk)) (ci := 0) C kin0 tyX0_ok nmX0 0 rfl rfl 5 (by decide) fl0_41 rfl rfl rfl rfl (Nat.le_of_ble_eq_true rfl) rfl dX0_drop_24 ?_
    refine kx_aload_n C dX0_drop_27 rfl 0 rfl ?_
    refine kx_callVv (rest := []) (wr := []) C (c_forget E K b y o ((n) - (1)) ls bc tk hk P Wt Tu Sc Ta Wa He Fk Pk) g0_49 0 rfl (by decide +kernel) ⟨Nat.le_of_ble_eq_true rfl, Nat.le_of_ble_eq_true rfl⟩ ⟨Nat.le_of_ble_eq_true rfl, Nat.le_of_ble_eq_true rfl⟩ [0, 1, 2, 3, 4, 5, 6, 7, 8, 9] [] rfl rfl (by decide) (by decide) (by decide) 0 rfl rfl rfl (Nat.le_of_ble_eq_true rfl) dX0_drop_28 (fun w q2 => ?_)
    obtain rfl := q2
    refine kx_eqw (ws2 := (kwW E K b y o ((n) - (1)) ls bc 0 0 P Wt Tu Sc Ta Wa He Fk Pk)) rfl ?_
    refine kx_aload_n C dX0_drop_31 rfl 0 rfl ?_
    refine kx_get (v := .int (nI ((n) - (1)))) (ci := 0) C kin0 0 rfl rfl 5 (by decide) fl0_41 rfl rfl dX0_drop_32 ?_
    exact hE (Nat.le_of_ble_eq_true rfl) (Nat.le_of_ble_eq_true rfl) dX0_drop_35 ⟨c1, rfl, ⟨(by omega), HP, HW, Hb, Hy, Ho, Nat.zero_le _, Nat.zero_le _, Hls, HTa, HWa, HHe, HFk, HPk, fun z => absurd rfl z, fun z => absurd rfl z⟩, rfl⟩
  · skip
    exact hT (kthr_drop_7 E HX) (Nat.le_of_ble_eq_true rfl) (Nat.le_of_ble_eq_true rfl) ⟨rfl, c1, rfl⟩

set_option maxHeartbeats 4000000 in
set_option maxRecDepth 100000 in
theorem c_slice (E : KE) (K : Nat → Nat) (b y o n ls bc tk hk : Nat) (P Wt Tu Sc Ta Wa He Fk Pk : Nat → Nat) (HX : E.1.stackTraces = false) (HO : kOk b y o n ls bc tk hk P Wt Tu Sc Ta Wa He Fk Pk) : kTi E yX0_slice cX0_slice 3 (rk 10 1) [.ref (K 0)] (kwW E K b y o n ls bc tk hk P Wt Tu Sc Ta Wa He Fk Pk) (fun r w => n < 40 ∧ r = nI n ∧ ∃ Wv : Nat → Nat, (∀ j, j < 12 → Wv (n * 12 + j) = 0) ∧ (∀ j, j < n * 12 ∨ n * 12 + 12 ≤ j → Wv j = Wt j) ∧ kOk b y o (n + 1) ls bc 0 0 P Wv Tu Sc Ta Wa He Fk Pk ∧ w = (kwW E K b y o (n + 1) ls bc 0 0 P Wv Tu Sc Ta Wa He Fk Pk)) (fun n9 w => n9 = "java/lang/IllegalStateException" ∧ 40 ≤ n ∧ w = (kwW E K b y o n ls bc tk hk P Wt Tu Sc Ta Wa He Fk Pk)) := by
  refine kTi_of (cc := cX0_slice) (maxL := 3) (by decide) (Nat.le_of_ble_eq_true rfl) ?_
  intro G C hE hX hT
  obtain ⟨H1, HP, HW, Hb, Hy, Ho, Htk, Hhk, Hls, HTa, HWa, HHe, HFk, HPk, HK, HH⟩ := id HO
  have lp26 : ∀ (N_lp26 : Nat) (i : Nat) (Wv : Nat → Nat), (i ≤ 12) → (∀ j, j < i → Wv (n * 12 + j) = 0) → (∀ j, j < n * 12 ∨ n * 12 + 12 ≤ j → Wv j = Wt j) → (∀ j, Wv j ≤ 200) → (n < 40) → (12 < i + N_lp26) → kx E (rk 10 1) G 3 0 0 (kwW E K b y o n ls bc tk hk P Wv Tu Sc Ta Wa He Fk Pk) [(0, .ref (K 0)), (1, .int (nI (n))), (2, .int (nI (i)))] 26 [] := by
    intro N_lp26
    induction N_lp26 with
    | zero =>
      intro i Wv h0_lp26 h1_lp26 h2_lp26 h3_lp26 h4_lp26 hm_lp26
      exact absurd hm_lp26 (by omega)
    | succ N_lp26 ih_lp26 =>
      intro i Wv h0_lp26 h1_lp26 h2_lp26 h3_lp26 h4_lp26 hm_lp26
      refine kx_iload_n C dX0_slice_26 rfl 2 rfl ?_
      refine kx_bipush (v := nI 12) C dX0_slice_27 (by decide +kernel) ?_
      refine kx_icmp_ge (tgt := 50) C (by omega) (by omega) dX0_slice_29 (by decide) (fun c1 => ?_) (fun c1 => ?_)
      · skip
        obtain rfl : 12 = i := by omega
        refine kx_aload_n C dX0_slice_50 rfl 0 rfl ?_
        refine kx_dup C dX0_slice_51 rfl ?_
        refine kx_get (v := .int (nI (n))) (ci := 0) C kin0 0 rfl rfl 5 (by decide) fl0_41 rfl rfl dX0_slice_52 ?_
        refine kx_iconst (v := nI 1) C dX0_slice_55 (by decide +kernel) ?_
        refine kx_iadd C dX0_slice_56 ?_
        refine kx_put (ws2 := (kwW E K b y o ((n) + (1)) ls bc tk hk P Wv Tu Sc Ta Wa He Fk Pk)) (ci := 0) C kin0 tyX0_ok nmX0 0 rfl rfl 5 (by decide) fl0_41 rfl rfl rfl rfl (Nat.le_of_ble_eq_true rfl) rfl dX0_slice_57 ?_
        refine kx_aload_n C dX0_slice_60 rfl 0 rfl ?_
        refine kx_callVv (rest := []) (wr := []) C (c_forget E K b y o ((n) + (1)) ls bc tk hk P Wv Tu Sc Ta Wa He Fk Pk) g0_49 0 rfl (by decide +kernel) ⟨Nat.le_of_ble_eq_true rfl, Nat.le_of_ble_eq_true rfl⟩ ⟨Nat.le_of_ble_eq_true rfl, Nat.le_of_ble_eq_true rfl⟩ [0, 1, 2, 3, 4, 5, 6, 7, 8, 9] [] rfl rfl (by decide) (by decide) (by decide) 0 rfl rfl rfl (Nat.le_of_ble_eq_true rfl) dX0_slice_61 (fun w q2 => ?_)
        obtain rfl := q2
        refine kx_eqw (ws2 := (kwW E K b y o ((n) + (1)) ls bc 0 0 P Wv Tu Sc Ta Wa He Fk Pk)) rfl ?_
        refine kx_iload_n C dX0_slice_64 rfl 1 rfl ?_
        exact hE (Nat.le_of_ble_eq_true rfl) (Nat.le_of_ble_eq_true rfl) dX0_slice_65 ⟨by omega, rfl, Wv, fun j hj => h1_lp26 j hj, h2_lp26, ⟨(by omega), HP, h3_lp26, Hb, Hy, Ho, Nat.zero_le _, Nat.zero_le _, Hls, HTa, HWa, HHe, HFk, HPk, fun z => absurd rfl z, fun z => absurd rfl z⟩, rfl⟩
      · skip
        refine kx_aload_n C dX0_slice_32 rfl 0 rfl ?_
        refine kx_get (v := .ref (K 2)) (ci := 0) C kin0 0 rfl rfl 1 (by decide) fl0_13 rfl rfl dX0_slice_33 ?_
        refine kx_iload_n C dX0_slice_36 rfl 1 rfl ?_
        refine kx_bipush (v := nI 12) C dX0_slice_37 (by decide +kernel) ?_
        refine kx_imul C dX0_slice_39 ?_
        refine kx_iload_n C dX0_slice_40 rfl 2 rfl ?_
        refine kx_iadd C dX0_slice_41 ?_
        refine kx_iconst (v := nI 0) C dX0_slice_42 (by decide +kernel) ?_
        refine kx_iast (ws2 := (kwW E K b y o n ls bc tk hk P (va_up Wv (((n) * (12)) + (i)) (0)) Tu Sc Ta Wa He Fk Pk)) C 2 rfl (j := ((n) * (12)) + (i)) (v := 0) (by omega) (by decide) rfl dX0_slice_43 ?_
        refine kx_iinc (v := nI (i + 1)) (lv2 := [(2, .int (nI (i + 1))), (0, .ref (K 0)), (1, .int (nI (n)))]) C dX0_slice_44 2 rfl (kI1 _) (by decide) rfl ?_
        refine kx_goto (tgt := 26) C dX0_slice_47 (by decide) ?_
        refine kx_lv (lv2 := [(0, .ref (K 0)), (1, .int (nI (n))), (2, .int (nI (i + 1)))]) [1, 2, 0] rfl ?_
        refine kx_eqw (ws2 := (kwW E K b y o n ls bc tk hk P (va_up Wv (((n) * (12)) + (i)) (0)) Tu Sc Ta Wa He Fk Pk)) rfl ?_
        exact ih_lp26 (i + 1) (va_up Wv (((n) * (12)) + (i)) (0)) (by omega) (kW0 h1_lp26) (kW1 h2_lp26 (by omega)) (up_le h3_lp26 (Nat.zero_le _)) h4_lp26 (by omega)
  refine kx_aload_n C dX0_slice_0 rfl 0 rfl ?_
  refine kx_get (v := .int (nI (n))) (ci := 0) C kin0 0 rfl rfl 5 (by decide) fl0_41 rfl rfl dX0_slice_1 ?_
  refine kx_bipush (v := nI 40) C dX0_slice_4 (by decide +kernel) ?_
  refine kx_icmp_lt (tgt := 19) C (by omega) (by omega) dX0_slice_6 (by decide) (fun c1 => ?_) (fun c1 => ?_)
  · skip
    refine kx_aload_n C dX0_slice_19 rfl 0 rfl ?_
    refine kx_get (v := .int (nI (n))) (ci := 0) C kin0 0 rfl rfl 5 (by decide) fl0_41 rfl rfl dX0_slice_20 ?_
    refine kx_istore_n (lv2 := [(1, .int (nI (n))), (0, .ref (K 0))]) C dX0_slice_23 rfl (by decide) rfl ?_
    refine kx_iconst (v := nI 0) C dX0_slice_24 (by decide +kernel) ?_
    refine kx_istore_n (lv2 := [(2, .int (nI (0))), (1, .int (nI (n))), (0, .ref (K 0))]) C dX0_slice_25 rfl (by decide) rfl ?_
    refine kx_lv (lv2 := [(0, .ref (K 0)), (1, .int (nI (n))), (2, .int (nI (0)))]) [2, 1, 0] rfl ?_
    refine kx_eqw (ws2 := (kwW E K b y o n ls bc tk hk P Wt Tu Sc Ta Wa He Fk Pk)) rfl ?_
    exact lp26 13 0 Wt (by omega) (fun j hj => absurd hj (by omega)) (fun _ _ => rfl) HW (by omega) (by omega)
  · skip
    exact hT (kthr_slice_9 E HX) (Nat.le_of_ble_eq_true rfl) (Nat.le_of_ble_eq_true rfl) ⟨rfl, c1, rfl⟩

set_option maxHeartbeats 4000000 in
set_option maxRecDepth 100000 in
theorem c_note (E : KE) (K : Nat → Nat) (b y o n ls bc tk hk : Nat) (P Wt Tu Sc Ta Wa He Fk Pk : Nat → Nat) (x0 x1 x2 : Int32) (HX : E.1.stackTraces = false) (HO : kOk b y o n ls bc tk hk P Wt Tu Sc Ta Wa He Fk Pk) : kTi E yX0_note cX0_note 6 (rk 10 1) [.ref (K 0), .int (x0), .int (x1), .int (x2)] (kwW E K b y o n ls bc tk hk P Wt Tu Sc Ta Wa He Fk Pk) (fun r w => ∃ sl pi wt, x0 = nI sl ∧ sl < n ∧ x1 = nI pi ∧ pi ≤ 11 ∧ x2 = nI wt ∧ 1 ≤ wt ∧ wt ≤ 200 ∧ Wt (sl * 12 + pi) + wt ≤ 200 ∧ r = nI (Wt (sl * 12 + pi) + wt) ∧ kOk b y o n ls bc 0 0 P (va_up Wt (sl * 12 + pi) (Wt (sl * 12 + pi) + wt)) Tu Sc Ta Wa He Fk Pk ∧ w = (kwW E K b y o n ls bc 0 0 P (va_up Wt (sl * 12 + pi) (Wt (sl * 12 + pi) + wt)) Tu Sc Ta Wa He Fk Pk)) (fun n9 w => ((n9 = "java/lang/IllegalArgumentException" ∧ ¬ ((∃ j, j < n ∧ x0 = nI j) ∧ (∃ j, j ≤ 11 ∧ x1 = nI j) ∧ (∃ j, 1 ≤ j ∧ j ≤ 200 ∧ x2 = nI j))) ∨ (n9 = "java/lang/IllegalStateException" ∧ ∃ sl pi wt, x0 = nI sl ∧ sl < n ∧ x1 = nI pi ∧ pi ≤ 11 ∧ x2 = nI wt ∧ 1 ≤ wt ∧ wt ≤ 200 ∧ 200 < Wt (sl * 12 + pi) + wt)) ∧ w = (kwW E K b y o n ls bc tk hk P Wt Tu Sc Ta Wa He Fk Pk)) := by
  refine kTi_of (cc := cX0_note) (maxL := 6) (by decide) (Nat.le_of_ble_eq_true rfl) ?_
  intro G C hE hX hT
  obtain ⟨H1, HP, HW, Hb, Hy, Ho, Htk, Hhk, Hls, HTa, HWa, HHe, HFk, HPk, HK, HH⟩ := id HO
  refine kx_aload_n C dX0_note_0 rfl 0 rfl ?_
  refine kx_iload_n C dX0_note_1 rfl 1 rfl ?_
  refine kx_callVR (rest := []) (wr := []) C (c_requireSlice E K b y o n ls bc tk hk P Wt Tu Sc Ta Wa He Fk Pk x0 HX H1) g0_68 1 rfl (by decide +kernel) ⟨Nat.le_of_ble_eq_true rfl, Nat.le_of_ble_eq_true rfl⟩ ⟨Nat.le_of_ble_eq_true rfl, Nat.le_of_ble_eq_true rfl⟩ [0, 1, 2, 3, 4, 5, 6, 7, 8, 9] [] rfl rfl (by decide) (by decide) (by decide) 0 rfl rfl rfl (Nat.le_of_ble_eq_true rfl) dX0_note_2 (fun n9 q1 => ?_) (fun q1 => ?_)
  · skip
    exact hX (Nat.le_of_ble_eq_true rfl) (Nat.le_of_ble_eq_true rfl) ⟨Or.inl ⟨q1.1, (fun z => q1.2 z.1)⟩, rfl⟩
  obtain ⟨sl, esl, rfl⟩ := q1
  refine kx_iload_n C dX0_note_5 rfl 2 rfl ?_
  refine kx_iconst (v := nI 0) C dX0_note_6 (by decide +kernel) ?_
  refine kx_bipush (v := nI 11) C dX0_note_7 (by decide +kernel) ?_
  refine kx_callSR (rest := []) (wr := (kwW E K b y o n ls bc tk hk P Wt Tu Sc Ta Wa He Fk Pk)) C (c_requireWithin E x1 (nI 0) (nI 11) HX) g0_45 3 rfl (by decide +kernel) ⟨Nat.le_of_ble_eq_true rfl, Nat.le_of_ble_eq_true rfl⟩ ⟨Nat.le_of_ble_eq_true rfl, Nat.le_of_ble_eq_true rfl⟩ [] [0, 1, 2, 3, 4, 5, 6, 7, 8, 9] rfl rfl (by decide) (by decide) (by decide) rfl (Nat.le_of_ble_eq_true rfl) dX0_note_9 (fun n9 q2 => ?_) (fun q2 => ?_)
  · skip
    exact hX (Nat.le_of_ble_eq_true rfl) (Nat.le_of_ble_eq_true rfl) ⟨Or.inl ⟨q2.1, (fun z => (kIn2 (by decide) q2.2) z.2.1)⟩, (List.append_nil _)⟩
  obtain ⟨pi, epi, rfl⟩ := kIn1 (by decide) q2.1 q2.2
  refine kx_iload_n C dX0_note_12 rfl 3 rfl ?_
  refine kx_iconst (v := nI 1) C dX0_note_13 (by decide +kernel) ?_
  refine kx_sipush (v := nI 200) C dX0_note_14 (by decide +kernel) ?_
  refine kx_callSR (rest := []) (wr := (kwW E K b y o n ls bc tk hk P Wt Tu Sc Ta Wa He Fk Pk)) C (c_requireWithin E x2 (nI 1) (nI 200) HX) g0_45 3 rfl (by decide +kernel) ⟨Nat.le_of_ble_eq_true rfl, Nat.le_of_ble_eq_true rfl⟩ ⟨Nat.le_of_ble_eq_true rfl, Nat.le_of_ble_eq_true rfl⟩ [] [0, 1, 2, 3, 4, 5, 6, 7, 8, 9] rfl rfl (by decide) (by decide) (by decide) rfl (Nat.le_of_ble_eq_true rfl) dX0_note_17 (fun n9 q3 => ?_) (fun q3 => ?_)
  · skip
    exact hX (Nat.le_of_ble_eq_true rfl) (Nat.le_of_ble_eq_true rfl) ⟨Or.inl ⟨q3.1, (fun z => (kIn4 (by decide) q3.2) z.2.2)⟩, (List.append_nil _)⟩
  obtain ⟨wt, ewt, rfl⟩ := kIn3 (by decide) q3.1 q3.2
  refine kx_iload_n C dX0_note_20 rfl 1 rfl ?_
  refine kx_bipush (v := nI 12) C dX0_note_21 (by decide +kernel) ?_
  refine kx_imul C dX0_note_23 ?_
  refine kx_iload_n C dX0_note_24 rfl 2 rfl ?_
  refine kx_iadd C dX0_note_25 ?_
  refine kx_istore (lv2 := [(4, .int (nI (((sl) * (12)) + (pi)))), (0, .ref (K 0)), (1, .int (nI (sl))), (2, .int (nI (pi))), (3, .int (nI (wt)))]) C dX0_note_26 (by decide) rfl ?_
  refine kx_aload_n C dX0_note_28 rfl 1 rfl ?_
  refine kx_get (v := .ref (K 2)) (ci := 0) C kin0 0 rfl rfl 1 (by decide) fl0_13 rfl rfl dX0_note_29 ?_
  refine kx_iload C dX0_note_32 0 rfl ?_
  refine kx_iald C 2 rfl (j := ((sl) * (12)) + (pi)) (by omega) (by decide) dX0_note_34 ?_
  refine kx_iload_n C dX0_note_35 rfl 4 rfl ?_
  refine kx_iadd C dX0_note_36 ?_
  refine kx_istore (lv2 := [(5, .int (nI ((Wt (((sl) * (12)) + (pi))) + (wt)))), (4, .int (nI (((sl) * (12)) + (pi)))), (0, .ref (K 0)), (1, .int (nI (sl))), (2, .int (nI (pi))), (3, .int (nI (wt)))]) C dX0_note_37 (by decide) rfl ?_
  refine kx_iload C dX0_note_39 0 rfl ?_
  refine kx_sipush (v := nI 200) C dX0_note_41 (by decide +kernel) ?_
  refine kx_icmp_le (tgt := 57) C (by have := HW (sl * 12 + pi); omega) (by decide) dX0_note_44 (by decide) (fun c4 => ?_) (fun c4 => ?_)
  · skip
    refine kx_aload_n C dX0_note_57 rfl 2 rfl ?_
    refine kx_get (v := .ref (K 2)) (ci := 0) C kin0 0 rfl rfl 1 (by decide) fl0_13 rfl rfl dX0_note_58 ?_
    refine kx_iload C dX0_note_61 1 rfl ?_
    refine kx_iload C dX0_note_63 0 rfl ?_
    refine kx_iast (ws2 := (kwW E K b y o n ls bc tk hk P (va_up Wt (((sl) * (12)) + (pi)) ((Wt (((sl) * (12)) + (pi))) + (wt))) Tu Sc Ta Wa He Fk Pk)) C 2 rfl (j := ((sl) * (12)) + (pi)) (v := (Wt (((sl) * (12)) + (pi))) + (wt)) (by omega) (by decide) rfl dX0_note_65 ?_
    refine kx_aload_n C dX0_note_66 rfl 2 rfl ?_
    refine kx_callVv (rest := []) (wr := []) C (c_forget E K b y o n ls bc tk hk P (va_up Wt (((sl) * (12)) + (pi)) ((Wt (((sl) * (12)) + (pi))) + (wt))) Tu Sc Ta Wa He Fk Pk) g0_49 0 rfl (by decide +kernel) ⟨Nat.le_of_ble_eq_true rfl, Nat.le_of_ble_eq_true rfl⟩ ⟨Nat.le_of_ble_eq_true rfl, Nat.le_of_ble_eq_true rfl⟩ [0, 1, 2, 3, 4, 5, 6, 7, 8, 9] [] rfl rfl (by decide) (by decide) (by decide) 0 rfl rfl rfl (Nat.le_of_ble_eq_true rfl) dX0_note_67 (fun w q5 => ?_)
    obtain rfl := q5
    refine kx_eqw (ws2 := (kwW E K b y o n ls bc 0 0 P (va_up Wt (((sl) * (12)) + (pi)) ((Wt (((sl) * (12)) + (pi))) + (wt))) Tu Sc Ta Wa He Fk Pk)) rfl ?_
    refine kx_iload C dX0_note_70 0 rfl ?_
    exact hE (Nat.le_of_ble_eq_true rfl) (Nat.le_of_ble_eq_true rfl) dX0_note_72 ⟨sl, pi, wt, rfl, esl, rfl, epi, rfl, ewt.1, ewt.2, c4, rfl, ⟨H1, HP, (up_le HW c4), Hb, Hy, Ho, Nat.zero_le _, Nat.zero_le _, Hls, HTa, HWa, HHe, HFk, HPk, fun z => absurd rfl z, fun z => absurd rfl z⟩, rfl⟩
  · skip
    exact hT (kthr_note_47 E HX) (Nat.le_of_ble_eq_true rfl) (Nat.le_of_ble_eq_true rfl) ⟨Or.inr ⟨rfl, sl, pi, wt, rfl, esl, rfl, epi, rfl, ewt.1, ewt.2, c4⟩, rfl⟩

set_option maxHeartbeats 4000000 in
set_option maxRecDepth 100000 in
theorem c_profile (E : KE) (K : Nat → Nat) (b y o n ls bc tk hk : Nat) (P Wt Tu Sc Ta Wa He Fk Pk : Nat → Nat) (x0 x1 x2 : Int32) (HX : E.1.stackTraces = false) (HO : kOk b y o n ls bc tk hk P Wt Tu Sc Ta Wa He Fk Pk) : kTi E yX0_profile cX0_profile 6 (rk 10 1) [.ref (K 0), .int (x0), .int (x1), .int (x2)] (kwW E K b y o n ls bc tk hk P Wt Tu Sc Ta Wa He Fk Pk) (fun r w => ∃ mo stp nu, x0 = nI mo ∧ mo ≤ 1 ∧ x1 = nI stp ∧ stp ≤ 11 ∧ x2 = nI nu ∧ nu ≤ 99 ∧ r = nI (P (mo * 12 + stp)) ∧ kOk b y o n ls bc 0 0 (va_up P (mo * 12 + stp) nu) Wt Tu Sc Ta Wa He Fk Pk ∧ w = (kwW E K b y o n ls bc 0 0 (va_up P (mo * 12 + stp) nu) Wt Tu Sc Ta Wa He Fk Pk)) (fun n9 w => n9 = "java/lang/IllegalArgumentException" ∧ ¬ ((∃ j, j ≤ 1 ∧ x0 = nI j) ∧ (∃ j, j ≤ 11 ∧ x1 = nI j) ∧ (∃ j, j ≤ 99 ∧ x2 = nI j)) ∧ w = (kwW E K b y o n ls bc tk hk P Wt Tu Sc Ta Wa He Fk Pk)) := by
  refine kTi_of (cc := cX0_profile) (maxL := 6) (by decide) (Nat.le_of_ble_eq_true rfl) ?_
  intro G C hE hX hT
  obtain ⟨H1, HP, HW, Hb, Hy, Ho, Htk, Hhk, Hls, HTa, HWa, HHe, HFk, HPk, HK, HH⟩ := id HO
  refine kx_iload_n C dX0_profile_0 rfl 1 rfl ?_
  refine kx_iconst (v := nI 0) C dX0_profile_1 (by decide +kernel) ?_
  refine kx_iconst (v := nI 1) C dX0_profile_2 (by decide +kernel) ?_
  refine kx_callSR (rest := []) (wr := (kwW E K b y o n ls bc tk hk P Wt Tu Sc Ta Wa He Fk Pk)) C (c_requireWithin E x0 (nI 0) (nI 1) HX) g0_45 3 rfl (by decide +kernel) ⟨Nat.le_of_ble_eq_true rfl, Nat.le_of_ble_eq_true rfl⟩ ⟨Nat.le_of_ble_eq_true rfl, Nat.le_of_ble_eq_true rfl⟩ [] [0, 1, 2, 3, 4, 5, 6, 7, 8, 9] rfl rfl (by decide) (by decide) (by decide) rfl (Nat.le_of_ble_eq_true rfl) dX0_profile_3 (fun n9 q1 => ?_) (fun q1 => ?_)
  · skip
    exact hX (Nat.le_of_ble_eq_true rfl) (Nat.le_of_ble_eq_true rfl) ⟨q1.1, (fun z => (kIn2 (by decide) q1.2) z.1), (List.append_nil _)⟩
  obtain ⟨mo, emo, rfl⟩ := kIn1 (by decide) q1.1 q1.2
  refine kx_iload_n C dX0_profile_6 rfl 2 rfl ?_
  refine kx_iconst (v := nI 0) C dX0_profile_7 (by decide +kernel) ?_
  refine kx_bipush (v := nI 11) C dX0_profile_8 (by decide +kernel) ?_
  refine kx_callSR (rest := []) (wr := (kwW E K b y o n ls bc tk hk P Wt Tu Sc Ta Wa He Fk Pk)) C (c_requireWithin E x1 (nI 0) (nI 11) HX) g0_45 3 rfl (by decide +kernel) ⟨Nat.le_of_ble_eq_true rfl, Nat.le_of_ble_eq_true rfl⟩ ⟨Nat.le_of_ble_eq_true rfl, Nat.le_of_ble_eq_true rfl⟩ [] [0, 1, 2, 3, 4, 5, 6, 7, 8, 9] rfl rfl (by decide) (by decide) (by decide) rfl (Nat.le_of_ble_eq_true rfl) dX0_profile_10 (fun n9 q2 => ?_) (fun q2 => ?_)
  · skip
    exact hX (Nat.le_of_ble_eq_true rfl) (Nat.le_of_ble_eq_true rfl) ⟨q2.1, (fun z => (kIn2 (by decide) q2.2) z.2.1), (List.append_nil _)⟩
  obtain ⟨stp, estp, rfl⟩ := kIn1 (by decide) q2.1 q2.2
  refine kx_iload_n C dX0_profile_13 rfl 3 rfl ?_
  refine kx_iconst (v := nI 0) C dX0_profile_14 (by decide +kernel) ?_
  refine kx_bipush (v := nI 99) C dX0_profile_15 (by decide +kernel) ?_
  refine kx_callSR (rest := []) (wr := (kwW E K b y o n ls bc tk hk P Wt Tu Sc Ta Wa He Fk Pk)) C (c_requireWithin E x2 (nI 0) (nI 99) HX) g0_45 3 rfl (by decide +kernel) ⟨Nat.le_of_ble_eq_true rfl, Nat.le_of_ble_eq_true rfl⟩ ⟨Nat.le_of_ble_eq_true rfl, Nat.le_of_ble_eq_true rfl⟩ [] [0, 1, 2, 3, 4, 5, 6, 7, 8, 9] rfl rfl (by decide) (by decide) (by decide) rfl (Nat.le_of_ble_eq_true rfl) dX0_profile_17 (fun n9 q3 => ?_) (fun q3 => ?_)
  · skip
    exact hX (Nat.le_of_ble_eq_true rfl) (Nat.le_of_ble_eq_true rfl) ⟨q3.1, (fun z => (kIn2 (by decide) q3.2) z.2.2), (List.append_nil _)⟩
  obtain ⟨nu, enu, rfl⟩ := kIn1 (by decide) q3.1 q3.2
  refine kx_iload_n C dX0_profile_20 rfl 1 rfl ?_
  refine kx_bipush (v := nI 12) C dX0_profile_21 (by decide +kernel) ?_
  refine kx_imul C dX0_profile_23 ?_
  refine kx_iload_n C dX0_profile_24 rfl 2 rfl ?_
  refine kx_iadd C dX0_profile_25 ?_
  refine kx_istore (lv2 := [(4, .int (nI (((mo) * (12)) + (stp)))), (0, .ref (K 0)), (1, .int (nI (mo))), (2, .int (nI (stp))), (3, .int (nI (nu)))]) C dX0_profile_26 (by decide) rfl ?_
  refine kx_aload_n C dX0_profile_28 rfl 1 rfl ?_
  refine kx_get (v := .ref (K 1)) (ci := 0) C kin0 0 rfl rfl 0 (by decide) fl0_9 rfl rfl dX0_profile_29 ?_
  refine kx_iload C dX0_profile_32 0 rfl ?_
  refine kx_iald C 1 rfl (j := ((mo) * (12)) + (stp)) (by omega) (by decide) dX0_profile_34 ?_
  refine kx_istore (lv2 := [(5, .int (nI (P (((mo) * (12)) + (stp))))), (4, .int (nI (((mo) * (12)) + (stp)))), (0, .ref (K 0)), (1, .int (nI (mo))), (2, .int (nI (stp))), (3, .int (nI (nu)))]) C dX0_profile_35 (by decide) rfl ?_
  refine kx_aload_n C dX0_profile_37 rfl 2 rfl ?_
  refine kx_get (v := .ref (K 1)) (ci := 0) C kin0 0 rfl rfl 0 (by decide) fl0_9 rfl rfl dX0_profile_38 ?_
  refine kx_iload C dX0_profile_41 1 rfl ?_
  refine kx_iload_n C dX0_profile_43 rfl 5 rfl ?_
  refine kx_iast (ws2 := (kwW E K b y o n ls bc tk hk (va_up P (((mo) * (12)) + (stp)) (nu)) Wt Tu Sc Ta Wa He Fk Pk)) C 1 rfl (j := ((mo) * (12)) + (stp)) (v := nu) (by omega) (by decide) rfl dX0_profile_44 ?_
  refine kx_aload_n C dX0_profile_45 rfl 2 rfl ?_
  refine kx_callVv (rest := []) (wr := []) C (c_forget E K b y o n ls bc tk hk (va_up P (((mo) * (12)) + (stp)) (nu)) Wt Tu Sc Ta Wa He Fk Pk) g0_49 0 rfl (by decide +kernel) ⟨Nat.le_of_ble_eq_true rfl, Nat.le_of_ble_eq_true rfl⟩ ⟨Nat.le_of_ble_eq_true rfl, Nat.le_of_ble_eq_true rfl⟩ [0, 1, 2, 3, 4, 5, 6, 7, 8, 9] [] rfl rfl (by decide) (by decide) (by decide) 0 rfl rfl rfl (Nat.le_of_ble_eq_true rfl) dX0_profile_46 (fun w q4 => ?_)
  obtain rfl := q4
  refine kx_eqw (ws2 := (kwW E K b y o n ls bc 0 0 (va_up P (((mo) * (12)) + (stp)) (nu)) Wt Tu Sc Ta Wa He Fk Pk)) rfl ?_
  refine kx_iload C dX0_profile_49 0 rfl ?_
  exact hE (Nat.le_of_ble_eq_true rfl) (Nat.le_of_ble_eq_true rfl) dX0_profile_51 ⟨mo, stp, nu, rfl, emo, rfl, estp, rfl, enu, rfl, ⟨H1, (up_le HP enu), HW, Hb, Hy, Ho, Nat.zero_le _, Nat.zero_le _, Hls, HTa, HWa, HHe, HFk, HPk, fun z => absurd rfl z, fun z => absurd rfl z⟩, rfl⟩

set_option maxHeartbeats 4000000 in
set_option maxRecDepth 100000 in
theorem c_costs (E : KE) (K : Nat → Nat) (b y o n ls bc tk hk : Nat) (P Wt Tu Sc Ta Wa He Fk Pk : Nat → Nat) (x0 x1 x2 : Int32) (HX : E.1.stackTraces = false) (HO : kOk b y o n ls bc tk hk P Wt Tu Sc Ta Wa He Fk Pk) : kTi E yX0_costs cX0_costs 5 (rk 10 1) [.ref (K 0), .int (x0), .int (x1), .int (x2)] (kwW E K b y o n ls bc tk hk P Wt Tu Sc Ta Wa He Fk Pk) (fun r w => ∃ b2 y2 o2, x0 = nI b2 ∧ b2 ≤ 1000 ∧ x1 = nI y2 ∧ y2 ≤ 1000 ∧ x2 = nI o2 ∧ o2 ≤ 1000 ∧ r = nI ((if b = b2 then 0 else 1) + (if y = y2 then 0 else 1) + (if o = o2 then 0 else 1)) ∧ kOk b2 y2 o2 n ls bc 0 0 P Wt Tu Sc Ta Wa He Fk Pk ∧ w = (kwW E K b2 y2 o2 n ls bc 0 0 P Wt Tu Sc Ta Wa He Fk Pk)) (fun n9 w => n9 = "java/lang/IllegalArgumentException" ∧ ¬ ((∃ j, j ≤ 1000 ∧ x0 = nI j) ∧ (∃ j, j ≤ 1000 ∧ x1 = nI j) ∧ (∃ j, j ≤ 1000 ∧ x2 = nI j)) ∧ w = (kwW E K b y o n ls bc tk hk P Wt Tu Sc Ta Wa He Fk Pk)) := by
  refine kTi_of (cc := cX0_costs) (maxL := 5) (by decide) (Nat.le_of_ble_eq_true rfl) ?_
  intro G C hE hX hT
  obtain ⟨H1, HP, HW, Hb, Hy, Ho, Htk, Hhk, Hls, HTa, HWa, HHe, HFk, HPk, HK, HH⟩ := id HO
  refine kx_iload_n C dX0_costs_0 rfl 1 rfl ?_
  refine kx_iconst (v := nI 0) C dX0_costs_1 (by decide +kernel) ?_
  refine kx_sipush (v := nI 1000) C dX0_costs_2 (by decide +kernel) ?_
  refine kx_callSR (rest := []) (wr := (kwW E K b y o n ls bc tk hk P Wt Tu Sc Ta Wa He Fk Pk)) C (c_requireWithin E x0 (nI 0) (nI 1000) HX) g0_45 3 rfl (by decide +kernel) ⟨Nat.le_of_ble_eq_true rfl, Nat.le_of_ble_eq_true rfl⟩ ⟨Nat.le_of_ble_eq_true rfl, Nat.le_of_ble_eq_true rfl⟩ [] [0, 1, 2, 3, 4, 5, 6, 7, 8, 9] rfl rfl (by decide) (by decide) (by decide) rfl (Nat.le_of_ble_eq_true rfl) dX0_costs_5 (fun n9 q1 => ?_) (fun q1 => ?_)
  · skip
    exact hX (Nat.le_of_ble_eq_true rfl) (Nat.le_of_ble_eq_true rfl) ⟨q1.1, (fun z => (kIn2 (by decide) q1.2) z.1), (List.append_nil _)⟩
  obtain ⟨b2, eb2, rfl⟩ := kIn1 (by decide) q1.1 q1.2
  refine kx_iload_n C dX0_costs_8 rfl 2 rfl ?_
  refine kx_iconst (v := nI 0) C dX0_costs_9 (by decide +kernel) ?_
  refine kx_sipush (v := nI 1000) C dX0_costs_10 (by decide +kernel) ?_
  refine kx_callSR (rest := []) (wr := (kwW E K b y o n ls bc tk hk P Wt Tu Sc Ta Wa He Fk Pk)) C (c_requireWithin E x1 (nI 0) (nI 1000) HX) g0_45 3 rfl (by decide +kernel) ⟨Nat.le_of_ble_eq_true rfl, Nat.le_of_ble_eq_true rfl⟩ ⟨Nat.le_of_ble_eq_true rfl, Nat.le_of_ble_eq_true rfl⟩ [] [0, 1, 2, 3, 4, 5, 6, 7, 8, 9] rfl rfl (by decide) (by decide) (by decide) rfl (Nat.le_of_ble_eq_true rfl) dX0_costs_13 (fun n9 q2 => ?_) (fun q2 => ?_)
  · skip
    exact hX (Nat.le_of_ble_eq_true rfl) (Nat.le_of_ble_eq_true rfl) ⟨q2.1, (fun z => (kIn2 (by decide) q2.2) z.2.1), (List.append_nil _)⟩
  obtain ⟨y2, ey2, rfl⟩ := kIn1 (by decide) q2.1 q2.2
  refine kx_iload_n C dX0_costs_16 rfl 3 rfl ?_
  refine kx_iconst (v := nI 0) C dX0_costs_17 (by decide +kernel) ?_
  refine kx_sipush (v := nI 1000) C dX0_costs_18 (by decide +kernel) ?_
  refine kx_callSR (rest := []) (wr := (kwW E K b y o n ls bc tk hk P Wt Tu Sc Ta Wa He Fk Pk)) C (c_requireWithin E x2 (nI 0) (nI 1000) HX) g0_45 3 rfl (by decide +kernel) ⟨Nat.le_of_ble_eq_true rfl, Nat.le_of_ble_eq_true rfl⟩ ⟨Nat.le_of_ble_eq_true rfl, Nat.le_of_ble_eq_true rfl⟩ [] [0, 1, 2, 3, 4, 5, 6, 7, 8, 9] rfl rfl (by decide) (by decide) (by decide) rfl (Nat.le_of_ble_eq_true rfl) dX0_costs_21 (fun n9 q3 => ?_) (fun q3 => ?_)
  · skip
    exact hX (Nat.le_of_ble_eq_true rfl) (Nat.le_of_ble_eq_true rfl) ⟨q3.1, (fun z => (kIn2 (by decide) q3.2) z.2.2), (List.append_nil _)⟩
  obtain ⟨o2, eo2, rfl⟩ := kIn1 (by decide) q3.1 q3.2
  refine kx_aload_n C dX0_costs_24 rfl 0 rfl ?_
  refine kx_get (v := .int (nI (b))) (ci := 0) C kin0 0 rfl rfl 2 (by decide) fl0_52 rfl rfl dX0_costs_25 ?_
  refine kx_iload_n C dX0_costs_28 rfl 1 rfl ?_
  refine kx_icmp_eq (tgt := 36) C (by omega) (by omega) dX0_costs_29 (by decide) (fun c4 => ?_) (fun c4 => ?_)
  · skip
    refine kx_iconst (v := nI 0) C dX0_costs_36 (by decide +kernel) ?_
    refine kx_aload_n C dX0_costs_37 rfl 0 rfl ?_
    refine kx_get (v := .int (nI (y))) (ci := 0) C kin0 0 rfl rfl 3 (by decide) fl0_55 rfl rfl dX0_costs_38 ?_
    refine kx_iload_n C dX0_costs_41 rfl 2 rfl ?_
    refine kx_icmp_eq (tgt := 49) C (by omega) (by omega) dX0_costs_42 (by decide) (fun c5 => ?_) (fun c5 => ?_)
    · skip
      refine kx_iconst (v := nI 0) C dX0_costs_49 (by decide +kernel) ?_
      refine kx_iadd C dX0_costs_50 ?_
      refine kx_aload_n C dX0_costs_51 rfl 0 rfl ?_
      refine kx_get (v := .int (nI (o))) (ci := 0) C kin0 0 rfl rfl 4 (by decide) fl0_58 rfl rfl dX0_costs_52 ?_
      refine kx_iload_n C dX0_costs_55 rfl 3 rfl ?_
      refine kx_icmp_eq (tgt := 63) C (by omega) (by omega) dX0_costs_56 (by decide) (fun c6 => ?_) (fun c6 => ?_)
      · skip
        refine kx_iconst (v := nI 0) C dX0_costs_63 (by decide +kernel) ?_
        refine kx_iadd C dX0_costs_64 ?_
        refine kx_istore (lv2 := [(4, .int (nI (((0) + (0)) + (0)))), (0, .ref (K 0)), (1, .int (nI (b2))), (2, .int (nI (y2))), (3, .int (nI (o2)))]) C dX0_costs_65 (by decide) rfl ?_
        refine kx_aload_n C dX0_costs_67 rfl 1 rfl ?_
        refine kx_iload_n C dX0_costs_68 rfl 2 rfl ?_
        refine kx_put (ws2 := (kwW E K b2 y o n ls bc tk hk P Wt Tu Sc Ta Wa He Fk Pk)) (ci := 0) C kin0 tyX0_ok nmX0 0 rfl rfl 2 (by decide) fl0_52 rfl rfl rfl rfl (Nat.le_of_ble_eq_true rfl) rfl dX0_costs_69 ?_
        refine kx_aload_n C dX0_costs_72 rfl 1 rfl ?_
        refine kx_iload_n C dX0_costs_73 rfl 3 rfl ?_
        refine kx_put (ws2 := (kwW E K b2 y2 o n ls bc tk hk P Wt Tu Sc Ta Wa He Fk Pk)) (ci := 0) C kin0 tyX0_ok nmX0 0 rfl rfl 3 (by decide) fl0_55 rfl rfl rfl rfl (Nat.le_of_ble_eq_true rfl) rfl dX0_costs_74 ?_
        refine kx_aload_n C dX0_costs_77 rfl 1 rfl ?_
        refine kx_iload_n C dX0_costs_78 rfl 4 rfl ?_
        refine kx_put (ws2 := (kwW E K b2 y2 o2 n ls bc tk hk P Wt Tu Sc Ta Wa He Fk Pk)) (ci := 0) C kin0 tyX0_ok nmX0 0 rfl rfl 4 (by decide) fl0_58 rfl rfl rfl rfl (Nat.le_of_ble_eq_true rfl) rfl dX0_costs_79 ?_
        refine kx_aload_n C dX0_costs_82 rfl 1 rfl ?_
        refine kx_callVv (rest := []) (wr := []) C (c_forget E K b2 y2 o2 n ls bc tk hk P Wt Tu Sc Ta Wa He Fk Pk) g0_49 0 rfl (by decide +kernel) ⟨Nat.le_of_ble_eq_true rfl, Nat.le_of_ble_eq_true rfl⟩ ⟨Nat.le_of_ble_eq_true rfl, Nat.le_of_ble_eq_true rfl⟩ [0, 1, 2, 3, 4, 5, 6, 7, 8, 9] [] rfl rfl (by decide) (by decide) (by decide) 0 rfl rfl rfl (Nat.le_of_ble_eq_true rfl) dX0_costs_83 (fun w q7 => ?_)
        obtain rfl := q7
        refine kx_eqw (ws2 := (kwW E K b2 y2 o2 n ls bc 0 0 P Wt Tu Sc Ta Wa He Fk Pk)) rfl ?_
        refine kx_iload C dX0_costs_86 0 rfl ?_
        exact hE (Nat.le_of_ble_eq_true rfl) (Nat.le_of_ble_eq_true rfl) dX0_costs_88 ⟨b2, y2, o2, rfl, eb2, rfl, ey2, rfl, eo2, congrArg nI (by simp [*]), ⟨H1, HP, HW, eb2, ey2, eo2, Nat.zero_le _, Nat.zero_le _, Hls, HTa, HWa, HHe, HFk, HPk, fun z => absurd rfl z, fun z => absurd rfl z⟩, rfl⟩
      · skip
        refine kx_iconst (v := nI 1) C dX0_costs_59 (by decide +kernel) ?_
        refine kx_goto (tgt := 64) C dX0_costs_60 (by decide) ?_
        refine kx_iadd C dX0_costs_64 ?_
        refine kx_istore (lv2 := [(4, .int (nI (((0) + (0)) + (1)))), (0, .ref (K 0)), (1, .int (nI (b2))), (2, .int (nI (y2))), (3, .int (nI (o2)))]) C dX0_costs_65 (by decide) rfl ?_
        refine kx_aload_n C dX0_costs_67 rfl 1 rfl ?_
        refine kx_iload_n C dX0_costs_68 rfl 2 rfl ?_
        refine kx_put (ws2 := (kwW E K b2 y o n ls bc tk hk P Wt Tu Sc Ta Wa He Fk Pk)) (ci := 0) C kin0 tyX0_ok nmX0 0 rfl rfl 2 (by decide) fl0_52 rfl rfl rfl rfl (Nat.le_of_ble_eq_true rfl) rfl dX0_costs_69 ?_
        refine kx_aload_n C dX0_costs_72 rfl 1 rfl ?_
        refine kx_iload_n C dX0_costs_73 rfl 3 rfl ?_
        refine kx_put (ws2 := (kwW E K b2 y2 o n ls bc tk hk P Wt Tu Sc Ta Wa He Fk Pk)) (ci := 0) C kin0 tyX0_ok nmX0 0 rfl rfl 3 (by decide) fl0_55 rfl rfl rfl rfl (Nat.le_of_ble_eq_true rfl) rfl dX0_costs_74 ?_
        refine kx_aload_n C dX0_costs_77 rfl 1 rfl ?_
        refine kx_iload_n C dX0_costs_78 rfl 4 rfl ?_
        refine kx_put (ws2 := (kwW E K b2 y2 o2 n ls bc tk hk P Wt Tu Sc Ta Wa He Fk Pk)) (ci := 0) C kin0 tyX0_ok nmX0 0 rfl rfl 4 (by decide) fl0_58 rfl rfl rfl rfl (Nat.le_of_ble_eq_true rfl) rfl dX0_costs_79 ?_
        refine kx_aload_n C dX0_costs_82 rfl 1 rfl ?_
        refine kx_callVv (rest := []) (wr := []) C (c_forget E K b2 y2 o2 n ls bc tk hk P Wt Tu Sc Ta Wa He Fk Pk) g0_49 0 rfl (by decide +kernel) ⟨Nat.le_of_ble_eq_true rfl, Nat.le_of_ble_eq_true rfl⟩ ⟨Nat.le_of_ble_eq_true rfl, Nat.le_of_ble_eq_true rfl⟩ [0, 1, 2, 3, 4, 5, 6, 7, 8, 9] [] rfl rfl (by decide) (by decide) (by decide) 0 rfl rfl rfl (Nat.le_of_ble_eq_true rfl) dX0_costs_83 (fun w q8 => ?_)
        obtain rfl := q8
        refine kx_eqw (ws2 := (kwW E K b2 y2 o2 n ls bc 0 0 P Wt Tu Sc Ta Wa He Fk Pk)) rfl ?_
        refine kx_iload C dX0_costs_86 0 rfl ?_
        exact hE (Nat.le_of_ble_eq_true rfl) (Nat.le_of_ble_eq_true rfl) dX0_costs_88 ⟨b2, y2, o2, rfl, eb2, rfl, ey2, rfl, eo2, congrArg nI (by simp [*]), ⟨H1, HP, HW, eb2, ey2, eo2, Nat.zero_le _, Nat.zero_le _, Hls, HTa, HWa, HHe, HFk, HPk, fun z => absurd rfl z, fun z => absurd rfl z⟩, rfl⟩
    · skip
      refine kx_iconst (v := nI 1) C dX0_costs_45 (by decide +kernel) ?_
      refine kx_goto (tgt := 50) C dX0_costs_46 (by decide) ?_
      refine kx_iadd C dX0_costs_50 ?_
      refine kx_aload_n C dX0_costs_51 rfl 0 rfl ?_
      refine kx_get (v := .int (nI (o))) (ci := 0) C kin0 0 rfl rfl 4 (by decide) fl0_58 rfl rfl dX0_costs_52 ?_
      refine kx_iload_n C dX0_costs_55 rfl 3 rfl ?_
      refine kx_icmp_eq (tgt := 63) C (by omega) (by omega) dX0_costs_56 (by decide) (fun c9 => ?_) (fun c9 => ?_)
      · skip
        refine kx_iconst (v := nI 0) C dX0_costs_63 (by decide +kernel) ?_
        refine kx_iadd C dX0_costs_64 ?_
        refine kx_istore (lv2 := [(4, .int (nI (((0) + (1)) + (0)))), (0, .ref (K 0)), (1, .int (nI (b2))), (2, .int (nI (y2))), (3, .int (nI (o2)))]) C dX0_costs_65 (by decide) rfl ?_
        refine kx_aload_n C dX0_costs_67 rfl 1 rfl ?_
        refine kx_iload_n C dX0_costs_68 rfl 2 rfl ?_
        refine kx_put (ws2 := (kwW E K b2 y o n ls bc tk hk P Wt Tu Sc Ta Wa He Fk Pk)) (ci := 0) C kin0 tyX0_ok nmX0 0 rfl rfl 2 (by decide) fl0_52 rfl rfl rfl rfl (Nat.le_of_ble_eq_true rfl) rfl dX0_costs_69 ?_
        refine kx_aload_n C dX0_costs_72 rfl 1 rfl ?_
        refine kx_iload_n C dX0_costs_73 rfl 3 rfl ?_
        refine kx_put (ws2 := (kwW E K b2 y2 o n ls bc tk hk P Wt Tu Sc Ta Wa He Fk Pk)) (ci := 0) C kin0 tyX0_ok nmX0 0 rfl rfl 3 (by decide) fl0_55 rfl rfl rfl rfl (Nat.le_of_ble_eq_true rfl) rfl dX0_costs_74 ?_
        refine kx_aload_n C dX0_costs_77 rfl 1 rfl ?_
        refine kx_iload_n C dX0_costs_78 rfl 4 rfl ?_
        refine kx_put (ws2 := (kwW E K b2 y2 o2 n ls bc tk hk P Wt Tu Sc Ta Wa He Fk Pk)) (ci := 0) C kin0 tyX0_ok nmX0 0 rfl rfl 4 (by decide) fl0_58 rfl rfl rfl rfl (Nat.le_of_ble_eq_true rfl) rfl dX0_costs_79 ?_
        refine kx_aload_n C dX0_costs_82 rfl 1 rfl ?_
        refine kx_callVv (rest := []) (wr := []) C (c_forget E K b2 y2 o2 n ls bc tk hk P Wt Tu Sc Ta Wa He Fk Pk) g0_49 0 rfl (by decide +kernel) ⟨Nat.le_of_ble_eq_true rfl, Nat.le_of_ble_eq_true rfl⟩ ⟨Nat.le_of_ble_eq_true rfl, Nat.le_of_ble_eq_true rfl⟩ [0, 1, 2, 3, 4, 5, 6, 7, 8, 9] [] rfl rfl (by decide) (by decide) (by decide) 0 rfl rfl rfl (Nat.le_of_ble_eq_true rfl) dX0_costs_83 (fun w q10 => ?_)
        obtain rfl := q10
        refine kx_eqw (ws2 := (kwW E K b2 y2 o2 n ls bc 0 0 P Wt Tu Sc Ta Wa He Fk Pk)) rfl ?_
        refine kx_iload C dX0_costs_86 0 rfl ?_
        exact hE (Nat.le_of_ble_eq_true rfl) (Nat.le_of_ble_eq_true rfl) dX0_costs_88 ⟨b2, y2, o2, rfl, eb2, rfl, ey2, rfl, eo2, congrArg nI (by simp [*]), ⟨H1, HP, HW, eb2, ey2, eo2, Nat.zero_le _, Nat.zero_le _, Hls, HTa, HWa, HHe, HFk, HPk, fun z => absurd rfl z, fun z => absurd rfl z⟩, rfl⟩
      · skip
        refine kx_iconst (v := nI 1) C dX0_costs_59 (by decide +kernel) ?_
        refine kx_goto (tgt := 64) C dX0_costs_60 (by decide) ?_
        refine kx_iadd C dX0_costs_64 ?_
        refine kx_istore (lv2 := [(4, .int (nI (((0) + (1)) + (1)))), (0, .ref (K 0)), (1, .int (nI (b2))), (2, .int (nI (y2))), (3, .int (nI (o2)))]) C dX0_costs_65 (by decide) rfl ?_
        refine kx_aload_n C dX0_costs_67 rfl 1 rfl ?_
        refine kx_iload_n C dX0_costs_68 rfl 2 rfl ?_
        refine kx_put (ws2 := (kwW E K b2 y o n ls bc tk hk P Wt Tu Sc Ta Wa He Fk Pk)) (ci := 0) C kin0 tyX0_ok nmX0 0 rfl rfl 2 (by decide) fl0_52 rfl rfl rfl rfl (Nat.le_of_ble_eq_true rfl) rfl dX0_costs_69 ?_
        refine kx_aload_n C dX0_costs_72 rfl 1 rfl ?_
        refine kx_iload_n C dX0_costs_73 rfl 3 rfl ?_
        refine kx_put (ws2 := (kwW E K b2 y2 o n ls bc tk hk P Wt Tu Sc Ta Wa He Fk Pk)) (ci := 0) C kin0 tyX0_ok nmX0 0 rfl rfl 3 (by decide) fl0_55 rfl rfl rfl rfl (Nat.le_of_ble_eq_true rfl) rfl dX0_costs_74 ?_
        refine kx_aload_n C dX0_costs_77 rfl 1 rfl ?_
        refine kx_iload_n C dX0_costs_78 rfl 4 rfl ?_
        refine kx_put (ws2 := (kwW E K b2 y2 o2 n ls bc tk hk P Wt Tu Sc Ta Wa He Fk Pk)) (ci := 0) C kin0 tyX0_ok nmX0 0 rfl rfl 4 (by decide) fl0_58 rfl rfl rfl rfl (Nat.le_of_ble_eq_true rfl) rfl dX0_costs_79 ?_
        refine kx_aload_n C dX0_costs_82 rfl 1 rfl ?_
        refine kx_callVv (rest := []) (wr := []) C (c_forget E K b2 y2 o2 n ls bc tk hk P Wt Tu Sc Ta Wa He Fk Pk) g0_49 0 rfl (by decide +kernel) ⟨Nat.le_of_ble_eq_true rfl, Nat.le_of_ble_eq_true rfl⟩ ⟨Nat.le_of_ble_eq_true rfl, Nat.le_of_ble_eq_true rfl⟩ [0, 1, 2, 3, 4, 5, 6, 7, 8, 9] [] rfl rfl (by decide) (by decide) (by decide) 0 rfl rfl rfl (Nat.le_of_ble_eq_true rfl) dX0_costs_83 (fun w q11 => ?_)
        obtain rfl := q11
        refine kx_eqw (ws2 := (kwW E K b2 y2 o2 n ls bc 0 0 P Wt Tu Sc Ta Wa He Fk Pk)) rfl ?_
        refine kx_iload C dX0_costs_86 0 rfl ?_
        exact hE (Nat.le_of_ble_eq_true rfl) (Nat.le_of_ble_eq_true rfl) dX0_costs_88 ⟨b2, y2, o2, rfl, eb2, rfl, ey2, rfl, eo2, congrArg nI (by simp [*]), ⟨H1, HP, HW, eb2, ey2, eo2, Nat.zero_le _, Nat.zero_le _, Hls, HTa, HWa, HHe, HFk, HPk, fun z => absurd rfl z, fun z => absurd rfl z⟩, rfl⟩
  · skip
    refine kx_iconst (v := nI 1) C dX0_costs_32 (by decide +kernel) ?_
    refine kx_goto (tgt := 37) C dX0_costs_33 (by decide) ?_
    refine kx_aload_n C dX0_costs_37 rfl 0 rfl ?_
    refine kx_get (v := .int (nI (y))) (ci := 0) C kin0 0 rfl rfl 3 (by decide) fl0_55 rfl rfl dX0_costs_38 ?_
    refine kx_iload_n C dX0_costs_41 rfl 2 rfl ?_
    refine kx_icmp_eq (tgt := 49) C (by omega) (by omega) dX0_costs_42 (by decide) (fun c12 => ?_) (fun c12 => ?_)
    · skip
      refine kx_iconst (v := nI 0) C dX0_costs_49 (by decide +kernel) ?_
      refine kx_iadd C dX0_costs_50 ?_
      refine kx_aload_n C dX0_costs_51 rfl 0 rfl ?_
      refine kx_get (v := .int (nI (o))) (ci := 0) C kin0 0 rfl rfl 4 (by decide) fl0_58 rfl rfl dX0_costs_52 ?_
      refine kx_iload_n C dX0_costs_55 rfl 3 rfl ?_
      refine kx_icmp_eq (tgt := 63) C (by omega) (by omega) dX0_costs_56 (by decide) (fun c13 => ?_) (fun c13 => ?_)
      · skip
        refine kx_iconst (v := nI 0) C dX0_costs_63 (by decide +kernel) ?_
        refine kx_iadd C dX0_costs_64 ?_
        refine kx_istore (lv2 := [(4, .int (nI (((1) + (0)) + (0)))), (0, .ref (K 0)), (1, .int (nI (b2))), (2, .int (nI (y2))), (3, .int (nI (o2)))]) C dX0_costs_65 (by decide) rfl ?_
        refine kx_aload_n C dX0_costs_67 rfl 1 rfl ?_
        refine kx_iload_n C dX0_costs_68 rfl 2 rfl ?_
        refine kx_put (ws2 := (kwW E K b2 y o n ls bc tk hk P Wt Tu Sc Ta Wa He Fk Pk)) (ci := 0) C kin0 tyX0_ok nmX0 0 rfl rfl 2 (by decide) fl0_52 rfl rfl rfl rfl (Nat.le_of_ble_eq_true rfl) rfl dX0_costs_69 ?_
        refine kx_aload_n C dX0_costs_72 rfl 1 rfl ?_
        refine kx_iload_n C dX0_costs_73 rfl 3 rfl ?_
        refine kx_put (ws2 := (kwW E K b2 y2 o n ls bc tk hk P Wt Tu Sc Ta Wa He Fk Pk)) (ci := 0) C kin0 tyX0_ok nmX0 0 rfl rfl 3 (by decide) fl0_55 rfl rfl rfl rfl (Nat.le_of_ble_eq_true rfl) rfl dX0_costs_74 ?_
        refine kx_aload_n C dX0_costs_77 rfl 1 rfl ?_
        refine kx_iload_n C dX0_costs_78 rfl 4 rfl ?_
        refine kx_put (ws2 := (kwW E K b2 y2 o2 n ls bc tk hk P Wt Tu Sc Ta Wa He Fk Pk)) (ci := 0) C kin0 tyX0_ok nmX0 0 rfl rfl 4 (by decide) fl0_58 rfl rfl rfl rfl (Nat.le_of_ble_eq_true rfl) rfl dX0_costs_79 ?_
        refine kx_aload_n C dX0_costs_82 rfl 1 rfl ?_
        refine kx_callVv (rest := []) (wr := []) C (c_forget E K b2 y2 o2 n ls bc tk hk P Wt Tu Sc Ta Wa He Fk Pk) g0_49 0 rfl (by decide +kernel) ⟨Nat.le_of_ble_eq_true rfl, Nat.le_of_ble_eq_true rfl⟩ ⟨Nat.le_of_ble_eq_true rfl, Nat.le_of_ble_eq_true rfl⟩ [0, 1, 2, 3, 4, 5, 6, 7, 8, 9] [] rfl rfl (by decide) (by decide) (by decide) 0 rfl rfl rfl (Nat.le_of_ble_eq_true rfl) dX0_costs_83 (fun w q14 => ?_)
        obtain rfl := q14
        refine kx_eqw (ws2 := (kwW E K b2 y2 o2 n ls bc 0 0 P Wt Tu Sc Ta Wa He Fk Pk)) rfl ?_
        refine kx_iload C dX0_costs_86 0 rfl ?_
        exact hE (Nat.le_of_ble_eq_true rfl) (Nat.le_of_ble_eq_true rfl) dX0_costs_88 ⟨b2, y2, o2, rfl, eb2, rfl, ey2, rfl, eo2, congrArg nI (by simp [*]), ⟨H1, HP, HW, eb2, ey2, eo2, Nat.zero_le _, Nat.zero_le _, Hls, HTa, HWa, HHe, HFk, HPk, fun z => absurd rfl z, fun z => absurd rfl z⟩, rfl⟩
      · skip
        refine kx_iconst (v := nI 1) C dX0_costs_59 (by decide +kernel) ?_
        refine kx_goto (tgt := 64) C dX0_costs_60 (by decide) ?_
        refine kx_iadd C dX0_costs_64 ?_
        refine kx_istore (lv2 := [(4, .int (nI (((1) + (0)) + (1)))), (0, .ref (K 0)), (1, .int (nI (b2))), (2, .int (nI (y2))), (3, .int (nI (o2)))]) C dX0_costs_65 (by decide) rfl ?_
        refine kx_aload_n C dX0_costs_67 rfl 1 rfl ?_
        refine kx_iload_n C dX0_costs_68 rfl 2 rfl ?_
        refine kx_put (ws2 := (kwW E K b2 y o n ls bc tk hk P Wt Tu Sc Ta Wa He Fk Pk)) (ci := 0) C kin0 tyX0_ok nmX0 0 rfl rfl 2 (by decide) fl0_52 rfl rfl rfl rfl (Nat.le_of_ble_eq_true rfl) rfl dX0_costs_69 ?_
        refine kx_aload_n C dX0_costs_72 rfl 1 rfl ?_
        refine kx_iload_n C dX0_costs_73 rfl 3 rfl ?_
        refine kx_put (ws2 := (kwW E K b2 y2 o n ls bc tk hk P Wt Tu Sc Ta Wa He Fk Pk)) (ci := 0) C kin0 tyX0_ok nmX0 0 rfl rfl 3 (by decide) fl0_55 rfl rfl rfl rfl (Nat.le_of_ble_eq_true rfl) rfl dX0_costs_74 ?_
        refine kx_aload_n C dX0_costs_77 rfl 1 rfl ?_
        refine kx_iload_n C dX0_costs_78 rfl 4 rfl ?_
        refine kx_put (ws2 := (kwW E K b2 y2 o2 n ls bc tk hk P Wt Tu Sc Ta Wa He Fk Pk)) (ci := 0) C kin0 tyX0_ok nmX0 0 rfl rfl 4 (by decide) fl0_58 rfl rfl rfl rfl (Nat.le_of_ble_eq_true rfl) rfl dX0_costs_79 ?_
        refine kx_aload_n C dX0_costs_82 rfl 1 rfl ?_
        refine kx_callVv (rest := []) (wr := []) C (c_forget E K b2 y2 o2 n ls bc tk hk P Wt Tu Sc Ta Wa He Fk Pk) g0_49 0 rfl (by decide +kernel) ⟨Nat.le_of_ble_eq_true rfl, Nat.le_of_ble_eq_true rfl⟩ ⟨Nat.le_of_ble_eq_true rfl, Nat.le_of_ble_eq_true rfl⟩ [0, 1, 2, 3, 4, 5, 6, 7, 8, 9] [] rfl rfl (by decide) (by decide) (by decide) 0 rfl rfl rfl (Nat.le_of_ble_eq_true rfl) dX0_costs_83 (fun w q15 => ?_)
        obtain rfl := q15
        refine kx_eqw (ws2 := (kwW E K b2 y2 o2 n ls bc 0 0 P Wt Tu Sc Ta Wa He Fk Pk)) rfl ?_
        refine kx_iload C dX0_costs_86 0 rfl ?_
        exact hE (Nat.le_of_ble_eq_true rfl) (Nat.le_of_ble_eq_true rfl) dX0_costs_88 ⟨b2, y2, o2, rfl, eb2, rfl, ey2, rfl, eo2, congrArg nI (by simp [*]), ⟨H1, HP, HW, eb2, ey2, eo2, Nat.zero_le _, Nat.zero_le _, Hls, HTa, HWa, HHe, HFk, HPk, fun z => absurd rfl z, fun z => absurd rfl z⟩, rfl⟩
    · skip
      refine kx_iconst (v := nI 1) C dX0_costs_45 (by decide +kernel) ?_
      refine kx_goto (tgt := 50) C dX0_costs_46 (by decide) ?_
      refine kx_iadd C dX0_costs_50 ?_
      refine kx_aload_n C dX0_costs_51 rfl 0 rfl ?_
      refine kx_get (v := .int (nI (o))) (ci := 0) C kin0 0 rfl rfl 4 (by decide) fl0_58 rfl rfl dX0_costs_52 ?_
      refine kx_iload_n C dX0_costs_55 rfl 3 rfl ?_
      refine kx_icmp_eq (tgt := 63) C (by omega) (by omega) dX0_costs_56 (by decide) (fun c16 => ?_) (fun c16 => ?_)
      · skip
        refine kx_iconst (v := nI 0) C dX0_costs_63 (by decide +kernel) ?_
        refine kx_iadd C dX0_costs_64 ?_
        refine kx_istore (lv2 := [(4, .int (nI (((1) + (1)) + (0)))), (0, .ref (K 0)), (1, .int (nI (b2))), (2, .int (nI (y2))), (3, .int (nI (o2)))]) C dX0_costs_65 (by decide) rfl ?_
        refine kx_aload_n C dX0_costs_67 rfl 1 rfl ?_
        refine kx_iload_n C dX0_costs_68 rfl 2 rfl ?_
        refine kx_put (ws2 := (kwW E K b2 y o n ls bc tk hk P Wt Tu Sc Ta Wa He Fk Pk)) (ci := 0) C kin0 tyX0_ok nmX0 0 rfl rfl 2 (by decide) fl0_52 rfl rfl rfl rfl (Nat.le_of_ble_eq_true rfl) rfl dX0_costs_69 ?_
        refine kx_aload_n C dX0_costs_72 rfl 1 rfl ?_
        refine kx_iload_n C dX0_costs_73 rfl 3 rfl ?_
        refine kx_put (ws2 := (kwW E K b2 y2 o n ls bc tk hk P Wt Tu Sc Ta Wa He Fk Pk)) (ci := 0) C kin0 tyX0_ok nmX0 0 rfl rfl 3 (by decide) fl0_55 rfl rfl rfl rfl (Nat.le_of_ble_eq_true rfl) rfl dX0_costs_74 ?_
        refine kx_aload_n C dX0_costs_77 rfl 1 rfl ?_
        refine kx_iload_n C dX0_costs_78 rfl 4 rfl ?_
        refine kx_put (ws2 := (kwW E K b2 y2 o2 n ls bc tk hk P Wt Tu Sc Ta Wa He Fk Pk)) (ci := 0) C kin0 tyX0_ok nmX0 0 rfl rfl 4 (by decide) fl0_58 rfl rfl rfl rfl (Nat.le_of_ble_eq_true rfl) rfl dX0_costs_79 ?_
        refine kx_aload_n C dX0_costs_82 rfl 1 rfl ?_
        refine kx_callVv (rest := []) (wr := []) C (c_forget E K b2 y2 o2 n ls bc tk hk P Wt Tu Sc Ta Wa He Fk Pk) g0_49 0 rfl (by decide +kernel) ⟨Nat.le_of_ble_eq_true rfl, Nat.le_of_ble_eq_true rfl⟩ ⟨Nat.le_of_ble_eq_true rfl, Nat.le_of_ble_eq_true rfl⟩ [0, 1, 2, 3, 4, 5, 6, 7, 8, 9] [] rfl rfl (by decide) (by decide) (by decide) 0 rfl rfl rfl (Nat.le_of_ble_eq_true rfl) dX0_costs_83 (fun w q17 => ?_)
        obtain rfl := q17
        refine kx_eqw (ws2 := (kwW E K b2 y2 o2 n ls bc 0 0 P Wt Tu Sc Ta Wa He Fk Pk)) rfl ?_
        refine kx_iload C dX0_costs_86 0 rfl ?_
        exact hE (Nat.le_of_ble_eq_true rfl) (Nat.le_of_ble_eq_true rfl) dX0_costs_88 ⟨b2, y2, o2, rfl, eb2, rfl, ey2, rfl, eo2, congrArg nI (by simp [*]), ⟨H1, HP, HW, eb2, ey2, eo2, Nat.zero_le _, Nat.zero_le _, Hls, HTa, HWa, HHe, HFk, HPk, fun z => absurd rfl z, fun z => absurd rfl z⟩, rfl⟩
      · skip
        refine kx_iconst (v := nI 1) C dX0_costs_59 (by decide +kernel) ?_
        refine kx_goto (tgt := 64) C dX0_costs_60 (by decide) ?_
        refine kx_iadd C dX0_costs_64 ?_
        refine kx_istore (lv2 := [(4, .int (nI (((1) + (1)) + (1)))), (0, .ref (K 0)), (1, .int (nI (b2))), (2, .int (nI (y2))), (3, .int (nI (o2)))]) C dX0_costs_65 (by decide) rfl ?_
        refine kx_aload_n C dX0_costs_67 rfl 1 rfl ?_
        refine kx_iload_n C dX0_costs_68 rfl 2 rfl ?_
        refine kx_put (ws2 := (kwW E K b2 y o n ls bc tk hk P Wt Tu Sc Ta Wa He Fk Pk)) (ci := 0) C kin0 tyX0_ok nmX0 0 rfl rfl 2 (by decide) fl0_52 rfl rfl rfl rfl (Nat.le_of_ble_eq_true rfl) rfl dX0_costs_69 ?_
        refine kx_aload_n C dX0_costs_72 rfl 1 rfl ?_
        refine kx_iload_n C dX0_costs_73 rfl 3 rfl ?_
        refine kx_put (ws2 := (kwW E K b2 y2 o n ls bc tk hk P Wt Tu Sc Ta Wa He Fk Pk)) (ci := 0) C kin0 tyX0_ok nmX0 0 rfl rfl 3 (by decide) fl0_55 rfl rfl rfl rfl (Nat.le_of_ble_eq_true rfl) rfl dX0_costs_74 ?_
        refine kx_aload_n C dX0_costs_77 rfl 1 rfl ?_
        refine kx_iload_n C dX0_costs_78 rfl 4 rfl ?_
        refine kx_put (ws2 := (kwW E K b2 y2 o2 n ls bc tk hk P Wt Tu Sc Ta Wa He Fk Pk)) (ci := 0) C kin0 tyX0_ok nmX0 0 rfl rfl 4 (by decide) fl0_58 rfl rfl rfl rfl (Nat.le_of_ble_eq_true rfl) rfl dX0_costs_79 ?_
        refine kx_aload_n C dX0_costs_82 rfl 1 rfl ?_
        refine kx_callVv (rest := []) (wr := []) C (c_forget E K b2 y2 o2 n ls bc tk hk P Wt Tu Sc Ta Wa He Fk Pk) g0_49 0 rfl (by decide +kernel) ⟨Nat.le_of_ble_eq_true rfl, Nat.le_of_ble_eq_true rfl⟩ ⟨Nat.le_of_ble_eq_true rfl, Nat.le_of_ble_eq_true rfl⟩ [0, 1, 2, 3, 4, 5, 6, 7, 8, 9] [] rfl rfl (by decide) (by decide) (by decide) 0 rfl rfl rfl (Nat.le_of_ble_eq_true rfl) dX0_costs_83 (fun w q18 => ?_)
        obtain rfl := q18
        refine kx_eqw (ws2 := (kwW E K b2 y2 o2 n ls bc 0 0 P Wt Tu Sc Ta Wa He Fk Pk)) rfl ?_
        refine kx_iload C dX0_costs_86 0 rfl ?_
        exact hE (Nat.le_of_ble_eq_true rfl) (Nat.le_of_ble_eq_true rfl) dX0_costs_88 ⟨b2, y2, o2, rfl, eb2, rfl, ey2, rfl, eo2, congrArg nI (by simp [*]), ⟨H1, HP, HW, eb2, ey2, eo2, Nat.zero_le _, Nat.zero_le _, Hls, HTa, HWa, HHe, HFk, HPk, fun z => absurd rfl z, fun z => absurd rfl z⟩, rfl⟩
end
section
/-- THROUGH a slice and a key -/
def thrN (n b y o : Nat) (P Wt : Nat → Nat) (s k : Nat) : Nat := hdN (costN P Wt) (turnN b y o) s k + tlS n b y o P Wt s k - costN P Wt s k
theorem kThr_eq {n b y o : Nat} {P Wt Sc Ta Wa He : Nat → Nat} (hR : kRows n b y o P Wt Sc Ta Wa 0) (hH : kHeads n b y o P Wt He) : ∀ s, s < n → ∀ k, k < 24 → Sc (s * 24 + k) ≤ He (s * 24 + k) + Ta (s * 24 + k) ∧ He (s * 24 + k) + Ta (s * 24 + k) - Sc (s * 24 + k) = thrN n b y o P Wt s k := by
  intro s hs k hk
  obtain ⟨q1, q2, -⟩ := hR s (Nat.zero_le _) hs k hk
  rw [q1, q2, hH s hs k hk]
  refine ⟨Nat.le_trans (cost_le_tl (t := turnN b y o) (n - 1 - s) s k) ?_, rfl⟩
  unfold tlS
  omega
/-- the keys, as bits, whose number is at most L -/
def nrN (T : Nat → Nat) (L : Nat) : Nat → Int32
  | 0 => nI 0
  | k + 1 => if T k ≤ L then nrN T L k ||| ((nI 1) <<< ((nI k) &&& 31)) else nrN T L k
theorem nrN_congr {T T2 : Nat → Nat} {L : Nat} : ∀ {m : Nat}, (∀ k, k < m → T k = T2 k) → nrN T L m = nrN T2 L m
  | 0, _ => rfl
  | m + 1, h => by
    simp only [nrN]
    rw [nrN_congr (m := m) (fun k hk => h k (by omega)), h m (by omega)]
/-- where a sum is greatest, the first such place -/
def whN (F : Nat → Nat) : Nat → Nat × Nat
  | 0 => (0, F 0)
  | m + 1 => if (whN F m).2 < F (m + 1) then (m + 1, F (m + 1)) else whN F m
theorem whN_le {F : Nat → Nat} {B : Nat} (h : ∀ j, F j ≤ B) : ∀ m, (whN F m).2 ≤ B
  | 0 => h 0
  | m + 1 => by
    have := whN_le h m
    simp only [whN]
    split
    · exact h _
    · exact this
/-- no way through a slice and a key costs less than the least -/
theorem through_ge {c t : Nat → Nat → Nat} {n : Nat} (hn : n ≤ 40) (hc : ∀ s k, c s k ≤ 237600) (ht : ∀ a b, t a b ≤ 8000) : ∀ (s k : Nat), s < n → k < 24 → ∃ k0, k0 < 24 ∧ tlN c t (n - 1) 0 k0 + c s k ≤ hdN c t s k + tlN c t (n - 1 - s) s k
  | 0, k, _, hk => ⟨k, hk, by simp only [hdN, Nat.sub_zero]; omega⟩
  | s + 1, k, hs, hk => by
    have hb : minN (fun fr => hdN c t s fr + t fr k) kBIG 24 < kBIG := by
      have h1 := minN_le (f := fun fr => hdN c t s fr + t fr k) (M := kBIG) (n := 24) (j := 0) (by decide)
      have h2 := hdN_le hc ht s 0
      have h3 := ht 0 k
      have h4 : (s + 1) * 245600 ≤ 40 * 245600 := Nat.mul_le_mul_right _ (by omega)
      have h5 : kBIG = 1000000000 := rfl
      omega
    obtain ⟨fr, hf, he⟩ := minN_at hb
    obtain ⟨k0, h0, h1⟩ := through_ge hn hc ht s fr (by omega) hf
    refine ⟨k0, h0, ?_⟩
    have e1 : n - 1 - s = (n - 1 - (s + 1)) + 1 := by omega
    rw [e1] at h1
    rw [hdN, he]
    simp only [tlN] at h1
    have h2 := minN_le (f := fun to => t fr to + tlN c t (n - 1 - (s + 1)) (s + 1) to) (M := kBIG) (n := 24) (j := k) hk
    omega
theorem least_le_thr {n b y o : Nat} {P Wt : Nat → Nat} (hn : n ≤ 40) (hP : ∀ j, P j ≤ 99) (hW : ∀ j, Wt j ≤ 200) (hb : b ≤ 1000) (hy : y ≤ 1000) (ho : o ≤ 1000) {s k : Nat} (hs : s < n) (hk : k < 24) : minN (fun k => tlS n b y o P Wt 0 k) kBIG 24 ≤ thrN n b y o P Wt s k := by
  obtain ⟨k0, h0, h1⟩ := through_ge hn (costN_le hP hW) (turnN_le hb hy ho) s k hs hk
  have h2 := minN_le (f := fun k => tlS n b y o P Wt 0 k) (M := kBIG) (n := 24) (j := k0) h0
  unfold thrN
  unfold tlS at h2 ⊢
  simp only [Nat.sub_zero] at h2 ⊢
  omega
/-- THE NEXT, if f is the first's key there -/
def nxN (n b y o : Nat) (P Wt : Nat → Nat) (f s : Nat) : Nat := minN (fun k => if k = f then kBIG else thrN n b y o P Wt s k) kBIG 24
theorem minN_geB {f : Nat → Nat} {M B : Nat} (hM : B ≤ M) : ∀ {n : Nat}, (∀ j, j < n → B ≤ f j) → B ≤ minN f M n
  | 0, _ => hM
  | n + 1, h => by
    have h1 := minN_geB hM (n := n) (fun j hj => h j (by omega))
    have h2 := h n (by omega)
    simp only [minN]
    omega
theorem pk_long {x : Int64} {m : Nat} (hm : m < 2 ^ 63) (h1 : ¬ x < lN 0) (h2 : x < lN m) : ∃ i, i < m ∧ x = lN i := by
  obtain ⟨i, hi, rfl⟩ := pk_lOf (x := x) h1
  exact ⟨i, (pk_lLT hi hm).mp h2, rfl⟩
theorem kThr_le {n b y o : Nat} {P Wt : Nat → Nat} (hn : n ≤ 40) (hP : ∀ j, P j ≤ 99) (hW : ∀ j, Wt j ≤ 200) (hb : b ≤ 1000) (hy : y ≤ 1000) (ho : o ≤ 1000) {s : Nat} (hs : s < n) (k : Nat) : thrN n b y o P Wt s k ≤ 41 * 245600 := by
  have h1 := hdN_le (costN_le hP hW) (turnN_le hb hy ho) s k
  have h2 := tlN_le (costN_le hP hW) (turnN_le hb hy ho) (n - 1 - s) s k
  have h3 : (s + 1) * 245600 + (n - 1 - s + 1) * 245600 = (n + 1) * 245600 := by rw [← Nat.add_mul]; congr 1; omega
  have h4 : (n + 1) * 245600 ≤ 41 * 245600 := Nat.mul_le_mul_right _ (by omega)
  unfold thrN tlS
  omega
theorem kNx_le {n b y o : Nat} {P Wt : Nat → Nat} {f : Nat} (hn : n ≤ 40) (hP : ∀ j, P j ≤ 99) (hW : ∀ j, Wt j ≤ 200) (hb : b ≤ 1000) (hy : y ≤ 1000) (ho : o ≤ 1000) {s : Nat} (hs : s < n) : nxN n b y o P Wt f s ≤ 20000000 := by
  obtain ⟨k, hk, hne⟩ : ∃ k, k < 24 ∧ k ≠ f := by
    by_cases e : f = 0
    · exact ⟨1, by decide, by omega⟩
    · exact ⟨0, by decide, fun z => e z.symm⟩
  have h := minN_le (f := fun k => if k = f then kBIG else thrN n b y o P Wt s k) (M := kBIG) (n := 24) hk
  rw [if_neg hne] at h
  have h2 := kThr_le hn hP hW hb hy ho hs k
  unfold nxN
  omega
theorem kPk1 {x : Int64} (h : x < lN 0) : ¬ ∃ j, j < 1000000000000000000 ∧ x = lN j := by
  rintro ⟨j, hj, rfl⟩
  have := (pk_lLT (by omega) (by decide)).mp h
  omega
theorem kPk2 {x : Int64} (h : ¬ x < lN 1000000000000000000) : ¬ ∃ j, j < 1000000000000000000 ∧ x = lN j := by
  rintro ⟨j, hj, rfl⟩
  exact h ((pk_lLT (by omega) (by decide)).mpr hj)
theorem kPvS {Wt P : Nat → Nat} {sl k1 k2 i : Nat} (h : ∀ p, p < i → 0 < Wt (sl * 12 + p) → P (numX p k1) ≠ 0 ∧ P (numX p k2) ≠ 0) (hi : 0 < Wt (sl * 12 + i) → P (numX i k1) ≠ 0 ∧ P (numX i k2) ≠ 0) : ∀ p, p < i + 1 → 0 < Wt (sl * 12 + p) → P (numX p k1) ≠ 0 ∧ P (numX p k2) ≠ 0 := by
  intro p hp
  by_cases e : p = i
  · subst e; exact hi
  · exact h p (by omega)
theorem kNW1 {n : Nat} {x0 x1 : Int32} (h : ¬ ∃ j, j < n ∧ x0 = nI j) (z : ∃ i j, x0 = nI i ∧ x1 = nI j ∧ i ≤ j ∧ j < n) : False := by
  obtain ⟨i, j, rfl, rfl, h1, h2⟩ := z
  exact h ⟨i, by omega, rfl⟩
theorem kNW2 {n : Nat} {x0 x1 : Int32} (h : ¬ ∃ j, j < n ∧ x1 = nI j) (z : ∃ i j, x0 = nI i ∧ x1 = nI j ∧ i ≤ j ∧ j < n) : False := by
  obtain ⟨i, j, rfl, rfl, h1, h2⟩ := z
  exact h ⟨j, h2, rfl⟩
theorem kNW3 {n fi la : Nat} (hn : n ≤ 40) (h0 : fi < n) (h1 : la < n) (h : la < fi) (z : ∃ i j, nI fi = nI i ∧ nI la = nI j ∧ i ≤ j ∧ j < n) : False := by
  obtain ⟨i, j, e1, e2, h3, h4⟩ := z
  have := (nI_eq (by omega) (by omega)).mp e1
  have := (nI_eq (by omega) (by omega)).mp e2
  omega
theorem kthr_sure_19 (E : KE) (h : E.1.stackTraces = false) : kThr E (rk 10 1) cX0_sure yX0_sure.cls kEx_121 kTx_123 kNm_121 121 123 125 19 [] := ⟨h, by decide +kernel, by decide +kernel, kcl0_121, kini_121, by decide +kernel, kat_121_125, kot_121_125, dX0_sure_19, dX0_sure_22, dX0_sure_23, dX0_sure_25, dX0_sure_28, Nat.le_of_ble_eq_true rfl, Nat.le_of_ble_eq_true rfl, rfl⟩
theorem kthr_pick_14 (E : KE) (h : E.1.stackTraces = false) : kThr E (rk 10 1) cX0_pick yX0_pick.cls kEx_102 kTx_104 kNm_102 102 104 106 14 [] := ⟨h, by decide +kernel, by decide +kernel, kcl0_102, kini_102, by decide +kernel, kat_102_106, kot_102_106, dX0_pick_14, dX0_pick_17, dX0_pick_18, dX0_pick_20, dX0_pick_23, Nat.le_of_ble_eq_true rfl, Nat.le_of_ble_eq_true rfl, rfl⟩
theorem kthr_change_4 (E : KE) (h : E.1.stackTraces = false) : kThr E (rk 10 1) cX0_change yX0_change.cls kEx_102 kTx_126 kNm_102 102 126 106 4 [] := ⟨h, by decide +kernel, by decide +kernel, kcl0_102, kini_102, by decide +kernel, kat_102_106, kot_102_106, dX0_change_4, dX0_change_7, dX0_change_8, dX0_change_10, dX0_change_13, Nat.le_of_ble_eq_true rfl, Nat.le_of_ble_eq_true rfl, rfl⟩
theorem kthr_whole_15 (E : KE) (h : E.1.stackTraces = false) : kThr E (rk 10 1) cX0_whole yX0_whole.cls kEx_102 kTx_135 kNm_102 102 135 106 15 [] := ⟨h, by decide +kernel, by decide +kernel, kcl0_102, kini_102, by decide +kernel, kat_102_106, kot_102_106, dX0_whole_15, dX0_whole_18, dX0_whole_19, dX0_whole_21, dX0_whole_24, Nat.le_of_ble_eq_true rfl, Nat.le_of_ble_eq_true rfl, rfl⟩
set_option maxHeartbeats 4000000 in
set_option maxRecDepth 100000 in
theorem c_through (E : KE) (K : Nat → Nat) (b y o n ls bc tk hk : Nat) (P Wt Tu Sc Ta Wa He Fk Pk : Nat → Nat) (x0 x1 : Int32) (HX : E.1.stackTraces = false) (HO : kOk b y o n ls bc tk hk P Wt Tu Sc Ta Wa He Fk Pk) : kTi E yX0_through cX0_through 3 (rk 10 1) [.ref (K 0), .int (x0), .int (x1)] (kwW E K b y o n ls bc tk hk P Wt Tu Sc Ta Wa He Fk Pk) (fun r w => ∃ sl k, x0 = nI sl ∧ sl < n ∧ x1 = nI k ∧ k ≤ 23 ∧ ∃ (ls2 bc2 : Nat) (Tv Sv Av Vv Fv Hv : Nat → Nat), r = nI (thrN n b y o P Wt sl k) ∧ kOk b y o n ls2 bc2 1 1 P Wt Tv Sv Av Vv Hv Fv Pk ∧ w = (kwW E K b y o n ls2 bc2 1 1 P Wt Tv Sv Av Vv Hv Fv Pk)) (fun n9 w => n9 = "java/lang/IllegalArgumentException" ∧ ¬ ((∃ j, j < n ∧ x0 = nI j) ∧ (∃ j, j ≤ 23 ∧ x1 = nI j)) ∧ w = (kwW E K b y o n ls bc tk hk P Wt Tu Sc Ta Wa He Fk Pk)) := by
  refine kTi_of (cc := cX0_through) (maxL := 3) (by decide) (Nat.le_of_ble_eq_true rfl) ?_
  intro G C hE hX hT
  obtain ⟨H1, HP, HW, Hb, Hy, Ho, Htk, Hhk, Hls, HTa, HWa, HHe, HFk, HPk, HK, HH⟩ := id HO
  refine kx_aload_n C dX0_through_0 rfl 0 rfl ?_
  refine kx_iload_n C dX0_through_1 rfl 1 rfl ?_
  refine kx_callVR (rest := []) (wr := []) C (c_requireSlice E K b y o n ls bc tk hk P Wt Tu Sc Ta Wa He Fk Pk x0 HX H1) g0_68 1 rfl (by decide +kernel) ⟨Nat.le_of_ble_eq_true rfl, Nat.le_of_ble_eq_true rfl⟩ ⟨Nat.le_of_ble_eq_true rfl, Nat.le_of_ble_eq_true rfl⟩ [0, 1, 2, 3, 4, 5, 6, 7, 8, 9] [] rfl rfl (by decide) (by decide) (by decide) 0 rfl rfl rfl (Nat.le_of_ble_eq_true rfl) dX0_through_2 (fun n9 q1 => ?_) (fun q1 => ?_)
  · skip
    exact hX (Nat.le_of_ble_eq_true rfl) (Nat.le_of_ble_eq_true rfl) ⟨q1.1, (fun z => q1.2 z.1), rfl⟩
  obtain ⟨sl, esl, rfl⟩ := q1
  refine kx_iload_n C dX0_through_5 rfl 2 rfl ?_
  refine kx_callSR (rest := []) (wr := (kwW E K b y o n ls bc tk hk P Wt Tu Sc Ta Wa He Fk Pk)) C (c_requireKey E x1 HX) g0_76 1 rfl (by decide +kernel) ⟨Nat.le_of_ble_eq_true rfl, Nat.le_of_ble_eq_true rfl⟩ ⟨Nat.le_of_ble_eq_true rfl, Nat.le_of_ble_eq_true rfl⟩ [] [0, 1, 2, 3, 4, 5, 6, 7, 8, 9] rfl rfl (by decide) (by decide) (by decide) rfl (Nat.le_of_ble_eq_true rfl) dX0_through_6 (fun n9 q2 => ?_) (fun q2 => ?_)
  · skip
    exact hX (Nat.le_of_ble_eq_true rfl) (Nat.le_of_ble_eq_true rfl) ⟨q2.1, (fun z => q2.2 z.2), (List.append_nil _)⟩
  obtain ⟨k, ek, rfl⟩ := q2
  refine kx_aload_n C dX0_through_9 rfl 0 rfl ?_
  refine kx_callVv (rest := []) (wr := []) C (c_knowHeads E K b y o n ls bc tk hk P Wt Tu Sc Ta Wa He Fk Pk HO) g0_111 0 rfl (by decide +kernel) ⟨Nat.le_of_ble_eq_true rfl, Nat.le_of_ble_eq_true rfl⟩ ⟨Nat.le_of_ble_eq_true rfl, Nat.le_of_ble_eq_true rfl⟩ [0, 1, 2, 3, 4, 5, 6, 7, 8, 9] [] rfl rfl (by decide) (by decide) (by decide) 0 rfl rfl rfl (Nat.le_of_ble_eq_true rfl) dX0_through_10 (fun w q3 => ?_)
  obtain ⟨ls2, bc2, Tv, Sv, Av, Vv, Fv, Hv, HO2, rfl⟩ := q3
  refine kx_eqw (ws2 := (kwW E K b y o n ls2 bc2 1 1 P Wt Tv Sv Av Vv Hv Fv Pk)) rfl ?_
  obtain ⟨G1, GP, GW, Gb, Gy, Go, Gtk, Ghk, Gls, GTa, GWa, GHe, GFk, GPk, GK, GH⟩ := id HO2
  obtain ⟨GT, GR, G0, Gn, GF⟩ := GK (by decide)
  have GHd := (GH (by decide)).2
  have GTh := kThr_eq GR GHd
  refine kx_aload_n C dX0_through_13 rfl 0 rfl ?_
  refine kx_iload_n C dX0_through_14 rfl 1 rfl ?_
  refine kx_iload_n C dX0_through_15 rfl 2 rfl ?_
  refine kx_callVi (rest := []) (wr := []) C (c_leastThrough E K b y o n ls2 bc2 1 1 P Wt Tv Sv Av Vv Hv Fv Pk sl k (by omega) (by omega) (GTh sl esl k (by omega)).1) g0_114 2 rfl (by decide +kernel) ⟨Nat.le_of_ble_eq_true rfl, Nat.le_of_ble_eq_true rfl⟩ ⟨Nat.le_of_ble_eq_true rfl, Nat.le_of_ble_eq_true rfl⟩ [0, 1, 2, 3, 4, 5, 6, 7, 8, 9] [] rfl rfl (by decide) (by decide) (by decide) 0 rfl rfl rfl (Nat.le_of_ble_eq_true rfl) dX0_through_16 (fun v w q4 => ?_)
  obtain ⟨rfl, rfl⟩ := q4
  refine kx_eqw (ws2 := (kwW E K b y o n ls2 bc2 1 1 P Wt Tv Sv Av Vv Hv Fv Pk)) rfl ?_
  exact hE (Nat.le_of_ble_eq_true rfl) (Nat.le_of_ble_eq_true rfl) dX0_through_19 ⟨sl, k, rfl, esl, rfl, ek, ls2, bc2, Tv, Sv, Av, Vv, Fv, Hv, congrArg nI (GTh sl esl k (by omega)).2, HO2, rfl⟩

set_option maxHeartbeats 4000000 in
set_option maxRecDepth 100000 in
theorem c_near (E : KE) (K : Nat → Nat) (b y o n ls bc tk hk : Nat) (P Wt Tu Sc Ta Wa He Fk Pk : Nat → Nat) (x0 x1 : Int32) (HX : E.1.stackTraces = false) (HO : kOk b y o n ls bc tk hk P Wt Tu Sc Ta Wa He Fk Pk) : kTi E yX0_near cX0_near 5 (rk 10 1) [.ref (K 0), .int (x0), .int (x1)] (kwW E K b y o n ls bc tk hk P Wt Tu Sc Ta Wa He Fk Pk) (fun r w => ∃ sl sk, x0 = nI sl ∧ sl < n ∧ x1 = nI sk ∧ sk ≤ 100000 ∧ ∃ (ls2 bc2 : Nat) (Tv Sv Av Vv Fv Hv : Nat → Nat), r = nrN (fun k => thrN n b y o P Wt sl k) (ls2 + sk) 24 ∧ kOk b y o n ls2 bc2 1 1 P Wt Tv Sv Av Vv Hv Fv Pk ∧ w = (kwW E K b y o n ls2 bc2 1 1 P Wt Tv Sv Av Vv Hv Fv Pk)) (fun n9 w => n9 = "java/lang/IllegalArgumentException" ∧ ¬ ((∃ j, j < n ∧ x0 = nI j) ∧ (∃ j, j ≤ 100000 ∧ x1 = nI j)) ∧ w = (kwW E K b y o n ls bc tk hk P Wt Tu Sc Ta Wa He Fk Pk)) := by
  refine kTi_of (cc := cX0_near) (maxL := 5) (by decide) (Nat.le_of_ble_eq_true rfl) ?_
  intro G C hE hX hT
  obtain ⟨H1, HP, HW, Hb, Hy, Ho, Htk, Hhk, Hls, HTa, HWa, HHe, HFk, HPk, HK, HH⟩ := id HO
  refine kx_aload_n C dX0_near_0 rfl 0 rfl ?_
  refine kx_iload_n C dX0_near_1 rfl 1 rfl ?_
  refine kx_callVR (rest := []) (wr := []) C (c_requireSlice E K b y o n ls bc tk hk P Wt Tu Sc Ta Wa He Fk Pk x0 HX H1) g0_68 1 rfl (by decide +kernel) ⟨Nat.le_of_ble_eq_true rfl, Nat.le_of_ble_eq_true rfl⟩ ⟨Nat.le_of_ble_eq_true rfl, Nat.le_of_ble_eq_true rfl⟩ [0, 1, 2, 3, 4, 5, 6, 7, 8, 9] [] rfl rfl (by decide) (by decide) (by decide) 0 rfl rfl rfl (Nat.le_of_ble_eq_true rfl) dX0_near_2 (fun n9 q1 => ?_) (fun q1 => ?_)
  · skip
    exact hX (Nat.le_of_ble_eq_true rfl) (Nat.le_of_ble_eq_true rfl) ⟨q1.1, (fun z => q1.2 z.1), rfl⟩
  obtain ⟨sl, esl, rfl⟩ := q1
  refine kx_iload_n C dX0_near_5 rfl 2 rfl ?_
  refine kx_iconst (v := nI 0) C dX0_near_6 (by decide +kernel) ?_
  refine kx_ldc (v := nI 100000) C kc0_117 dX0_near_7 ?_
  refine kx_callSR (rest := []) (wr := (kwW E K b y o n ls bc tk hk P Wt Tu Sc Ta Wa He Fk Pk)) C (c_requireWithin E x1 (nI 0) (nI 100000) HX) g0_45 3 rfl (by decide +kernel) ⟨Nat.le_of_ble_eq_true rfl, Nat.le_of_ble_eq_true rfl⟩ ⟨Nat.le_of_ble_eq_true rfl, Nat.le_of_ble_eq_true rfl⟩ [] [0, 1, 2, 3, 4, 5, 6, 7, 8, 9] rfl rfl (by decide) (by decide) (by decide) rfl (Nat.le_of_ble_eq_true rfl) dX0_near_9 (fun n9 q2 => ?_) (fun q2 => ?_)
  · skip
    exact hX (Nat.le_of_ble_eq_true rfl) (Nat.le_of_ble_eq_true rfl) ⟨q2.1, (fun z => (kIn2 (by decide) q2.2) z.2), (List.append_nil _)⟩
  obtain ⟨sk, esk, rfl⟩ := kIn1 (by decide) q2.1 q2.2
  refine kx_aload_n C dX0_near_12 rfl 0 rfl ?_
  refine kx_callVv (rest := []) (wr := []) C (c_knowHeads E K b y o n ls bc tk hk P Wt Tu Sc Ta Wa He Fk Pk HO) g0_111 0 rfl (by decide +kernel) ⟨Nat.le_of_ble_eq_true rfl, Nat.le_of_ble_eq_true rfl⟩ ⟨Nat.le_of_ble_eq_true rfl, Nat.le_of_ble_eq_true rfl⟩ [0, 1, 2, 3, 4, 5, 6, 7, 8, 9] [] rfl rfl (by decide) (by decide) (by decide) 0 rfl rfl rfl (Nat.le_of_ble_eq_true rfl) dX0_near_13 (fun w q3 => ?_)
  obtain ⟨ls2, bc2, Tv, Sv, Av, Vv, Fv, Hv, HO2, rfl⟩ := q3
  refine kx_eqw (ws2 := (kwW E K b y o n ls2 bc2 1 1 P Wt Tv Sv Av Vv Hv Fv Pk)) rfl ?_
  obtain ⟨G1, GP, GW, Gb, Gy, Go, Gtk, Ghk, Gls, GTa, GWa, GHe, GFk, GPk, GK, GH⟩ := id HO2
  obtain ⟨GT, GR, G0, Gn, GF⟩ := GK (by decide)
  have GHd := (GH (by decide)).2
  have GTh := kThr_eq GR GHd
  have lp21 : ∀ (N_lp21 : Nat) (i : Nat), (i ≤ 24) → (24 < i + N_lp21) → kx E (rk 10 1) G 5 0 0 (kwW E K b y o n ls2 bc2 1 1 P Wt Tv Sv Av Vv Hv Fv Pk) [(0, .ref (K 0)), (1, .int (nI (sl))), (2, .int (nI (sk))), (3, .int (nrN (fun k => Hv (sl * 24 + k) + Av (sl * 24 + k) - Sv (sl * 24 + k)) (ls2 + sk) i)), (4, .int (nI (i)))] 21 [] := by
    intro N_lp21
    induction N_lp21 with
    | zero =>
      intro i h0_lp21 hm_lp21
      exact absurd hm_lp21 (by omega)
    | succ N_lp21 ih_lp21 =>
      intro i h0_lp21 hm_lp21
      refine kx_iload C dX0_near_21 4 rfl ?_
      refine kx_bipush (v := nI 24) C dX0_near_23 (by decide +kernel) ?_
      refine kx_icmp_ge (tgt := 57) C (by omega) (by omega) dX0_near_25 (by decide) (fun c4 => ?_) (fun c4 => ?_)
      · skip
        obtain rfl : 24 = i := by omega
        refine kx_iload_n C dX0_near_57 rfl 3 rfl ?_
        exact hE (Nat.le_of_ble_eq_true rfl) (Nat.le_of_ble_eq_true rfl) dX0_near_58 ⟨sl, sk, rfl, esl, rfl, esk, ls2, bc2, Tv, Sv, Av, Vv, Fv, Hv, nrN_congr (fun k hk9 => (GTh sl esl k hk9).2), HO2, rfl⟩
      · skip
        refine kx_aload_n C dX0_near_28 rfl 0 rfl ?_
        refine kx_iload_n C dX0_near_29 rfl 1 rfl ?_
        refine kx_iload C dX0_near_30 4 rfl ?_
        refine kx_callVi (rest := []) (wr := []) C (c_leastThrough E K b y o n ls2 bc2 1 1 P Wt Tv Sv Av Vv Hv Fv Pk sl i (by omega) (by omega) (GTh sl esl i (by omega)).1) g0_114 2 rfl (by decide +kernel) ⟨Nat.le_of_ble_eq_true rfl, Nat.le_of_ble_eq_true rfl⟩ ⟨Nat.le_of_ble_eq_true rfl, Nat.le_of_ble_eq_true rfl⟩ [0, 1, 2, 3, 4, 5, 6, 7, 8, 9] [] rfl rfl (by decide) (by decide) (by decide) 0 rfl rfl rfl (Nat.le_of_ble_eq_true rfl) dX0_near_32 (fun v w q5 => ?_)
        obtain ⟨rfl, rfl⟩ := q5
        refine kx_eqw (ws2 := (kwW E K b y o n ls2 bc2 1 1 P Wt Tv Sv Av Vv Hv Fv Pk)) rfl ?_
        refine kx_aload_n C dX0_near_35 rfl 0 rfl ?_
        refine kx_get (v := .int (nI (ls2))) (ci := 0) C kin0 0 rfl rfl 13 (by decide) fl0_93 rfl rfl dX0_near_36 ?_
        refine kx_iload_n C dX0_near_39 rfl 2 rfl ?_
        refine kx_iadd C dX0_near_40 ?_
        refine kx_icmp_gt (tgt := 51) C (by have := GHe (sl * 24 + i); have := GTa (sl * 24 + i); omega) (by omega) dX0_near_41 (by decide) (fun c6 => ?_) (fun c6 => ?_)
        · skip
          refine kx_iinc (v := nI (i + 1)) (lv2 := [(4, .int (nI (i + 1))), (0, .ref (K 0)), (1, .int (nI (sl))), (2, .int (nI (sk))), (3, .int (nrN (fun k => Hv (sl * 24 + k) + Av (sl * 24 + k) - Sv (sl * 24 + k)) (ls2 + sk) i))]) C dX0_near_51 4 rfl (kI1 _) (by decide) rfl ?_
          refine kx_goto (tgt := 21) C dX0_near_54 (by decide) ?_
          refine kx_lvv (x := .int (nrN (fun k => Hv (sl * 24 + k) + Av (sl * 24 + k) - Sv (sl * 24 + k)) (ls2 + sk) i)) (z := .int (nrN (fun k => Hv (sl * 24 + k) + Av (sl * 24 + k) - Sv (sl * 24 + k)) (ls2 + sk) (i + 1))) (lv2 := [(4, .int (nI (i + 1))), (0, .ref (K 0)), (1, .int (nI (sl))), (2, .int (nI (sk))), (3, .int (nrN (fun k => Hv (sl * 24 + k) + Av (sl * 24 + k) - Sv (sl * 24 + k)) (ls2 + sk) (i + 1)))]) (by simp only [nrN]; rw [if_neg (by omega)]) 4 rfl rfl ?_
          refine kx_lv (lv2 := [(0, .ref (K 0)), (1, .int (nI (sl))), (2, .int (nI (sk))), (3, .int (nrN (fun k => Hv (sl * 24 + k) + Av (sl * 24 + k) - Sv (sl * 24 + k)) (ls2 + sk) (i + 1))), (4, .int (nI (i + 1)))]) [1, 2, 3, 4, 0] rfl ?_
          refine kx_eqw (ws2 := (kwW E K b y o n ls2 bc2 1 1 P Wt Tv Sv Av Vv Hv Fv Pk)) rfl ?_
          exact ih_lp21 (i + 1) (by omega) (by omega)
        · skip
          refine kx_iload_n C dX0_near_44 rfl 3 rfl ?_
          refine kx_iconst (v := nI 1) C dX0_near_45 (by decide +kernel) ?_
          refine kx_iload C dX0_near_46 4 rfl ?_
          refine kx_ishlR C dX0_near_48 ?_
          refine kx_iorR C dX0_near_49 ?_
          refine kx_istore_n (lv2 := [(3, .int ((nrN (fun k => Hv (sl * 24 + k) + Av (sl * 24 + k) - Sv (sl * 24 + k)) (ls2 + sk) i) ||| ((nI (1)) <<< ((nI (i)) &&& 31)))), (0, .ref (K 0)), (1, .int (nI (sl))), (2, .int (nI (sk))), (4, .int (nI (i)))]) C dX0_near_50 rfl (by decide) rfl ?_
          refine kx_iinc (v := nI (i + 1)) (lv2 := [(4, .int (nI (i + 1))), (3, .int ((nrN (fun k => Hv (sl * 24 + k) + Av (sl * 24 + k) - Sv (sl * 24 + k)) (ls2 + sk) i) ||| ((nI (1)) <<< ((nI (i)) &&& 31)))), (0, .ref (K 0)), (1, .int (nI (sl))), (2, .int (nI (sk)))]) C dX0_near_51 4 rfl (kI1 _) (by decide) rfl ?_
          refine kx_goto (tgt := 21) C dX0_near_54 (by decide) ?_
          refine kx_lvv (x := .int ((nrN (fun k => Hv (sl * 24 + k) + Av (sl * 24 + k) - Sv (sl * 24 + k)) (ls2 + sk) i) ||| ((nI (1)) <<< ((nI (i)) &&& 31)))) (z := .int (nrN (fun k => Hv (sl * 24 + k) + Av (sl * 24 + k) - Sv (sl * 24 + k)) (ls2 + sk) (i + 1))) (lv2 := [(4, .int (nI (i + 1))), (3, .int (nrN (fun k => Hv (sl * 24 + k) + Av (sl * 24 + k) - Sv (sl * 24 + k)) (ls2 + sk) (i + 1))), (0, .ref (K 0)), (1, .int (nI (sl))), (2, .int (nI (sk)))]) (by simp only [nrN]; rw [if_pos c6]) 1 rfl rfl ?_
          refine kx_lv (lv2 := [(0, .ref (K 0)), (1, .int (nI (sl))), (2, .int (nI (sk))), (3, .int (nrN (fun k => Hv (sl * 24 + k) + Av (sl * 24 + k) - Sv (sl * 24 + k)) (ls2 + sk) (i + 1))), (4, .int (nI (i + 1)))]) [2, 3, 4, 1, 0] rfl ?_
          refine kx_eqw (ws2 := (kwW E K b y o n ls2 bc2 1 1 P Wt Tv Sv Av Vv Hv Fv Pk)) rfl ?_
          exact ih_lp21 (i + 1) (by omega) (by omega)
  refine kx_iconst (v := nI 0) C dX0_near_16 (by decide +kernel) ?_
  refine kx_istore_n (lv2 := [(3, .int (nI (0))), (0, .ref (K 0)), (1, .int (nI (sl))), (2, .int (nI (sk)))]) C dX0_near_17 rfl (by decide) rfl ?_
  refine kx_iconst (v := nI 0) C dX0_near_18 (by decide +kernel) ?_
  refine kx_istore (lv2 := [(4, .int (nI (0))), (3, .int (nI (0))), (0, .ref (K 0)), (1, .int (nI (sl))), (2, .int (nI (sk)))]) C dX0_near_19 (by decide) rfl ?_
  refine kx_lv (lv2 := [(0, .ref (K 0)), (1, .int (nI (sl))), (2, .int (nI (sk))), (3, .int (nrN (fun k => Hv (sl * 24 + k) + Av (sl * 24 + k) - Sv (sl * 24 + k)) (ls2 + sk) 0)), (4, .int (nI (0)))]) [2, 3, 4, 1, 0] rfl ?_
  refine kx_eqw (ws2 := (kwW E K b y o n ls2 bc2 1 1 P Wt Tv Sv Av Vv Hv Fv Pk)) rfl ?_
  exact lp21 25 0 (by omega) (by omega)

set_option maxHeartbeats 4000000 in
set_option maxRecDepth 100000 in
theorem c_sure (E : KE) (K : Nat → Nat) (b y o n ls bc tk hk : Nat) (P Wt Tu Sc Ta Wa He Fk Pk : Nat → Nat) (x0 : Int32) (HX : E.1.stackTraces = false) (HO : kOk b y o n ls bc tk hk P Wt Tu Sc Ta Wa He Fk Pk) : kTi E yX0_sure cX0_sure 3 (rk 10 1) [.ref (K 0), .int (x0)] (kwW E K b y o n ls bc tk hk P Wt Tu Sc Ta Wa He Fk Pk) (fun r w => ∃ sl, x0 = nI sl ∧ sl < n ∧ ∃ (ls2 bc2 : Nat) (Tv Sv Av Vv Fv Hv : Nat → Nat), nxN n b y o P Wt (Fv sl) sl ≠ 0 ∧ r = nI (100 * (nxN n b y o P Wt (Fv sl) sl - ls2) / nxN n b y o P Wt (Fv sl) sl) ∧ kOk b y o n ls2 bc2 1 1 P Wt Tv Sv Av Vv Hv Fv Pk ∧ w = (kwW E K b y o n ls2 bc2 1 1 P Wt Tv Sv Av Vv Hv Fv Pk)) (fun n9 w => (n9 = "java/lang/IllegalArgumentException" ∧ ¬ (∃ j, j < n ∧ x0 = nI j) ∧ w = (kwW E K b y o n ls bc tk hk P Wt Tu Sc Ta Wa He Fk Pk)) ∨ (n9 = "java/lang/ArithmeticException" ∧ ∃ sl, x0 = nI sl ∧ sl < n ∧ ∃ (ls2 bc2 : Nat) (Tv Sv Av Vv Fv Hv : Nat → Nat), nxN n b y o P Wt (Fv sl) sl = 0 ∧ kOk b y o n ls2 bc2 1 1 P Wt Tv Sv Av Vv Hv Fv Pk ∧ w = (kwW E K b y o n ls2 bc2 1 1 P Wt Tv Sv Av Vv Hv Fv Pk))) := by
  refine kTi_of (cc := cX0_sure) (maxL := 3) (by decide) (Nat.le_of_ble_eq_true rfl) ?_
  intro G C hE hX hT
  obtain ⟨H1, HP, HW, Hb, Hy, Ho, Htk, Hhk, Hls, HTa, HWa, HHe, HFk, HPk, HK, HH⟩ := id HO
  refine kx_aload_n C dX0_sure_0 rfl 0 rfl ?_
  refine kx_iload_n C dX0_sure_1 rfl 1 rfl ?_
  refine kx_callVR (rest := []) (wr := []) C (c_requireSlice E K b y o n ls bc tk hk P Wt Tu Sc Ta Wa He Fk Pk x0 HX H1) g0_68 1 rfl (by decide +kernel) ⟨Nat.le_of_ble_eq_true rfl, Nat.le_of_ble_eq_true rfl⟩ ⟨Nat.le_of_ble_eq_true rfl, Nat.le_of_ble_eq_true rfl⟩ [0, 1, 2, 3, 4, 5, 6, 7, 8, 9] [] rfl rfl (by decide) (by decide) (by decide) 0 rfl rfl rfl (Nat.le_of_ble_eq_true rfl) dX0_sure_2 (fun n9 q1 => ?_) (fun q1 => ?_)
  · skip
    exact hX (Nat.le_of_ble_eq_true rfl) (Nat.le_of_ble_eq_true rfl) (Or.inl ⟨q1.1, q1.2, rfl⟩)
  obtain ⟨sl, esl, rfl⟩ := q1
  refine kx_aload_n C dX0_sure_5 rfl 0 rfl ?_
  refine kx_callVv (rest := []) (wr := []) C (c_knowHeads E K b y o n ls bc tk hk P Wt Tu Sc Ta Wa He Fk Pk HO) g0_111 0 rfl (by decide +kernel) ⟨Nat.le_of_ble_eq_true rfl, Nat.le_of_ble_eq_true rfl⟩ ⟨Nat.le_of_ble_eq_true rfl, Nat.le_of_ble_eq_true rfl⟩ [0, 1, 2, 3, 4, 5, 6, 7, 8, 9] [] rfl rfl (by decide) (by decide) (by decide) 0 rfl rfl rfl (Nat.le_of_ble_eq_true rfl) dX0_sure_6 (fun w q2 => ?_)
  obtain ⟨ls2, bc2, Tv, Sv, Av, Vv, Fv, Hv, HO2, rfl⟩ := q2
  refine kx_eqw (ws2 := (kwW E K b y o n ls2 bc2 1 1 P Wt Tv Sv Av Vv Hv Fv Pk)) rfl ?_
  obtain ⟨G1, GP, GW, Gb, Gy, Go, Gtk, Ghk, Gls, GTa, GWa, GHe, GFk, GPk, GK, GH⟩ := id HO2
  obtain ⟨GT, GR, G0, Gn, GF⟩ := GK (by decide)
  have GHd := (GH (by decide)).2
  have GTh := kThr_eq GR GHd
  refine kx_aload_n C dX0_sure_9 rfl 0 rfl ?_
  refine kx_iload_n C dX0_sure_10 rfl 1 rfl ?_
  refine kx_callVi (rest := []) (wr := []) C (c_nextCost E K b y o n ls2 bc2 1 1 P Wt Tv Sv Av Vv Hv Fv Pk sl (by omega) GTa GHe GFk (fun k hk9 => (GTh sl esl k hk9).1)) g0_118 1 rfl (by decide +kernel) ⟨Nat.le_of_ble_eq_true rfl, Nat.le_of_ble_eq_true rfl⟩ ⟨Nat.le_of_ble_eq_true rfl, Nat.le_of_ble_eq_true rfl⟩ [0, 1, 2, 3, 4, 5, 6, 7, 8, 9] [] rfl rfl (by decide) (by decide) (by decide) 0 rfl rfl rfl (Nat.le_of_ble_eq_true rfl) dX0_sure_11 (fun v w q3 => ?_)
  obtain ⟨rfl, rfl⟩ := q3
  refine kx_eqw (ws2 := (kwW E K b y o n ls2 bc2 1 1 P Wt Tv Sv Av Vv Hv Fv Pk)) rfl ?_
  refine kx_topn (b := nxN n b y o P Wt (Fv sl) sl) (minN_congr fun k hk9 => by rw [(GTh sl esl k hk9).2]) ?_
  have hln : ls2 ≤ nxN n b y o P Wt (Fv sl) sl := by rw [(Gn (by omega)).1]; exact minN_geB (minN_leM 24) (fun k hk9 => by show _ ≤ (if k = Fv sl then kBIG else thrN n b y o P Wt sl k); split; exact minN_leM 24; exact least_le_thr H1 HP HW Hb Hy Ho esl hk9)
  have hnb : nxN n b y o P Wt (Fv sl) sl ≤ 20000000 := kNx_le H1 HP HW Hb Hy Ho esl
  refine kx_istore_n (lv2 := [(2, .int (nI (nxN n b y o P Wt (Fv sl) sl))), (0, .ref (K 0)), (1, .int (nI (sl)))]) C dX0_sure_14 rfl (by decide) rfl ?_
  refine kx_iload_n C dX0_sure_15 rfl 0 rfl ?_
  refine kx_if_ne (tgt := 29) C (by omega) dX0_sure_16 (by decide) (fun c4 => ?_) (fun c4 => ?_)
  · skip
    refine kx_bipush (v := nI 100) C dX0_sure_29 (by decide +kernel) ?_
    refine kx_iload_n C dX0_sure_31 rfl 0 rfl ?_
    refine kx_aload_n C dX0_sure_32 rfl 1 rfl ?_
    refine kx_get (v := .int (nI (ls2))) (ci := 0) C kin0 0 rfl rfl 13 (by decide) fl0_93 rfl rfl dX0_sure_33 ?_
    refine kx_isub C (by omega) dX0_sure_36 ?_
    refine kx_imul C dX0_sure_37 ?_
    refine kx_iload_n C dX0_sure_38 rfl 0 rfl ?_
    refine kx_idiv C (by omega) (Nat.pos_of_ne_zero c4) (by omega) dX0_sure_39 ?_
    exact hE (Nat.le_of_ble_eq_true rfl) (Nat.le_of_ble_eq_true rfl) dX0_sure_40 ⟨sl, rfl, esl, ls2, bc2, Tv, Sv, Av, Vv, Fv, Hv, c4, rfl, HO2, rfl⟩
  · skip
    exact hT (kthr_sure_19 E HX) (Nat.le_of_ble_eq_true rfl) (Nat.le_of_ble_eq_true rfl) (Or.inr ⟨rfl, sl, rfl, esl, ls2, bc2, Tv, Sv, Av, Vv, Fv, Hv, c4, HO2, rfl⟩)

set_option maxHeartbeats 4000000 in
set_option maxRecDepth 100000 in
theorem c_pick (E : KE) (K : Nat → Nat) (b y o n ls bc tk hk : Nat) (P Wt Tu Sc Ta Wa He Fk Pk : Nat → Nat) (x0 : Int64) (x1 : Int32) (HX : E.1.stackTraces = false) (HO : kOk b y o n ls bc tk hk P Wt Tu Sc Ta Wa He Fk Pk) : kTi E yX0_pick cX0_pick 4 (rk 10 1) [.ref (K 0), .long (x0), .int (x1)] (kwW E K b y o n ls bc tk hk P Wt Tu Sc Ta Wa He Fk Pk) (fun r w => ∃ i0 sl, x0 = lN i0 ∧ i0 < 1000000000000000000 ∧ x1 = nI sl ∧ sl < n ∧ ∃ (ls2 bc2 : Nat) (Tv Sv Av Vv Fv Rv : Nat → Nat), r = kO (kFs n b y o P Wt ls2 i0 (sl + 1)).1 ∧ kOk b y o n ls2 bc2 1 hk P Wt Tv Sv Av Vv He Fv Rv ∧ w = (kwW E K b y o n ls2 bc2 1 hk P Wt Tv Sv Av Vv He Fv Rv)) (fun n9 w => n9 = "java/lang/IllegalArgumentException" ∧ ¬ ((∃ j, j < 1000000000000000000 ∧ x0 = lN j) ∧ (∃ j, j < n ∧ x1 = nI j)) ∧ w = (kwW E K b y o n ls bc tk hk P Wt Tu Sc Ta Wa He Fk Pk)) := by
  refine kTi_of (cc := cX0_pick) (maxL := 4) (by decide) (Nat.le_of_ble_eq_true rfl) ?_
  intro G C hE hX hT
  obtain ⟨H1, HP, HW, Hb, Hy, Ho, Htk, Hhk, Hls, HTa, HWa, HHe, HFk, HPk, HK, HH⟩ := id HO
  refine kx_lload_n C dX0_pick_0 rfl 1 rfl ?_
  refine kx_lconst (v := lN 0) C dX0_pick_1 (by decide +kernel) ?_
  refine kx_lcmp_ltR (tgt := 14) C dX0_pick_2 dX0_pick_3 (by decide) (fun c1 => ?_) (fun c1 => ?_)
  · skip
    exact hT (kthr_pick_14 E HX) (Nat.le_of_ble_eq_true rfl) (Nat.le_of_ble_eq_true rfl) ⟨rfl, (fun z => kPk1 c1 z.1), rfl⟩
  · skip
    refine kx_lload_n C dX0_pick_6 rfl 1 rfl ?_
    refine kx_ldc2 (v := lN 1000000000000000000) C kc0_100 dX0_pick_7 ?_
    refine kx_lcmp_ltR (tgt := 24) C dX0_pick_10 dX0_pick_11 (by decide) (fun c2 => ?_) (fun c2 => ?_)
    · skip
      obtain ⟨i0, ei0, rfl⟩ := pk_long (by decide) c1 c2
      refine kx_aload_n C dX0_pick_24 rfl 0 rfl ?_
      refine kx_iload_n C dX0_pick_25 rfl 2 rfl ?_
      refine kx_callVR (rest := []) (wr := []) C (c_requireSlice E K b y o n ls bc tk hk P Wt Tu Sc Ta Wa He Fk Pk x1 HX H1) g0_68 1 rfl (by decide +kernel) ⟨Nat.le_of_ble_eq_true rfl, Nat.le_of_ble_eq_true rfl⟩ ⟨Nat.le_of_ble_eq_true rfl, Nat.le_of_ble_eq_true rfl⟩ [0, 1, 2, 3, 4, 5, 6, 7, 8, 9] [] rfl rfl (by decide) (by decide) (by decide) 0 rfl rfl rfl (Nat.le_of_ble_eq_true rfl) dX0_pick_26 (fun n9 q3 => ?_) (fun q3 => ?_)
      · skip
        exact hX (Nat.le_of_ble_eq_true rfl) (Nat.le_of_ble_eq_true rfl) ⟨q3.1, (fun z => q3.2 z.2), rfl⟩
      obtain ⟨sl, esl, rfl⟩ := q3
      refine kx_aload_n C dX0_pick_29 rfl 0 rfl ?_
      refine kx_callVv (rest := []) (wr := []) C (c_knowTails E K b y o n ls bc tk hk P Wt Tu Sc Ta Wa He Fk Pk HO) g0_90 0 rfl (by decide +kernel) ⟨Nat.le_of_ble_eq_true rfl, Nat.le_of_ble_eq_true rfl⟩ ⟨Nat.le_of_ble_eq_true rfl, Nat.le_of_ble_eq_true rfl⟩ [0, 1, 2, 3, 4, 5, 6, 7, 8, 9] [] rfl rfl (by decide) (by decide) (by decide) 0 rfl rfl rfl (Nat.le_of_ble_eq_true rfl) dX0_pick_30 (fun w q4 => ?_)
      obtain ⟨ls2, bc2, Tv, Sv, Av, Vv, Fv, HO2, rfl⟩ := q4
      refine kx_eqw (ws2 := (kwW E K b y o n ls2 bc2 1 hk P Wt Tv Sv Av Vv He Fv Pk)) rfl ?_
      obtain ⟨G1, GP, GW, Gb, Gy, Go, Gtk, Ghk, Gls, GTa, GWa, GHe, GFk, GPk, GK, GH⟩ := id HO2
      obtain ⟨GT, GR, G0, Gn, GF⟩ := GK (by decide)
      refine kx_aload_n C dX0_pick_33 rfl 0 rfl ?_
      refine kx_lload_n C dX0_pick_34 rfl 1 rfl ?_
      refine kx_iload_n C dX0_pick_35 rfl 2 rfl ?_
      refine kx_aload_n C dX0_pick_36 rfl 0 rfl ?_
      refine kx_get (v := .ref (K 9)) (ci := 0) C kin0 0 rfl rfl 12 (by decide) fl0_35 rfl rfl dX0_pick_37 ?_
      refine kx_callVi (rest := []) (wr := []) C (c_followBest9 E K b y o n ls2 bc2 1 hk P Wt Tv Sv Av Vv He Fv Pk i0 sl (by omega) (by omega) Gls (GT.le Gb Gy Go) GTa GWa (fun j hj => GR.st j (by omega)) GPk) g0_107 3 rfl (by decide +kernel) ⟨Nat.le_of_ble_eq_true rfl, Nat.le_of_ble_eq_true rfl⟩ ⟨Nat.le_of_ble_eq_true rfl, Nat.le_of_ble_eq_true rfl⟩ [0, 1, 2, 3, 4, 5, 6, 7, 8, 9] [] rfl rfl (by decide) (by decide) (by decide) 0 rfl rfl rfl (Nat.le_of_ble_eq_true rfl) dX0_pick_40 (fun v w q5 => ?_)
      obtain ⟨rfl, Rv, -, hRb, rfl⟩ := q5
      refine kx_eqw (ws2 := (kwW E K b y o n ls2 bc2 1 hk P Wt Tv Sv Av Vv He Fv Rv)) rfl ?_
      exact hE (Nat.le_of_ble_eq_true rfl) (Nat.le_of_ble_eq_true rfl) dX0_pick_43 ⟨i0, sl, rfl, ei0, rfl, esl, ls2, bc2, Tv, Sv, Av, Vv, Fv, Rv, congrArg (fun z => kO z.1) (pth_fs GT GR (sl + 1) (by omega)), ⟨G1, GP, GW, Gb, Gy, Go, Gtk, Ghk, Gls, GTa, GWa, GHe, GFk, hRb, GK, GH⟩, rfl⟩
    · skip
      exact hT (kthr_pick_14 E HX) (Nat.le_of_ble_eq_true rfl) (Nat.le_of_ble_eq_true rfl) ⟨rfl, (fun z => kPk2 c2 z.1), rfl⟩

set_option maxHeartbeats 4000000 in
set_option maxRecDepth 100000 in
theorem c_change (E : KE) (K : Nat → Nat) (b y o n ls bc tk hk : Nat) (P Wt Tu Sc Ta Wa He Fk Pk : Nat → Nat) (x0 : Int32) (HX : E.1.stackTraces = false) (HO : kOk b y o n ls bc tk hk P Wt Tu Sc Ta Wa He Fk Pk) : kTi E yX0_change cX0_change 4 (rk 10 1) [.ref (K 0), .int (x0)] (kwW E K b y o n ls bc tk hk P Wt Tu Sc Ta Wa He Fk Pk) (fun r w => ∃ q, x0 = nI q ∧ ∃ (ls2 bc2 : Nat) (Tv Sv Av Vv Fv : Nat → Nat), ((∃ s, 1 ≤ s ∧ s < n ∧ Fv s ≠ Fv (s - 1) ∧ chN Fv s = q ∧ r = nI s) ∨ (chN Fv n ≤ q ∧ r = -1)) ∧ kOk b y o n ls2 bc2 1 hk P Wt Tv Sv Av Vv He Fv Pk ∧ w = (kwW E K b y o n ls2 bc2 1 hk P Wt Tv Sv Av Vv He Fv Pk)) (fun n9 w => n9 = "java/lang/IllegalArgumentException" ∧ x0 < 0 ∧ w = (kwW E K b y o n ls bc tk hk P Wt Tu Sc Ta Wa He Fk Pk)) := by
  refine kTi_of (cc := cX0_change) (maxL := 4) (by decide) (Nat.le_of_ble_eq_true rfl) ?_
  intro G C hE hX hT
  obtain ⟨H1, HP, HW, Hb, Hy, Ho, Htk, Hhk, Hls, HTa, HWa, HHe, HFk, HPk, HK, HH⟩ := id HO
  refine kx_iload_n C dX0_change_0 rfl 1 rfl ?_
  refine kx_if_geR (tgt := 14) C dX0_change_1 (by decide) (fun c1 => ?_) (fun c1 => ?_)
  · skip
    obtain ⟨q, eq9, rfl⟩ := nI_of (x := x0) (Int32.not_lt.mpr c1)
    refine kx_aload_n C dX0_change_14 rfl 0 rfl ?_
    refine kx_callVv (rest := []) (wr := []) C (c_knowTails E K b y o n ls bc tk hk P Wt Tu Sc Ta Wa He Fk Pk HO) g0_90 0 rfl (by decide +kernel) ⟨Nat.le_of_ble_eq_true rfl, Nat.le_of_ble_eq_true rfl⟩ ⟨Nat.le_of_ble_eq_true rfl, Nat.le_of_ble_eq_true rfl⟩ [0, 1, 2, 3, 4, 5, 6, 7, 8, 9] [] rfl rfl (by decide) (by decide) (by decide) 0 rfl rfl rfl (Nat.le_of_ble_eq_true rfl) dX0_change_15 (fun w q2 => ?_)
    obtain ⟨ls2, bc2, Tv, Sv, Av, Vv, Fv, HO2, rfl⟩ := q2
    refine kx_eqw (ws2 := (kwW E K b y o n ls2 bc2 1 hk P Wt Tv Sv Av Vv He Fv Pk)) rfl ?_
    obtain ⟨G1, GP, GW, Gb, Gy, Go, Gtk, Ghk, Gls, GTa, GWa, GHe, GFk, GPk, GK, GH⟩ := id HO2
    obtain ⟨GT, GR, G0, Gn, GF⟩ := GK (by decide)
    have lp22 : ∀ (N_lp22 : Nat) (i : Nat), (1 ≤ i) → (i ≤ n ∨ i = 1) → (chN Fv i ≤ q) → (n + 1 < i + N_lp22) → kx E (rk 10 1) G 4 0 0 (kwW E K b y o n ls2 bc2 1 hk P Wt Tv Sv Av Vv He Fv Pk) [(0, .ref (K 0)), (1, .int (nI (q))), (2, .int (nI (chN Fv i))), (3, .int (nI (i)))] 22 [] := by
      intro N_lp22
      induction N_lp22 with
      | zero =>
        intro i h0_lp22 h1_lp22 h2_lp22 hm_lp22
        exact absurd hm_lp22 (by omega)
      | succ N_lp22 ih_lp22 =>
        intro i h0_lp22 h1_lp22 h2_lp22 hm_lp22
        refine kx_iload_n C dX0_change_22 rfl 3 rfl ?_
        refine kx_aload_n C dX0_change_23 rfl 0 rfl ?_
        refine kx_get (v := .int (nI (n))) (ci := 0) C kin0 0 rfl rfl 5 (by decide) fl0_41 rfl rfl dX0_change_24 ?_
        refine kx_icmp_ge (tgt := 54) C (by omega) (by omega) dX0_change_27 (by decide) (fun c3 => ?_) (fun c3 => ?_)
        · skip
          have hcz : chN Fv i = chN Fv n := chN_end (by omega) (by omega)
          refine kx_iconst (v := (-1)) C dX0_change_54 (by decide +kernel) ?_
          exact hE (Nat.le_of_ble_eq_true rfl) (Nat.le_of_ble_eq_true rfl) dX0_change_55 ⟨q, rfl, ls2, bc2, Tv, Sv, Av, Vv, Fv, Or.inr ⟨by rw [← hcz]; exact h2_lp22, rfl⟩, HO2, rfl⟩
        · skip
          refine kx_aload_n C dX0_change_30 rfl 0 rfl ?_
          refine kx_iload_n C dX0_change_31 rfl 3 rfl ?_
          refine kx_callVz (rest := []) (wr := []) C (c_changesAt E K b y o n ls2 bc2 1 hk P Wt Tv Sv Av Vv He Fv Pk i (by omega) (by omega) GFk) g0_128 1 rfl (by decide +kernel) ⟨Nat.le_of_ble_eq_true rfl, Nat.le_of_ble_eq_true rfl⟩ ⟨Nat.le_of_ble_eq_true rfl, Nat.le_of_ble_eq_true rfl⟩ [0, 1, 2, 3, 4, 5, 6, 7, 8, 9] [] rfl rfl (by decide) (by decide) (by decide) 0 rfl rfl rfl (Nat.le_of_ble_eq_true rfl) dX0_change_32 (fun v w q4 => ?_)
          obtain ⟨rfl, rfl⟩ := q4
          refine kx_eqw (ws2 := (kwW E K b y o n ls2 bc2 1 hk P Wt Tv Sv Av Vv He Fv Pk)) rfl ?_
          refine kx_if_eq (tgt := 48) C (by split <;> omega) dX0_change_35 (by decide) (fun c5 => ?_) (fun c5 => ?_)
          · skip
            have hch : Fv i = Fv (i - 1) := by by_cases z : Fv i = Fv (i - 1); exact z; rw [if_neg z] at c5; exact absurd c5 (by decide)
            refine kx_iinc (v := nI (i + 1)) (lv2 := [(3, .int (nI (i + 1))), (0, .ref (K 0)), (1, .int (nI (q))), (2, .int (nI (chN Fv i)))]) C dX0_change_48 3 rfl (kI1 _) (by decide) rfl ?_
            refine kx_goto (tgt := 22) C dX0_change_51 (by decide) ?_
            refine kx_lvn (a := chN Fv i) (b := chN Fv (i + 1)) (lv2 := [(3, .int (nI (i + 1))), (0, .ref (K 0)), (1, .int (nI (q))), (2, .int (nI (chN Fv (i + 1))))]) (by rw [chN_at (by omega), if_pos hch, Nat.add_zero]) 3 rfl rfl ?_
            refine kx_lv (lv2 := [(0, .ref (K 0)), (1, .int (nI (q))), (2, .int (nI (chN Fv (i + 1)))), (3, .int (nI (i + 1)))]) [1, 2, 3, 0] rfl ?_
            refine kx_eqw (ws2 := (kwW E K b y o n ls2 bc2 1 hk P Wt Tv Sv Av Vv He Fv Pk)) rfl ?_
            exact ih_lp22 (i + 1) (by omega) (by omega) (by rw [chN_at (by omega), if_pos hch]; omega) (by omega)
          · skip
            have hch : Fv i ≠ Fv (i - 1) := fun z => c5 (if_pos z)
            refine kx_iload_n C dX0_change_38 rfl 2 rfl ?_
            refine kx_iload_n C dX0_change_39 rfl 1 rfl ?_
            refine kx_icmp_ne (tgt := 45) C (by have := chN_le Fv i; omega) (by omega) dX0_change_40 (by decide) (fun c6 => ?_) (fun c6 => ?_)
            · skip
              refine kx_iinc (v := nI (chN Fv i + 1)) (lv2 := [(2, .int (nI (chN Fv i + 1))), (0, .ref (K 0)), (1, .int (nI (q))), (3, .int (nI (i)))]) C dX0_change_45 2 rfl (kI1 _) (by decide) rfl ?_
              refine kx_iinc (v := nI (i + 1)) (lv2 := [(3, .int (nI (i + 1))), (2, .int (nI (chN Fv i + 1))), (0, .ref (K 0)), (1, .int (nI (q)))]) C dX0_change_48 3 rfl (kI1 _) (by decide) rfl ?_
              refine kx_goto (tgt := 22) C dX0_change_51 (by decide) ?_
              refine kx_lvn (a := chN Fv i + 1) (b := chN Fv (i + 1)) (lv2 := [(3, .int (nI (i + 1))), (2, .int (nI (chN Fv (i + 1)))), (0, .ref (K 0)), (1, .int (nI (q)))]) (by rw [chN_at (by omega), if_neg hch]) 1 rfl rfl ?_
              refine kx_lv (lv2 := [(0, .ref (K 0)), (1, .int (nI (q))), (2, .int (nI (chN Fv (i + 1)))), (3, .int (nI (i + 1)))]) [2, 3, 1, 0] rfl ?_
              refine kx_eqw (ws2 := (kwW E K b y o n ls2 bc2 1 hk P Wt Tv Sv Av Vv He Fv Pk)) rfl ?_
              exact ih_lp22 (i + 1) (by omega) (by omega) (by rw [chN_at (by omega), if_neg hch]; omega) (by omega)
            · skip
              refine kx_iload_n C dX0_change_43 rfl 3 rfl ?_
              exact hE (Nat.le_of_ble_eq_true rfl) (Nat.le_of_ble_eq_true rfl) dX0_change_44 ⟨q, rfl, ls2, bc2, Tv, Sv, Av, Vv, Fv, Or.inl ⟨i, by omega, by omega, hch, c6, rfl⟩, HO2, rfl⟩
    refine kx_iconst (v := nI 0) C dX0_change_18 (by decide +kernel) ?_
    refine kx_istore_n (lv2 := [(2, .int (nI (0))), (0, .ref (K 0)), (1, .int (nI (q)))]) C dX0_change_19 rfl (by decide) rfl ?_
    refine kx_iconst (v := nI 1) C dX0_change_20 (by decide +kernel) ?_
    refine kx_istore_n (lv2 := [(3, .int (nI (1))), (2, .int (nI (0))), (0, .ref (K 0)), (1, .int (nI (q)))]) C dX0_change_21 rfl (by decide) rfl ?_
    refine kx_lv (lv2 := [(0, .ref (K 0)), (1, .int (nI (q))), (2, .int (nI (chN Fv 1))), (3, .int (nI (1)))]) [2, 3, 1, 0] rfl ?_
    refine kx_eqw (ws2 := (kwW E K b y o n ls2 bc2 1 hk P Wt Tv Sv Av Vv He Fv Pk)) rfl ?_
    exact lp22 42 1 (by omega) (by omega) (Nat.zero_le _) (by omega)
  · skip
    exact hT (kthr_change_4 E HX) (Nat.le_of_ble_eq_true rfl) (Nat.le_of_ble_eq_true rfl) ⟨rfl, Int32.not_le.mp c1, rfl⟩

set_option maxHeartbeats 4000000 in
set_option maxRecDepth 100000 in
theorem c_pivot (E : KE) (K : Nat → Nat) (b y o n ls bc tk hk : Nat) (P Wt Tu Sc Ta Wa He Fk Pk : Nat → Nat) (x0 x1 x2 : Int32) (HX : E.1.stackTraces = false) (HO : kOk b y o n ls bc tk hk P Wt Tu Sc Ta Wa He Fk Pk) : kTz E yX0_pivot cX0_pivot 6 (rk 10 1) [.ref (K 0), .int (x0), .int (x1), .int (x2)] (kwW E K b y o n ls bc tk hk P Wt Tu Sc Ta Wa He Fk Pk) (fun r w => ∃ sl k1 k2, x0 = nI sl ∧ sl < n ∧ x1 = nI k1 ∧ k1 ≤ 23 ∧ x2 = nI k2 ∧ k2 ≤ 23 ∧ (((∀ p, p < 12 → 0 < Wt (sl * 12 + p) → P (numX p k1) ≠ 0 ∧ P (numX p k2) ≠ 0) ∧ r = nI 1) ∨ (¬ (∀ p, p < 12 → 0 < Wt (sl * 12 + p) → P (numX p k1) ≠ 0 ∧ P (numX p k2) ≠ 0) ∧ r = nI 0)) ∧ w = (kwW E K b y o n ls bc tk hk P Wt Tu Sc Ta Wa He Fk Pk)) (fun n9 w => n9 = "java/lang/IllegalArgumentException" ∧ ¬ ((∃ j, j < n ∧ x0 = nI j) ∧ (∃ j, j ≤ 23 ∧ x1 = nI j) ∧ (∃ j, j ≤ 23 ∧ x2 = nI j)) ∧ w = (kwW E K b y o n ls bc tk hk P Wt Tu Sc Ta Wa He Fk Pk)) := by
  refine kTz_of (cc := cX0_pivot) (maxL := 6) (by decide) (Nat.le_of_ble_eq_true rfl) ?_
  intro G C hE hX hT
  obtain ⟨H1, HP, HW, Hb, Hy, Ho, Htk, Hhk, Hls, HTa, HWa, HHe, HFk, HPk, HK, HH⟩ := id HO
  refine kx_aload_n C dX0_pivot_0 rfl 0 rfl ?_
  refine kx_iload_n C dX0_pivot_1 rfl 1 rfl ?_
  refine kx_callVR (rest := []) (wr := []) C (c_requireSlice E K b y o n ls bc tk hk P Wt Tu Sc Ta Wa He Fk Pk x0 HX H1) g0_68 1 rfl (by decide +kernel) ⟨Nat.le_of_ble_eq_true rfl, Nat.le_of_ble_eq_true rfl⟩ ⟨Nat.le_of_ble_eq_true rfl, Nat.le_of_ble_eq_true rfl⟩ [0, 1, 2, 3, 4, 5, 6, 7, 8, 9] [] rfl rfl (by decide) (by decide) (by decide) 0 rfl rfl rfl (Nat.le_of_ble_eq_true rfl) dX0_pivot_2 (fun n9 q1 => ?_) (fun q1 => ?_)
  · skip
    exact hX (Nat.le_of_ble_eq_true rfl) (Nat.le_of_ble_eq_true rfl) ⟨q1.1, (fun z => q1.2 z.1), rfl⟩
  obtain ⟨sl, esl, rfl⟩ := q1
  refine kx_iload_n C dX0_pivot_5 rfl 2 rfl ?_
  refine kx_callSR (rest := []) (wr := (kwW E K b y o n ls bc tk hk P Wt Tu Sc Ta Wa He Fk Pk)) C (c_requireKey E x1 HX) g0_76 1 rfl (by decide +kernel) ⟨Nat.le_of_ble_eq_true rfl, Nat.le_of_ble_eq_true rfl⟩ ⟨Nat.le_of_ble_eq_true rfl, Nat.le_of_ble_eq_true rfl⟩ [] [0, 1, 2, 3, 4, 5, 6, 7, 8, 9] rfl rfl (by decide) (by decide) (by decide) rfl (Nat.le_of_ble_eq_true rfl) dX0_pivot_6 (fun n9 q2 => ?_) (fun q2 => ?_)
  · skip
    exact hX (Nat.le_of_ble_eq_true rfl) (Nat.le_of_ble_eq_true rfl) ⟨q2.1, (fun z => q2.2 z.2.1), (List.append_nil _)⟩
  obtain ⟨k1, ek1, rfl⟩ := q2
  refine kx_iload_n C dX0_pivot_9 rfl 3 rfl ?_
  refine kx_callSR (rest := []) (wr := (kwW E K b y o n ls bc tk hk P Wt Tu Sc Ta Wa He Fk Pk)) C (c_requireKey E x2 HX) g0_76 1 rfl (by decide +kernel) ⟨Nat.le_of_ble_eq_true rfl, Nat.le_of_ble_eq_true rfl⟩ ⟨Nat.le_of_ble_eq_true rfl, Nat.le_of_ble_eq_true rfl⟩ [] [0, 1, 2, 3, 4, 5, 6, 7, 8, 9] rfl rfl (by decide) (by decide) (by decide) rfl (Nat.le_of_ble_eq_true rfl) dX0_pivot_10 (fun n9 q3 => ?_) (fun q3 => ?_)
  · skip
    exact hX (Nat.le_of_ble_eq_true rfl) (Nat.le_of_ble_eq_true rfl) ⟨q3.1, (fun z => q3.2 z.2.2), (List.append_nil _)⟩
  obtain ⟨k2, ek2, rfl⟩ := q3
  have lp16 : ∀ (N_lp16 : Nat) (i : Nat), (i ≤ 12) → ((∀ p, p < i → 0 < Wt (sl * 12 + p) → P (numX p k1) ≠ 0 ∧ P (numX p k2) ≠ 0)) → (12 < i + N_lp16) → kx E (rk 10 1) G 6 0 0 (kwW E K b y o n ls bc tk hk P Wt Tu Sc Ta Wa He Fk Pk) [(0, .ref (K 0)), (1, .int (nI (sl))), (2, .int (nI (k1))), (3, .int (nI (k2))), (4, .int (nI (i)))] 16 [] := by
    intro N_lp16
    induction N_lp16 with
    | zero =>
      intro i h0_lp16 h1_lp16 hm_lp16
      exact absurd hm_lp16 (by omega)
    | succ N_lp16 ih_lp16 =>
      intro i h0_lp16 h1_lp16 hm_lp16
      refine kx_iload C dX0_pivot_16 4 rfl ?_
      refine kx_bipush (v := nI 12) C dX0_pivot_18 (by decide +kernel) ?_
      refine kx_icmp_ge (tgt := 78) C (by omega) (by omega) dX0_pivot_20 (by decide) (fun c4 => ?_) (fun c4 => ?_)
      · skip
        obtain rfl : 12 = i := by omega
        refine kx_iconst (v := nI 1) C dX0_pivot_78 (by decide +kernel) ?_
        exact hE (Nat.le_of_ble_eq_true rfl) (Nat.le_of_ble_eq_true rfl) dX0_pivot_79 (by decide +kernel) ⟨sl, k1, k2, rfl, esl, rfl, ek1, rfl, ek2, Or.inl ⟨h1_lp16, rfl⟩, rfl⟩
      · skip
        refine kx_aload_n C dX0_pivot_23 rfl 0 rfl ?_
        refine kx_get (v := .ref (K 2)) (ci := 0) C kin0 0 rfl rfl 1 (by decide) fl0_13 rfl rfl dX0_pivot_24 ?_
        refine kx_iload_n C dX0_pivot_27 rfl 1 rfl ?_
        refine kx_bipush (v := nI 12) C dX0_pivot_28 (by decide +kernel) ?_
        refine kx_imul C dX0_pivot_30 ?_
        refine kx_iload C dX0_pivot_31 4 rfl ?_
        refine kx_iadd C dX0_pivot_33 ?_
        refine kx_iald C 2 rfl (j := ((sl) * (12)) + (i)) (by omega) (by decide) dX0_pivot_34 ?_
        refine kx_if_le (tgt := 42) C (by have := HW (sl * 12 + i); omega) dX0_pivot_35 (by decide) (fun c5 => ?_) (fun c5 => ?_)
        · skip
          have hso : Wt (sl * 12 + i) = 0 := c5
          refine kx_iconst (v := nI 0) C dX0_pivot_42 (by decide +kernel) ?_
          refine kx_istore (lv2 := [(5, .int (nI (0))), (0, .ref (K 0)), (1, .int (nI (sl))), (2, .int (nI (k1))), (3, .int (nI (k2))), (4, .int (nI (i)))]) C dX0_pivot_43 (by decide) rfl ?_
          refine kx_iload C dX0_pivot_45 0 rfl ?_
          refine kx_if_eq (tgt := 72) C (by omega) dX0_pivot_47 (by decide) (fun c6 => ?_) (fun c6 => ?_)
          · skip
            refine kx_iinc (v := nI (i + 1)) (lv2 := [(4, .int (nI (i + 1))), (5, .int (nI (0))), (0, .ref (K 0)), (1, .int (nI (sl))), (2, .int (nI (k1))), (3, .int (nI (k2)))]) C dX0_pivot_72 5 rfl (kI1 _) (by decide) rfl ?_
            refine kx_goto (tgt := 16) C dX0_pivot_75 (by decide) ?_
            refine kx_lv (lv2 := [(0, .ref (K 0)), (1, .int (nI (sl))), (2, .int (nI (k1))), (3, .int (nI (k2))), (4, .int (nI (i + 1)))]) [2, 3, 4, 5, 0] rfl ?_
            refine kx_eqw (ws2 := (kwW E K b y o n ls bc tk hk P Wt Tu Sc Ta Wa He Fk Pk)) rfl ?_
            exact ih_lp16 (i + 1) (by omega) (kPvS h1_lp16 (fun z => absurd z (by omega))) (by omega)
          · skip
            exact absurd c6 (by decide)
        · skip
          have hso : 0 < Wt (sl * 12 + i) := c5
          refine kx_iconst (v := nI 1) C dX0_pivot_38 (by decide +kernel) ?_
          refine kx_goto (tgt := 43) C dX0_pivot_39 (by decide) ?_
          refine kx_istore (lv2 := [(5, .int (nI (1))), (0, .ref (K 0)), (1, .int (nI (sl))), (2, .int (nI (k1))), (3, .int (nI (k2))), (4, .int (nI (i)))]) C dX0_pivot_43 (by decide) rfl ?_
          refine kx_iload C dX0_pivot_45 0 rfl ?_
          refine kx_if_eq (tgt := 72) C (by omega) dX0_pivot_47 (by decide) (fun c7 => ?_) (fun c7 => ?_)
          · skip
            exact absurd c7 (by decide)
          · skip
            refine kx_aload_n C dX0_pivot_50 rfl 1 rfl ?_
            refine kx_iload C dX0_pivot_51 5 rfl ?_
            refine kx_iload_n C dX0_pivot_53 rfl 3 rfl ?_
            refine kx_callVi (rest := []) (wr := []) C (c_numberOf E K b y o n ls bc tk hk P Wt Tu Sc Ta Wa He Fk Pk i k1 (by omega) (by omega)) g0_132 2 rfl (by decide +kernel) ⟨Nat.le_of_ble_eq_true rfl, Nat.le_of_ble_eq_true rfl⟩ ⟨Nat.le_of_ble_eq_true rfl, Nat.le_of_ble_eq_true rfl⟩ [0, 1, 2, 3, 4, 5, 6, 7, 8, 9] [] rfl rfl (by decide) (by decide) (by decide) 0 rfl rfl rfl (Nat.le_of_ble_eq_true rfl) dX0_pivot_54 (fun v w q8 => ?_)
            obtain ⟨rfl, rfl⟩ := q8
            refine kx_eqw (ws2 := (kwW E K b y o n ls bc tk hk P Wt Tu Sc Ta Wa He Fk Pk)) rfl ?_
            refine kx_if_eq (tgt := 70) C (by have := HP (numX i k1); omega) dX0_pivot_57 (by decide) (fun c9 => ?_) (fun c9 => ?_)
            · skip
              refine kx_iconst (v := nI 0) C dX0_pivot_70 (by decide +kernel) ?_
              exact hE (Nat.le_of_ble_eq_true rfl) (Nat.le_of_ble_eq_true rfl) dX0_pivot_71 (by decide +kernel) ⟨sl, k1, k2, rfl, esl, rfl, ek1, rfl, ek2, Or.inr ⟨fun z => absurd (z i (by omega) hso) (fun z => z.1 c9), rfl⟩, rfl⟩
            · skip
              have hn1 := c9
              refine kx_aload_n C dX0_pivot_60 rfl 1 rfl ?_
              refine kx_iload C dX0_pivot_61 5 rfl ?_
              refine kx_iload_n C dX0_pivot_63 rfl 4 rfl ?_
              refine kx_callVi (rest := []) (wr := []) C (c_numberOf E K b y o n ls bc tk hk P Wt Tu Sc Ta Wa He Fk Pk i k2 (by omega) (by omega)) g0_132 2 rfl (by decide +kernel) ⟨Nat.le_of_ble_eq_true rfl, Nat.le_of_ble_eq_true rfl⟩ ⟨Nat.le_of_ble_eq_true rfl, Nat.le_of_ble_eq_true rfl⟩ [0, 1, 2, 3, 4, 5, 6, 7, 8, 9] [] rfl rfl (by decide) (by decide) (by decide) 0 rfl rfl rfl (Nat.le_of_ble_eq_true rfl) dX0_pivot_64 (fun v w q10 => ?_)
              obtain ⟨rfl, rfl⟩ := q10
              refine kx_eqw (ws2 := (kwW E K b y o n ls bc tk hk P Wt Tu Sc Ta Wa He Fk Pk)) rfl ?_
              refine kx_if_ne (tgt := 72) C (by have := HP (numX i k2); omega) dX0_pivot_67 (by decide) (fun c11 => ?_) (fun c11 => ?_)
              · skip
                refine kx_iinc (v := nI (i + 1)) (lv2 := [(4, .int (nI (i + 1))), (5, .int (nI (1))), (0, .ref (K 0)), (1, .int (nI (sl))), (2, .int (nI (k1))), (3, .int (nI (k2)))]) C dX0_pivot_72 5 rfl (kI1 _) (by decide) rfl ?_
                refine kx_goto (tgt := 16) C dX0_pivot_75 (by decide) ?_
                refine kx_lv (lv2 := [(0, .ref (K 0)), (1, .int (nI (sl))), (2, .int (nI (k1))), (3, .int (nI (k2))), (4, .int (nI (i + 1)))]) [2, 3, 4, 5, 0] rfl ?_
                refine kx_eqw (ws2 := (kwW E K b y o n ls bc tk hk P Wt Tu Sc Ta Wa He Fk Pk)) rfl ?_
                exact ih_lp16 (i + 1) (by omega) (kPvS h1_lp16 (fun _ => ⟨hn1, c11⟩)) (by omega)
              · skip
                refine kx_iconst (v := nI 0) C dX0_pivot_70 (by decide +kernel) ?_
                exact hE (Nat.le_of_ble_eq_true rfl) (Nat.le_of_ble_eq_true rfl) dX0_pivot_71 (by decide +kernel) ⟨sl, k1, k2, rfl, esl, rfl, ek1, rfl, ek2, Or.inr ⟨fun z => absurd (z i (by omega) hso) (fun z => z.2 c11), rfl⟩, rfl⟩
  refine kx_iconst (v := nI 0) C dX0_pivot_13 (by decide +kernel) ?_
  refine kx_istore (lv2 := [(4, .int (nI (0))), (0, .ref (K 0)), (1, .int (nI (sl))), (2, .int (nI (k1))), (3, .int (nI (k2)))]) C dX0_pivot_14 (by decide) rfl ?_
  refine kx_lv (lv2 := [(0, .ref (K 0)), (1, .int (nI (sl))), (2, .int (nI (k1))), (3, .int (nI (k2))), (4, .int (nI (0)))]) [1, 2, 3, 4, 0] rfl ?_
  refine kx_eqw (ws2 := (kwW E K b y o n ls bc tk hk P Wt Tu Sc Ta Wa He Fk Pk)) rfl ?_
  exact lp16 13 0 (by omega) (fun p hp => absurd hp (by omega)) (by omega)

set_option maxHeartbeats 4000000 in
set_option maxRecDepth 100000 in
theorem c_whole (E : KE) (K : Nat → Nat) (b y o n ls bc tk hk : Nat) (P Wt Tu Sc Ta Wa He Fk Pk : Nat → Nat) (x0 x1 : Int32) (HX : E.1.stackTraces = false) (HO : kOk b y o n ls bc tk hk P Wt Tu Sc Ta Wa He Fk Pk) : kTi E yX0_whole cX0_whole 7 (rk 10 1) [.ref (K 0), .int (x0), .int (x1)] (kwW E K b y o n ls bc tk hk P Wt Tu Sc Ta Wa He Fk Pk) (fun r w => ∃ fi la, x0 = nI fi ∧ x1 = nI la ∧ fi ≤ la ∧ la < n ∧ r = nI (whN (fun k => sumN (fun t => fitN P Wt (fi + t) k) (la + 1 - fi)) 23).1 ∧ w = (kwW E K b y o n ls bc tk hk P Wt Tu Sc Ta Wa He Fk Pk)) (fun n9 w => n9 = "java/lang/IllegalArgumentException" ∧ ¬ (∃ i j, x0 = nI i ∧ x1 = nI j ∧ i ≤ j ∧ j < n) ∧ w = (kwW E K b y o n ls bc tk hk P Wt Tu Sc Ta Wa He Fk Pk)) := by
  refine kTi_of (cc := cX0_whole) (maxL := 7) (by decide) (Nat.le_of_ble_eq_true rfl) ?_
  intro G C hE hX hT
  obtain ⟨H1, HP, HW, Hb, Hy, Ho, Htk, Hhk, Hls, HTa, HWa, HHe, HFk, HPk, HK, HH⟩ := id HO
  refine kx_aload_n C dX0_whole_0 rfl 0 rfl ?_
  refine kx_iload_n C dX0_whole_1 rfl 1 rfl ?_
  refine kx_callVR (rest := []) (wr := []) C (c_requireSlice E K b y o n ls bc tk hk P Wt Tu Sc Ta Wa He Fk Pk x0 HX H1) g0_68 1 rfl (by decide +kernel) ⟨Nat.le_of_ble_eq_true rfl, Nat.le_of_ble_eq_true rfl⟩ ⟨Nat.le_of_ble_eq_true rfl, Nat.le_of_ble_eq_true rfl⟩ [0, 1, 2, 3, 4, 5, 6, 7, 8, 9] [] rfl rfl (by decide) (by decide) (by decide) 0 rfl rfl rfl (Nat.le_of_ble_eq_true rfl) dX0_whole_2 (fun n9 q1 => ?_) (fun q1 => ?_)
  · skip
    exact hX (Nat.le_of_ble_eq_true rfl) (Nat.le_of_ble_eq_true rfl) ⟨q1.1, (fun z => kNW1 q1.2 z), rfl⟩
  obtain ⟨fi, efi, rfl⟩ := q1
  refine kx_aload_n C dX0_whole_5 rfl 0 rfl ?_
  refine kx_iload_n C dX0_whole_6 rfl 2 rfl ?_
  refine kx_callVR (rest := []) (wr := []) C (c_requireSlice E K b y o n ls bc tk hk P Wt Tu Sc Ta Wa He Fk Pk x1 HX H1) g0_68 1 rfl (by decide +kernel) ⟨Nat.le_of_ble_eq_true rfl, Nat.le_of_ble_eq_true rfl⟩ ⟨Nat.le_of_ble_eq_true rfl, Nat.le_of_ble_eq_true rfl⟩ [0, 1, 2, 3, 4, 5, 6, 7, 8, 9] [] rfl rfl (by decide) (by decide) (by decide) 0 rfl rfl rfl (Nat.le_of_ble_eq_true rfl) dX0_whole_7 (fun n9 q2 => ?_) (fun q2 => ?_)
  · skip
    exact hX (Nat.le_of_ble_eq_true rfl) (Nat.le_of_ble_eq_true rfl) ⟨q2.1, (fun z => kNW2 q2.2 z), rfl⟩
  obtain ⟨la, ela, rfl⟩ := q2
  refine kx_iload_n C dX0_whole_10 rfl 1 rfl ?_
  refine kx_iload_n C dX0_whole_11 rfl 2 rfl ?_
  refine kx_icmp_le (tgt := 25) C (by omega) (by omega) dX0_whole_12 (by decide) (fun c3 => ?_) (fun c3 => ?_)
  · skip
    have HFL : fi ≤ la := c3
    have ela9 : la < 40 := by omega
    have hFb : ∀ k, (fun k => sumN (fun t => fitN P Wt (fi + t) k) (la + 1 - fi)) k ≤ 9504000 := fun k => by have h1 := sumN_le (f := fun t => fitN P Wt (fi + t) k) (B := 237600) (fun t => fitN_le HP HW _ _) (la + 1 - fi); have h2 : (la + 1 - fi) * 237600 ≤ 40 * 237600 := Nat.mul_le_mul_right _ (by omega); exact Nat.le_trans h1 h2
    refine kx_iconst (v := nI 0) C dX0_whole_25 (by decide +kernel) ?_
    refine kx_istore_n (lv2 := [(3, .int (nI (0))), (0, .ref (K 0)), (1, .int (nI (fi))), (2, .int (nI (la)))]) C dX0_whole_26 rfl (by decide) rfl ?_
    refine kx_aload_n C dX0_whole_27 rfl 1 rfl ?_
    refine kx_iload_n C dX0_whole_28 rfl 2 rfl ?_
    refine kx_iload_n C dX0_whole_29 rfl 3 rfl ?_
    refine kx_iconst (v := nI 0) C dX0_whole_30 (by decide +kernel) ?_
    refine kx_callVi (rest := []) (wr := []) C (c_fitTogether E K b y o n ls bc tk hk P Wt Tu Sc Ta Wa He Fk Pk fi la 0 HFL ela9 (by omega)) g0_137 3 rfl (by decide +kernel) ⟨Nat.le_of_ble_eq_true rfl, Nat.le_of_ble_eq_true rfl⟩ ⟨Nat.le_of_ble_eq_true rfl, Nat.le_of_ble_eq_true rfl⟩ [0, 1, 2, 3, 4, 5, 6, 7, 8, 9] [] rfl rfl (by decide) (by decide) (by decide) 0 rfl rfl rfl (Nat.le_of_ble_eq_true rfl) dX0_whole_31 (fun v w q4 => ?_)
    obtain ⟨rfl, rfl⟩ := q4
    refine kx_eqw (ws2 := (kwW E K b y o n ls bc tk hk P Wt Tu Sc Ta Wa He Fk Pk)) rfl ?_
    refine kx_istore (lv2 := [(4, .int (nI (sumN (fun t => fitN P Wt (fi + t) 0) (la + 1 - fi)))), (3, .int (nI (0))), (0, .ref (K 0)), (1, .int (nI (fi))), (2, .int (nI (la)))]) C dX0_whole_34 (by decide) rfl ?_
    have lp39 : ∀ (N_lp39 : Nat) (j : Nat), (j ≤ 23) → (23 < j + N_lp39) → kx E (rk 10 1) G 7 0 0 (kwW E K b y o n ls bc tk hk P Wt Tu Sc Ta Wa He Fk Pk) [(0, .ref (K 0)), (1, .int (nI (fi))), (2, .int (nI (la))), (3, .int (nI ((whN (fun k => sumN (fun t => fitN P Wt (fi + t) k) (la + 1 - fi)) j).1))), (4, .int (nI ((whN (fun k => sumN (fun t => fitN P Wt (fi + t) k) (la + 1 - fi)) j).2))), (5, .int (nI (j + 1)))] 39 [] := by
      intro N_lp39
      induction N_lp39 with
      | zero =>
        intro j h0_lp39 hm_lp39
        exact absurd hm_lp39 (by omega)
      | succ N_lp39 ih_lp39 =>
        intro j h0_lp39 hm_lp39
        refine kx_iload C dX0_whole_39 5 rfl ?_
        refine kx_bipush (v := nI 24) C dX0_whole_41 (by decide +kernel) ?_
        refine kx_icmp_ge (tgt := 76) C (by omega) (by omega) dX0_whole_43 (by decide) (fun c5 => ?_) (fun c5 => ?_)
        · skip
          obtain rfl : 23 = j := by omega
          refine kx_iload_n C dX0_whole_76 rfl 3 rfl ?_
          exact hE (Nat.le_of_ble_eq_true rfl) (Nat.le_of_ble_eq_true rfl) dX0_whole_77 ⟨fi, la, rfl, rfl, HFL, ela, rfl, rfl⟩
        · skip
          refine kx_aload_n C dX0_whole_46 rfl 0 rfl ?_
          refine kx_iload_n C dX0_whole_47 rfl 1 rfl ?_
          refine kx_iload_n C dX0_whole_48 rfl 2 rfl ?_
          refine kx_iload C dX0_whole_49 5 rfl ?_
          refine kx_callVi (rest := []) (wr := []) C (c_fitTogether E K b y o n ls bc tk hk P Wt Tu Sc Ta Wa He Fk Pk fi la (j + 1) HFL ela9 (by omega)) g0_137 3 rfl (by decide +kernel) ⟨Nat.le_of_ble_eq_true rfl, Nat.le_of_ble_eq_true rfl⟩ ⟨Nat.le_of_ble_eq_true rfl, Nat.le_of_ble_eq_true rfl⟩ [0, 1, 2, 3, 4, 5, 6, 7, 8, 9] [] rfl rfl (by decide) (by decide) (by decide) 0 rfl rfl rfl (Nat.le_of_ble_eq_true rfl) dX0_whole_51 (fun v w q6 => ?_)
          obtain ⟨rfl, rfl⟩ := q6
          refine kx_eqw (ws2 := (kwW E K b y o n ls bc tk hk P Wt Tu Sc Ta Wa He Fk Pk)) rfl ?_
          refine kx_istore (lv2 := [(6, .int (nI (sumN (fun t => fitN P Wt (fi + t) (j + 1)) (la + 1 - fi)))), (0, .ref (K 0)), (1, .int (nI (fi))), (2, .int (nI (la))), (3, .int (nI ((whN (fun k => sumN (fun t => fitN P Wt (fi + t) k) (la + 1 - fi)) j).1))), (4, .int (nI ((whN (fun k => sumN (fun t => fitN P Wt (fi + t) k) (la + 1 - fi)) j).2))), (5, .int (nI (j + 1)))]) C dX0_whole_54 (by decide) rfl ?_
          refine kx_iload C dX0_whole_56 0 rfl ?_
          refine kx_iload C dX0_whole_58 5 rfl ?_
          refine kx_icmp_le (tgt := 70) C (Nat.lt_of_le_of_lt (hFb (j + 1)) (by decide)) (Nat.lt_of_le_of_lt (whN_le hFb j) (by decide)) dX0_whole_60 (by decide) (fun c7 => ?_) (fun c7 => ?_)
          · skip
            refine kx_iinc (v := nI (j + 1 + 1)) (lv2 := [(5, .int (nI (j + 1 + 1))), (6, .int (nI (sumN (fun t => fitN P Wt (fi + t) (j + 1)) (la + 1 - fi)))), (0, .ref (K 0)), (1, .int (nI (fi))), (2, .int (nI (la))), (3, .int (nI ((whN (fun k => sumN (fun t => fitN P Wt (fi + t) k) (la + 1 - fi)) j).1))), (4, .int (nI ((whN (fun k => sumN (fun t => fitN P Wt (fi + t) k) (la + 1 - fi)) j).2)))]) C dX0_whole_70 6 rfl (kI1 _) (by decide) rfl ?_
            refine kx_goto (tgt := 39) C dX0_whole_73 (by decide) ?_
            have e9 : whN (fun k => sumN (fun t => fitN P Wt (fi + t) k) (la + 1 - fi)) (j + 1) = whN (fun k => sumN (fun t => fitN P Wt (fi + t) k) (la + 1 - fi)) j := by rw [whN, if_neg (Nat.not_lt.mpr c7)]
            refine kx_lvn (a := (whN (fun k => sumN (fun t => fitN P Wt (fi + t) k) (la + 1 - fi)) j).1) (b := (whN (fun k => sumN (fun t => fitN P Wt (fi + t) k) (la + 1 - fi)) (j + 1)).1) (lv2 := [(5, .int (nI (j + 1 + 1))), (6, .int (nI (sumN (fun t => fitN P Wt (fi + t) (j + 1)) (la + 1 - fi)))), (0, .ref (K 0)), (1, .int (nI (fi))), (2, .int (nI (la))), (3, .int (nI ((whN (fun k => sumN (fun t => fitN P Wt (fi + t) k) (la + 1 - fi)) (j + 1)).1))), (4, .int (nI ((whN (fun k => sumN (fun t => fitN P Wt (fi + t) k) (la + 1 - fi)) j).2)))]) (by rw [e9]) 5 rfl rfl ?_
            refine kx_lvn (a := (whN (fun k => sumN (fun t => fitN P Wt (fi + t) k) (la + 1 - fi)) j).2) (b := (whN (fun k => sumN (fun t => fitN P Wt (fi + t) k) (la + 1 - fi)) (j + 1)).2) (lv2 := [(5, .int (nI (j + 1 + 1))), (6, .int (nI (sumN (fun t => fitN P Wt (fi + t) (j + 1)) (la + 1 - fi)))), (0, .ref (K 0)), (1, .int (nI (fi))), (2, .int (nI (la))), (3, .int (nI ((whN (fun k => sumN (fun t => fitN P Wt (fi + t) k) (la + 1 - fi)) (j + 1)).1))), (4, .int (nI ((whN (fun k => sumN (fun t => fitN P Wt (fi + t) k) (la + 1 - fi)) (j + 1)).2)))]) (by rw [e9]) 6 rfl rfl ?_
            refine kx_lv (lv2 := [(0, .ref (K 0)), (1, .int (nI (fi))), (2, .int (nI (la))), (3, .int (nI ((whN (fun k => sumN (fun t => fitN P Wt (fi + t) k) (la + 1 - fi)) (j + 1)).1))), (4, .int (nI ((whN (fun k => sumN (fun t => fitN P Wt (fi + t) k) (la + 1 - fi)) (j + 1)).2))), (5, .int (nI ((j + 1) + 1)))]) [2, 3, 4, 5, 6, 0] rfl ?_
            refine kx_eqw (ws2 := (kwW E K b y o n ls bc tk hk P Wt Tu Sc Ta Wa He Fk Pk)) rfl ?_
            exact ih_lp39 (j + 1) (by omega) (by omega)
          · skip
            refine kx_iload C dX0_whole_63 0 rfl ?_
            refine kx_istore (lv2 := [(4, .int (nI (sumN (fun t => fitN P Wt (fi + t) (j + 1)) (la + 1 - fi)))), (6, .int (nI (sumN (fun t => fitN P Wt (fi + t) (j + 1)) (la + 1 - fi)))), (0, .ref (K 0)), (1, .int (nI (fi))), (2, .int (nI (la))), (3, .int (nI ((whN (fun k => sumN (fun t => fitN P Wt (fi + t) k) (la + 1 - fi)) j).1))), (5, .int (nI (j + 1)))]) C dX0_whole_65 (by decide) rfl ?_
            refine kx_iload C dX0_whole_67 6 rfl ?_
            refine kx_istore_n (lv2 := [(3, .int (nI (j + 1))), (4, .int (nI (sumN (fun t => fitN P Wt (fi + t) (j + 1)) (la + 1 - fi)))), (6, .int (nI (sumN (fun t => fitN P Wt (fi + t) (j + 1)) (la + 1 - fi)))), (0, .ref (K 0)), (1, .int (nI (fi))), (2, .int (nI (la))), (5, .int (nI (j + 1)))]) C dX0_whole_69 rfl (by decide) rfl ?_
            refine kx_iinc (v := nI (j + 1 + 1)) (lv2 := [(5, .int (nI (j + 1 + 1))), (3, .int (nI (j + 1))), (4, .int (nI (sumN (fun t => fitN P Wt (fi + t) (j + 1)) (la + 1 - fi)))), (6, .int (nI (sumN (fun t => fitN P Wt (fi + t) (j + 1)) (la + 1 - fi)))), (0, .ref (K 0)), (1, .int (nI (fi))), (2, .int (nI (la)))]) C dX0_whole_70 6 rfl (kI1 _) (by decide) rfl ?_
            refine kx_goto (tgt := 39) C dX0_whole_73 (by decide) ?_
            have e9 : whN (fun k => sumN (fun t => fitN P Wt (fi + t) k) (la + 1 - fi)) (j + 1) = (j + 1, (fun k => sumN (fun t => fitN P Wt (fi + t) k) (la + 1 - fi)) (j + 1)) := by rw [whN, if_pos c7]
            refine kx_lvn (a := j + 1) (b := (whN (fun k => sumN (fun t => fitN P Wt (fi + t) k) (la + 1 - fi)) (j + 1)).1) (lv2 := [(5, .int (nI (j + 1 + 1))), (3, .int (nI ((whN (fun k => sumN (fun t => fitN P Wt (fi + t) k) (la + 1 - fi)) (j + 1)).1))), (4, .int (nI (sumN (fun t => fitN P Wt (fi + t) (j + 1)) (la + 1 - fi)))), (6, .int (nI (sumN (fun t => fitN P Wt (fi + t) (j + 1)) (la + 1 - fi)))), (0, .ref (K 0)), (1, .int (nI (fi))), (2, .int (nI (la)))]) (by rw [e9]) 1 rfl rfl ?_
            refine kx_lvn (a := sumN (fun t => fitN P Wt (fi + t) (j + 1)) (la + 1 - fi)) (b := (whN (fun k => sumN (fun t => fitN P Wt (fi + t) k) (la + 1 - fi)) (j + 1)).2) (lv2 := [(5, .int (nI (j + 1 + 1))), (3, .int (nI ((whN (fun k => sumN (fun t => fitN P Wt (fi + t) k) (la + 1 - fi)) (j + 1)).1))), (4, .int (nI ((whN (fun k => sumN (fun t => fitN P Wt (fi + t) k) (la + 1 - fi)) (j + 1)).2))), (6, .int (nI (sumN (fun t => fitN P Wt (fi + t) (j + 1)) (la + 1 - fi)))), (0, .ref (K 0)), (1, .int (nI (fi))), (2, .int (nI (la)))]) (by rw [e9]) 2 rfl rfl ?_
            refine kx_lv (lv2 := [(0, .ref (K 0)), (1, .int (nI (fi))), (2, .int (nI (la))), (3, .int (nI ((whN (fun k => sumN (fun t => fitN P Wt (fi + t) k) (la + 1 - fi)) (j + 1)).1))), (4, .int (nI ((whN (fun k => sumN (fun t => fitN P Wt (fi + t) k) (la + 1 - fi)) (j + 1)).2))), (5, .int (nI ((j + 1) + 1)))]) [4, 5, 6, 1, 2, 0] rfl ?_
            refine kx_eqw (ws2 := (kwW E K b y o n ls bc tk hk P Wt Tu Sc Ta Wa He Fk Pk)) rfl ?_
            exact ih_lp39 (j + 1) (by omega) (by omega)
    refine kx_iconst (v := nI 1) C dX0_whole_36 (by decide +kernel) ?_
    refine kx_istore (lv2 := [(5, .int (nI (1))), (4, .int (nI (sumN (fun t => fitN P Wt (fi + t) 0) (la + 1 - fi)))), (3, .int (nI (0))), (0, .ref (K 0)), (1, .int (nI (fi))), (2, .int (nI (la)))]) C dX0_whole_37 (by decide) rfl ?_
    refine kx_lv (lv2 := [(0, .ref (K 0)), (1, .int (nI (fi))), (2, .int (nI (la))), (3, .int (nI ((whN (fun k => sumN (fun t => fitN P Wt (fi + t) k) (la + 1 - fi)) 0).1))), (4, .int (nI ((whN (fun k => sumN (fun t => fitN P Wt (fi + t) k) (la + 1 - fi)) 0).2))), (5, .int (nI (0 + 1)))]) [3, 4, 5, 2, 1, 0] rfl ?_
    refine kx_eqw (ws2 := (kwW E K b y o n ls bc tk hk P Wt Tu Sc Ta Wa He Fk Pk)) rfl ?_
    exact lp39 24 0 (by omega) (by omega)
  · skip
    exact hT (kthr_whole_15 E HX) (Nat.le_of_ble_eq_true rfl) (Nat.le_of_ble_eq_true rfl) ⟨rfl, (fun z => kNW3 H1 efi ela c3 z), rfl⟩
end
section
/-! the table of first profiles: reading its static, copying it -/
def kFPat (G : KG) (t : Nat) : Prop :=
  match G with
  | (_, _, s, _, _, _, _, _, A, _) => va_T .int t 24 (fun j => .int (nI (kFP j))) A s s.heap
theorem nF_cpy (f P : Nat → Nat) (n : Nat) : va_cpy (fun j => nI (f j)) (nF P) 0 0 n = nF (va_cpy f P 0 0 n) := by
  funext j
  by_cases h : 0 ≤ j ∧ j < 0 + n
  · simp only [va_cpy, nF, if_pos h]
  · simp only [va_cpy, nF, if_neg h]
section KFP
variable {E : KE} {R : Room} {G : KG} {cc : ByteArray} {nL : Nat} {own : String} {cells slots : Nat} {ws : va_W} {lv : List (Nat × Value)} {pc : Nat} {st : List Value}
theorem kx_getFP (C : kc E G cc nL own) {index : Nat} (hlink : Cond.fieldLink own index "KeyWalks" "FIRST_PROFILES" "[I" ∈ kTb) (hd : decode cc pc = .ok (.getstatic index, 3)) (kk : ∀ t : Nat, kFPat G t → kx E R G nL cells slots ws lv (pc + 3) (.ref t :: st)) : kx E R G nL cells slots ws lv pc st := by
  obtain ⟨p, e, s, m, args, below, meth, c, A, Q⟩ := G
  obtain ⟨hx, hb, hml, hown, hts, hK, hA, hN, ham, hNs, hlk⟩ := C
  obtain ⟨⟨t, h1, h2⟩, -⟩ := ham
  intro H locs ls hP hD hS hl
  exact va_gets hx hb (h1.narrow hN) hS hown (hts _ hlink) (fun _ h => h) hd (kk t (h2.narrow hN) H locs ls hP hD hS hl)
theorem kx_copyFP (C : kc E G cc nL own) {t index : Nat} (ht : kFPat G t) (w1 : Cond.methodLink own index arraycopyName ∈ kTb) (w2 : Cond.native arraycopyName ∈ kTb) (w3 : Cond.static arraycopyName ∈ kTb) (w4 : Cond.initialized "java/lang/System" ∈ kTb) (q1 : Nat) {a n : Nat} {P : Nat → Nat} (hw : ws[q1]? = some (a, .inl (kI E, n, .inl (nF P)))) (hn : 24 ≤ n) (hfr : 1 ≤ R.frames) (hlo : (st.map fun v => v.category).sum + (nativeFrameWords "java/lang/System" "arraycopy" 5 + 11) ≤ R.locals) {ws2 : va_W} (h2 : ws.set q1 (a, .inl (kI E, n, .inl (nF (va_cpy kFP P 0 0 24)))) = ws2) (hd : decode cc pc = .ok (.invokestatic index, 3)) (kk : kx E R G nL cells slots ws2 lv (pc + 3) st) : kx E R G nL cells slots ws lv pc (.int (nI 24) :: .int (nI 0) :: .ref a :: .int (nI 0) :: .ref t :: st) := by
  obtain ⟨p, e, s, m, args, below, meth, c, A, Q⟩ := G
  obtain ⟨hx, hb, hml, hown, hts, hK, hA, hN, ham, hNs, hlk⟩ := C
  obtain ⟨cell, t1, ⟨hso, ks, hks, cm0, hkk0⟩, t3, t4, t5, t6, t7⟩ := ht
  intro H locs ls hP hD hS hl
  have z0 : (nI 0).toNatClampNeg = 0 := by decide +kernel
  have z24 : (nI 24).toNatClampNeg = 24 := by decide +kernel
  have i0 : (nI 0).toInt = 0 := by decide +kernel
  have i24 : (nI 24).toInt = 24 := by decide +kernel
  have hct : H[t]? = some cell := by rw [hS.2.1 t (Array.getElem?_eq_some_iff.mp t1).1 t7]; exact t1
  have hc1 : H[a]? = some (vp_cell (kI E) (n, .inl (nF P))) := hP q1 _ hw
  obtain ⟨-, k1, hk1, cm1, hkk1⟩ := (hK.2 0 _ rfl).1 n (fun j => .int (nF P j))
  intro T hT X
  obtain ⟨vm', X', step⟩ := X.arraycopy hx hown (hts _ w1) (hts _ w2) (hts _ w3) (hts _ w4) (src := t) (dst := a) (cs := cell) (cd := vp_cell (kI E) (n, .inl (nF P))) (srcPos := nI 0) (destPos := nI 0) (n := nI 24) (by rw [hT]; exact hct) (by rw [hT]; exact hc1)
    hso (fun _ h => by cases h) t3 (fun h => by cases h) hks hk1 hkk0 hkk1 (by rfl) (by decide +kernel) (by decide +kernel) (by decide +kernel)
    (by rw [i0, i24]; omega)
    (by rw [i0, i24]; show ¬ _ > ((arrV (kI E) n (fun j => .int (nF P j))).slots.size : Int); rw [arrV_size]; omega)
    (fun vm₁ _ i hi => by
      rw [z24] at hi
      have e9 : cell.slots.getD ((nI 0).toNatClampNeg + i) .null = .int (nI (kFP i)) := by
        rw [z0, Nat.zero_add, Array.getD_eq_getD_getElem?, t6 i hi]
        rfl
      rw [e9]
      exact ⟨rfl, trivial⟩)
    (g := F0 m pc ls (.int (nI 24) :: .int (nI 0) :: .ref a :: .int (nI 0) :: .ref t :: st)) rfl (by show ls.size = _; rw [hl.1, hml]) (rest := st) rfl (by rw [hb]; exact hd) hfr (by show 2 * 0 + _ + _ ≤ _; omega)
  have e1 : copied cell (vp_cell (kI E) (n, .inl (nF P))) (nI 0) (nI 0) (nI 24) = vp_cell (kI E) (n, .inl (nF (va_cpy kFP P 0 0 24))) := by
    have e2 := va_copiedX (fun z => Value.int z) cell (kI E) (n0 := 24) (n1 := n) (sp := 0) (dp := 0) (n := 24) (fun j => nI (kFP j)) (nF P) (fun j hj => t6 j hj) (by decide)
    rw [nF_cpy] at e2
    show (vp_cell (kI E) (n, .inl (nF P))).storeRun (nI 0).toNatClampNeg (cell.stretch (nI 0).toNatClampNeg (nI 24).toNatClampNeg) = _
    rw [z0, z24]
    exact e2
  rw [e1] at X' step
  have hlt : a < H.size := (Array.getElem?_eq_some_iff.mp hc1).1
  have hheap : ((T.setVm vm').setCell a (vp_cell (kI E) (n, .inl (nF (va_cpy kFP P 0 0 24))))).heap = H.setIfInBounds a (vp_cell (kI E) (n, .inl (nF (va_cpy kFP P 0 0 24)))) := by rw [← hT]; rfl
  have oq : ∀ q : Nat, q ≠ a → (H.setIfInBounds a (vp_cell (kI E) (n, .inl (nF (va_cpy kFP P 0 0 24)))))[q]? = H[q]? := fun q hq => by simp [Array.getElem?_setIfInBounds, Ne.symm hq]
  have hP2 := hP.set hD hw (show va_at E.2.1 kCl (a, .inl (kI E, n, .inl (nF (va_cpy kFP P 0 0 24)))) (H.setIfInBounds a (vp_cell (kI E) (n, .inl (nF (va_cpy kFP P 0 0 24))))) from by show (H.setIfInBounds a _)[a]? = some _; simp [Array.getElem?_setIfInBounds, hlt]) oq
  have hD2 := hD.set (e := .inl (kI E, n, .inl (nF (va_cpy kFP P 0 0 24)))) hw
  rw [h2] at hP2 hD2
  obtain ⟨t2, a1, b1⟩ := kk _ _ ls hP2 hD2 ⟨by simp; exact hS.1, fun q g1 g2 => by
      rw [oq q (fun e => g2 (by rw [e]; exact hD.2 q1 _ hw))]
      exact hS.2.1 q g1 g2, fun q hq => by
      rcases List.mem_append.mp hq with h | h
      · exact hS.2.2 q h
      · obtain ⟨z, -, hz⟩ := List.mem_map.mp h
        rw [← hz]
        exact hD.2 q1 _ hw⟩ hl _ hheap X'
  exact ⟨t2, step t2 a1, b1⟩
end KFP
theorem k_acn : Cond.native arraycopyName ∈ kTb := kTb_in (by decide +kernel) rfl
theorem k_acs : Cond.static arraycopyName ∈ kTb := kTb_in (by decide +kernel) rfl
section KSW
variable {E : KE} {R : Room} {G : KG} {cc : ByteArray} {nL : Nat} {own : String} {cells slots : Nat} {ws : va_W} {lv : List (Nat × Value)} {pc : Nat} {st : List Value}
theorem kx_tsIn (C : kc E G cc nL own) {dflt lo hi : Int} {offs : Array Int} {len : Nat} {x : Int32} {off : Int} {tgt : Nat} (hd : decode cc pc = .ok (.tableswitch dflt lo hi offs, len)) (h1 : ¬ x.toInt < lo) (h2 : ¬ hi < x.toInt) (ho : offs[(x.toInt - lo).toNat]? = some off) (ht : (pc : Int) + off = (tgt : Int)) (kk : kx E R G nL cells slots ws lv tgt st) : kx E R G nL cells slots ws lv pc (.int x :: st) := by
  obtain ⟨p, e, s, m, args, below, meth, c, A, Q⟩ := G
  obtain ⟨hx, hb, hml, hown, hts, hK, hA, hN, ham, hNs, hlk⟩ := C
  intro H locs ls hP hD hS hl
  exact lv_tableIn hx hb hd h1 h2 ho ht (kk H locs ls hP hD hS hl)
theorem kx_tsOut (C : kc E G cc nL own) {dflt lo hi : Int} {offs : Array Int} {len : Nat} {x : Int32} {tgt : Nat} (hd : decode cc pc = .ok (.tableswitch dflt lo hi offs, len)) (h : x.toInt < lo ∨ hi < x.toInt) (ht : (pc : Int) + dflt = (tgt : Int)) (kk : kx E R G nL cells slots ws lv tgt st) : kx E R G nL cells slots ws lv pc (.int x :: st) := by
  obtain ⟨p, e, s, m, args, below, meth, c, A, Q⟩ := G
  obtain ⟨hx, hb, hml, hown, hts, hK, hA, hN, ham, hNs, hlk⟩ := C
  intro H locs ls hP hD hS hl
  exact lv_tableOut hx hb hd h ht (kk H locs ls hP hD hS hl)
end KSW
end
section
theorem kFP_le (j : Nat) : kFP j ≤ 99 := by
  by_cases h : j < 24
  · have h2 : ∀ j, j < 24 → kFP j ≤ 99 := by decide +kernel
    exact h2 j h
  · have : kFP j = 0 := by
      unfold kFP
      rw [List.getD_eq_getElem?_getD, List.getElem?_eq_none (by show 24 ≤ j; omega)]
      rfl
    omega
theorem cpy_le {P : Nat → Nat} (hP : ∀ j, P j ≤ 99) : ∀ j, va_cpy kFP P 0 0 24 j ≤ 99 := fun j => by
  unfold va_cpy
  split
  · exact kFP_le _
  · exact hP j

set_option maxHeartbeats 4000000 in
set_option maxRecDepth 100000 in
theorem c_setFirst (E : KE) (K : Nat → Nat) (b y o n ls bc tk hk : Nat) (P Wt Tu Sc Ta Wa He Fk Pk : Nat → Nat) : kMv E yX0_setFirst cX0_setFirst 1 (rk 2 0) [.ref (K 0)] (kwW E K b y o n ls bc tk hk P Wt Tu Sc Ta Wa He Fk Pk) (fun w => w = (kwW E K 10 5 2 0 ls bc 0 0 (va_cpy kFP P 0 0 24) Wt Tu Sc Ta Wa He Fk Pk)) := by
  refine kMv_of (cc := cX0_setFirst) (maxL := 1) (by decide) (Nat.le_of_ble_eq_true rfl) ?_
  intro G C hE
  refine kx_getFP C fl0_147 dX0_setFirst_0 (fun t ht => ?_)
  refine kx_iconst (v := nI 0) C dX0_setFirst_3 (by decide +kernel) ?_
  refine kx_aload_n C dX0_setFirst_4 rfl 0 rfl ?_
  refine kx_get (v := .ref (K 1)) (ci := 0) C kin0 0 rfl rfl 0 (by decide) fl0_9 rfl rfl dX0_setFirst_5 ?_
  refine kx_iconst (v := nI 0) C dX0_setFirst_8 (by decide +kernel) ?_
  refine kx_bipush (v := nI 24) C dX0_setFirst_9 (by decide +kernel) ?_
  refine kx_copyFP (ws2 := (kwW E K b y o n ls bc tk hk (va_cpy kFP P 0 0 24) Wt Tu Sc Ta Wa He Fk Pk)) C ht m0_150 k_acn k_acs ini_java_lang_System 1 rfl (by decide) (Nat.le_of_ble_eq_true rfl) (Nat.le_of_ble_eq_true rfl) rfl dX0_setFirst_11 ?_
  refine kx_aload_n C dX0_setFirst_14 rfl 0 rfl ?_
  refine kx_bipush (v := nI 10) C dX0_setFirst_15 (by decide +kernel) ?_
  refine kx_put (ws2 := (kwW E K 10 y o n ls bc tk hk (va_cpy kFP P 0 0 24) Wt Tu Sc Ta Wa He Fk Pk)) (ci := 0) C kin0 tyX0_ok nmX0 0 rfl rfl 2 (by decide) fl0_52 rfl rfl rfl rfl (Nat.le_of_ble_eq_true rfl) rfl dX0_setFirst_17 ?_
  refine kx_aload_n C dX0_setFirst_20 rfl 0 rfl ?_
  refine kx_iconst (v := nI 5) C dX0_setFirst_21 (by decide +kernel) ?_
  refine kx_put (ws2 := (kwW E K 10 5 o n ls bc tk hk (va_cpy kFP P 0 0 24) Wt Tu Sc Ta Wa He Fk Pk)) (ci := 0) C kin0 tyX0_ok nmX0 0 rfl rfl 3 (by decide) fl0_55 rfl rfl rfl rfl (Nat.le_of_ble_eq_true rfl) rfl dX0_setFirst_22 ?_
  refine kx_aload_n C dX0_setFirst_25 rfl 0 rfl ?_
  refine kx_iconst (v := nI 2) C dX0_setFirst_26 (by decide +kernel) ?_
  refine kx_put (ws2 := (kwW E K 10 5 2 n ls bc tk hk (va_cpy kFP P 0 0 24) Wt Tu Sc Ta Wa He Fk Pk)) (ci := 0) C kin0 tyX0_ok nmX0 0 rfl rfl 4 (by decide) fl0_58 rfl rfl rfl rfl (Nat.le_of_ble_eq_true rfl) rfl dX0_setFirst_27 ?_
  refine kx_aload_n C dX0_setFirst_30 rfl 0 rfl ?_
  refine kx_iconst (v := nI 0) C dX0_setFirst_31 (by decide +kernel) ?_
  refine kx_put (ws2 := (kwW E K 10 5 2 0 ls bc tk hk (va_cpy kFP P 0 0 24) Wt Tu Sc Ta Wa He Fk Pk)) (ci := 0) C kin0 tyX0_ok nmX0 0 rfl rfl 5 (by decide) fl0_41 rfl rfl rfl rfl (Nat.le_of_ble_eq_true rfl) rfl dX0_setFirst_32 ?_
  refine kx_aload_n C dX0_setFirst_35 rfl 0 rfl ?_
  refine kx_callVv (rest := []) (wr := []) C (c_forget E K 10 5 2 0 ls bc tk hk (va_cpy kFP P 0 0 24) Wt Tu Sc Ta Wa He Fk Pk) g0_49 0 rfl (by decide +kernel) ⟨Nat.le_of_ble_eq_true rfl, Nat.le_of_ble_eq_true rfl⟩ ⟨Nat.le_of_ble_eq_true rfl, Nat.le_of_ble_eq_true rfl⟩ [0, 1, 2, 3, 4, 5, 6, 7, 8, 9] [] rfl rfl (by decide) (by decide) (by decide) 0 rfl rfl rfl (Nat.le_of_ble_eq_true rfl) dX0_setFirst_36 (fun w q1 => ?_)
  obtain rfl := q1
  refine kx_eqw (ws2 := (kwW E K 10 5 2 0 ls bc 0 0 (va_cpy kFP P 0 0 24) Wt Tu Sc Ta Wa He Fk Pk)) rfl ?_
  exact hE (Nat.le_of_ble_eq_true rfl) (Nat.le_of_ble_eq_true rfl) dX0_setFirst_39 rfl

set_option maxHeartbeats 4000000 in
set_option maxRecDepth 100000 in
theorem c_clear (E : KE) (K : Nat → Nat) (b y o n ls bc tk hk : Nat) (P Wt Tu Sc Ta Wa He Fk Pk : Nat → Nat) (HO : kOk b y o n ls bc tk hk P Wt Tu Sc Ta Wa He Fk Pk) : kMi E yX0_clear cX0_clear 2 (rk 10 0) [.ref (K 0)] (kwW E K b y o n ls bc tk hk P Wt Tu Sc Ta Wa He Fk Pk) (fun r w => r = nI n ∧ kOk 10 5 2 0 ls bc 0 0 (va_cpy kFP P 0 0 24) Wt Tu Sc Ta Wa He Fk Pk ∧ w = (kwW E K 10 5 2 0 ls bc 0 0 (va_cpy kFP P 0 0 24) Wt Tu Sc Ta Wa He Fk Pk)) := by
  refine kMi_of (cc := cX0_clear) (maxL := 2) (by decide) (Nat.le_of_ble_eq_true rfl) ?_
  intro G C hE
  obtain ⟨H1, HP, HW, Hb, Hy, Ho, Htk, Hhk, Hls, HTa, HWa, HHe, HFk, HPk, HK, HH⟩ := id HO
  refine kx_aload_n C dX0_clear_0 rfl 0 rfl ?_
  refine kx_get (v := .int (nI (n))) (ci := 0) C kin0 0 rfl rfl 5 (by decide) fl0_41 rfl rfl dX0_clear_1 ?_
  refine kx_istore_n (lv2 := [(1, .int (nI (n))), (0, .ref (K 0))]) C dX0_clear_4 rfl (by decide) rfl ?_
  refine kx_aload_n C dX0_clear_5 rfl 1 rfl ?_
  refine kx_callVv (rest := []) (wr := []) C (c_setFirst E K b y o n ls bc tk hk P Wt Tu Sc Ta Wa He Fk Pk) g0_38 0 rfl (by decide +kernel) ⟨Nat.le_of_ble_eq_true rfl, Nat.le_of_ble_eq_true rfl⟩ ⟨Nat.le_of_ble_eq_true rfl, Nat.le_of_ble_eq_true rfl⟩ [0, 1, 2, 3, 4, 5, 6, 7, 8, 9] [] rfl rfl (by decide) (by decide) (by decide) 0 rfl rfl rfl (Nat.le_of_ble_eq_true rfl) dX0_clear_6 (fun w q1 => ?_)
  obtain rfl := q1
  refine kx_eqw (ws2 := (kwW E K 10 5 2 0 ls bc 0 0 (va_cpy kFP P 0 0 24) Wt Tu Sc Ta Wa He Fk Pk)) rfl ?_
  refine kx_iload_n C dX0_clear_9 rfl 0 rfl ?_
  exact hE (Nat.le_of_ble_eq_true rfl) (Nat.le_of_ble_eq_true rfl) dX0_clear_10 ⟨rfl, ⟨Nat.zero_le _, cpy_le HP, HW, (by decide), (by decide), (by decide), Nat.zero_le _, Nat.zero_le _, Hls, HTa, HWa, HHe, HFk, HPk, fun z => absurd rfl z, fun z => absurd rfl z⟩, rfl⟩

theorem kOut4 {x : Int32} (h : ¬ ∃ j, j ≤ 4 ∧ x = nI j) : x.toInt < 0 ∨ 4 < x.toInt := by
  rcases Int.lt_or_le x.toInt 0 with z | z
  · exact Or.inl z
  · rcases Int.lt_or_le 4 x.toInt with z2 | z2
    · exact Or.inr z2
    · have hn : ¬ x < 0 := fun q => by
        have := Int32.lt_iff_toInt_lt.mp q
        have e0 : (0 : Int32).toInt = 0 := by decide +kernel
        omega
      obtain ⟨j, hj, rfl⟩ := nI_of (x := x) hn
      rw [nI_toInt hj] at z2
      exact absurd ⟨j, by omega, rfl⟩ h

theorem kthr_of_61 (E : KE) (h : E.1.stackTraces = false) : kThr E (rk 10 1) cX0_of yX0_of.cls kEx_102 kTx_145 kNm_102 102 145 106 61 [] := ⟨h, by decide +kernel, by decide +kernel, kcl0_102, kini_102, by decide +kernel, kat_102_106, kot_102_106, dX0_of_61, dX0_of_64, dX0_of_65, dX0_of_67, dX0_of_70, Nat.le_of_ble_eq_true rfl, Nat.le_of_ble_eq_true rfl, rfl⟩
set_option maxHeartbeats 4000000 in
set_option maxRecDepth 100000 in
theorem c_of (E : KE) (K : Nat → Nat) (b y o n ls bc tk hk : Nat) (P Wt Tu Sc Ta Wa He Fk Pk : Nat → Nat) (x0 : Int32) (HX : E.1.stackTraces = false) (HO : kOk b y o n ls bc tk hk P Wt Tu Sc Ta Wa He Fk Pk) : kTi E yX0_of cX0_of 2 (rk 10 1) [.ref (K 0), .int (x0)] (kwW E K b y o n ls bc tk hk P Wt Tu Sc Ta Wa He Fk Pk) (fun r w => (((x0 = nI 0 ∧ r = nI n) ∨ (x0 = nI 1 ∧ r = nI b) ∨ (x0 = nI 2 ∧ r = nI y) ∨ (x0 = nI 3 ∧ r = nI o)) ∧ w = (kwW E K b y o n ls bc tk hk P Wt Tu Sc Ta Wa He Fk Pk)) ∨ (x0 = nI 4 ∧ ∃ (ls2 bc2 : Nat) (Tv Sv Av Vv Fv : Nat → Nat), r = nI (chN Fv n) ∧ kOk b y o n ls2 bc2 1 hk P Wt Tv Sv Av Vv He Fv Pk ∧ w = (kwW E K b y o n ls2 bc2 1 hk P Wt Tv Sv Av Vv He Fv Pk))) (fun n9 w => n9 = "java/lang/IllegalArgumentException" ∧ ¬ (∃ j, j ≤ 4 ∧ x0 = nI j) ∧ w = (kwW E K b y o n ls bc tk hk P Wt Tu Sc Ta Wa He Fk Pk)) := by
  refine kTi_of (cc := cX0_of) (maxL := 2) (by decide) (Nat.le_of_ble_eq_true rfl) ?_
  intro G C hE hX hT
  obtain ⟨H1, HP, HW, Hb, Hy, Ho, Htk, Hhk, Hls, HTa, HWa, HHe, HFk, HPk, HK, HH⟩ := id HO
  refine kx_iload_n C dX0_of_0 rfl 1 rfl ?_
  by_cases h0 : x0 = nI 0
  · subst h0
    refine kx_tsIn (off := 35) (tgt := 36) C dX0_of_1 (by decide +kernel) (by decide +kernel) (by decide +kernel) (by decide) ?_
    refine kx_aload_n C dX0_of_36 rfl 0 rfl ?_
    refine kx_get (v := .int (nI (n))) (ci := 0) C kin0 0 rfl rfl 5 (by decide) fl0_41 rfl rfl dX0_of_37 ?_
    exact hE (Nat.le_of_ble_eq_true rfl) (Nat.le_of_ble_eq_true rfl) dX0_of_40 (Or.inl ⟨Or.inl ⟨rfl, rfl⟩, rfl⟩)
  by_cases h1 : x0 = nI 1
  · subst h1
    refine kx_tsIn (off := 40) (tgt := 41) C dX0_of_1 (by decide +kernel) (by decide +kernel) (by decide +kernel) (by decide) ?_
    refine kx_aload_n C dX0_of_41 rfl 0 rfl ?_
    refine kx_get (v := .int (nI (b))) (ci := 0) C kin0 0 rfl rfl 2 (by decide) fl0_52 rfl rfl dX0_of_42 ?_
    exact hE (Nat.le_of_ble_eq_true rfl) (Nat.le_of_ble_eq_true rfl) dX0_of_45 (Or.inl ⟨Or.inr (Or.inl ⟨rfl, rfl⟩), rfl⟩)
  by_cases h2 : x0 = nI 2
  · subst h2
    refine kx_tsIn (off := 45) (tgt := 46) C dX0_of_1 (by decide +kernel) (by decide +kernel) (by decide +kernel) (by decide) ?_
    refine kx_aload_n C dX0_of_46 rfl 0 rfl ?_
    refine kx_get (v := .int (nI (y))) (ci := 0) C kin0 0 rfl rfl 3 (by decide) fl0_55 rfl rfl dX0_of_47 ?_
    exact hE (Nat.le_of_ble_eq_true rfl) (Nat.le_of_ble_eq_true rfl) dX0_of_50 (Or.inl ⟨Or.inr (Or.inr (Or.inl ⟨rfl, rfl⟩)), rfl⟩)
  by_cases h3 : x0 = nI 3
  · subst h3
    refine kx_tsIn (off := 50) (tgt := 51) C dX0_of_1 (by decide +kernel) (by decide +kernel) (by decide +kernel) (by decide) ?_
    refine kx_aload_n C dX0_of_51 rfl 0 rfl ?_
    refine kx_get (v := .int (nI (o))) (ci := 0) C kin0 0 rfl rfl 4 (by decide) fl0_58 rfl rfl dX0_of_52 ?_
    exact hE (Nat.le_of_ble_eq_true rfl) (Nat.le_of_ble_eq_true rfl) dX0_of_55 (Or.inl ⟨Or.inr (Or.inr (Or.inr ⟨rfl, rfl⟩)), rfl⟩)
  by_cases h4 : x0 = nI 4
  · subst h4
    refine kx_tsIn (off := 55) (tgt := 56) C dX0_of_1 (by decide +kernel) (by decide +kernel) (by decide +kernel) (by decide) ?_
    refine kx_aload_n C dX0_of_56 rfl 0 rfl ?_
    refine kx_callVi (rest := []) (wr := []) C (c_changesOfFirst E K b y o n ls bc tk hk P Wt Tu Sc Ta Wa He Fk Pk HO) g0_141 0 rfl (by decide +kernel) ⟨Nat.le_of_ble_eq_true rfl, Nat.le_of_ble_eq_true rfl⟩ ⟨Nat.le_of_ble_eq_true rfl, Nat.le_of_ble_eq_true rfl⟩ [0, 1, 2, 3, 4, 5, 6, 7, 8, 9] [] rfl rfl (by decide) (by decide) (by decide) 0 rfl rfl rfl (Nat.le_of_ble_eq_true rfl) dX0_of_57 (fun v w q1 => ?_)
    obtain ⟨ls2, bc2, Tv, Sv, Av, Vv, Fv, rfl, HO2, rfl⟩ := q1
    refine kx_eqw (ws2 := (kwW E K b y o n ls2 bc2 1 hk P Wt Tv Sv Av Vv He Fv Pk)) rfl ?_
    exact hE (Nat.le_of_ble_eq_true rfl) (Nat.le_of_ble_eq_true rfl) dX0_of_60 (Or.inr ⟨rfl, ls2, bc2, Tv, Sv, Av, Vv, Fv, rfl, HO2, rfl⟩)
  have hx9 : ¬ ∃ j, j ≤ 4 ∧ x0 = nI j := by
    rintro ⟨j, hj, e⟩
    rcases (show j = 0 ∨ j = 1 ∨ j = 2 ∨ j = 3 ∨ j = 4 by omega) with rfl | rfl | rfl | rfl | rfl
    · exact h0 e
    · exact h1 e
    · exact h2 e
    · exact h3 e
    · exact h4 e
  refine kx_tsOut (tgt := 61) C dX0_of_1 (kOut4 hx9) (by decide) ?_
  exact hT (kthr_of_61 E HX) (Nat.le_of_ble_eq_true rfl) (Nat.le_of_ble_eq_true rfl) ⟨rfl, (fun z => hx9 z), rfl⟩
end
section
section KR6
variable {E : KE} {R : Room} {G : KG} {cc : ByteArray} {nL : Nat} {own : String} {cells slots : Nat} {ws : va_W} {lv : List (Nat × Value)} {pc : Nat} {st : List Value}
theorem kx_lcmp_gtR (C : kc E G cc nL own) {x y : Int64} {off : Int} {tgt : Nat} (hd : decode cc pc = .ok (.lcmp, 1)) (hd2 : decode cc (pc + 1) = .ok (.ifCond .gt off, 3)) (ht : ((pc + 1 : Nat) : Int) + off = (tgt : Int)) (kt : y < x → kx E R G nL cells slots ws lv (tgt) (st)) (kf : ¬ y < x → kx E R G nL cells slots ws lv (pc + 1 + 3) (st)) : kx E R G nL cells slots ws lv (pc) (.long y :: .long x :: st) := by
  obtain ⟨p, e, s, m, args, below, meth, c, A, Q⟩ := G
  obtain ⟨hx, hb, hml, hown, hts, hK, hA, hN, ham, hNs, hlk⟩ := C
  intro H locs ls hP hD hS hl
  refine W.lcmp hx hb hd ?_
  exact lv_if_gt hx hb hd2 ht (fun h => kt ((lg_cmp_gt x y).mp h) H locs ls hP hD hS hl) (fun h => kf (fun z => h ((lg_cmp_gt x y).mpr z)) H locs ls hP hD hS hl)
theorem kx_lcmp_gt (C : kc E G cc nL own) {a b : Nat} {off : Int} {tgt : Nat} (ha : a < 2 ^ 63) (hb2 : b < 2 ^ 63) (hd : decode cc pc = .ok (.lcmp, 1)) (hd2 : decode cc (pc + 1) = .ok (.ifCond .gt off, 3)) (ht : ((pc + 1 : Nat) : Int) + off = (tgt : Int)) (kt : b < a → kx E R G nL cells slots ws lv (tgt) (st)) (kf : a ≤ b → kx E R G nL cells slots ws lv (pc + 1 + 3) (st)) : kx E R G nL cells slots ws lv (pc) (.long (lN b) :: .long (lN a) :: st) := by
  obtain ⟨p, e, s, m, args, below, meth, c, A, Q⟩ := G
  obtain ⟨hx, hb, hml, hown, hts, hK, hA, hN, ham, hNs, hlk⟩ := C
  intro H locs ls hP hD hS hl
  refine W.lcmp hx hb hd ?_
  exact lv_if_gt hx hb hd2 ht (fun h => kt ((pk_lLT hb2 ha).mp ((lg_cmp_gt _ _).mp h)) H locs ls hP hD hS hl) (fun h => kf (Nat.not_lt.mp fun z => h ((lg_cmp_gt _ _).mpr ((pk_lLT hb2 ha).mpr z))) H locs ls hP hD hS hl)
theorem kx_lcmp_leR (C : kc E G cc nL own) {x y : Int64} {off : Int} {tgt : Nat} (hd : decode cc pc = .ok (.lcmp, 1)) (hd2 : decode cc (pc + 1) = .ok (.ifCond .le off, 3)) (ht : ((pc + 1 : Nat) : Int) + off = (tgt : Int)) (kt : x ≤ y → kx E R G nL cells slots ws lv (tgt) (st)) (kf : ¬ x ≤ y → kx E R G nL cells slots ws lv (pc + 1 + 3) (st)) : kx E R G nL cells slots ws lv (pc) (.long y :: .long x :: st) := by
  obtain ⟨p, e, s, m, args, below, meth, c, A, Q⟩ := G
  obtain ⟨hx, hb, hml, hown, hts, hK, hA, hN, ham, hNs, hlk⟩ := C
  intro H locs ls hP hD hS hl
  refine W.lcmp hx hb hd ?_
  exact lv_if_le hx hb hd2 ht (fun h => kt ((lg_cmp_le x y).mp h) H locs ls hP hD hS hl) (fun h => kf (fun z => h ((lg_cmp_le x y).mpr z)) H locs ls hP hD hS hl)
theorem kx_lcmp_le (C : kc E G cc nL own) {a b : Nat} {off : Int} {tgt : Nat} (ha : a < 2 ^ 63) (hb2 : b < 2 ^ 63) (hd : decode cc pc = .ok (.lcmp, 1)) (hd2 : decode cc (pc + 1) = .ok (.ifCond .le off, 3)) (ht : ((pc + 1 : Nat) : Int) + off = (tgt : Int)) (kt : a ≤ b → kx E R G nL cells slots ws lv (tgt) (st)) (kf : b < a → kx E R G nL cells slots ws lv (pc + 1 + 3) (st)) : kx E R G nL cells slots ws lv (pc) (.long (lN b) :: .long (lN a) :: st) := by
  obtain ⟨p, e, s, m, args, below, meth, c, A, Q⟩ := G
  obtain ⟨hx, hb, hml, hown, hts, hK, hA, hN, ham, hNs, hlk⟩ := C
  intro H locs ls hP hD hS hl
  refine W.lcmp hx hb hd ?_
  exact lv_if_le hx hb hd2 ht (fun h => kt ((pk_lLE ha hb2).mp ((lg_cmp_le _ _).mp h)) H locs ls hP hD hS hl) (fun h => kf (Nat.not_le.mp fun z => h ((lg_cmp_le _ _).mpr ((pk_lLE ha hb2).mpr z))) H locs ls hP hD hS hl)
theorem kx_lcmp_eqR (C : kc E G cc nL own) {x y : Int64} {off : Int} {tgt : Nat} (hd : decode cc pc = .ok (.lcmp, 1)) (hd2 : decode cc (pc + 1) = .ok (.ifCond .eq off, 3)) (ht : ((pc + 1 : Nat) : Int) + off = (tgt : Int)) (kt : x = y → kx E R G nL cells slots ws lv (tgt) (st)) (kf : ¬ x = y → kx E R G nL cells slots ws lv (pc + 1 + 3) (st)) : kx E R G nL cells slots ws lv (pc) (.long y :: .long x :: st) := by
  obtain ⟨p, e, s, m, args, below, meth, c, A, Q⟩ := G
  obtain ⟨hx, hb, hml, hown, hts, hK, hA, hN, ham, hNs, hlk⟩ := C
  intro H locs ls hP hD hS hl
  refine W.lcmp hx hb hd ?_
  exact lv_if_eq hx hb hd2 ht (fun h => kt ((lg_cmp_eq x y).mp h) H locs ls hP hD hS hl) (fun h => kf (fun z => h ((lg_cmp_eq x y).mpr z)) H locs ls hP hD hS hl)
theorem kx_lcmp_eq (C : kc E G cc nL own) {a b : Nat} {off : Int} {tgt : Nat} (ha : a < 2 ^ 63) (hb2 : b < 2 ^ 63) (hd : decode cc pc = .ok (.lcmp, 1)) (hd2 : decode cc (pc + 1) = .ok (.ifCond .eq off, 3)) (ht : ((pc + 1 : Nat) : Int) + off = (tgt : Int)) (kt : a = b → kx E R G nL cells slots ws lv (tgt) (st)) (kf : a ≠ b → kx E R G nL cells slots ws lv (pc + 1 + 3) (st)) : kx E R G nL cells slots ws lv (pc) (.long (lN b) :: .long (lN a) :: st) := by
  obtain ⟨p, e, s, m, args, below, meth, c, A, Q⟩ := G
  obtain ⟨hx, hb, hml, hown, hts, hK, hA, hN, ham, hNs, hlk⟩ := C
  intro H locs ls hP hD hS hl
  refine W.lcmp hx hb hd ?_
  exact lv_if_eq hx hb hd2 ht (fun h => kt ((pk_lEQ ha hb2).mp ((lg_cmp_eq _ _).mp h)) H locs ls hP hD hS hl) (fun h => kf ( fun z => h ((lg_cmp_eq _ _).mpr ((pk_lEQ ha hb2).mpr z))) H locs ls hP hD hS hl)
theorem kx_lcmp_neR (C : kc E G cc nL own) {x y : Int64} {off : Int} {tgt : Nat} (hd : decode cc pc = .ok (.lcmp, 1)) (hd2 : decode cc (pc + 1) = .ok (.ifCond .ne off, 3)) (ht : ((pc + 1 : Nat) : Int) + off = (tgt : Int)) (kt : ¬ x = y → kx E R G nL cells slots ws lv (tgt) (st)) (kf : x = y → kx E R G nL cells slots ws lv (pc + 1 + 3) (st)) : kx E R G nL cells slots ws lv (pc) (.long y :: .long x :: st) := by
  obtain ⟨p, e, s, m, args, below, meth, c, A, Q⟩ := G
  obtain ⟨hx, hb, hml, hown, hts, hK, hA, hN, ham, hNs, hlk⟩ := C
  intro H locs ls hP hD hS hl
  refine W.lcmp hx hb hd ?_
  exact lv_if_ne hx hb hd2 ht (fun h => kt (fun z => h ((lg_cmp_eq x y).mpr z)) H locs ls hP hD hS hl) (fun h => kf ((lg_cmp_eq x y).mp h) H locs ls hP hD hS hl)
theorem kx_ixorR (C : kc E G cc nL own) {x y : Int32} (hd : decode cc pc = .ok (.ixor, 1)) (kk : kx E R G nL cells slots ws lv (pc + 1) (.int (x ^^^ y) :: st)) : kx E R G nL cells slots ws lv (pc) (.int y :: .int x :: st) := by
  obtain ⟨p, e, s, m, args, below, meth, c, A, Q⟩ := G
  obtain ⟨hx, hb, hml, hown, hts, hK, hA, hN, ham, hNs, hlk⟩ := C
  intro H locs ls hP hD hS hl
  exact lv_ixor hx hb hd (kk H locs ls hP hD hS hl)
theorem kx_ishrR (C : kc E G cc nL own) {x y : Int32} (hd : decode cc pc = .ok (.ishr, 1)) (kk : kx E R G nL cells slots ws lv (pc + 1) (.int (x >>> (y &&& 31)) :: st)) : kx E R G nL cells slots ws lv (pc) (.int y :: .int x :: st) := by
  obtain ⟨p, e, s, m, args, below, meth, c, A, Q⟩ := G
  obtain ⟨hx, hb, hml, hown, hts, hK, hA, hN, ham, hNs, hlk⟩ := C
  intro H locs ls hP hD hS hl
  exact lv_ishr hx hb hd (kk H locs ls hP hD hS hl)
theorem kx_lmul (C : kc E G cc nL own) {a b : Nat} (hd : decode cc pc = .ok (.lmul, 1)) (kk : kx E R G nL cells slots ws lv (pc + 1) (.long (lN (a * b)) :: st)) : kx E R G nL cells slots ws lv (pc) (.long (lN b) :: .long (lN a) :: st) := by
  obtain ⟨p, e, s, m, args, below, meth, c, A, Q⟩ := G
  obtain ⟨hx, hb, hml, hown, hts, hK, hA, hN, ham, hNs, hlk⟩ := C
  intro H locs ls hP hD hS hl
  refine lv_lmul hx hb hd ?_
  rw [lN_mul]
  exact (kk H locs ls hP hD hS hl)
theorem kx_ldiv (C : kc E G cc nL own) {a b : Nat} (ha : a < 2 ^ 63) (h0 : 0 < b) (hb2 : b < 2 ^ 63) (hd : decode cc pc = .ok (.ldiv, 1)) (kk : kx E R G nL cells slots ws lv (pc + 1) (.long (lN (a / b)) :: st)) : kx E R G nL cells slots ws lv (pc) (.long (lN b) :: .long (lN a) :: st) := by
  obtain ⟨p, e, s, m, args, below, meth, c, A, Q⟩ := G
  obtain ⟨hx, hb, hml, hown, hts, hK, hA, hN, ham, hNs, hlk⟩ := C
  intro H locs ls hP hD hS hl
  have hz : ¬ lN b = 0 := fun z => by
    have h9 := (pk_lEQ (a := b) (b := 0) hb2 (by decide)).mp z
    omega
  refine lv_ldiv hx hb hd hz ?_
  rw [pk_lDiv ha h0 hb2]
  exact (kk H locs ls hP hD hS hl)
theorem kx_l2i (C : kc E G cc nL own) {a : Nat} (hd : decode cc pc = .ok (.l2i, 1)) (kk : kx E R G nL cells slots ws lv (pc + 1) (.int (nI a) :: st)) : kx E R G nL cells slots ws lv (pc) (.long (lN a) :: st) := by
  obtain ⟨p, e, s, m, args, below, meth, c, A, Q⟩ := G
  obtain ⟨hx, hb, hml, hown, hts, hK, hA, hN, ham, hNs, hlk⟩ := C
  intro H locs ls hP hD hS hl
  exact lv_l2i hx hb hd (lN_i a) (kk H locs ls hP hD hS hl)
end KR6
end
section
/-! the world of an object of KeyWalksModel -/
def kmW (E : KE) (J : Nat → Nat) (cd n b y o : Nat) (Wm Pm Rm Ym Tm Cm Km : Nat → Nat) : va_W :=
  [(J 0, .inr (1, [.int (nI cd), .int (nI n), .ref (J 1), .ref (J 2), .int (nI b), .int (nI y), .int (nI o), .ref (J 3), .ref (J 4), .ref (J 5), .ref (J 6), .ref (J 7)])),
   (J 1, .inl (kI E, 480, .inl (nF Wm))), (J 2, .inl (kI E, 24, .inl (nF Pm))), (J 3, .inl (kI E, 960, .inl (nF Rm))), (J 4, .inl (kL E, 960, .inr (.inl (lF Ym)))), (J 5, .inl (kI E, 576, .inl (nF Tm))), (J 6, .inl (kI E, 960, .inl (nF Cm))), (J 7, .inl (kI E, 40, .inl (nF Km)))]
theorem k_add3 (x y z : Int32) : x - y + z = x + z - y := by grind
theorem kNum {a b c : Nat} (h : b ≤ a + c) : nI a - nI b + nI c = nI (a + c - b) := by
  rw [k_add3, nI_add, pk_sub h]
theorem k_l0 {x : Int32} : x.toInt64 < lN 0 ↔ x < 0 := by
  rw [Int64.lt_iff_toInt_lt, Int32.lt_iff_toInt_lt, Int32.toInt_toInt64]
  rfl
theorem k_lm {x : Int32} {m : Nat} (hm : m < 2 ^ 31) : lN m < x.toInt64 ↔ nI m < x := by
  rw [Int64.lt_iff_toInt_lt, Int32.lt_iff_toInt_lt, Int32.toInt_toInt64, lN_toInt hm, nI_toInt hm]
theorem k_lx {x y : Int32} : y.toInt64 < x.toInt64 ↔ y < x := by
  rw [Int64.lt_iff_toInt_lt, Int32.lt_iff_toInt_lt, Int32.toInt_toInt64, Int32.toInt_toInt64]
theorem k_l1 {x : Int32} {m : Nat} (hm : m < 2 ^ 31) : x.toInt64 < lN m ↔ x < nI m := by
  rw [Int64.lt_iff_toInt_lt, Int32.lt_iff_toInt_lt, Int32.toInt_toInt64, lN_toInt hm, nI_toInt hm]
end
section
theorem dX1_init_0 : decode cX1_init 0 = .ok (.aload_n 0, 1) := by decide +kernel
theorem dX1_init_1 : decode cX1_init 1 = .ok (.invokespecial 1, 3) := by decide +kernel
theorem dX1_init_4 : decode cX1_init 4 = .ok (.aload_n 0, 1) := by decide +kernel
theorem dX1_init_5 : decode cX1_init 5 = .ok (.sipush 480, 3) := by decide +kernel
theorem dX1_init_8 : decode cX1_init 8 = .ok (.newarray .int, 2) := by decide +kernel
theorem dX1_init_10 : decode cX1_init 10 = .ok (.putfield 7, 3) := by decide +kernel
theorem dX1_init_13 : decode cX1_init 13 = .ok (.aload_n 0, 1) := by decide +kernel
theorem dX1_init_14 : decode cX1_init 14 = .ok (.bipush 24, 2) := by decide +kernel
theorem dX1_init_16 : decode cX1_init 16 = .ok (.newarray .int, 2) := by decide +kernel
theorem dX1_init_18 : decode cX1_init 18 = .ok (.putfield 13, 3) := by decide +kernel
theorem dX1_init_21 : decode cX1_init 21 = .ok (.aload_n 0, 1) := by decide +kernel
theorem dX1_init_22 : decode cX1_init 22 = .ok (.sipush 960, 3) := by decide +kernel
theorem dX1_init_25 : decode cX1_init 25 = .ok (.newarray .int, 2) := by decide +kernel
theorem dX1_init_27 : decode cX1_init 27 = .ok (.putfield 16, 3) := by decide +kernel
theorem dX1_init_30 : decode cX1_init 30 = .ok (.aload_n 0, 1) := by decide +kernel
theorem dX1_init_31 : decode cX1_init 31 = .ok (.sipush 960, 3) := by decide +kernel
theorem dX1_init_34 : decode cX1_init 34 = .ok (.newarray .long, 2) := by decide +kernel
theorem dX1_init_36 : decode cX1_init 36 = .ok (.putfield 19, 3) := by decide +kernel
theorem dX1_init_39 : decode cX1_init 39 = .ok (.aload_n 0, 1) := by decide +kernel
theorem dX1_init_40 : decode cX1_init 40 = .ok (.sipush 576, 3) := by decide +kernel
theorem dX1_init_43 : decode cX1_init 43 = .ok (.newarray .int, 2) := by decide +kernel
theorem dX1_init_45 : decode cX1_init 45 = .ok (.putfield 23, 3) := by decide +kernel
theorem dX1_init_48 : decode cX1_init 48 = .ok (.aload_n 0, 1) := by decide +kernel
theorem dX1_init_49 : decode cX1_init 49 = .ok (.sipush 960, 3) := by decide +kernel
theorem dX1_init_52 : decode cX1_init 52 = .ok (.newarray .int, 2) := by decide +kernel
theorem dX1_init_54 : decode cX1_init 54 = .ok (.putfield 26, 3) := by decide +kernel
theorem dX1_init_57 : decode cX1_init 57 = .ok (.aload_n 0, 1) := by decide +kernel
theorem dX1_init_58 : decode cX1_init 58 = .ok (.bipush 40, 2) := by decide +kernel
theorem dX1_init_60 : decode cX1_init 60 = .ok (.newarray .int, 2) := by decide +kernel
theorem dX1_init_62 : decode cX1_init 62 = .ok (.putfield 29, 3) := by decide +kernel
theorem dX1_init_65 : decode cX1_init 65 = .ok (.aload_n 0, 1) := by decide +kernel
theorem dX1_init_66 : decode cX1_init 66 = .ok (.invokevirtual 32, 3) := by decide +kernel
theorem dX1_init_69 : decode cX1_init 69 = .ok (.return_, 1) := by decide +kernel
theorem dX1_thrown_0 : decode cX1_thrown 0 = .ok (.aload_n 0, 1) := by decide +kernel
theorem dX1_thrown_1 : decode cX1_thrown 1 = .ok (.getfield 35, 3) := by decide +kernel
theorem dX1_thrown_4 : decode cX1_thrown 4 = .ok (.ireturn, 1) := by decide +kernel
theorem dX1_isGood_0 : decode cX1_isGood 0 = .ok (.aload_n 0, 1) := by decide +kernel
theorem dX1_isGood_1 : decode cX1_isGood 1 = .ok (.iload_n 1, 1) := by decide +kernel
theorem dX1_isGood_2 : decode cX1_isGood 2 = .ok (.putfield 35, 3) := by decide +kernel
theorem dX1_isGood_5 : decode cX1_isGood 5 = .ok (.iload_n 1, 1) := by decide +kernel
theorem dX1_isGood_6 : decode cX1_isGood 6 = .ok (.ifCond .ne 7, 3) := by decide +kernel
theorem dX1_isGood_9 : decode cX1_isGood 9 = .ok (.iconst 1, 1) := by decide +kernel
theorem dX1_isGood_10 : decode cX1_isGood 10 = .ok (.goto 4, 3) := by decide +kernel
theorem dX1_isGood_13 : decode cX1_isGood 13 = .ok (.iconst 0, 1) := by decide +kernel
theorem dX1_isGood_14 : decode cX1_isGood 14 = .ok (.ireturn, 1) := by decide +kernel
theorem dX1_isIn_0 : decode cX1_isIn 0 = .ok (.lload_n 0, 1) := by decide +kernel
theorem dX1_isIn_1 : decode cX1_isIn 1 = .ok (.lload_n 2, 1) := by decide +kernel
theorem dX1_isIn_2 : decode cX1_isIn 2 = .ok (.lcmp, 1) := by decide +kernel
theorem dX1_isIn_3 : decode cX1_isIn 3 = .ok (.ifCond .lt 14, 3) := by decide +kernel
theorem dX1_isIn_6 : decode cX1_isIn 6 = .ok (.lload_n 0, 1) := by decide +kernel
theorem dX1_isIn_7 : decode cX1_isIn 7 = .ok (.lload 4, 2) := by decide +kernel
theorem dX1_isIn_9 : decode cX1_isIn 9 = .ok (.lcmp, 1) := by decide +kernel
theorem dX1_isIn_10 : decode cX1_isIn 10 = .ok (.ifCond .gt 7, 3) := by decide +kernel
theorem dX1_isIn_13 : decode cX1_isIn 13 = .ok (.iconst 1, 1) := by decide +kernel
theorem dX1_isIn_14 : decode cX1_isIn 14 = .ok (.goto 4, 3) := by decide +kernel
theorem dX1_isIn_17 : decode cX1_isIn 17 = .ok (.iconst 0, 1) := by decide +kernel
theorem dX1_isIn_18 : decode cX1_isIn 18 = .ok (.ireturn, 1) := by decide +kernel
theorem dX1_begin_0 : decode cX1_begin 0 = .ok (.aload_n 0, 1) := by decide +kernel
theorem dX1_begin_1 : decode cX1_begin 1 = .ok (.iconst 0, 1) := by decide +kernel
theorem dX1_begin_2 : decode cX1_begin 2 = .ok (.putfield 39, 3) := by decide +kernel
theorem dX1_begin_5 : decode cX1_begin 5 = .ok (.aload_n 0, 1) := by decide +kernel
theorem dX1_begin_6 : decode cX1_begin 6 = .ok (.bipush 10, 2) := by decide +kernel
theorem dX1_begin_8 : decode cX1_begin 8 = .ok (.putfield 42, 3) := by decide +kernel
theorem dX1_begin_11 : decode cX1_begin 11 = .ok (.aload_n 0, 1) := by decide +kernel
theorem dX1_begin_12 : decode cX1_begin 12 = .ok (.iconst 5, 1) := by decide +kernel
theorem dX1_begin_13 : decode cX1_begin 13 = .ok (.putfield 45, 3) := by decide +kernel
theorem dX1_begin_16 : decode cX1_begin 16 = .ok (.aload_n 0, 1) := by decide +kernel
theorem dX1_begin_17 : decode cX1_begin 17 = .ok (.iconst 2, 1) := by decide +kernel
theorem dX1_begin_18 : decode cX1_begin 18 = .ok (.putfield 48, 3) := by decide +kernel
theorem dX1_begin_21 : decode cX1_begin 21 = .ok (.iconst 0, 1) := by decide +kernel
theorem dX1_begin_22 : decode cX1_begin 22 = .ok (.istore_n 1, 1) := by decide +kernel
theorem dX1_begin_23 : decode cX1_begin 23 = .ok (.iload_n 1, 1) := by decide +kernel
theorem dX1_begin_24 : decode cX1_begin 24 = .ok (.bipush 24, 2) := by decide +kernel
theorem dX1_begin_26 : decode cX1_begin 26 = .ok (.if_icmp .ge 16, 3) := by decide +kernel
theorem dX1_begin_29 : decode cX1_begin 29 = .ok (.aload_n 0, 1) := by decide +kernel
theorem dX1_begin_30 : decode cX1_begin 30 = .ok (.getfield 13, 3) := by decide +kernel
theorem dX1_begin_33 : decode cX1_begin 33 = .ok (.iload_n 1, 1) := by decide +kernel
theorem dX1_begin_34 : decode cX1_begin 34 = .ok (.iconst 0, 1) := by decide +kernel
theorem dX1_begin_35 : decode cX1_begin 35 = .ok (.iastore, 1) := by decide +kernel
theorem dX1_begin_36 : decode cX1_begin 36 = .ok (.iinc 1 1, 3) := by decide +kernel
theorem dX1_begin_39 : decode cX1_begin 39 = .ok (.goto (-16), 3) := by decide +kernel
theorem dX1_begin_42 : decode cX1_begin 42 = .ok (.iconst 0, 1) := by decide +kernel
theorem dX1_begin_43 : decode cX1_begin 43 = .ok (.istore_n 1, 1) := by decide +kernel
theorem dX1_begin_44 : decode cX1_begin 44 = .ok (.iload_n 1, 1) := by decide +kernel
theorem dX1_begin_45 : decode cX1_begin 45 = .ok (.iconst 2, 1) := by decide +kernel
theorem dX1_begin_46 : decode cX1_begin 46 = .ok (.if_icmp .ge 69, 3) := by decide +kernel
theorem dX1_begin_49 : decode cX1_begin 49 = .ok (.aload_n 0, 1) := by decide +kernel
theorem dX1_begin_50 : decode cX1_begin 50 = .ok (.getfield 13, 3) := by decide +kernel
theorem dX1_begin_53 : decode cX1_begin 53 = .ok (.bipush 12, 2) := by decide +kernel
theorem dX1_begin_55 : decode cX1_begin 55 = .ok (.iload_n 1, 1) := by decide +kernel
theorem dX1_begin_56 : decode cX1_begin 56 = .ok (.imul, 1) := by decide +kernel
theorem dX1_begin_57 : decode cX1_begin 57 = .ok (.iconst 5, 1) := by decide +kernel
theorem dX1_begin_58 : decode cX1_begin 58 = .ok (.iastore, 1) := by decide +kernel
theorem dX1_begin_59 : decode cX1_begin 59 = .ok (.aload_n 0, 1) := by decide +kernel
theorem dX1_begin_60 : decode cX1_begin 60 = .ok (.getfield 13, 3) := by decide +kernel
theorem dX1_begin_63 : decode cX1_begin 63 = .ok (.bipush 12, 2) := by decide +kernel
theorem dX1_begin_65 : decode cX1_begin 65 = .ok (.iload_n 1, 1) := by decide +kernel
theorem dX1_begin_66 : decode cX1_begin 66 = .ok (.imul, 1) := by decide +kernel
theorem dX1_begin_67 : decode cX1_begin 67 = .ok (.iconst 2, 1) := by decide +kernel
theorem dX1_begin_68 : decode cX1_begin 68 = .ok (.iadd, 1) := by decide +kernel
theorem dX1_begin_69 : decode cX1_begin 69 = .ok (.iconst 3, 1) := by decide +kernel
theorem dX1_begin_70 : decode cX1_begin 70 = .ok (.iastore, 1) := by decide +kernel
theorem dX1_begin_71 : decode cX1_begin 71 = .ok (.aload_n 0, 1) := by decide +kernel
theorem dX1_begin_72 : decode cX1_begin 72 = .ok (.getfield 13, 3) := by decide +kernel
theorem dX1_begin_75 : decode cX1_begin 75 = .ok (.bipush 12, 2) := by decide +kernel
theorem dX1_begin_77 : decode cX1_begin 77 = .ok (.iload_n 1, 1) := by decide +kernel
theorem dX1_begin_78 : decode cX1_begin 78 = .ok (.imul, 1) := by decide +kernel
theorem dX1_begin_79 : decode cX1_begin 79 = .ok (.iconst 5, 1) := by decide +kernel
theorem dX1_begin_80 : decode cX1_begin 80 = .ok (.iadd, 1) := by decide +kernel
theorem dX1_begin_81 : decode cX1_begin 81 = .ok (.iconst 3, 1) := by decide +kernel
theorem dX1_begin_82 : decode cX1_begin 82 = .ok (.iastore, 1) := by decide +kernel
theorem dX1_begin_83 : decode cX1_begin 83 = .ok (.aload_n 0, 1) := by decide +kernel
theorem dX1_begin_84 : decode cX1_begin 84 = .ok (.getfield 13, 3) := by decide +kernel
theorem dX1_begin_87 : decode cX1_begin 87 = .ok (.bipush 12, 2) := by decide +kernel
theorem dX1_begin_89 : decode cX1_begin 89 = .ok (.iload_n 1, 1) := by decide +kernel
theorem dX1_begin_90 : decode cX1_begin 90 = .ok (.imul, 1) := by decide +kernel
theorem dX1_begin_91 : decode cX1_begin 91 = .ok (.bipush 7, 2) := by decide +kernel
theorem dX1_begin_93 : decode cX1_begin 93 = .ok (.iadd, 1) := by decide +kernel
theorem dX1_begin_94 : decode cX1_begin 94 = .ok (.iconst 3, 1) := by decide +kernel
theorem dX1_begin_95 : decode cX1_begin 95 = .ok (.iastore, 1) := by decide +kernel
theorem dX1_begin_96 : decode cX1_begin 96 = .ok (.aload_n 0, 1) := by decide +kernel
theorem dX1_begin_97 : decode cX1_begin 97 = .ok (.getfield 13, 3) := by decide +kernel
theorem dX1_begin_100 : decode cX1_begin 100 = .ok (.bipush 12, 2) := by decide +kernel
theorem dX1_begin_102 : decode cX1_begin 102 = .ok (.iload_n 1, 1) := by decide +kernel
theorem dX1_begin_103 : decode cX1_begin 103 = .ok (.imul, 1) := by decide +kernel
theorem dX1_begin_104 : decode cX1_begin 104 = .ok (.bipush 11, 2) := by decide +kernel
theorem dX1_begin_106 : decode cX1_begin 106 = .ok (.iadd, 1) := by decide +kernel
theorem dX1_begin_107 : decode cX1_begin 107 = .ok (.iconst 3, 1) := by decide +kernel
theorem dX1_begin_108 : decode cX1_begin 108 = .ok (.iastore, 1) := by decide +kernel
theorem dX1_begin_109 : decode cX1_begin 109 = .ok (.iinc 1 1, 3) := by decide +kernel
theorem dX1_begin_112 : decode cX1_begin 112 = .ok (.goto (-68), 3) := by decide +kernel
theorem dX1_begin_115 : decode cX1_begin 115 = .ok (.aload_n 0, 1) := by decide +kernel
theorem dX1_begin_116 : decode cX1_begin 116 = .ok (.getfield 13, 3) := by decide +kernel
theorem dX1_begin_119 : decode cX1_begin 119 = .ok (.iconst 4, 1) := by decide +kernel
theorem dX1_begin_120 : decode cX1_begin 120 = .ok (.iconst 3, 1) := by decide +kernel
theorem dX1_begin_121 : decode cX1_begin 121 = .ok (.iastore, 1) := by decide +kernel
theorem dX1_begin_122 : decode cX1_begin 122 = .ok (.aload_n 0, 1) := by decide +kernel
theorem dX1_begin_123 : decode cX1_begin 123 = .ok (.getfield 13, 3) := by decide +kernel
theorem dX1_begin_126 : decode cX1_begin 126 = .ok (.bipush 9, 2) := by decide +kernel
theorem dX1_begin_128 : decode cX1_begin 128 = .ok (.iconst 3, 1) := by decide +kernel
theorem dX1_begin_129 : decode cX1_begin 129 = .ok (.iastore, 1) := by decide +kernel
theorem dX1_begin_130 : decode cX1_begin 130 = .ok (.aload_n 0, 1) := by decide +kernel
theorem dX1_begin_131 : decode cX1_begin 131 = .ok (.getfield 13, 3) := by decide +kernel
theorem dX1_begin_134 : decode cX1_begin 134 = .ok (.bipush 15, 2) := by decide +kernel
theorem dX1_begin_136 : decode cX1_begin 136 = .ok (.iconst 3, 1) := by decide +kernel
theorem dX1_begin_137 : decode cX1_begin 137 = .ok (.iastore, 1) := by decide +kernel
theorem dX1_begin_138 : decode cX1_begin 138 = .ok (.aload_n 0, 1) := by decide +kernel
theorem dX1_begin_139 : decode cX1_begin 139 = .ok (.getfield 13, 3) := by decide +kernel
theorem dX1_begin_142 : decode cX1_begin 142 = .ok (.bipush 20, 2) := by decide +kernel
theorem dX1_begin_144 : decode cX1_begin 144 = .ok (.iconst 3, 1) := by decide +kernel
theorem dX1_begin_145 : decode cX1_begin 145 = .ok (.iastore, 1) := by decide +kernel
theorem dX1_begin_146 : decode cX1_begin 146 = .ok (.return_, 1) := by decide +kernel
theorem dX1_clear_0 : decode cX1_clear 0 = .ok (.aload_n 0, 1) := by decide +kernel
theorem dX1_clear_1 : decode cX1_clear 1 = .ok (.iconst 0, 1) := by decide +kernel
theorem dX1_clear_2 : decode cX1_clear 2 = .ok (.putfield 35, 3) := by decide +kernel
theorem dX1_clear_5 : decode cX1_clear 5 = .ok (.aload_n 0, 1) := by decide +kernel
theorem dX1_clear_6 : decode cX1_clear 6 = .ok (.getfield 39, 3) := by decide +kernel
theorem dX1_clear_9 : decode cX1_clear 9 = .ok (.istore_n 1, 1) := by decide +kernel
theorem dX1_clear_10 : decode cX1_clear 10 = .ok (.aload_n 0, 1) := by decide +kernel
theorem dX1_clear_11 : decode cX1_clear 11 = .ok (.invokevirtual 32, 3) := by decide +kernel
theorem dX1_clear_14 : decode cX1_clear 14 = .ok (.iload_n 1, 1) := by decide +kernel
theorem dX1_clear_15 : decode cX1_clear 15 = .ok (.ireturn, 1) := by decide +kernel
theorem dX1_isSlice_0 : decode cX1_isSlice 0 = .ok (.iload_n 1, 1) := by decide +kernel
theorem dX1_isSlice_1 : decode cX1_isSlice 1 = .ok (.i2l, 1) := by decide +kernel
theorem dX1_isSlice_2 : decode cX1_isSlice 2 = .ok (.lconst 0, 1) := by decide +kernel
theorem dX1_isSlice_3 : decode cX1_isSlice 3 = .ok (.aload_n 0, 1) := by decide +kernel
theorem dX1_isSlice_4 : decode cX1_isSlice 4 = .ok (.getfield 39, 3) := by decide +kernel
theorem dX1_isSlice_7 : decode cX1_isSlice 7 = .ok (.iconst 1, 1) := by decide +kernel
theorem dX1_isSlice_8 : decode cX1_isSlice 8 = .ok (.isub, 1) := by decide +kernel
theorem dX1_isSlice_9 : decode cX1_isSlice 9 = .ok (.i2l, 1) := by decide +kernel
theorem dX1_isSlice_10 : decode cX1_isSlice 10 = .ok (.invokestatic 51, 3) := by decide +kernel
theorem dX1_isSlice_13 : decode cX1_isSlice 13 = .ok (.ireturn, 1) := by decide +kernel
theorem dX1_isKey_0 : decode cX1_isKey 0 = .ok (.iload_n 0, 1) := by decide +kernel
theorem dX1_isKey_1 : decode cX1_isKey 1 = .ok (.i2l, 1) := by decide +kernel
theorem dX1_isKey_2 : decode cX1_isKey 2 = .ok (.lconst 0, 1) := by decide +kernel
theorem dX1_isKey_3 : decode cX1_isKey 3 = .ok (.ldc2_w 55, 3) := by decide +kernel
theorem dX1_isKey_6 : decode cX1_isKey 6 = .ok (.invokestatic 51, 3) := by decide +kernel
theorem dX1_isKey_9 : decode cX1_isKey 9 = .ok (.ireturn, 1) := by decide +kernel
theorem dX1_profile_0 : decode cX1_profile 0 = .ok (.aload_n 0, 1) := by decide +kernel
theorem dX1_profile_1 : decode cX1_profile 1 = .ok (.iload_n 1, 1) := by decide +kernel
theorem dX1_profile_2 : decode cX1_profile 2 = .ok (.i2l, 1) := by decide +kernel
theorem dX1_profile_3 : decode cX1_profile 3 = .ok (.lconst 0, 1) := by decide +kernel
theorem dX1_profile_4 : decode cX1_profile 4 = .ok (.lconst 1, 1) := by decide +kernel
theorem dX1_profile_5 : decode cX1_profile 5 = .ok (.invokestatic 51, 3) := by decide +kernel
theorem dX1_profile_8 : decode cX1_profile 8 = .ok (.ifCond .eq 31, 3) := by decide +kernel
theorem dX1_profile_11 : decode cX1_profile 11 = .ok (.iload_n 2, 1) := by decide +kernel
theorem dX1_profile_12 : decode cX1_profile 12 = .ok (.i2l, 1) := by decide +kernel
theorem dX1_profile_13 : decode cX1_profile 13 = .ok (.lconst 0, 1) := by decide +kernel
theorem dX1_profile_14 : decode cX1_profile 14 = .ok (.ldc2_w 57, 3) := by decide +kernel
theorem dX1_profile_17 : decode cX1_profile 17 = .ok (.invokestatic 51, 3) := by decide +kernel
theorem dX1_profile_20 : decode cX1_profile 20 = .ok (.ifCond .eq 19, 3) := by decide +kernel
theorem dX1_profile_23 : decode cX1_profile 23 = .ok (.iload_n 3, 1) := by decide +kernel
theorem dX1_profile_24 : decode cX1_profile 24 = .ok (.i2l, 1) := by decide +kernel
theorem dX1_profile_25 : decode cX1_profile 25 = .ok (.lconst 0, 1) := by decide +kernel
theorem dX1_profile_26 : decode cX1_profile 26 = .ok (.ldc2_w 59, 3) := by decide +kernel
theorem dX1_profile_29 : decode cX1_profile 29 = .ok (.invokestatic 51, 3) := by decide +kernel
theorem dX1_profile_32 : decode cX1_profile 32 = .ok (.ifCond .eq 7, 3) := by decide +kernel
theorem dX1_profile_35 : decode cX1_profile 35 = .ok (.iconst 0, 1) := by decide +kernel
theorem dX1_profile_36 : decode cX1_profile 36 = .ok (.goto 4, 3) := by decide +kernel
theorem dX1_profile_39 : decode cX1_profile 39 = .ok (.iconst 1, 1) := by decide +kernel
theorem dX1_profile_40 : decode cX1_profile 40 = .ok (.invokevirtual 61, 3) := by decide +kernel
theorem dX1_profile_43 : decode cX1_profile 43 = .ok (.ifCond .ne 5, 3) := by decide +kernel
theorem dX1_profile_46 : decode cX1_profile 46 = .ok (.iconst 0, 1) := by decide +kernel
theorem dX1_profile_47 : decode cX1_profile 47 = .ok (.ireturn, 1) := by decide +kernel
theorem dX1_profile_48 : decode cX1_profile 48 = .ok (.aload_n 0, 1) := by decide +kernel
theorem dX1_profile_49 : decode cX1_profile 49 = .ok (.getfield 13, 3) := by decide +kernel
theorem dX1_profile_52 : decode cX1_profile 52 = .ok (.bipush 12, 2) := by decide +kernel
theorem dX1_profile_54 : decode cX1_profile 54 = .ok (.iload_n 1, 1) := by decide +kernel
theorem dX1_profile_55 : decode cX1_profile 55 = .ok (.imul, 1) := by decide +kernel
theorem dX1_profile_56 : decode cX1_profile 56 = .ok (.iload_n 2, 1) := by decide +kernel
theorem dX1_profile_57 : decode cX1_profile 57 = .ok (.iadd, 1) := by decide +kernel
theorem dX1_profile_58 : decode cX1_profile 58 = .ok (.iaload, 1) := by decide +kernel
theorem dX1_profile_59 : decode cX1_profile 59 = .ok (.istore 4, 2) := by decide +kernel
theorem dX1_profile_61 : decode cX1_profile 61 = .ok (.aload_n 0, 1) := by decide +kernel
theorem dX1_profile_62 : decode cX1_profile 62 = .ok (.getfield 13, 3) := by decide +kernel
theorem dX1_profile_65 : decode cX1_profile 65 = .ok (.bipush 12, 2) := by decide +kernel
theorem dX1_profile_67 : decode cX1_profile 67 = .ok (.iload_n 1, 1) := by decide +kernel
theorem dX1_profile_68 : decode cX1_profile 68 = .ok (.imul, 1) := by decide +kernel
theorem dX1_profile_69 : decode cX1_profile 69 = .ok (.iload_n 2, 1) := by decide +kernel
theorem dX1_profile_70 : decode cX1_profile 70 = .ok (.iadd, 1) := by decide +kernel
theorem dX1_profile_71 : decode cX1_profile 71 = .ok (.iload_n 3, 1) := by decide +kernel
theorem dX1_profile_72 : decode cX1_profile 72 = .ok (.iastore, 1) := by decide +kernel
theorem dX1_profile_73 : decode cX1_profile 73 = .ok (.iload 4, 2) := by decide +kernel
theorem dX1_profile_75 : decode cX1_profile 75 = .ok (.ireturn, 1) := by decide +kernel
theorem dX1_costs_0 : decode cX1_costs 0 = .ok (.aload_n 0, 1) := by decide +kernel
theorem dX1_costs_1 : decode cX1_costs 1 = .ok (.iload_n 1, 1) := by decide +kernel
theorem dX1_costs_2 : decode cX1_costs 2 = .ok (.i2l, 1) := by decide +kernel
theorem dX1_costs_3 : decode cX1_costs 3 = .ok (.lconst 0, 1) := by decide +kernel
theorem dX1_costs_4 : decode cX1_costs 4 = .ok (.ldc2_w 65, 3) := by decide +kernel
theorem dX1_costs_7 : decode cX1_costs 7 = .ok (.invokestatic 51, 3) := by decide +kernel
theorem dX1_costs_10 : decode cX1_costs 10 = .ok (.ifCond .eq 31, 3) := by decide +kernel
theorem dX1_costs_13 : decode cX1_costs 13 = .ok (.iload_n 2, 1) := by decide +kernel
theorem dX1_costs_14 : decode cX1_costs 14 = .ok (.i2l, 1) := by decide +kernel
theorem dX1_costs_15 : decode cX1_costs 15 = .ok (.lconst 0, 1) := by decide +kernel
theorem dX1_costs_16 : decode cX1_costs 16 = .ok (.ldc2_w 65, 3) := by decide +kernel
theorem dX1_costs_19 : decode cX1_costs 19 = .ok (.invokestatic 51, 3) := by decide +kernel
theorem dX1_costs_22 : decode cX1_costs 22 = .ok (.ifCond .eq 19, 3) := by decide +kernel
theorem dX1_costs_25 : decode cX1_costs 25 = .ok (.iload_n 3, 1) := by decide +kernel
theorem dX1_costs_26 : decode cX1_costs 26 = .ok (.i2l, 1) := by decide +kernel
theorem dX1_costs_27 : decode cX1_costs 27 = .ok (.lconst 0, 1) := by decide +kernel
theorem dX1_costs_28 : decode cX1_costs 28 = .ok (.ldc2_w 65, 3) := by decide +kernel
theorem dX1_costs_31 : decode cX1_costs 31 = .ok (.invokestatic 51, 3) := by decide +kernel
theorem dX1_costs_34 : decode cX1_costs 34 = .ok (.ifCond .eq 7, 3) := by decide +kernel
theorem dX1_costs_37 : decode cX1_costs 37 = .ok (.iconst 0, 1) := by decide +kernel
theorem dX1_costs_38 : decode cX1_costs 38 = .ok (.goto 4, 3) := by decide +kernel
theorem dX1_costs_41 : decode cX1_costs 41 = .ok (.iconst 1, 1) := by decide +kernel
theorem dX1_costs_42 : decode cX1_costs 42 = .ok (.invokevirtual 61, 3) := by decide +kernel
theorem dX1_costs_45 : decode cX1_costs 45 = .ok (.ifCond .ne 5, 3) := by decide +kernel
theorem dX1_costs_48 : decode cX1_costs 48 = .ok (.iconst 0, 1) := by decide +kernel
theorem dX1_costs_49 : decode cX1_costs 49 = .ok (.ireturn, 1) := by decide +kernel
theorem dX1_costs_50 : decode cX1_costs 50 = .ok (.iload_n 1, 1) := by decide +kernel
theorem dX1_costs_51 : decode cX1_costs 51 = .ok (.aload_n 0, 1) := by decide +kernel
theorem dX1_costs_52 : decode cX1_costs 52 = .ok (.getfield 42, 3) := by decide +kernel
theorem dX1_costs_55 : decode cX1_costs 55 = .ok (.if_icmp .ne 7, 3) := by decide +kernel
theorem dX1_costs_58 : decode cX1_costs 58 = .ok (.iconst 0, 1) := by decide +kernel
theorem dX1_costs_59 : decode cX1_costs 59 = .ok (.goto 4, 3) := by decide +kernel
theorem dX1_costs_62 : decode cX1_costs 62 = .ok (.iconst 1, 1) := by decide +kernel
theorem dX1_costs_63 : decode cX1_costs 63 = .ok (.iload_n 2, 1) := by decide +kernel
theorem dX1_costs_64 : decode cX1_costs 64 = .ok (.aload_n 0, 1) := by decide +kernel
theorem dX1_costs_65 : decode cX1_costs 65 = .ok (.getfield 45, 3) := by decide +kernel
theorem dX1_costs_68 : decode cX1_costs 68 = .ok (.if_icmp .ne 7, 3) := by decide +kernel
theorem dX1_costs_71 : decode cX1_costs 71 = .ok (.iconst 0, 1) := by decide +kernel
theorem dX1_costs_72 : decode cX1_costs 72 = .ok (.goto 4, 3) := by decide +kernel
theorem dX1_costs_75 : decode cX1_costs 75 = .ok (.iconst 1, 1) := by decide +kernel
theorem dX1_costs_76 : decode cX1_costs 76 = .ok (.iadd, 1) := by decide +kernel
theorem dX1_costs_77 : decode cX1_costs 77 = .ok (.iload_n 3, 1) := by decide +kernel
theorem dX1_costs_78 : decode cX1_costs 78 = .ok (.aload_n 0, 1) := by decide +kernel
theorem dX1_costs_79 : decode cX1_costs 79 = .ok (.getfield 48, 3) := by decide +kernel
theorem dX1_costs_82 : decode cX1_costs 82 = .ok (.if_icmp .ne 7, 3) := by decide +kernel
theorem dX1_costs_85 : decode cX1_costs 85 = .ok (.iconst 0, 1) := by decide +kernel
theorem dX1_costs_86 : decode cX1_costs 86 = .ok (.goto 4, 3) := by decide +kernel
theorem dX1_costs_89 : decode cX1_costs 89 = .ok (.iconst 1, 1) := by decide +kernel
theorem dX1_costs_90 : decode cX1_costs 90 = .ok (.iadd, 1) := by decide +kernel
theorem dX1_costs_91 : decode cX1_costs 91 = .ok (.istore 4, 2) := by decide +kernel
theorem dX1_costs_93 : decode cX1_costs 93 = .ok (.aload_n 0, 1) := by decide +kernel
theorem dX1_costs_94 : decode cX1_costs 94 = .ok (.iload_n 1, 1) := by decide +kernel
theorem dX1_costs_95 : decode cX1_costs 95 = .ok (.putfield 42, 3) := by decide +kernel
theorem dX1_costs_98 : decode cX1_costs 98 = .ok (.aload_n 0, 1) := by decide +kernel
theorem dX1_costs_99 : decode cX1_costs 99 = .ok (.iload_n 2, 1) := by decide +kernel
theorem dX1_costs_100 : decode cX1_costs 100 = .ok (.putfield 45, 3) := by decide +kernel
theorem dX1_costs_103 : decode cX1_costs 103 = .ok (.aload_n 0, 1) := by decide +kernel
theorem dX1_costs_104 : decode cX1_costs 104 = .ok (.iload_n 3, 1) := by decide +kernel
theorem dX1_costs_105 : decode cX1_costs 105 = .ok (.putfield 48, 3) := by decide +kernel
theorem dX1_costs_108 : decode cX1_costs 108 = .ok (.iload 4, 2) := by decide +kernel
theorem dX1_costs_110 : decode cX1_costs 110 = .ok (.ireturn, 1) := by decide +kernel
theorem dX1_slice_0 : decode cX1_slice 0 = .ok (.aload_n 0, 1) := by decide +kernel
theorem dX1_slice_1 : decode cX1_slice 1 = .ok (.aload_n 0, 1) := by decide +kernel
theorem dX1_slice_2 : decode cX1_slice 2 = .ok (.getfield 39, 3) := by decide +kernel
theorem dX1_slice_5 : decode cX1_slice 5 = .ok (.bipush 40, 2) := by decide +kernel
theorem dX1_slice_7 : decode cX1_slice 7 = .ok (.if_icmp .ne 7, 3) := by decide +kernel
theorem dX1_slice_10 : decode cX1_slice 10 = .ok (.iconst 1, 1) := by decide +kernel
theorem dX1_slice_11 : decode cX1_slice 11 = .ok (.goto 4, 3) := by decide +kernel
theorem dX1_slice_14 : decode cX1_slice 14 = .ok (.iconst 0, 1) := by decide +kernel
theorem dX1_slice_15 : decode cX1_slice 15 = .ok (.invokevirtual 61, 3) := by decide +kernel
theorem dX1_slice_18 : decode cX1_slice 18 = .ok (.ifCond .ne 5, 3) := by decide +kernel
theorem dX1_slice_21 : decode cX1_slice 21 = .ok (.iconst 0, 1) := by decide +kernel
theorem dX1_slice_22 : decode cX1_slice 22 = .ok (.ireturn, 1) := by decide +kernel
theorem dX1_slice_23 : decode cX1_slice 23 = .ok (.iconst 0, 1) := by decide +kernel
theorem dX1_slice_24 : decode cX1_slice 24 = .ok (.istore_n 1, 1) := by decide +kernel
theorem dX1_slice_25 : decode cX1_slice 25 = .ok (.iload_n 1, 1) := by decide +kernel
theorem dX1_slice_26 : decode cX1_slice 26 = .ok (.bipush 12, 2) := by decide +kernel
theorem dX1_slice_28 : decode cX1_slice 28 = .ok (.if_icmp .ge 24, 3) := by decide +kernel
theorem dX1_slice_31 : decode cX1_slice 31 = .ok (.aload_n 0, 1) := by decide +kernel
theorem dX1_slice_32 : decode cX1_slice 32 = .ok (.getfield 7, 3) := by decide +kernel
theorem dX1_slice_35 : decode cX1_slice 35 = .ok (.bipush 12, 2) := by decide +kernel
theorem dX1_slice_37 : decode cX1_slice 37 = .ok (.aload_n 0, 1) := by decide +kernel
theorem dX1_slice_38 : decode cX1_slice 38 = .ok (.getfield 39, 3) := by decide +kernel
theorem dX1_slice_41 : decode cX1_slice 41 = .ok (.imul, 1) := by decide +kernel
theorem dX1_slice_42 : decode cX1_slice 42 = .ok (.iload_n 1, 1) := by decide +kernel
theorem dX1_slice_43 : decode cX1_slice 43 = .ok (.iadd, 1) := by decide +kernel
theorem dX1_slice_44 : decode cX1_slice 44 = .ok (.iconst 0, 1) := by decide +kernel
theorem dX1_slice_45 : decode cX1_slice 45 = .ok (.iastore, 1) := by decide +kernel
theorem dX1_slice_46 : decode cX1_slice 46 = .ok (.iinc 1 1, 3) := by decide +kernel
theorem dX1_slice_49 : decode cX1_slice 49 = .ok (.goto (-24), 3) := by decide +kernel
theorem dX1_slice_52 : decode cX1_slice 52 = .ok (.aload_n 0, 1) := by decide +kernel
theorem dX1_slice_53 : decode cX1_slice 53 = .ok (.dup, 1) := by decide +kernel
theorem dX1_slice_54 : decode cX1_slice 54 = .ok (.getfield 39, 3) := by decide +kernel
theorem dX1_slice_57 : decode cX1_slice 57 = .ok (.iconst 1, 1) := by decide +kernel
theorem dX1_slice_58 : decode cX1_slice 58 = .ok (.iadd, 1) := by decide +kernel
theorem dX1_slice_59 : decode cX1_slice 59 = .ok (.putfield 39, 3) := by decide +kernel
theorem dX1_slice_62 : decode cX1_slice 62 = .ok (.aload_n 0, 1) := by decide +kernel
theorem dX1_slice_63 : decode cX1_slice 63 = .ok (.getfield 39, 3) := by decide +kernel
theorem dX1_slice_66 : decode cX1_slice 66 = .ok (.iconst 1, 1) := by decide +kernel
theorem dX1_slice_67 : decode cX1_slice 67 = .ok (.isub, 1) := by decide +kernel
theorem dX1_slice_68 : decode cX1_slice 68 = .ok (.ireturn, 1) := by decide +kernel
theorem dX1_note_0 : decode cX1_note 0 = .ok (.aload_n 0, 1) := by decide +kernel
theorem dX1_note_1 : decode cX1_note 1 = .ok (.aload_n 0, 1) := by decide +kernel
theorem dX1_note_2 : decode cX1_note 2 = .ok (.iload_n 1, 1) := by decide +kernel
theorem dX1_note_3 : decode cX1_note 3 = .ok (.invokevirtual 67, 3) := by decide +kernel
theorem dX1_note_6 : decode cX1_note 6 = .ok (.ifCond .eq 31, 3) := by decide +kernel
theorem dX1_note_9 : decode cX1_note 9 = .ok (.iload_n 2, 1) := by decide +kernel
theorem dX1_note_10 : decode cX1_note 10 = .ok (.i2l, 1) := by decide +kernel
theorem dX1_note_11 : decode cX1_note 11 = .ok (.lconst 0, 1) := by decide +kernel
theorem dX1_note_12 : decode cX1_note 12 = .ok (.ldc2_w 57, 3) := by decide +kernel
theorem dX1_note_15 : decode cX1_note 15 = .ok (.invokestatic 51, 3) := by decide +kernel
theorem dX1_note_18 : decode cX1_note 18 = .ok (.ifCond .eq 19, 3) := by decide +kernel
theorem dX1_note_21 : decode cX1_note 21 = .ok (.iload_n 3, 1) := by decide +kernel
theorem dX1_note_22 : decode cX1_note 22 = .ok (.i2l, 1) := by decide +kernel
theorem dX1_note_23 : decode cX1_note 23 = .ok (.lconst 1, 1) := by decide +kernel
theorem dX1_note_24 : decode cX1_note 24 = .ok (.ldc2_w 70, 3) := by decide +kernel
theorem dX1_note_27 : decode cX1_note 27 = .ok (.invokestatic 51, 3) := by decide +kernel
theorem dX1_note_30 : decode cX1_note 30 = .ok (.ifCond .eq 7, 3) := by decide +kernel
theorem dX1_note_33 : decode cX1_note 33 = .ok (.iconst 0, 1) := by decide +kernel
theorem dX1_note_34 : decode cX1_note 34 = .ok (.goto 4, 3) := by decide +kernel
theorem dX1_note_37 : decode cX1_note 37 = .ok (.iconst 1, 1) := by decide +kernel
theorem dX1_note_38 : decode cX1_note 38 = .ok (.invokevirtual 61, 3) := by decide +kernel
theorem dX1_note_41 : decode cX1_note 41 = .ok (.ifCond .ne 5, 3) := by decide +kernel
theorem dX1_note_44 : decode cX1_note 44 = .ok (.iconst 0, 1) := by decide +kernel
theorem dX1_note_45 : decode cX1_note 45 = .ok (.ireturn, 1) := by decide +kernel
theorem dX1_note_46 : decode cX1_note 46 = .ok (.bipush 12, 2) := by decide +kernel
theorem dX1_note_48 : decode cX1_note 48 = .ok (.iload_n 1, 1) := by decide +kernel
theorem dX1_note_49 : decode cX1_note 49 = .ok (.imul, 1) := by decide +kernel
theorem dX1_note_50 : decode cX1_note 50 = .ok (.iload_n 2, 1) := by decide +kernel
theorem dX1_note_51 : decode cX1_note 51 = .ok (.iadd, 1) := by decide +kernel
theorem dX1_note_52 : decode cX1_note 52 = .ok (.istore 4, 2) := by decide +kernel
theorem dX1_note_54 : decode cX1_note 54 = .ok (.aload_n 0, 1) := by decide +kernel
theorem dX1_note_55 : decode cX1_note 55 = .ok (.aload_n 0, 1) := by decide +kernel
theorem dX1_note_56 : decode cX1_note 56 = .ok (.getfield 7, 3) := by decide +kernel
theorem dX1_note_59 : decode cX1_note 59 = .ok (.iload 4, 2) := by decide +kernel
theorem dX1_note_61 : decode cX1_note 61 = .ok (.iaload, 1) := by decide +kernel
theorem dX1_note_62 : decode cX1_note 62 = .ok (.iload_n 3, 1) := by decide +kernel
theorem dX1_note_63 : decode cX1_note 63 = .ok (.iadd, 1) := by decide +kernel
theorem dX1_note_64 : decode cX1_note 64 = .ok (.sipush 200, 3) := by decide +kernel
theorem dX1_note_67 : decode cX1_note 67 = .ok (.if_icmp .le 7, 3) := by decide +kernel
theorem dX1_note_70 : decode cX1_note 70 = .ok (.iconst 2, 1) := by decide +kernel
theorem dX1_note_71 : decode cX1_note 71 = .ok (.goto 4, 3) := by decide +kernel
theorem dX1_note_74 : decode cX1_note 74 = .ok (.iconst 0, 1) := by decide +kernel
theorem dX1_note_75 : decode cX1_note 75 = .ok (.invokevirtual 61, 3) := by decide +kernel
theorem dX1_note_78 : decode cX1_note 78 = .ok (.ifCond .ne 5, 3) := by decide +kernel
theorem dX1_note_81 : decode cX1_note 81 = .ok (.iconst 0, 1) := by decide +kernel
theorem dX1_note_82 : decode cX1_note 82 = .ok (.ireturn, 1) := by decide +kernel
theorem dX1_note_83 : decode cX1_note 83 = .ok (.aload_n 0, 1) := by decide +kernel
theorem dX1_note_84 : decode cX1_note 84 = .ok (.getfield 7, 3) := by decide +kernel
theorem dX1_note_87 : decode cX1_note 87 = .ok (.iload 4, 2) := by decide +kernel
theorem dX1_note_89 : decode cX1_note 89 = .ok (.dup2, 1) := by decide +kernel
theorem dX1_note_90 : decode cX1_note 90 = .ok (.iaload, 1) := by decide +kernel
theorem dX1_note_91 : decode cX1_note 91 = .ok (.iload_n 3, 1) := by decide +kernel
theorem dX1_note_92 : decode cX1_note 92 = .ok (.iadd, 1) := by decide +kernel
theorem dX1_note_93 : decode cX1_note 93 = .ok (.iastore, 1) := by decide +kernel
theorem dX1_note_94 : decode cX1_note 94 = .ok (.aload_n 0, 1) := by decide +kernel
theorem dX1_note_95 : decode cX1_note 95 = .ok (.getfield 7, 3) := by decide +kernel
theorem dX1_note_98 : decode cX1_note 98 = .ok (.iload 4, 2) := by decide +kernel
theorem dX1_note_100 : decode cX1_note 100 = .ok (.iaload, 1) := by decide +kernel
theorem dX1_note_101 : decode cX1_note 101 = .ok (.ireturn, 1) := by decide +kernel
theorem dX1_drop_0 : decode cX1_drop 0 = .ok (.aload_n 0, 1) := by decide +kernel
theorem dX1_drop_1 : decode cX1_drop 1 = .ok (.aload_n 0, 1) := by decide +kernel
theorem dX1_drop_2 : decode cX1_drop 2 = .ok (.getfield 39, 3) := by decide +kernel
theorem dX1_drop_5 : decode cX1_drop 5 = .ok (.ifCond .ne 7, 3) := by decide +kernel
theorem dX1_drop_8 : decode cX1_drop 8 = .ok (.iconst 1, 1) := by decide +kernel
theorem dX1_drop_9 : decode cX1_drop 9 = .ok (.goto 4, 3) := by decide +kernel
theorem dX1_drop_12 : decode cX1_drop 12 = .ok (.iconst 0, 1) := by decide +kernel
theorem dX1_drop_13 : decode cX1_drop 13 = .ok (.invokevirtual 61, 3) := by decide +kernel
theorem dX1_drop_16 : decode cX1_drop 16 = .ok (.ifCond .ne 5, 3) := by decide +kernel
theorem dX1_drop_19 : decode cX1_drop 19 = .ok (.iconst 0, 1) := by decide +kernel
theorem dX1_drop_20 : decode cX1_drop 20 = .ok (.ireturn, 1) := by decide +kernel
theorem dX1_drop_21 : decode cX1_drop 21 = .ok (.aload_n 0, 1) := by decide +kernel
theorem dX1_drop_22 : decode cX1_drop 22 = .ok (.dup, 1) := by decide +kernel
theorem dX1_drop_23 : decode cX1_drop 23 = .ok (.getfield 39, 3) := by decide +kernel
theorem dX1_drop_26 : decode cX1_drop 26 = .ok (.iconst 1, 1) := by decide +kernel
theorem dX1_drop_27 : decode cX1_drop 27 = .ok (.isub, 1) := by decide +kernel
theorem dX1_drop_28 : decode cX1_drop 28 = .ok (.putfield 39, 3) := by decide +kernel
theorem dX1_drop_31 : decode cX1_drop 31 = .ok (.aload_n 0, 1) := by decide +kernel
theorem dX1_drop_32 : decode cX1_drop 32 = .ok (.getfield 39, 3) := by decide +kernel
theorem dX1_drop_35 : decode cX1_drop 35 = .ok (.ireturn, 1) := by decide +kernel
theorem dX1_numberOf_0 : decode cX1_numberOf 0 = .ok (.aload_n 0, 1) := by decide +kernel
theorem dX1_numberOf_1 : decode cX1_numberOf 1 = .ok (.getfield 13, 3) := by decide +kernel
theorem dX1_numberOf_4 : decode cX1_numberOf 4 = .ok (.bipush 12, 2) := by decide +kernel
theorem dX1_numberOf_6 : decode cX1_numberOf 6 = .ok (.iload_n 2, 1) := by decide +kernel
theorem dX1_numberOf_7 : decode cX1_numberOf 7 = .ok (.bipush 12, 2) := by decide +kernel
theorem dX1_numberOf_9 : decode cX1_numberOf 9 = .ok (.idiv, 1) := by decide +kernel
theorem dX1_numberOf_10 : decode cX1_numberOf 10 = .ok (.imul, 1) := by decide +kernel
theorem dX1_numberOf_11 : decode cX1_numberOf 11 = .ok (.iload_n 1, 1) := by decide +kernel
theorem dX1_numberOf_12 : decode cX1_numberOf 12 = .ok (.iload_n 2, 1) := by decide +kernel
theorem dX1_numberOf_13 : decode cX1_numberOf 13 = .ok (.bipush 12, 2) := by decide +kernel
theorem dX1_numberOf_15 : decode cX1_numberOf 15 = .ok (.irem, 1) := by decide +kernel
theorem dX1_numberOf_16 : decode cX1_numberOf 16 = .ok (.isub, 1) := by decide +kernel
theorem dX1_numberOf_17 : decode cX1_numberOf 17 = .ok (.bipush 12, 2) := by decide +kernel
theorem dX1_numberOf_19 : decode cX1_numberOf 19 = .ok (.iadd, 1) := by decide +kernel
theorem dX1_numberOf_20 : decode cX1_numberOf 20 = .ok (.bipush 12, 2) := by decide +kernel
theorem dX1_numberOf_22 : decode cX1_numberOf 22 = .ok (.irem, 1) := by decide +kernel
theorem dX1_numberOf_23 : decode cX1_numberOf 23 = .ok (.iadd, 1) := by decide +kernel
theorem dX1_numberOf_24 : decode cX1_numberOf 24 = .ok (.iaload, 1) := by decide +kernel
theorem dX1_numberOf_25 : decode cX1_numberOf 25 = .ok (.ireturn, 1) := by decide +kernel
theorem dX1_fitOf_0 : decode cX1_fitOf 0 = .ok (.iconst 0, 1) := by decide +kernel
theorem dX1_fitOf_1 : decode cX1_fitOf 1 = .ok (.istore_n 3, 1) := by decide +kernel
theorem dX1_fitOf_2 : decode cX1_fitOf 2 = .ok (.iconst 0, 1) := by decide +kernel
theorem dX1_fitOf_3 : decode cX1_fitOf 3 = .ok (.istore 4, 2) := by decide +kernel
theorem dX1_fitOf_5 : decode cX1_fitOf 5 = .ok (.iload 4, 2) := by decide +kernel
theorem dX1_fitOf_7 : decode cX1_fitOf 7 = .ok (.bipush 12, 2) := by decide +kernel
theorem dX1_fitOf_9 : decode cX1_fitOf 9 = .ok (.if_icmp .ge 32, 3) := by decide +kernel
theorem dX1_fitOf_12 : decode cX1_fitOf 12 = .ok (.iload_n 3, 1) := by decide +kernel
theorem dX1_fitOf_13 : decode cX1_fitOf 13 = .ok (.aload_n 0, 1) := by decide +kernel
theorem dX1_fitOf_14 : decode cX1_fitOf 14 = .ok (.getfield 7, 3) := by decide +kernel
theorem dX1_fitOf_17 : decode cX1_fitOf 17 = .ok (.bipush 12, 2) := by decide +kernel
theorem dX1_fitOf_19 : decode cX1_fitOf 19 = .ok (.iload_n 1, 1) := by decide +kernel
theorem dX1_fitOf_20 : decode cX1_fitOf 20 = .ok (.imul, 1) := by decide +kernel
theorem dX1_fitOf_21 : decode cX1_fitOf 21 = .ok (.iload 4, 2) := by decide +kernel
theorem dX1_fitOf_23 : decode cX1_fitOf 23 = .ok (.iadd, 1) := by decide +kernel
theorem dX1_fitOf_24 : decode cX1_fitOf 24 = .ok (.iaload, 1) := by decide +kernel
theorem dX1_fitOf_25 : decode cX1_fitOf 25 = .ok (.aload_n 0, 1) := by decide +kernel
theorem dX1_fitOf_26 : decode cX1_fitOf 26 = .ok (.iload 4, 2) := by decide +kernel
theorem dX1_fitOf_28 : decode cX1_fitOf 28 = .ok (.iload_n 2, 1) := by decide +kernel
theorem dX1_fitOf_29 : decode cX1_fitOf 29 = .ok (.invokevirtual 72, 3) := by decide +kernel
theorem dX1_fitOf_32 : decode cX1_fitOf 32 = .ok (.imul, 1) := by decide +kernel
theorem dX1_fitOf_33 : decode cX1_fitOf 33 = .ok (.iadd, 1) := by decide +kernel
theorem dX1_fitOf_34 : decode cX1_fitOf 34 = .ok (.istore_n 3, 1) := by decide +kernel
theorem dX1_fitOf_35 : decode cX1_fitOf 35 = .ok (.iinc 4 1, 3) := by decide +kernel
theorem dX1_fitOf_38 : decode cX1_fitOf 38 = .ok (.goto (-33), 3) := by decide +kernel
theorem dX1_fitOf_41 : decode cX1_fitOf 41 = .ok (.iload_n 3, 1) := by decide +kernel
theorem dX1_fitOf_42 : decode cX1_fitOf 42 = .ok (.ireturn, 1) := by decide +kernel
theorem dX1_costOf_0 : decode cX1_costOf 0 = .ok (.iconst 0, 1) := by decide +kernel
theorem dX1_costOf_1 : decode cX1_costOf 1 = .ok (.istore_n 3, 1) := by decide +kernel
theorem dX1_costOf_2 : decode cX1_costOf 2 = .ok (.iconst 0, 1) := by decide +kernel
theorem dX1_costOf_3 : decode cX1_costOf 3 = .ok (.istore 4, 2) := by decide +kernel
theorem dX1_costOf_5 : decode cX1_costOf 5 = .ok (.iload 4, 2) := by decide +kernel
theorem dX1_costOf_7 : decode cX1_costOf 7 = .ok (.bipush 24, 2) := by decide +kernel
theorem dX1_costOf_9 : decode cX1_costOf 9 = .ok (.if_icmp .ge 32, 3) := by decide +kernel
theorem dX1_costOf_12 : decode cX1_costOf 12 = .ok (.aload_n 0, 1) := by decide +kernel
theorem dX1_costOf_13 : decode cX1_costOf 13 = .ok (.iload_n 1, 1) := by decide +kernel
theorem dX1_costOf_14 : decode cX1_costOf 14 = .ok (.iload 4, 2) := by decide +kernel
theorem dX1_costOf_16 : decode cX1_costOf 16 = .ok (.invokevirtual 76, 3) := by decide +kernel
theorem dX1_costOf_19 : decode cX1_costOf 19 = .ok (.iload_n 3, 1) := by decide +kernel
theorem dX1_costOf_20 : decode cX1_costOf 20 = .ok (.if_icmp .le 13, 3) := by decide +kernel
theorem dX1_costOf_23 : decode cX1_costOf 23 = .ok (.aload_n 0, 1) := by decide +kernel
theorem dX1_costOf_24 : decode cX1_costOf 24 = .ok (.iload_n 1, 1) := by decide +kernel
theorem dX1_costOf_25 : decode cX1_costOf 25 = .ok (.iload 4, 2) := by decide +kernel
theorem dX1_costOf_27 : decode cX1_costOf 27 = .ok (.invokevirtual 76, 3) := by decide +kernel
theorem dX1_costOf_30 : decode cX1_costOf 30 = .ok (.goto 4, 3) := by decide +kernel
theorem dX1_costOf_33 : decode cX1_costOf 33 = .ok (.iload_n 3, 1) := by decide +kernel
theorem dX1_costOf_34 : decode cX1_costOf 34 = .ok (.istore_n 3, 1) := by decide +kernel
theorem dX1_costOf_35 : decode cX1_costOf 35 = .ok (.iinc 4 1, 3) := by decide +kernel
theorem dX1_costOf_38 : decode cX1_costOf 38 = .ok (.goto (-33), 3) := by decide +kernel
theorem dX1_costOf_41 : decode cX1_costOf 41 = .ok (.iload_n 3, 1) := by decide +kernel
theorem dX1_costOf_42 : decode cX1_costOf 42 = .ok (.aload_n 0, 1) := by decide +kernel
theorem dX1_costOf_43 : decode cX1_costOf 43 = .ok (.iload_n 1, 1) := by decide +kernel
theorem dX1_costOf_44 : decode cX1_costOf 44 = .ok (.iload_n 2, 1) := by decide +kernel
theorem dX1_costOf_45 : decode cX1_costOf 45 = .ok (.invokevirtual 76, 3) := by decide +kernel
theorem dX1_costOf_48 : decode cX1_costOf 48 = .ok (.isub, 1) := by decide +kernel
theorem dX1_costOf_49 : decode cX1_costOf 49 = .ok (.ireturn, 1) := by decide +kernel
theorem dX1_placeOf_0 : decode cX1_placeOf 0 = .ok (.iload_n 0, 1) := by decide +kernel
theorem dX1_placeOf_1 : decode cX1_placeOf 1 = .ok (.bipush 12, 2) := by decide +kernel
theorem dX1_placeOf_3 : decode cX1_placeOf 3 = .ok (.if_icmp .ge 13, 3) := by decide +kernel
theorem dX1_placeOf_6 : decode cX1_placeOf 6 = .ok (.bipush 7, 2) := by decide +kernel
theorem dX1_placeOf_8 : decode cX1_placeOf 8 = .ok (.iload_n 0, 1) := by decide +kernel
theorem dX1_placeOf_9 : decode cX1_placeOf 9 = .ok (.imul, 1) := by decide +kernel
theorem dX1_placeOf_10 : decode cX1_placeOf 10 = .ok (.bipush 12, 2) := by decide +kernel
theorem dX1_placeOf_12 : decode cX1_placeOf 12 = .ok (.irem, 1) := by decide +kernel
theorem dX1_placeOf_13 : decode cX1_placeOf 13 = .ok (.goto 15, 3) := by decide +kernel
theorem dX1_placeOf_16 : decode cX1_placeOf 16 = .ok (.bipush 7, 2) := by decide +kernel
theorem dX1_placeOf_18 : decode cX1_placeOf 18 = .ok (.iload_n 0, 1) := by decide +kernel
theorem dX1_placeOf_19 : decode cX1_placeOf 19 = .ok (.bipush 12, 2) := by decide +kernel
theorem dX1_placeOf_21 : decode cX1_placeOf 21 = .ok (.isub, 1) := by decide +kernel
theorem dX1_placeOf_22 : decode cX1_placeOf 22 = .ok (.iconst 3, 1) := by decide +kernel
theorem dX1_placeOf_23 : decode cX1_placeOf 23 = .ok (.iadd, 1) := by decide +kernel
theorem dX1_placeOf_24 : decode cX1_placeOf 24 = .ok (.imul, 1) := by decide +kernel
theorem dX1_placeOf_25 : decode cX1_placeOf 25 = .ok (.bipush 12, 2) := by decide +kernel
theorem dX1_placeOf_27 : decode cX1_placeOf 27 = .ok (.irem, 1) := by decide +kernel
theorem dX1_placeOf_28 : decode cX1_placeOf 28 = .ok (.ireturn, 1) := by decide +kernel
theorem dX1_turnOf_0 : decode cX1_turnOf 0 = .ok (.iload_n 1, 1) := by decide +kernel
theorem dX1_turnOf_1 : decode cX1_turnOf 1 = .ok (.iload_n 2, 1) := by decide +kernel
theorem dX1_turnOf_2 : decode cX1_turnOf 2 = .ok (.if_icmp .ne 5, 3) := by decide +kernel
theorem dX1_turnOf_5 : decode cX1_turnOf 5 = .ok (.iconst 0, 1) := by decide +kernel
theorem dX1_turnOf_6 : decode cX1_turnOf 6 = .ok (.ireturn, 1) := by decide +kernel
theorem dX1_turnOf_7 : decode cX1_turnOf 7 = .ok (.iload_n 2, 1) := by decide +kernel
theorem dX1_turnOf_8 : decode cX1_turnOf 8 = .ok (.invokestatic 79, 3) := by decide +kernel
theorem dX1_turnOf_11 : decode cX1_turnOf 11 = .ok (.iload_n 1, 1) := by decide +kernel
theorem dX1_turnOf_12 : decode cX1_turnOf 12 = .ok (.invokestatic 79, 3) := by decide +kernel
theorem dX1_turnOf_15 : decode cX1_turnOf 15 = .ok (.isub, 1) := by decide +kernel
theorem dX1_turnOf_16 : decode cX1_turnOf 16 = .ok (.bipush 12, 2) := by decide +kernel
theorem dX1_turnOf_18 : decode cX1_turnOf 18 = .ok (.iadd, 1) := by decide +kernel
theorem dX1_turnOf_19 : decode cX1_turnOf 19 = .ok (.bipush 12, 2) := by decide +kernel
theorem dX1_turnOf_21 : decode cX1_turnOf 21 = .ok (.irem, 1) := by decide +kernel
theorem dX1_turnOf_22 : decode cX1_turnOf 22 = .ok (.istore_n 3, 1) := by decide +kernel
theorem dX1_turnOf_23 : decode cX1_turnOf 23 = .ok (.iload_n 3, 1) := by decide +kernel
theorem dX1_turnOf_24 : decode cX1_turnOf 24 = .ok (.bipush 6, 2) := by decide +kernel
theorem dX1_turnOf_26 : decode cX1_turnOf 26 = .ok (.if_icmp .le 10, 3) := by decide +kernel
theorem dX1_turnOf_29 : decode cX1_turnOf 29 = .ok (.bipush 12, 2) := by decide +kernel
theorem dX1_turnOf_31 : decode cX1_turnOf 31 = .ok (.iload_n 3, 1) := by decide +kernel
theorem dX1_turnOf_32 : decode cX1_turnOf 32 = .ok (.isub, 1) := by decide +kernel
theorem dX1_turnOf_33 : decode cX1_turnOf 33 = .ok (.goto 4, 3) := by decide +kernel
theorem dX1_turnOf_36 : decode cX1_turnOf 36 = .ok (.iload_n 3, 1) := by decide +kernel
theorem dX1_turnOf_37 : decode cX1_turnOf 37 = .ok (.istore_n 3, 1) := by decide +kernel
theorem dX1_turnOf_38 : decode cX1_turnOf 38 = .ok (.aload_n 0, 1) := by decide +kernel
theorem dX1_turnOf_39 : decode cX1_turnOf 39 = .ok (.getfield 42, 3) := by decide +kernel
theorem dX1_turnOf_42 : decode cX1_turnOf 42 = .ok (.aload_n 0, 1) := by decide +kernel
theorem dX1_turnOf_43 : decode cX1_turnOf 43 = .ok (.getfield 45, 3) := by decide +kernel
theorem dX1_turnOf_46 : decode cX1_turnOf 46 = .ok (.iload_n 3, 1) := by decide +kernel
theorem dX1_turnOf_47 : decode cX1_turnOf 47 = .ok (.imul, 1) := by decide +kernel
theorem dX1_turnOf_48 : decode cX1_turnOf 48 = .ok (.iadd, 1) := by decide +kernel
theorem dX1_turnOf_49 : decode cX1_turnOf 49 = .ok (.iload_n 1, 1) := by decide +kernel
theorem dX1_turnOf_50 : decode cX1_turnOf 50 = .ok (.bipush 12, 2) := by decide +kernel
theorem dX1_turnOf_52 : decode cX1_turnOf 52 = .ok (.idiv, 1) := by decide +kernel
theorem dX1_turnOf_53 : decode cX1_turnOf 53 = .ok (.iload_n 2, 1) := by decide +kernel
theorem dX1_turnOf_54 : decode cX1_turnOf 54 = .ok (.bipush 12, 2) := by decide +kernel
theorem dX1_turnOf_56 : decode cX1_turnOf 56 = .ok (.idiv, 1) := by decide +kernel
theorem dX1_turnOf_57 : decode cX1_turnOf 57 = .ok (.if_icmp .ne 7, 3) := by decide +kernel
theorem dX1_turnOf_60 : decode cX1_turnOf 60 = .ok (.iconst 0, 1) := by decide +kernel
theorem dX1_turnOf_61 : decode cX1_turnOf 61 = .ok (.goto 7, 3) := by decide +kernel
theorem dX1_turnOf_64 : decode cX1_turnOf 64 = .ok (.aload_n 0, 1) := by decide +kernel
theorem dX1_turnOf_65 : decode cX1_turnOf 65 = .ok (.getfield 48, 3) := by decide +kernel
theorem dX1_turnOf_68 : decode cX1_turnOf 68 = .ok (.iadd, 1) := by decide +kernel
theorem dX1_turnOf_69 : decode cX1_turnOf 69 = .ok (.ireturn, 1) := by decide +kernel
theorem dX1_fit_0 : decode cX1_fit 0 = .ok (.aload_n 0, 1) := by decide +kernel
theorem dX1_fit_1 : decode cX1_fit 1 = .ok (.aload_n 0, 1) := by decide +kernel
theorem dX1_fit_2 : decode cX1_fit 2 = .ok (.iload_n 1, 1) := by decide +kernel
theorem dX1_fit_3 : decode cX1_fit 3 = .ok (.invokevirtual 67, 3) := by decide +kernel
theorem dX1_fit_6 : decode cX1_fit 6 = .ok (.ifCond .eq 14, 3) := by decide +kernel
theorem dX1_fit_9 : decode cX1_fit 9 = .ok (.iload_n 2, 1) := by decide +kernel
theorem dX1_fit_10 : decode cX1_fit 10 = .ok (.invokestatic 83, 3) := by decide +kernel
theorem dX1_fit_13 : decode cX1_fit 13 = .ok (.ifCond .eq 7, 3) := by decide +kernel
theorem dX1_fit_16 : decode cX1_fit 16 = .ok (.iconst 0, 1) := by decide +kernel
theorem dX1_fit_17 : decode cX1_fit 17 = .ok (.goto 4, 3) := by decide +kernel
theorem dX1_fit_20 : decode cX1_fit 20 = .ok (.iconst 1, 1) := by decide +kernel
theorem dX1_fit_21 : decode cX1_fit 21 = .ok (.invokevirtual 61, 3) := by decide +kernel
theorem dX1_fit_24 : decode cX1_fit 24 = .ok (.ifCond .eq 12, 3) := by decide +kernel
theorem dX1_fit_27 : decode cX1_fit 27 = .ok (.aload_n 0, 1) := by decide +kernel
theorem dX1_fit_28 : decode cX1_fit 28 = .ok (.iload_n 1, 1) := by decide +kernel
theorem dX1_fit_29 : decode cX1_fit 29 = .ok (.iload_n 2, 1) := by decide +kernel
theorem dX1_fit_30 : decode cX1_fit 30 = .ok (.invokevirtual 76, 3) := by decide +kernel
theorem dX1_fit_33 : decode cX1_fit 33 = .ok (.goto 4, 3) := by decide +kernel
theorem dX1_fit_36 : decode cX1_fit 36 = .ok (.iconst 0, 1) := by decide +kernel
theorem dX1_fit_37 : decode cX1_fit 37 = .ok (.ireturn, 1) := by decide +kernel
theorem dX1_cost_0 : decode cX1_cost 0 = .ok (.aload_n 0, 1) := by decide +kernel
theorem dX1_cost_1 : decode cX1_cost 1 = .ok (.aload_n 0, 1) := by decide +kernel
theorem dX1_cost_2 : decode cX1_cost 2 = .ok (.iload_n 1, 1) := by decide +kernel
theorem dX1_cost_3 : decode cX1_cost 3 = .ok (.invokevirtual 67, 3) := by decide +kernel
theorem dX1_cost_6 : decode cX1_cost 6 = .ok (.ifCond .eq 14, 3) := by decide +kernel
theorem dX1_cost_9 : decode cX1_cost 9 = .ok (.iload_n 2, 1) := by decide +kernel
theorem dX1_cost_10 : decode cX1_cost 10 = .ok (.invokestatic 83, 3) := by decide +kernel
theorem dX1_cost_13 : decode cX1_cost 13 = .ok (.ifCond .eq 7, 3) := by decide +kernel
theorem dX1_cost_16 : decode cX1_cost 16 = .ok (.iconst 0, 1) := by decide +kernel
theorem dX1_cost_17 : decode cX1_cost 17 = .ok (.goto 4, 3) := by decide +kernel
theorem dX1_cost_20 : decode cX1_cost 20 = .ok (.iconst 1, 1) := by decide +kernel
theorem dX1_cost_21 : decode cX1_cost 21 = .ok (.invokevirtual 61, 3) := by decide +kernel
theorem dX1_cost_24 : decode cX1_cost 24 = .ok (.ifCond .eq 12, 3) := by decide +kernel
theorem dX1_cost_27 : decode cX1_cost 27 = .ok (.aload_n 0, 1) := by decide +kernel
theorem dX1_cost_28 : decode cX1_cost 28 = .ok (.iload_n 1, 1) := by decide +kernel
theorem dX1_cost_29 : decode cX1_cost 29 = .ok (.iload_n 2, 1) := by decide +kernel
theorem dX1_cost_30 : decode cX1_cost 30 = .ok (.invokevirtual 86, 3) := by decide +kernel
theorem dX1_cost_33 : decode cX1_cost 33 = .ok (.goto 4, 3) := by decide +kernel
theorem dX1_cost_36 : decode cX1_cost 36 = .ok (.iconst 0, 1) := by decide +kernel
theorem dX1_cost_37 : decode cX1_cost 37 = .ok (.ireturn, 1) := by decide +kernel
theorem dX1_turn_0 : decode cX1_turn 0 = .ok (.aload_n 0, 1) := by decide +kernel
theorem dX1_turn_1 : decode cX1_turn 1 = .ok (.iload_n 1, 1) := by decide +kernel
theorem dX1_turn_2 : decode cX1_turn 2 = .ok (.invokestatic 83, 3) := by decide +kernel
theorem dX1_turn_5 : decode cX1_turn 5 = .ok (.ifCond .eq 14, 3) := by decide +kernel
theorem dX1_turn_8 : decode cX1_turn 8 = .ok (.iload_n 2, 1) := by decide +kernel
theorem dX1_turn_9 : decode cX1_turn 9 = .ok (.invokestatic 83, 3) := by decide +kernel
theorem dX1_turn_12 : decode cX1_turn 12 = .ok (.ifCond .eq 7, 3) := by decide +kernel
theorem dX1_turn_15 : decode cX1_turn 15 = .ok (.iconst 0, 1) := by decide +kernel
theorem dX1_turn_16 : decode cX1_turn 16 = .ok (.goto 4, 3) := by decide +kernel
theorem dX1_turn_19 : decode cX1_turn 19 = .ok (.iconst 1, 1) := by decide +kernel
theorem dX1_turn_20 : decode cX1_turn 20 = .ok (.invokevirtual 61, 3) := by decide +kernel
theorem dX1_turn_23 : decode cX1_turn 23 = .ok (.ifCond .eq 12, 3) := by decide +kernel
theorem dX1_turn_26 : decode cX1_turn 26 = .ok (.aload_n 0, 1) := by decide +kernel
theorem dX1_turn_27 : decode cX1_turn 27 = .ok (.iload_n 1, 1) := by decide +kernel
theorem dX1_turn_28 : decode cX1_turn 28 = .ok (.iload_n 2, 1) := by decide +kernel
theorem dX1_turn_29 : decode cX1_turn 29 = .ok (.invokevirtual 89, 3) := by decide +kernel
theorem dX1_turn_32 : decode cX1_turn 32 = .ok (.goto 4, 3) := by decide +kernel
theorem dX1_turn_35 : decode cX1_turn 35 = .ok (.iconst 0, 1) := by decide +kernel
theorem dX1_turn_36 : decode cX1_turn 36 = .ok (.ireturn, 1) := by decide +kernel
theorem dX1_lay_0 : decode cX1_lay 0 = .ok (.iconst 0, 1) := by decide +kernel
theorem dX1_lay_1 : decode cX1_lay 1 = .ok (.istore_n 1, 1) := by decide +kernel
theorem dX1_lay_2 : decode cX1_lay 2 = .ok (.iload_n 1, 1) := by decide +kernel
theorem dX1_lay_3 : decode cX1_lay 3 = .ok (.sipush 576, 3) := by decide +kernel
theorem dX1_lay_6 : decode cX1_lay 6 = .ok (.if_icmp .ge 27, 3) := by decide +kernel
theorem dX1_lay_9 : decode cX1_lay 9 = .ok (.aload_n 0, 1) := by decide +kernel
theorem dX1_lay_10 : decode cX1_lay 10 = .ok (.getfield 23, 3) := by decide +kernel
theorem dX1_lay_13 : decode cX1_lay 13 = .ok (.iload_n 1, 1) := by decide +kernel
theorem dX1_lay_14 : decode cX1_lay 14 = .ok (.aload_n 0, 1) := by decide +kernel
theorem dX1_lay_15 : decode cX1_lay 15 = .ok (.iload_n 1, 1) := by decide +kernel
theorem dX1_lay_16 : decode cX1_lay 16 = .ok (.bipush 24, 2) := by decide +kernel
theorem dX1_lay_18 : decode cX1_lay 18 = .ok (.idiv, 1) := by decide +kernel
theorem dX1_lay_19 : decode cX1_lay 19 = .ok (.iload_n 1, 1) := by decide +kernel
theorem dX1_lay_20 : decode cX1_lay 20 = .ok (.bipush 24, 2) := by decide +kernel
theorem dX1_lay_22 : decode cX1_lay 22 = .ok (.irem, 1) := by decide +kernel
theorem dX1_lay_23 : decode cX1_lay 23 = .ok (.invokevirtual 89, 3) := by decide +kernel
theorem dX1_lay_26 : decode cX1_lay 26 = .ok (.iastore, 1) := by decide +kernel
theorem dX1_lay_27 : decode cX1_lay 27 = .ok (.iinc 1 1, 3) := by decide +kernel
theorem dX1_lay_30 : decode cX1_lay 30 = .ok (.goto (-28), 3) := by decide +kernel
theorem dX1_lay_33 : decode cX1_lay 33 = .ok (.iconst 0, 1) := by decide +kernel
theorem dX1_lay_34 : decode cX1_lay 34 = .ok (.istore_n 1, 1) := by decide +kernel
theorem dX1_lay_35 : decode cX1_lay 35 = .ok (.iload_n 1, 1) := by decide +kernel
theorem dX1_lay_36 : decode cX1_lay 36 = .ok (.aload_n 0, 1) := by decide +kernel
theorem dX1_lay_37 : decode cX1_lay 37 = .ok (.getfield 39, 3) := by decide +kernel
theorem dX1_lay_40 : decode cX1_lay 40 = .ok (.if_icmp .ge 111, 3) := by decide +kernel
theorem dX1_lay_43 : decode cX1_lay 43 = .ok (.iconst 0, 1) := by decide +kernel
theorem dX1_lay_44 : decode cX1_lay 44 = .ok (.istore_n 2, 1) := by decide +kernel
theorem dX1_lay_45 : decode cX1_lay 45 = .ok (.iconst 0, 1) := by decide +kernel
theorem dX1_lay_46 : decode cX1_lay 46 = .ok (.istore_n 3, 1) := by decide +kernel
theorem dX1_lay_47 : decode cX1_lay 47 = .ok (.iload_n 3, 1) := by decide +kernel
theorem dX1_lay_48 : decode cX1_lay 48 = .ok (.bipush 24, 2) := by decide +kernel
theorem dX1_lay_50 : decode cX1_lay 50 = .ok (.if_icmp .ge 57, 3) := by decide +kernel
theorem dX1_lay_53 : decode cX1_lay 53 = .ok (.aload_n 0, 1) := by decide +kernel
theorem dX1_lay_54 : decode cX1_lay 54 = .ok (.getfield 26, 3) := by decide +kernel
theorem dX1_lay_57 : decode cX1_lay 57 = .ok (.bipush 24, 2) := by decide +kernel
theorem dX1_lay_59 : decode cX1_lay 59 = .ok (.iload_n 1, 1) := by decide +kernel
theorem dX1_lay_60 : decode cX1_lay 60 = .ok (.imul, 1) := by decide +kernel
theorem dX1_lay_61 : decode cX1_lay 61 = .ok (.iload_n 3, 1) := by decide +kernel
theorem dX1_lay_62 : decode cX1_lay 62 = .ok (.iadd, 1) := by decide +kernel
theorem dX1_lay_63 : decode cX1_lay 63 = .ok (.aload_n 0, 1) := by decide +kernel
theorem dX1_lay_64 : decode cX1_lay 64 = .ok (.iload_n 1, 1) := by decide +kernel
theorem dX1_lay_65 : decode cX1_lay 65 = .ok (.iload_n 3, 1) := by decide +kernel
theorem dX1_lay_66 : decode cX1_lay 66 = .ok (.invokevirtual 76, 3) := by decide +kernel
theorem dX1_lay_69 : decode cX1_lay 69 = .ok (.iastore, 1) := by decide +kernel
theorem dX1_lay_70 : decode cX1_lay 70 = .ok (.aload_n 0, 1) := by decide +kernel
theorem dX1_lay_71 : decode cX1_lay 71 = .ok (.getfield 26, 3) := by decide +kernel
theorem dX1_lay_74 : decode cX1_lay 74 = .ok (.bipush 24, 2) := by decide +kernel
theorem dX1_lay_76 : decode cX1_lay 76 = .ok (.iload_n 1, 1) := by decide +kernel
theorem dX1_lay_77 : decode cX1_lay 77 = .ok (.imul, 1) := by decide +kernel
theorem dX1_lay_78 : decode cX1_lay 78 = .ok (.iload_n 3, 1) := by decide +kernel
theorem dX1_lay_79 : decode cX1_lay 79 = .ok (.iadd, 1) := by decide +kernel
theorem dX1_lay_80 : decode cX1_lay 80 = .ok (.iaload, 1) := by decide +kernel
theorem dX1_lay_81 : decode cX1_lay 81 = .ok (.iload_n 2, 1) := by decide +kernel
theorem dX1_lay_82 : decode cX1_lay 82 = .ok (.if_icmp .le 17, 3) := by decide +kernel
theorem dX1_lay_85 : decode cX1_lay 85 = .ok (.aload_n 0, 1) := by decide +kernel
theorem dX1_lay_86 : decode cX1_lay 86 = .ok (.getfield 26, 3) := by decide +kernel
theorem dX1_lay_89 : decode cX1_lay 89 = .ok (.bipush 24, 2) := by decide +kernel
theorem dX1_lay_91 : decode cX1_lay 91 = .ok (.iload_n 1, 1) := by decide +kernel
theorem dX1_lay_92 : decode cX1_lay 92 = .ok (.imul, 1) := by decide +kernel
theorem dX1_lay_93 : decode cX1_lay 93 = .ok (.iload_n 3, 1) := by decide +kernel
theorem dX1_lay_94 : decode cX1_lay 94 = .ok (.iadd, 1) := by decide +kernel
theorem dX1_lay_95 : decode cX1_lay 95 = .ok (.iaload, 1) := by decide +kernel
theorem dX1_lay_96 : decode cX1_lay 96 = .ok (.goto 4, 3) := by decide +kernel
theorem dX1_lay_99 : decode cX1_lay 99 = .ok (.iload_n 2, 1) := by decide +kernel
theorem dX1_lay_100 : decode cX1_lay 100 = .ok (.istore_n 2, 1) := by decide +kernel
theorem dX1_lay_101 : decode cX1_lay 101 = .ok (.iinc 3 1, 3) := by decide +kernel
theorem dX1_lay_104 : decode cX1_lay 104 = .ok (.goto (-57), 3) := by decide +kernel
theorem dX1_lay_107 : decode cX1_lay 107 = .ok (.iconst 0, 1) := by decide +kernel
theorem dX1_lay_108 : decode cX1_lay 108 = .ok (.istore_n 3, 1) := by decide +kernel
theorem dX1_lay_109 : decode cX1_lay 109 = .ok (.iload_n 3, 1) := by decide +kernel
theorem dX1_lay_110 : decode cX1_lay 110 = .ok (.bipush 24, 2) := by decide +kernel
theorem dX1_lay_112 : decode cX1_lay 112 = .ok (.if_icmp .ge 33, 3) := by decide +kernel
theorem dX1_lay_115 : decode cX1_lay 115 = .ok (.aload_n 0, 1) := by decide +kernel
theorem dX1_lay_116 : decode cX1_lay 116 = .ok (.getfield 26, 3) := by decide +kernel
theorem dX1_lay_119 : decode cX1_lay 119 = .ok (.bipush 24, 2) := by decide +kernel
theorem dX1_lay_121 : decode cX1_lay 121 = .ok (.iload_n 1, 1) := by decide +kernel
theorem dX1_lay_122 : decode cX1_lay 122 = .ok (.imul, 1) := by decide +kernel
theorem dX1_lay_123 : decode cX1_lay 123 = .ok (.iload_n 3, 1) := by decide +kernel
theorem dX1_lay_124 : decode cX1_lay 124 = .ok (.iadd, 1) := by decide +kernel
theorem dX1_lay_125 : decode cX1_lay 125 = .ok (.iload_n 2, 1) := by decide +kernel
theorem dX1_lay_126 : decode cX1_lay 126 = .ok (.aload_n 0, 1) := by decide +kernel
theorem dX1_lay_127 : decode cX1_lay 127 = .ok (.getfield 26, 3) := by decide +kernel
theorem dX1_lay_130 : decode cX1_lay 130 = .ok (.bipush 24, 2) := by decide +kernel
theorem dX1_lay_132 : decode cX1_lay 132 = .ok (.iload_n 1, 1) := by decide +kernel
theorem dX1_lay_133 : decode cX1_lay 133 = .ok (.imul, 1) := by decide +kernel
theorem dX1_lay_134 : decode cX1_lay 134 = .ok (.iload_n 3, 1) := by decide +kernel
theorem dX1_lay_135 : decode cX1_lay 135 = .ok (.iadd, 1) := by decide +kernel
theorem dX1_lay_136 : decode cX1_lay 136 = .ok (.iaload, 1) := by decide +kernel
theorem dX1_lay_137 : decode cX1_lay 137 = .ok (.isub, 1) := by decide +kernel
theorem dX1_lay_138 : decode cX1_lay 138 = .ok (.iastore, 1) := by decide +kernel
theorem dX1_lay_139 : decode cX1_lay 139 = .ok (.iinc 3 1, 3) := by decide +kernel
theorem dX1_lay_142 : decode cX1_lay 142 = .ok (.goto (-33), 3) := by decide +kernel
theorem dX1_lay_145 : decode cX1_lay 145 = .ok (.iinc 1 1, 3) := by decide +kernel
theorem dX1_lay_148 : decode cX1_lay 148 = .ok (.goto (-113), 3) := by decide +kernel
theorem dX1_lay_151 : decode cX1_lay 151 = .ok (.return_, 1) := by decide +kernel
theorem dX1_weigh_0 : decode cX1_weigh 0 = .ok (.aload_n 0, 1) := by decide +kernel
theorem dX1_weigh_1 : decode cX1_weigh 1 = .ok (.getfield 39, 3) := by decide +kernel
theorem dX1_weigh_4 : decode cX1_weigh 4 = .ok (.iconst 1, 1) := by decide +kernel
theorem dX1_weigh_5 : decode cX1_weigh 5 = .ok (.isub, 1) := by decide +kernel
theorem dX1_weigh_6 : decode cX1_weigh 6 = .ok (.istore_n 3, 1) := by decide +kernel
theorem dX1_weigh_7 : decode cX1_weigh 7 = .ok (.iload_n 3, 1) := by decide +kernel
theorem dX1_weigh_8 : decode cX1_weigh 8 = .ok (.ifCond .lt 336, 3) := by decide +kernel
theorem dX1_weigh_11 : decode cX1_weigh 11 = .ok (.iconst 0, 1) := by decide +kernel
theorem dX1_weigh_12 : decode cX1_weigh 12 = .ok (.istore 4, 2) := by decide +kernel
theorem dX1_weigh_14 : decode cX1_weigh 14 = .ok (.iload 4, 2) := by decide +kernel
theorem dX1_weigh_16 : decode cX1_weigh 16 = .ok (.bipush 24, 2) := by decide +kernel
theorem dX1_weigh_18 : decode cX1_weigh 18 = .ok (.if_icmp .ge 320, 3) := by decide +kernel
theorem dX1_weigh_21 : decode cX1_weigh 21 = .ok (.bipush 24, 2) := by decide +kernel
theorem dX1_weigh_23 : decode cX1_weigh 23 = .ok (.iload_n 3, 1) := by decide +kernel
theorem dX1_weigh_24 : decode cX1_weigh 24 = .ok (.imul, 1) := by decide +kernel
theorem dX1_weigh_25 : decode cX1_weigh 25 = .ok (.iload 4, 2) := by decide +kernel
theorem dX1_weigh_27 : decode cX1_weigh 27 = .ok (.iadd, 1) := by decide +kernel
theorem dX1_weigh_28 : decode cX1_weigh 28 = .ok (.istore 5, 2) := by decide +kernel
theorem dX1_weigh_30 : decode cX1_weigh 30 = .ok (.aload_n 0, 1) := by decide +kernel
theorem dX1_weigh_31 : decode cX1_weigh 31 = .ok (.getfield 16, 3) := by decide +kernel
theorem dX1_weigh_34 : decode cX1_weigh 34 = .ok (.iload 5, 2) := by decide +kernel
theorem dX1_weigh_36 : decode cX1_weigh 36 = .ok (.iload_n 3, 1) := by decide +kernel
theorem dX1_weigh_37 : decode cX1_weigh 37 = .ok (.aload_n 0, 1) := by decide +kernel
theorem dX1_weigh_38 : decode cX1_weigh 38 = .ok (.getfield 39, 3) := by decide +kernel
theorem dX1_weigh_41 : decode cX1_weigh 41 = .ok (.iconst 1, 1) := by decide +kernel
theorem dX1_weigh_42 : decode cX1_weigh 42 = .ok (.isub, 1) := by decide +kernel
theorem dX1_weigh_43 : decode cX1_weigh 43 = .ok (.if_icmp .ne 7, 3) := by decide +kernel
theorem dX1_weigh_46 : decode cX1_weigh 46 = .ok (.iconst 0, 1) := by decide +kernel
theorem dX1_weigh_47 : decode cX1_weigh 47 = .ok (.goto 5, 3) := by decide +kernel
theorem dX1_weigh_50 : decode cX1_weigh 50 = .ok (.ldc 92, 2) := by decide +kernel
theorem dX1_weigh_52 : decode cX1_weigh 52 = .ok (.iastore, 1) := by decide +kernel
theorem dX1_weigh_53 : decode cX1_weigh 53 = .ok (.aload_n 0, 1) := by decide +kernel
theorem dX1_weigh_54 : decode cX1_weigh 54 = .ok (.getfield 19, 3) := by decide +kernel
theorem dX1_weigh_57 : decode cX1_weigh 57 = .ok (.iload 5, 2) := by decide +kernel
theorem dX1_weigh_59 : decode cX1_weigh 59 = .ok (.iload_n 3, 1) := by decide +kernel
theorem dX1_weigh_60 : decode cX1_weigh 60 = .ok (.aload_n 0, 1) := by decide +kernel
theorem dX1_weigh_61 : decode cX1_weigh 61 = .ok (.getfield 39, 3) := by decide +kernel
theorem dX1_weigh_64 : decode cX1_weigh 64 = .ok (.iconst 1, 1) := by decide +kernel
theorem dX1_weigh_65 : decode cX1_weigh 65 = .ok (.isub, 1) := by decide +kernel
theorem dX1_weigh_66 : decode cX1_weigh 66 = .ok (.if_icmp .ne 7, 3) := by decide +kernel
theorem dX1_weigh_69 : decode cX1_weigh 69 = .ok (.lconst 1, 1) := by decide +kernel
theorem dX1_weigh_70 : decode cX1_weigh 70 = .ok (.goto 4, 3) := by decide +kernel
theorem dX1_weigh_73 : decode cX1_weigh 73 = .ok (.lconst 0, 1) := by decide +kernel
theorem dX1_weigh_74 : decode cX1_weigh 74 = .ok (.lastore, 1) := by decide +kernel
theorem dX1_weigh_75 : decode cX1_weigh 75 = .ok (.iconst 0, 1) := by decide +kernel
theorem dX1_weigh_76 : decode cX1_weigh 76 = .ok (.istore 6, 2) := by decide +kernel
theorem dX1_weigh_78 : decode cX1_weigh 78 = .ok (.iload 6, 2) := by decide +kernel
theorem dX1_weigh_80 : decode cX1_weigh 80 = .ok (.bipush 24, 2) := by decide +kernel
theorem dX1_weigh_82 : decode cX1_weigh 82 = .ok (.if_icmp .ge 173, 3) := by decide +kernel
theorem dX1_weigh_85 : decode cX1_weigh 85 = .ok (.iload_n 3, 1) := by decide +kernel
theorem dX1_weigh_86 : decode cX1_weigh 86 = .ok (.aload_n 0, 1) := by decide +kernel
theorem dX1_weigh_87 : decode cX1_weigh 87 = .ok (.getfield 39, 3) := by decide +kernel
theorem dX1_weigh_90 : decode cX1_weigh 90 = .ok (.iconst 1, 1) := by decide +kernel
theorem dX1_weigh_91 : decode cX1_weigh 91 = .ok (.isub, 1) := by decide +kernel
theorem dX1_weigh_92 : decode cX1_weigh 92 = .ok (.if_icmp .ge 163, 3) := by decide +kernel
theorem dX1_weigh_95 : decode cX1_weigh 95 = .ok (.aload_n 0, 1) := by decide +kernel
theorem dX1_weigh_96 : decode cX1_weigh 96 = .ok (.getfield 23, 3) := by decide +kernel
theorem dX1_weigh_99 : decode cX1_weigh 99 = .ok (.bipush 24, 2) := by decide +kernel
theorem dX1_weigh_101 : decode cX1_weigh 101 = .ok (.iload 4, 2) := by decide +kernel
theorem dX1_weigh_103 : decode cX1_weigh 103 = .ok (.imul, 1) := by decide +kernel
theorem dX1_weigh_104 : decode cX1_weigh 104 = .ok (.iload 6, 2) := by decide +kernel
theorem dX1_weigh_106 : decode cX1_weigh 106 = .ok (.iadd, 1) := by decide +kernel
theorem dX1_weigh_107 : decode cX1_weigh 107 = .ok (.iaload, 1) := by decide +kernel
theorem dX1_weigh_108 : decode cX1_weigh 108 = .ok (.aload_n 0, 1) := by decide +kernel
theorem dX1_weigh_109 : decode cX1_weigh 109 = .ok (.getfield 16, 3) := by decide +kernel
theorem dX1_weigh_112 : decode cX1_weigh 112 = .ok (.iload 5, 2) := by decide +kernel
theorem dX1_weigh_114 : decode cX1_weigh 114 = .ok (.iload 4, 2) := by decide +kernel
theorem dX1_weigh_116 : decode cX1_weigh 116 = .ok (.isub, 1) := by decide +kernel
theorem dX1_weigh_117 : decode cX1_weigh 117 = .ok (.bipush 24, 2) := by decide +kernel
theorem dX1_weigh_119 : decode cX1_weigh 119 = .ok (.iadd, 1) := by decide +kernel
theorem dX1_weigh_120 : decode cX1_weigh 120 = .ok (.iload 6, 2) := by decide +kernel
theorem dX1_weigh_122 : decode cX1_weigh 122 = .ok (.iadd, 1) := by decide +kernel
theorem dX1_weigh_123 : decode cX1_weigh 123 = .ok (.iaload, 1) := by decide +kernel
theorem dX1_weigh_124 : decode cX1_weigh 124 = .ok (.iadd, 1) := by decide +kernel
theorem dX1_weigh_125 : decode cX1_weigh 125 = .ok (.istore 7, 2) := by decide +kernel
theorem dX1_weigh_127 : decode cX1_weigh 127 = .ok (.iload 7, 2) := by decide +kernel
theorem dX1_weigh_129 : decode cX1_weigh 129 = .ok (.aload_n 0, 1) := by decide +kernel
theorem dX1_weigh_130 : decode cX1_weigh 130 = .ok (.getfield 16, 3) := by decide +kernel
theorem dX1_weigh_133 : decode cX1_weigh 133 = .ok (.iload 5, 2) := by decide +kernel
theorem dX1_weigh_135 : decode cX1_weigh 135 = .ok (.iaload, 1) := by decide +kernel
theorem dX1_weigh_136 : decode cX1_weigh 136 = .ok (.if_icmp .le 7, 3) := by decide +kernel
theorem dX1_weigh_139 : decode cX1_weigh 139 = .ok (.lconst 0, 1) := by decide +kernel
theorem dX1_weigh_140 : decode cX1_weigh 140 = .ok (.goto 19, 3) := by decide +kernel
theorem dX1_weigh_143 : decode cX1_weigh 143 = .ok (.aload_n 0, 1) := by decide +kernel
theorem dX1_weigh_144 : decode cX1_weigh 144 = .ok (.getfield 19, 3) := by decide +kernel
theorem dX1_weigh_147 : decode cX1_weigh 147 = .ok (.iload 5, 2) := by decide +kernel
theorem dX1_weigh_149 : decode cX1_weigh 149 = .ok (.iload 4, 2) := by decide +kernel
theorem dX1_weigh_151 : decode cX1_weigh 151 = .ok (.isub, 1) := by decide +kernel
theorem dX1_weigh_152 : decode cX1_weigh 152 = .ok (.bipush 24, 2) := by decide +kernel
theorem dX1_weigh_154 : decode cX1_weigh 154 = .ok (.iadd, 1) := by decide +kernel
theorem dX1_weigh_155 : decode cX1_weigh 155 = .ok (.iload 6, 2) := by decide +kernel
theorem dX1_weigh_157 : decode cX1_weigh 157 = .ok (.iadd, 1) := by decide +kernel
theorem dX1_weigh_158 : decode cX1_weigh 158 = .ok (.laload, 1) := by decide +kernel
theorem dX1_weigh_159 : decode cX1_weigh 159 = .ok (.lstore 8, 2) := by decide +kernel
theorem dX1_weigh_161 : decode cX1_weigh 161 = .ok (.aload_n 0, 1) := by decide +kernel
theorem dX1_weigh_162 : decode cX1_weigh 162 = .ok (.getfield 19, 3) := by decide +kernel
theorem dX1_weigh_165 : decode cX1_weigh 165 = .ok (.iload 5, 2) := by decide +kernel
theorem dX1_weigh_167 : decode cX1_weigh 167 = .ok (.iload 7, 2) := by decide +kernel
theorem dX1_weigh_169 : decode cX1_weigh 169 = .ok (.aload_n 0, 1) := by decide +kernel
theorem dX1_weigh_170 : decode cX1_weigh 170 = .ok (.getfield 16, 3) := by decide +kernel
theorem dX1_weigh_173 : decode cX1_weigh 173 = .ok (.iload 5, 2) := by decide +kernel
theorem dX1_weigh_175 : decode cX1_weigh 175 = .ok (.iaload, 1) := by decide +kernel
theorem dX1_weigh_176 : decode cX1_weigh 176 = .ok (.if_icmp .ge 8, 3) := by decide +kernel
theorem dX1_weigh_179 : decode cX1_weigh 179 = .ok (.lload 8, 2) := by decide +kernel
theorem dX1_weigh_181 : decode cX1_weigh 181 = .ok (.goto 36, 3) := by decide +kernel
theorem dX1_weigh_184 : decode cX1_weigh 184 = .ok (.aload_n 0, 1) := by decide +kernel
theorem dX1_weigh_185 : decode cX1_weigh 185 = .ok (.getfield 19, 3) := by decide +kernel
theorem dX1_weigh_188 : decode cX1_weigh 188 = .ok (.iload 5, 2) := by decide +kernel
theorem dX1_weigh_190 : decode cX1_weigh 190 = .ok (.laload, 1) := by decide +kernel
theorem dX1_weigh_191 : decode cX1_weigh 191 = .ok (.lload 8, 2) := by decide +kernel
theorem dX1_weigh_193 : decode cX1_weigh 193 = .ok (.ladd, 1) := by decide +kernel
theorem dX1_weigh_194 : decode cX1_weigh 194 = .ok (.ldc2_w 93, 3) := by decide +kernel
theorem dX1_weigh_197 : decode cX1_weigh 197 = .ok (.lcmp, 1) := by decide +kernel
theorem dX1_weigh_198 : decode cX1_weigh 198 = .ok (.ifCond .le 9, 3) := by decide +kernel
theorem dX1_weigh_201 : decode cX1_weigh 201 = .ok (.ldc2_w 93, 3) := by decide +kernel
theorem dX1_weigh_204 : decode cX1_weigh 204 = .ok (.goto 13, 3) := by decide +kernel
theorem dX1_weigh_207 : decode cX1_weigh 207 = .ok (.aload_n 0, 1) := by decide +kernel
theorem dX1_weigh_208 : decode cX1_weigh 208 = .ok (.getfield 19, 3) := by decide +kernel
theorem dX1_weigh_211 : decode cX1_weigh 211 = .ok (.iload 5, 2) := by decide +kernel
theorem dX1_weigh_213 : decode cX1_weigh 213 = .ok (.laload, 1) := by decide +kernel
theorem dX1_weigh_214 : decode cX1_weigh 214 = .ok (.lload 8, 2) := by decide +kernel
theorem dX1_weigh_216 : decode cX1_weigh 216 = .ok (.ladd, 1) := by decide +kernel
theorem dX1_weigh_217 : decode cX1_weigh 217 = .ok (.lastore, 1) := by decide +kernel
theorem dX1_weigh_218 : decode cX1_weigh 218 = .ok (.aload_n 0, 1) := by decide +kernel
theorem dX1_weigh_219 : decode cX1_weigh 219 = .ok (.getfield 16, 3) := by decide +kernel
theorem dX1_weigh_222 : decode cX1_weigh 222 = .ok (.iload 5, 2) := by decide +kernel
theorem dX1_weigh_224 : decode cX1_weigh 224 = .ok (.iload 7, 2) := by decide +kernel
theorem dX1_weigh_226 : decode cX1_weigh 226 = .ok (.aload_n 0, 1) := by decide +kernel
theorem dX1_weigh_227 : decode cX1_weigh 227 = .ok (.getfield 16, 3) := by decide +kernel
theorem dX1_weigh_230 : decode cX1_weigh 230 = .ok (.iload 5, 2) := by decide +kernel
theorem dX1_weigh_232 : decode cX1_weigh 232 = .ok (.iaload, 1) := by decide +kernel
theorem dX1_weigh_233 : decode cX1_weigh 233 = .ok (.if_icmp .ge 8, 3) := by decide +kernel
theorem dX1_weigh_236 : decode cX1_weigh 236 = .ok (.iload 7, 2) := by decide +kernel
theorem dX1_weigh_238 : decode cX1_weigh 238 = .ok (.goto 10, 3) := by decide +kernel
theorem dX1_weigh_241 : decode cX1_weigh 241 = .ok (.aload_n 0, 1) := by decide +kernel
theorem dX1_weigh_242 : decode cX1_weigh 242 = .ok (.getfield 16, 3) := by decide +kernel
theorem dX1_weigh_245 : decode cX1_weigh 245 = .ok (.iload 5, 2) := by decide +kernel
theorem dX1_weigh_247 : decode cX1_weigh 247 = .ok (.iaload, 1) := by decide +kernel
theorem dX1_weigh_248 : decode cX1_weigh 248 = .ok (.iastore, 1) := by decide +kernel
theorem dX1_weigh_249 : decode cX1_weigh 249 = .ok (.iinc 6 1, 3) := by decide +kernel
theorem dX1_weigh_252 : decode cX1_weigh 252 = .ok (.goto (-174), 3) := by decide +kernel
theorem dX1_weigh_255 : decode cX1_weigh 255 = .ok (.iload_n 3, 1) := by decide +kernel
theorem dX1_weigh_256 : decode cX1_weigh 256 = .ok (.iload_n 1, 1) := by decide +kernel
theorem dX1_weigh_257 : decode cX1_weigh 257 = .ok (.if_icmp .ne 13, 3) := by decide +kernel
theorem dX1_weigh_260 : decode cX1_weigh 260 = .ok (.iload_n 2, 1) := by decide +kernel
theorem dX1_weigh_261 : decode cX1_weigh 261 = .ok (.iload 4, 2) := by decide +kernel
theorem dX1_weigh_263 : decode cX1_weigh 263 = .ok (.ishr, 1) := by decide +kernel
theorem dX1_weigh_264 : decode cX1_weigh 264 = .ok (.iconst 1, 1) := by decide +kernel
theorem dX1_weigh_265 : decode cX1_weigh 265 = .ok (.iand, 1) := by decide +kernel
theorem dX1_weigh_266 : decode cX1_weigh 266 = .ok (.iconst 1, 1) := by decide +kernel
theorem dX1_weigh_267 : decode cX1_weigh 267 = .ok (.if_icmp .ne 7, 3) := by decide +kernel
theorem dX1_weigh_270 : decode cX1_weigh 270 = .ok (.iconst 1, 1) := by decide +kernel
theorem dX1_weigh_271 : decode cX1_weigh 271 = .ok (.goto 4, 3) := by decide +kernel
theorem dX1_weigh_274 : decode cX1_weigh 274 = .ok (.iconst 0, 1) := by decide +kernel
theorem dX1_weigh_275 : decode cX1_weigh 275 = .ok (.istore 6, 2) := by decide +kernel
theorem dX1_weigh_277 : decode cX1_weigh 277 = .ok (.aload_n 0, 1) := by decide +kernel
theorem dX1_weigh_278 : decode cX1_weigh 278 = .ok (.getfield 16, 3) := by decide +kernel
theorem dX1_weigh_281 : decode cX1_weigh 281 = .ok (.iload 5, 2) := by decide +kernel
theorem dX1_weigh_283 : decode cX1_weigh 283 = .ok (.iload 6, 2) := by decide +kernel
theorem dX1_weigh_285 : decode cX1_weigh 285 = .ok (.ifCond .eq 21, 3) := by decide +kernel
theorem dX1_weigh_288 : decode cX1_weigh 288 = .ok (.aload_n 0, 1) := by decide +kernel
theorem dX1_weigh_289 : decode cX1_weigh 289 = .ok (.getfield 16, 3) := by decide +kernel
theorem dX1_weigh_292 : decode cX1_weigh 292 = .ok (.iload 5, 2) := by decide +kernel
theorem dX1_weigh_294 : decode cX1_weigh 294 = .ok (.iaload, 1) := by decide +kernel
theorem dX1_weigh_295 : decode cX1_weigh 295 = .ok (.aload_n 0, 1) := by decide +kernel
theorem dX1_weigh_296 : decode cX1_weigh 296 = .ok (.getfield 26, 3) := by decide +kernel
theorem dX1_weigh_299 : decode cX1_weigh 299 = .ok (.iload 5, 2) := by decide +kernel
theorem dX1_weigh_301 : decode cX1_weigh 301 = .ok (.iaload, 1) := by decide +kernel
theorem dX1_weigh_302 : decode cX1_weigh 302 = .ok (.iadd, 1) := by decide +kernel
theorem dX1_weigh_303 : decode cX1_weigh 303 = .ok (.goto 5, 3) := by decide +kernel
theorem dX1_weigh_306 : decode cX1_weigh 306 = .ok (.ldc 92, 2) := by decide +kernel
theorem dX1_weigh_308 : decode cX1_weigh 308 = .ok (.iastore, 1) := by decide +kernel
theorem dX1_weigh_309 : decode cX1_weigh 309 = .ok (.aload_n 0, 1) := by decide +kernel
theorem dX1_weigh_310 : decode cX1_weigh 310 = .ok (.getfield 19, 3) := by decide +kernel
theorem dX1_weigh_313 : decode cX1_weigh 313 = .ok (.iload 5, 2) := by decide +kernel
theorem dX1_weigh_315 : decode cX1_weigh 315 = .ok (.iload 6, 2) := by decide +kernel
theorem dX1_weigh_317 : decode cX1_weigh 317 = .ok (.ifCond .eq 13, 3) := by decide +kernel
theorem dX1_weigh_320 : decode cX1_weigh 320 = .ok (.aload_n 0, 1) := by decide +kernel
theorem dX1_weigh_321 : decode cX1_weigh 321 = .ok (.getfield 19, 3) := by decide +kernel
theorem dX1_weigh_324 : decode cX1_weigh 324 = .ok (.iload 5, 2) := by decide +kernel
theorem dX1_weigh_326 : decode cX1_weigh 326 = .ok (.laload, 1) := by decide +kernel
theorem dX1_weigh_327 : decode cX1_weigh 327 = .ok (.goto 4, 3) := by decide +kernel
theorem dX1_weigh_330 : decode cX1_weigh 330 = .ok (.lconst 0, 1) := by decide +kernel
theorem dX1_weigh_331 : decode cX1_weigh 331 = .ok (.lastore, 1) := by decide +kernel
theorem dX1_weigh_332 : decode cX1_weigh 332 = .ok (.iinc 4 1, 3) := by decide +kernel
theorem dX1_weigh_335 : decode cX1_weigh 335 = .ok (.goto (-321), 3) := by decide +kernel
theorem dX1_weigh_338 : decode cX1_weigh 338 = .ok (.iinc 3 (-1), 3) := by decide +kernel
theorem dX1_weigh_341 : decode cX1_weigh 341 = .ok (.goto (-334), 3) := by decide +kernel
theorem dX1_weigh_344 : decode cX1_weigh 344 = .ok (.aload_n 0, 1) := by decide +kernel
theorem dX1_weigh_345 : decode cX1_weigh 345 = .ok (.getfield 39, 3) := by decide +kernel
theorem dX1_weigh_348 : decode cX1_weigh 348 = .ok (.ifCond .ne 7, 3) := by decide +kernel
theorem dX1_weigh_351 : decode cX1_weigh 351 = .ok (.iconst 0, 1) := by decide +kernel
theorem dX1_weigh_352 : decode cX1_weigh 352 = .ok (.goto 5, 3) := by decide +kernel
theorem dX1_weigh_355 : decode cX1_weigh 355 = .ok (.ldc 92, 2) := by decide +kernel
theorem dX1_weigh_357 : decode cX1_weigh 357 = .ok (.istore_n 3, 1) := by decide +kernel
theorem dX1_weigh_358 : decode cX1_weigh 358 = .ok (.iconst 0, 1) := by decide +kernel
theorem dX1_weigh_359 : decode cX1_weigh 359 = .ok (.istore 4, 2) := by decide +kernel
theorem dX1_weigh_361 : decode cX1_weigh 361 = .ok (.iload 4, 2) := by decide +kernel
theorem dX1_weigh_363 : decode cX1_weigh 363 = .ok (.bipush 24, 2) := by decide +kernel
theorem dX1_weigh_365 : decode cX1_weigh 365 = .ok (.if_icmp .ge 39, 3) := by decide +kernel
theorem dX1_weigh_368 : decode cX1_weigh 368 = .ok (.aload_n 0, 1) := by decide +kernel
theorem dX1_weigh_369 : decode cX1_weigh 369 = .ok (.getfield 39, 3) := by decide +kernel
theorem dX1_weigh_372 : decode cX1_weigh 372 = .ok (.ifCond .le 32, 3) := by decide +kernel
theorem dX1_weigh_375 : decode cX1_weigh 375 = .ok (.aload_n 0, 1) := by decide +kernel
theorem dX1_weigh_376 : decode cX1_weigh 376 = .ok (.getfield 16, 3) := by decide +kernel
theorem dX1_weigh_379 : decode cX1_weigh 379 = .ok (.iload 4, 2) := by decide +kernel
theorem dX1_weigh_381 : decode cX1_weigh 381 = .ok (.iaload, 1) := by decide +kernel
theorem dX1_weigh_382 : decode cX1_weigh 382 = .ok (.iload_n 3, 1) := by decide +kernel
theorem dX1_weigh_383 : decode cX1_weigh 383 = .ok (.if_icmp .ge 13, 3) := by decide +kernel
theorem dX1_weigh_386 : decode cX1_weigh 386 = .ok (.aload_n 0, 1) := by decide +kernel
theorem dX1_weigh_387 : decode cX1_weigh 387 = .ok (.getfield 16, 3) := by decide +kernel
theorem dX1_weigh_390 : decode cX1_weigh 390 = .ok (.iload 4, 2) := by decide +kernel
theorem dX1_weigh_392 : decode cX1_weigh 392 = .ok (.iaload, 1) := by decide +kernel
theorem dX1_weigh_393 : decode cX1_weigh 393 = .ok (.goto 4, 3) := by decide +kernel
theorem dX1_weigh_396 : decode cX1_weigh 396 = .ok (.iload_n 3, 1) := by decide +kernel
theorem dX1_weigh_397 : decode cX1_weigh 397 = .ok (.istore_n 3, 1) := by decide +kernel
theorem dX1_weigh_398 : decode cX1_weigh 398 = .ok (.iinc 4 1, 3) := by decide +kernel
theorem dX1_weigh_401 : decode cX1_weigh 401 = .ok (.goto (-40), 3) := by decide +kernel
theorem dX1_weigh_404 : decode cX1_weigh 404 = .ok (.iload_n 3, 1) := by decide +kernel
theorem dX1_weigh_405 : decode cX1_weigh 405 = .ok (.ireturn, 1) := by decide +kernel
theorem dX1_least_0 : decode cX1_least 0 = .ok (.aload_n 0, 1) := by decide +kernel
theorem dX1_least_1 : decode cX1_least 1 = .ok (.iconst 0, 1) := by decide +kernel
theorem dX1_least_2 : decode cX1_least 2 = .ok (.putfield 35, 3) := by decide +kernel
theorem dX1_least_5 : decode cX1_least 5 = .ok (.aload_n 0, 1) := by decide +kernel
theorem dX1_least_6 : decode cX1_least 6 = .ok (.invokevirtual 95, 3) := by decide +kernel
theorem dX1_least_9 : decode cX1_least 9 = .ok (.aload_n 0, 1) := by decide +kernel
theorem dX1_least_10 : decode cX1_least 10 = .ok (.iconst (-1), 1) := by decide +kernel
theorem dX1_least_11 : decode cX1_least 11 = .ok (.iconst 0, 1) := by decide +kernel
theorem dX1_least_12 : decode cX1_least 12 = .ok (.invokevirtual 98, 3) := by decide +kernel
theorem dX1_least_15 : decode cX1_least 15 = .ok (.ireturn, 1) := by decide +kernel
theorem dX1_count_0 : decode cX1_count 0 = .ok (.aload_n 0, 1) := by decide +kernel
theorem dX1_count_1 : decode cX1_count 1 = .ok (.iconst 0, 1) := by decide +kernel
theorem dX1_count_2 : decode cX1_count 2 = .ok (.putfield 35, 3) := by decide +kernel
theorem dX1_count_5 : decode cX1_count 5 = .ok (.aload_n 0, 1) := by decide +kernel
theorem dX1_count_6 : decode cX1_count 6 = .ok (.invokevirtual 95, 3) := by decide +kernel
theorem dX1_count_9 : decode cX1_count 9 = .ok (.aload_n 0, 1) := by decide +kernel
theorem dX1_count_10 : decode cX1_count 10 = .ok (.iconst (-1), 1) := by decide +kernel
theorem dX1_count_11 : decode cX1_count 11 = .ok (.iconst 0, 1) := by decide +kernel
theorem dX1_count_12 : decode cX1_count 12 = .ok (.invokevirtual 98, 3) := by decide +kernel
theorem dX1_count_15 : decode cX1_count 15 = .ok (.istore_n 1, 1) := by decide +kernel
theorem dX1_count_16 : decode cX1_count 16 = .ok (.aload_n 0, 1) := by decide +kernel
theorem dX1_count_17 : decode cX1_count 17 = .ok (.getfield 39, 3) := by decide +kernel
theorem dX1_count_20 : decode cX1_count 20 = .ok (.ifCond .ne 5, 3) := by decide +kernel
theorem dX1_count_23 : decode cX1_count 23 = .ok (.lconst 1, 1) := by decide +kernel
theorem dX1_count_24 : decode cX1_count 24 = .ok (.lreturn, 1) := by decide +kernel
theorem dX1_count_25 : decode cX1_count 25 = .ok (.lconst 0, 1) := by decide +kernel
theorem dX1_count_26 : decode cX1_count 26 = .ok (.lstore_n 2, 1) := by decide +kernel
theorem dX1_count_27 : decode cX1_count 27 = .ok (.iconst 0, 1) := by decide +kernel
theorem dX1_count_28 : decode cX1_count 28 = .ok (.istore 4, 2) := by decide +kernel
theorem dX1_count_30 : decode cX1_count 30 = .ok (.iload 4, 2) := by decide +kernel
theorem dX1_count_32 : decode cX1_count 32 = .ok (.bipush 24, 2) := by decide +kernel
theorem dX1_count_34 : decode cX1_count 34 = .ok (.if_icmp .ge 50, 3) := by decide +kernel
theorem dX1_count_37 : decode cX1_count 37 = .ok (.lload_n 2, 1) := by decide +kernel
theorem dX1_count_38 : decode cX1_count 38 = .ok (.aload_n 0, 1) := by decide +kernel
theorem dX1_count_39 : decode cX1_count 39 = .ok (.getfield 16, 3) := by decide +kernel
theorem dX1_count_42 : decode cX1_count 42 = .ok (.iload 4, 2) := by decide +kernel
theorem dX1_count_44 : decode cX1_count 44 = .ok (.iaload, 1) := by decide +kernel
theorem dX1_count_45 : decode cX1_count 45 = .ok (.iload_n 1, 1) := by decide +kernel
theorem dX1_count_46 : decode cX1_count 46 = .ok (.if_icmp .ne 13, 3) := by decide +kernel
theorem dX1_count_49 : decode cX1_count 49 = .ok (.aload_n 0, 1) := by decide +kernel
theorem dX1_count_50 : decode cX1_count 50 = .ok (.getfield 19, 3) := by decide +kernel
theorem dX1_count_53 : decode cX1_count 53 = .ok (.iload 4, 2) := by decide +kernel
theorem dX1_count_55 : decode cX1_count 55 = .ok (.laload, 1) := by decide +kernel
theorem dX1_count_56 : decode cX1_count 56 = .ok (.goto 4, 3) := by decide +kernel
theorem dX1_count_59 : decode cX1_count 59 = .ok (.lconst 0, 1) := by decide +kernel
theorem dX1_count_60 : decode cX1_count 60 = .ok (.ladd, 1) := by decide +kernel
theorem dX1_count_61 : decode cX1_count 61 = .ok (.lstore_n 2, 1) := by decide +kernel
theorem dX1_count_62 : decode cX1_count 62 = .ok (.lload_n 2, 1) := by decide +kernel
theorem dX1_count_63 : decode cX1_count 63 = .ok (.ldc2_w 93, 3) := by decide +kernel
theorem dX1_count_66 : decode cX1_count 66 = .ok (.lcmp, 1) := by decide +kernel
theorem dX1_count_67 : decode cX1_count 67 = .ok (.ifCond .le 9, 3) := by decide +kernel
theorem dX1_count_70 : decode cX1_count 70 = .ok (.ldc2_w 93, 3) := by decide +kernel
theorem dX1_count_73 : decode cX1_count 73 = .ok (.goto 4, 3) := by decide +kernel
theorem dX1_count_76 : decode cX1_count 76 = .ok (.lload_n 2, 1) := by decide +kernel
theorem dX1_count_77 : decode cX1_count 77 = .ok (.lstore_n 2, 1) := by decide +kernel
theorem dX1_count_78 : decode cX1_count 78 = .ok (.iinc 4 1, 3) := by decide +kernel
theorem dX1_count_81 : decode cX1_count 81 = .ok (.goto (-51), 3) := by decide +kernel
theorem dX1_count_84 : decode cX1_count 84 = .ok (.lload_n 2, 1) := by decide +kernel
theorem dX1_count_85 : decode cX1_count 85 = .ok (.lreturn, 1) := by decide +kernel
theorem dX1_walkBehind_0 : decode cX1_walkBehind 0 = .ok (.aload_n 0, 1) := by decide +kernel
theorem dX1_walkBehind_1 : decode cX1_walkBehind 1 = .ok (.invokevirtual 95, 3) := by decide +kernel
theorem dX1_walkBehind_4 : decode cX1_walkBehind 4 = .ok (.aload_n 0, 1) := by decide +kernel
theorem dX1_walkBehind_5 : decode cX1_walkBehind 5 = .ok (.iconst (-1), 1) := by decide +kernel
theorem dX1_walkBehind_6 : decode cX1_walkBehind 6 = .ok (.iconst 0, 1) := by decide +kernel
theorem dX1_walkBehind_7 : decode cX1_walkBehind 7 = .ok (.invokevirtual 98, 3) := by decide +kernel
theorem dX1_walkBehind_10 : decode cX1_walkBehind 10 = .ok (.istore_n 3, 1) := by decide +kernel
theorem dX1_walkBehind_11 : decode cX1_walkBehind 11 = .ok (.lload_n 1, 1) := by decide +kernel
theorem dX1_walkBehind_12 : decode cX1_walkBehind 12 = .ok (.lstore 4, 2) := by decide +kernel
theorem dX1_walkBehind_14 : decode cX1_walkBehind 14 = .ok (.iconst 0, 1) := by decide +kernel
theorem dX1_walkBehind_15 : decode cX1_walkBehind 15 = .ok (.istore 6, 2) := by decide +kernel
theorem dX1_walkBehind_17 : decode cX1_walkBehind 17 = .ok (.iload 6, 2) := by decide +kernel
theorem dX1_walkBehind_19 : decode cX1_walkBehind 19 = .ok (.aload_n 0, 1) := by decide +kernel
theorem dX1_walkBehind_20 : decode cX1_walkBehind 20 = .ok (.getfield 39, 3) := by decide +kernel
theorem dX1_walkBehind_23 : decode cX1_walkBehind 23 = .ok (.if_icmp .ge 210, 3) := by decide +kernel
theorem dX1_walkBehind_26 : decode cX1_walkBehind 26 = .ok (.iconst 0, 1) := by decide +kernel
theorem dX1_walkBehind_27 : decode cX1_walkBehind 27 = .ok (.istore 7, 2) := by decide +kernel
theorem dX1_walkBehind_29 : decode cX1_walkBehind 29 = .ok (.iconst 0, 1) := by decide +kernel
theorem dX1_walkBehind_30 : decode cX1_walkBehind 30 = .ok (.istore 8, 2) := by decide +kernel
theorem dX1_walkBehind_32 : decode cX1_walkBehind 32 = .ok (.iload 7, 2) := by decide +kernel
theorem dX1_walkBehind_34 : decode cX1_walkBehind 34 = .ok (.bipush 24, 2) := by decide +kernel
theorem dX1_walkBehind_36 : decode cX1_walkBehind 36 = .ok (.if_icmp .ge 147, 3) := by decide +kernel
theorem dX1_walkBehind_39 : decode cX1_walkBehind 39 = .ok (.iload 8, 2) := by decide +kernel
theorem dX1_walkBehind_41 : decode cX1_walkBehind 41 = .ok (.ifCond .ne 142, 3) := by decide +kernel
theorem dX1_walkBehind_44 : decode cX1_walkBehind 44 = .ok (.iload 6, 2) := by decide +kernel
theorem dX1_walkBehind_46 : decode cX1_walkBehind 46 = .ok (.ifCond .ne 7, 3) := by decide +kernel
theorem dX1_walkBehind_49 : decode cX1_walkBehind 49 = .ok (.iconst 0, 1) := by decide +kernel
theorem dX1_walkBehind_50 : decode cX1_walkBehind 50 = .ok (.goto 23, 3) := by decide +kernel
theorem dX1_walkBehind_53 : decode cX1_walkBehind 53 = .ok (.aload_n 0, 1) := by decide +kernel
theorem dX1_walkBehind_54 : decode cX1_walkBehind 54 = .ok (.getfield 23, 3) := by decide +kernel
theorem dX1_walkBehind_57 : decode cX1_walkBehind 57 = .ok (.bipush 24, 2) := by decide +kernel
theorem dX1_walkBehind_59 : decode cX1_walkBehind 59 = .ok (.aload_n 0, 1) := by decide +kernel
theorem dX1_walkBehind_60 : decode cX1_walkBehind 60 = .ok (.getfield 29, 3) := by decide +kernel
theorem dX1_walkBehind_63 : decode cX1_walkBehind 63 = .ok (.iload 6, 2) := by decide +kernel
theorem dX1_walkBehind_65 : decode cX1_walkBehind 65 = .ok (.iconst 1, 1) := by decide +kernel
theorem dX1_walkBehind_66 : decode cX1_walkBehind 66 = .ok (.isub, 1) := by decide +kernel
theorem dX1_walkBehind_67 : decode cX1_walkBehind 67 = .ok (.iaload, 1) := by decide +kernel
theorem dX1_walkBehind_68 : decode cX1_walkBehind 68 = .ok (.imul, 1) := by decide +kernel
theorem dX1_walkBehind_69 : decode cX1_walkBehind 69 = .ok (.iload 7, 2) := by decide +kernel
theorem dX1_walkBehind_71 : decode cX1_walkBehind 71 = .ok (.iadd, 1) := by decide +kernel
theorem dX1_walkBehind_72 : decode cX1_walkBehind 72 = .ok (.iaload, 1) := by decide +kernel
theorem dX1_walkBehind_73 : decode cX1_walkBehind 73 = .ok (.istore 9, 2) := by decide +kernel
theorem dX1_walkBehind_75 : decode cX1_walkBehind 75 = .ok (.aload_n 0, 1) := by decide +kernel
theorem dX1_walkBehind_76 : decode cX1_walkBehind 76 = .ok (.getfield 16, 3) := by decide +kernel
theorem dX1_walkBehind_79 : decode cX1_walkBehind 79 = .ok (.bipush 24, 2) := by decide +kernel
theorem dX1_walkBehind_81 : decode cX1_walkBehind 81 = .ok (.iload 6, 2) := by decide +kernel
theorem dX1_walkBehind_83 : decode cX1_walkBehind 83 = .ok (.imul, 1) := by decide +kernel
theorem dX1_walkBehind_84 : decode cX1_walkBehind 84 = .ok (.iload 7, 2) := by decide +kernel
theorem dX1_walkBehind_86 : decode cX1_walkBehind 86 = .ok (.iadd, 1) := by decide +kernel
theorem dX1_walkBehind_87 : decode cX1_walkBehind 87 = .ok (.iaload, 1) := by decide +kernel
theorem dX1_walkBehind_88 : decode cX1_walkBehind 88 = .ok (.iload 9, 2) := by decide +kernel
theorem dX1_walkBehind_90 : decode cX1_walkBehind 90 = .ok (.iadd, 1) := by decide +kernel
theorem dX1_walkBehind_91 : decode cX1_walkBehind 91 = .ok (.iload_n 3, 1) := by decide +kernel
theorem dX1_walkBehind_92 : decode cX1_walkBehind 92 = .ok (.if_icmp .ne 7, 3) := by decide +kernel
theorem dX1_walkBehind_95 : decode cX1_walkBehind 95 = .ok (.iconst 1, 1) := by decide +kernel
theorem dX1_walkBehind_96 : decode cX1_walkBehind 96 = .ok (.goto 4, 3) := by decide +kernel
theorem dX1_walkBehind_99 : decode cX1_walkBehind 99 = .ok (.iconst 0, 1) := by decide +kernel
theorem dX1_walkBehind_100 : decode cX1_walkBehind 100 = .ok (.istore 10, 2) := by decide +kernel
theorem dX1_walkBehind_102 : decode cX1_walkBehind 102 = .ok (.iload 10, 2) := by decide +kernel
theorem dX1_walkBehind_104 : decode cX1_walkBehind 104 = .ok (.ifCond .eq 26, 3) := by decide +kernel
theorem dX1_walkBehind_107 : decode cX1_walkBehind 107 = .ok (.lload 4, 2) := by decide +kernel
theorem dX1_walkBehind_109 : decode cX1_walkBehind 109 = .ok (.aload_n 0, 1) := by decide +kernel
theorem dX1_walkBehind_110 : decode cX1_walkBehind 110 = .ok (.getfield 19, 3) := by decide +kernel
theorem dX1_walkBehind_113 : decode cX1_walkBehind 113 = .ok (.bipush 24, 2) := by decide +kernel
theorem dX1_walkBehind_115 : decode cX1_walkBehind 115 = .ok (.iload 6, 2) := by decide +kernel
theorem dX1_walkBehind_117 : decode cX1_walkBehind 117 = .ok (.imul, 1) := by decide +kernel
theorem dX1_walkBehind_118 : decode cX1_walkBehind 118 = .ok (.iload 7, 2) := by decide +kernel
theorem dX1_walkBehind_120 : decode cX1_walkBehind 120 = .ok (.iadd, 1) := by decide +kernel
theorem dX1_walkBehind_121 : decode cX1_walkBehind 121 = .ok (.laload, 1) := by decide +kernel
theorem dX1_walkBehind_122 : decode cX1_walkBehind 122 = .ok (.lcmp, 1) := by decide +kernel
theorem dX1_walkBehind_123 : decode cX1_walkBehind 123 = .ok (.ifCond .ge 7, 3) := by decide +kernel
theorem dX1_walkBehind_126 : decode cX1_walkBehind 126 = .ok (.iconst 1, 1) := by decide +kernel
theorem dX1_walkBehind_127 : decode cX1_walkBehind 127 = .ok (.goto 4, 3) := by decide +kernel
theorem dX1_walkBehind_130 : decode cX1_walkBehind 130 = .ok (.iconst 0, 1) := by decide +kernel
theorem dX1_walkBehind_131 : decode cX1_walkBehind 131 = .ok (.istore 8, 2) := by decide +kernel
theorem dX1_walkBehind_133 : decode cX1_walkBehind 133 = .ok (.lload 4, 2) := by decide +kernel
theorem dX1_walkBehind_135 : decode cX1_walkBehind 135 = .ok (.iload 10, 2) := by decide +kernel
theorem dX1_walkBehind_137 : decode cX1_walkBehind 137 = .ok (.ifCond .eq 24, 3) := by decide +kernel
theorem dX1_walkBehind_140 : decode cX1_walkBehind 140 = .ok (.iload 8, 2) := by decide +kernel
theorem dX1_walkBehind_142 : decode cX1_walkBehind 142 = .ok (.ifCond .ne 19, 3) := by decide +kernel
theorem dX1_walkBehind_145 : decode cX1_walkBehind 145 = .ok (.aload_n 0, 1) := by decide +kernel
theorem dX1_walkBehind_146 : decode cX1_walkBehind 146 = .ok (.getfield 19, 3) := by decide +kernel
theorem dX1_walkBehind_149 : decode cX1_walkBehind 149 = .ok (.bipush 24, 2) := by decide +kernel
theorem dX1_walkBehind_151 : decode cX1_walkBehind 151 = .ok (.iload 6, 2) := by decide +kernel
theorem dX1_walkBehind_153 : decode cX1_walkBehind 153 = .ok (.imul, 1) := by decide +kernel
theorem dX1_walkBehind_154 : decode cX1_walkBehind 154 = .ok (.iload 7, 2) := by decide +kernel
theorem dX1_walkBehind_156 : decode cX1_walkBehind 156 = .ok (.iadd, 1) := by decide +kernel
theorem dX1_walkBehind_157 : decode cX1_walkBehind 157 = .ok (.laload, 1) := by decide +kernel
theorem dX1_walkBehind_158 : decode cX1_walkBehind 158 = .ok (.goto 4, 3) := by decide +kernel
theorem dX1_walkBehind_161 : decode cX1_walkBehind 161 = .ok (.lconst 0, 1) := by decide +kernel
theorem dX1_walkBehind_162 : decode cX1_walkBehind 162 = .ok (.lsub, 1) := by decide +kernel
theorem dX1_walkBehind_163 : decode cX1_walkBehind 163 = .ok (.lstore 4, 2) := by decide +kernel
theorem dX1_walkBehind_165 : decode cX1_walkBehind 165 = .ok (.iload 7, 2) := by decide +kernel
theorem dX1_walkBehind_167 : decode cX1_walkBehind 167 = .ok (.iload 8, 2) := by decide +kernel
theorem dX1_walkBehind_169 : decode cX1_walkBehind 169 = .ok (.ifCond .eq 7, 3) := by decide +kernel
theorem dX1_walkBehind_172 : decode cX1_walkBehind 172 = .ok (.iconst 0, 1) := by decide +kernel
theorem dX1_walkBehind_173 : decode cX1_walkBehind 173 = .ok (.goto 4, 3) := by decide +kernel
theorem dX1_walkBehind_176 : decode cX1_walkBehind 176 = .ok (.iconst 1, 1) := by decide +kernel
theorem dX1_walkBehind_177 : decode cX1_walkBehind 177 = .ok (.iadd, 1) := by decide +kernel
theorem dX1_walkBehind_178 : decode cX1_walkBehind 178 = .ok (.istore 7, 2) := by decide +kernel
theorem dX1_walkBehind_180 : decode cX1_walkBehind 180 = .ok (.goto (-148), 3) := by decide +kernel
theorem dX1_walkBehind_183 : decode cX1_walkBehind 183 = .ok (.iload 8, 2) := by decide +kernel
theorem dX1_walkBehind_185 : decode cX1_walkBehind 185 = .ok (.ifCond .ne 5, 3) := by decide +kernel
theorem dX1_walkBehind_188 : decode cX1_walkBehind 188 = .ok (.iconst 0, 1) := by decide +kernel
theorem dX1_walkBehind_189 : decode cX1_walkBehind 189 = .ok (.ireturn, 1) := by decide +kernel
theorem dX1_walkBehind_190 : decode cX1_walkBehind 190 = .ok (.aload_n 0, 1) := by decide +kernel
theorem dX1_walkBehind_191 : decode cX1_walkBehind 191 = .ok (.getfield 29, 3) := by decide +kernel
theorem dX1_walkBehind_194 : decode cX1_walkBehind 194 = .ok (.iload 6, 2) := by decide +kernel
theorem dX1_walkBehind_196 : decode cX1_walkBehind 196 = .ok (.iload 7, 2) := by decide +kernel
theorem dX1_walkBehind_198 : decode cX1_walkBehind 198 = .ok (.iastore, 1) := by decide +kernel
theorem dX1_walkBehind_199 : decode cX1_walkBehind 199 = .ok (.aload_n 0, 1) := by decide +kernel
theorem dX1_walkBehind_200 : decode cX1_walkBehind 200 = .ok (.getfield 16, 3) := by decide +kernel
theorem dX1_walkBehind_203 : decode cX1_walkBehind 203 = .ok (.bipush 24, 2) := by decide +kernel
theorem dX1_walkBehind_205 : decode cX1_walkBehind 205 = .ok (.iload 6, 2) := by decide +kernel
theorem dX1_walkBehind_207 : decode cX1_walkBehind 207 = .ok (.imul, 1) := by decide +kernel
theorem dX1_walkBehind_208 : decode cX1_walkBehind 208 = .ok (.iload 7, 2) := by decide +kernel
theorem dX1_walkBehind_210 : decode cX1_walkBehind 210 = .ok (.iadd, 1) := by decide +kernel
theorem dX1_walkBehind_211 : decode cX1_walkBehind 211 = .ok (.iaload, 1) := by decide +kernel
theorem dX1_walkBehind_212 : decode cX1_walkBehind 212 = .ok (.aload_n 0, 1) := by decide +kernel
theorem dX1_walkBehind_213 : decode cX1_walkBehind 213 = .ok (.getfield 26, 3) := by decide +kernel
theorem dX1_walkBehind_216 : decode cX1_walkBehind 216 = .ok (.bipush 24, 2) := by decide +kernel
theorem dX1_walkBehind_218 : decode cX1_walkBehind 218 = .ok (.iload 6, 2) := by decide +kernel
theorem dX1_walkBehind_220 : decode cX1_walkBehind 220 = .ok (.imul, 1) := by decide +kernel
theorem dX1_walkBehind_221 : decode cX1_walkBehind 221 = .ok (.iload 7, 2) := by decide +kernel
theorem dX1_walkBehind_223 : decode cX1_walkBehind 223 = .ok (.iadd, 1) := by decide +kernel
theorem dX1_walkBehind_224 : decode cX1_walkBehind 224 = .ok (.iaload, 1) := by decide +kernel
theorem dX1_walkBehind_225 : decode cX1_walkBehind 225 = .ok (.isub, 1) := by decide +kernel
theorem dX1_walkBehind_226 : decode cX1_walkBehind 226 = .ok (.istore_n 3, 1) := by decide +kernel
theorem dX1_walkBehind_227 : decode cX1_walkBehind 227 = .ok (.iinc 6 1, 3) := by decide +kernel
theorem dX1_walkBehind_230 : decode cX1_walkBehind 230 = .ok (.goto (-213), 3) := by decide +kernel
theorem dX1_walkBehind_233 : decode cX1_walkBehind 233 = .ok (.iconst 1, 1) := by decide +kernel
theorem dX1_walkBehind_234 : decode cX1_walkBehind 234 = .ok (.ireturn, 1) := by decide +kernel
theorem dX1_key_0 : decode cX1_key 0 = .ok (.aload_n 0, 1) := by decide +kernel
theorem dX1_key_1 : decode cX1_key 1 = .ok (.aload_n 0, 1) := by decide +kernel
theorem dX1_key_2 : decode cX1_key 2 = .ok (.iload_n 1, 1) := by decide +kernel
theorem dX1_key_3 : decode cX1_key 3 = .ok (.invokevirtual 67, 3) := by decide +kernel
theorem dX1_key_6 : decode cX1_key 6 = .ok (.ifCond .eq 7, 3) := by decide +kernel
theorem dX1_key_9 : decode cX1_key 9 = .ok (.iconst 0, 1) := by decide +kernel
theorem dX1_key_10 : decode cX1_key 10 = .ok (.goto 4, 3) := by decide +kernel
theorem dX1_key_13 : decode cX1_key 13 = .ok (.iconst 1, 1) := by decide +kernel
theorem dX1_key_14 : decode cX1_key 14 = .ok (.invokevirtual 61, 3) := by decide +kernel
theorem dX1_key_17 : decode cX1_key 17 = .ok (.ifCond .ne 5, 3) := by decide +kernel
theorem dX1_key_20 : decode cX1_key 20 = .ok (.iconst 0, 1) := by decide +kernel
theorem dX1_key_21 : decode cX1_key 21 = .ok (.ireturn, 1) := by decide +kernel
theorem dX1_key_22 : decode cX1_key 22 = .ok (.aload_n 0, 1) := by decide +kernel
theorem dX1_key_23 : decode cX1_key 23 = .ok (.lconst 0, 1) := by decide +kernel
theorem dX1_key_24 : decode cX1_key 24 = .ok (.invokevirtual 101, 3) := by decide +kernel
theorem dX1_key_27 : decode cX1_key 27 = .ok (.pop, 1) := by decide +kernel
theorem dX1_key_28 : decode cX1_key 28 = .ok (.aload_n 0, 1) := by decide +kernel
theorem dX1_key_29 : decode cX1_key 29 = .ok (.getfield 29, 3) := by decide +kernel
theorem dX1_key_32 : decode cX1_key 32 = .ok (.iload_n 1, 1) := by decide +kernel
theorem dX1_key_33 : decode cX1_key 33 = .ok (.iaload, 1) := by decide +kernel
theorem dX1_key_34 : decode cX1_key 34 = .ok (.ireturn, 1) := by decide +kernel
theorem dX1_pick_0 : decode cX1_pick 0 = .ok (.aload_n 0, 1) := by decide +kernel
theorem dX1_pick_1 : decode cX1_pick 1 = .ok (.aload_n 0, 1) := by decide +kernel
theorem dX1_pick_2 : decode cX1_pick 2 = .ok (.iload_n 3, 1) := by decide +kernel
theorem dX1_pick_3 : decode cX1_pick 3 = .ok (.invokevirtual 67, 3) := by decide +kernel
theorem dX1_pick_6 : decode cX1_pick 6 = .ok (.ifCond .eq 18, 3) := by decide +kernel
theorem dX1_pick_9 : decode cX1_pick 9 = .ok (.lload_n 1, 1) := by decide +kernel
theorem dX1_pick_10 : decode cX1_pick 10 = .ok (.lconst 0, 1) := by decide +kernel
theorem dX1_pick_11 : decode cX1_pick 11 = .ok (.ldc2_w 105, 3) := by decide +kernel
theorem dX1_pick_14 : decode cX1_pick 14 = .ok (.invokestatic 51, 3) := by decide +kernel
theorem dX1_pick_17 : decode cX1_pick 17 = .ok (.ifCond .eq 7, 3) := by decide +kernel
theorem dX1_pick_20 : decode cX1_pick 20 = .ok (.iconst 0, 1) := by decide +kernel
theorem dX1_pick_21 : decode cX1_pick 21 = .ok (.goto 4, 3) := by decide +kernel
theorem dX1_pick_24 : decode cX1_pick 24 = .ok (.iconst 1, 1) := by decide +kernel
theorem dX1_pick_25 : decode cX1_pick 25 = .ok (.invokevirtual 61, 3) := by decide +kernel
theorem dX1_pick_28 : decode cX1_pick 28 = .ok (.ifCond .ne 5, 3) := by decide +kernel
theorem dX1_pick_31 : decode cX1_pick 31 = .ok (.iconst 0, 1) := by decide +kernel
theorem dX1_pick_32 : decode cX1_pick 32 = .ok (.ireturn, 1) := by decide +kernel
theorem dX1_pick_33 : decode cX1_pick 33 = .ok (.aload_n 0, 1) := by decide +kernel
theorem dX1_pick_34 : decode cX1_pick 34 = .ok (.lload_n 1, 1) := by decide +kernel
theorem dX1_pick_35 : decode cX1_pick 35 = .ok (.invokevirtual 101, 3) := by decide +kernel
theorem dX1_pick_38 : decode cX1_pick 38 = .ok (.ifCond .eq 12, 3) := by decide +kernel
theorem dX1_pick_41 : decode cX1_pick 41 = .ok (.aload_n 0, 1) := by decide +kernel
theorem dX1_pick_42 : decode cX1_pick 42 = .ok (.getfield 29, 3) := by decide +kernel
theorem dX1_pick_45 : decode cX1_pick 45 = .ok (.iload_n 3, 1) := by decide +kernel
theorem dX1_pick_46 : decode cX1_pick 46 = .ok (.iaload, 1) := by decide +kernel
theorem dX1_pick_47 : decode cX1_pick 47 = .ok (.goto 4, 3) := by decide +kernel
theorem dX1_pick_50 : decode cX1_pick 50 = .ok (.iconst (-1), 1) := by decide +kernel
theorem dX1_pick_51 : decode cX1_pick 51 = .ok (.ireturn, 1) := by decide +kernel
theorem dX1_through_0 : decode cX1_through 0 = .ok (.aload_n 0, 1) := by decide +kernel
theorem dX1_through_1 : decode cX1_through 1 = .ok (.aload_n 0, 1) := by decide +kernel
theorem dX1_through_2 : decode cX1_through 2 = .ok (.iload_n 1, 1) := by decide +kernel
theorem dX1_through_3 : decode cX1_through 3 = .ok (.invokevirtual 67, 3) := by decide +kernel
theorem dX1_through_6 : decode cX1_through 6 = .ok (.ifCond .eq 14, 3) := by decide +kernel
theorem dX1_through_9 : decode cX1_through 9 = .ok (.iload_n 2, 1) := by decide +kernel
theorem dX1_through_10 : decode cX1_through 10 = .ok (.invokestatic 83, 3) := by decide +kernel
theorem dX1_through_13 : decode cX1_through 13 = .ok (.ifCond .eq 7, 3) := by decide +kernel
theorem dX1_through_16 : decode cX1_through 16 = .ok (.iconst 0, 1) := by decide +kernel
theorem dX1_through_17 : decode cX1_through 17 = .ok (.goto 4, 3) := by decide +kernel
theorem dX1_through_20 : decode cX1_through 20 = .ok (.iconst 1, 1) := by decide +kernel
theorem dX1_through_21 : decode cX1_through 21 = .ok (.invokevirtual 61, 3) := by decide +kernel
theorem dX1_through_24 : decode cX1_through 24 = .ok (.ifCond .ne 5, 3) := by decide +kernel
theorem dX1_through_27 : decode cX1_through 27 = .ok (.iconst 0, 1) := by decide +kernel
theorem dX1_through_28 : decode cX1_through 28 = .ok (.ireturn, 1) := by decide +kernel
theorem dX1_through_29 : decode cX1_through 29 = .ok (.aload_n 0, 1) := by decide +kernel
theorem dX1_through_30 : decode cX1_through 30 = .ok (.invokevirtual 95, 3) := by decide +kernel
theorem dX1_through_33 : decode cX1_through 33 = .ok (.aload_n 0, 1) := by decide +kernel
theorem dX1_through_34 : decode cX1_through 34 = .ok (.iload_n 1, 1) := by decide +kernel
theorem dX1_through_35 : decode cX1_through 35 = .ok (.iconst 1, 1) := by decide +kernel
theorem dX1_through_36 : decode cX1_through 36 = .ok (.iload_n 2, 1) := by decide +kernel
theorem dX1_through_37 : decode cX1_through 37 = .ok (.ishl, 1) := by decide +kernel
theorem dX1_through_38 : decode cX1_through 38 = .ok (.invokevirtual 98, 3) := by decide +kernel
theorem dX1_through_41 : decode cX1_through 41 = .ok (.ireturn, 1) := by decide +kernel
theorem dX1_near_0 : decode cX1_near 0 = .ok (.aload_n 0, 1) := by decide +kernel
theorem dX1_near_1 : decode cX1_near 1 = .ok (.aload_n 0, 1) := by decide +kernel
theorem dX1_near_2 : decode cX1_near 2 = .ok (.iload_n 1, 1) := by decide +kernel
theorem dX1_near_3 : decode cX1_near 3 = .ok (.invokevirtual 67, 3) := by decide +kernel
theorem dX1_near_6 : decode cX1_near 6 = .ok (.ifCond .eq 19, 3) := by decide +kernel
theorem dX1_near_9 : decode cX1_near 9 = .ok (.iload_n 2, 1) := by decide +kernel
theorem dX1_near_10 : decode cX1_near 10 = .ok (.i2l, 1) := by decide +kernel
theorem dX1_near_11 : decode cX1_near 11 = .ok (.lconst 0, 1) := by decide +kernel
theorem dX1_near_12 : decode cX1_near 12 = .ok (.ldc2_w 107, 3) := by decide +kernel
theorem dX1_near_15 : decode cX1_near 15 = .ok (.invokestatic 51, 3) := by decide +kernel
theorem dX1_near_18 : decode cX1_near 18 = .ok (.ifCond .eq 7, 3) := by decide +kernel
theorem dX1_near_21 : decode cX1_near 21 = .ok (.iconst 0, 1) := by decide +kernel
theorem dX1_near_22 : decode cX1_near 22 = .ok (.goto 4, 3) := by decide +kernel
theorem dX1_near_25 : decode cX1_near 25 = .ok (.iconst 1, 1) := by decide +kernel
theorem dX1_near_26 : decode cX1_near 26 = .ok (.invokevirtual 61, 3) := by decide +kernel
theorem dX1_near_29 : decode cX1_near 29 = .ok (.ifCond .ne 5, 3) := by decide +kernel
theorem dX1_near_32 : decode cX1_near 32 = .ok (.iconst 0, 1) := by decide +kernel
theorem dX1_near_33 : decode cX1_near 33 = .ok (.ireturn, 1) := by decide +kernel
theorem dX1_near_34 : decode cX1_near 34 = .ok (.aload_n 0, 1) := by decide +kernel
theorem dX1_near_35 : decode cX1_near 35 = .ok (.invokevirtual 95, 3) := by decide +kernel
theorem dX1_near_38 : decode cX1_near 38 = .ok (.aload_n 0, 1) := by decide +kernel
theorem dX1_near_39 : decode cX1_near 39 = .ok (.iconst (-1), 1) := by decide +kernel
theorem dX1_near_40 : decode cX1_near 40 = .ok (.iconst 0, 1) := by decide +kernel
theorem dX1_near_41 : decode cX1_near 41 = .ok (.invokevirtual 98, 3) := by decide +kernel
theorem dX1_near_44 : decode cX1_near 44 = .ok (.istore_n 3, 1) := by decide +kernel
theorem dX1_near_45 : decode cX1_near 45 = .ok (.iconst 0, 1) := by decide +kernel
theorem dX1_near_46 : decode cX1_near 46 = .ok (.istore 4, 2) := by decide +kernel
theorem dX1_near_48 : decode cX1_near 48 = .ok (.iconst 0, 1) := by decide +kernel
theorem dX1_near_49 : decode cX1_near 49 = .ok (.istore 5, 2) := by decide +kernel
theorem dX1_near_51 : decode cX1_near 51 = .ok (.iload 5, 2) := by decide +kernel
theorem dX1_near_53 : decode cX1_near 53 = .ok (.bipush 24, 2) := by decide +kernel
theorem dX1_near_55 : decode cX1_near 55 = .ok (.if_icmp .ge 37, 3) := by decide +kernel
theorem dX1_near_58 : decode cX1_near 58 = .ok (.iload 4, 2) := by decide +kernel
theorem dX1_near_60 : decode cX1_near 60 = .ok (.aload_n 0, 1) := by decide +kernel
theorem dX1_near_61 : decode cX1_near 61 = .ok (.iload_n 1, 1) := by decide +kernel
theorem dX1_near_62 : decode cX1_near 62 = .ok (.iconst 1, 1) := by decide +kernel
theorem dX1_near_63 : decode cX1_near 63 = .ok (.iload 5, 2) := by decide +kernel
theorem dX1_near_65 : decode cX1_near 65 = .ok (.ishl, 1) := by decide +kernel
theorem dX1_near_66 : decode cX1_near 66 = .ok (.invokevirtual 98, 3) := by decide +kernel
theorem dX1_near_69 : decode cX1_near 69 = .ok (.iload_n 3, 1) := by decide +kernel
theorem dX1_near_70 : decode cX1_near 70 = .ok (.iload_n 2, 1) := by decide +kernel
theorem dX1_near_71 : decode cX1_near 71 = .ok (.iadd, 1) := by decide +kernel
theorem dX1_near_72 : decode cX1_near 72 = .ok (.if_icmp .gt 10, 3) := by decide +kernel
theorem dX1_near_75 : decode cX1_near 75 = .ok (.iconst 1, 1) := by decide +kernel
theorem dX1_near_76 : decode cX1_near 76 = .ok (.iload 5, 2) := by decide +kernel
theorem dX1_near_78 : decode cX1_near 78 = .ok (.ishl, 1) := by decide +kernel
theorem dX1_near_79 : decode cX1_near 79 = .ok (.goto 4, 3) := by decide +kernel
theorem dX1_near_82 : decode cX1_near 82 = .ok (.iconst 0, 1) := by decide +kernel
theorem dX1_near_83 : decode cX1_near 83 = .ok (.ior, 1) := by decide +kernel
theorem dX1_near_84 : decode cX1_near 84 = .ok (.istore 4, 2) := by decide +kernel
theorem dX1_near_86 : decode cX1_near 86 = .ok (.iinc 5 1, 3) := by decide +kernel
theorem dX1_near_89 : decode cX1_near 89 = .ok (.goto (-38), 3) := by decide +kernel
theorem dX1_near_92 : decode cX1_near 92 = .ok (.iload 4, 2) := by decide +kernel
theorem dX1_near_94 : decode cX1_near 94 = .ok (.ireturn, 1) := by decide +kernel
theorem dX1_sure_0 : decode cX1_sure 0 = .ok (.aload_n 0, 1) := by decide +kernel
theorem dX1_sure_1 : decode cX1_sure 1 = .ok (.aload_n 0, 1) := by decide +kernel
theorem dX1_sure_2 : decode cX1_sure 2 = .ok (.iload_n 1, 1) := by decide +kernel
theorem dX1_sure_3 : decode cX1_sure 3 = .ok (.invokevirtual 67, 3) := by decide +kernel
theorem dX1_sure_6 : decode cX1_sure 6 = .ok (.ifCond .eq 7, 3) := by decide +kernel
theorem dX1_sure_9 : decode cX1_sure 9 = .ok (.iconst 0, 1) := by decide +kernel
theorem dX1_sure_10 : decode cX1_sure 10 = .ok (.goto 4, 3) := by decide +kernel
theorem dX1_sure_13 : decode cX1_sure 13 = .ok (.iconst 1, 1) := by decide +kernel
theorem dX1_sure_14 : decode cX1_sure 14 = .ok (.invokevirtual 61, 3) := by decide +kernel
theorem dX1_sure_17 : decode cX1_sure 17 = .ok (.ifCond .ne 5, 3) := by decide +kernel
theorem dX1_sure_20 : decode cX1_sure 20 = .ok (.iconst 0, 1) := by decide +kernel
theorem dX1_sure_21 : decode cX1_sure 21 = .ok (.ireturn, 1) := by decide +kernel
theorem dX1_sure_22 : decode cX1_sure 22 = .ok (.aload_n 0, 1) := by decide +kernel
theorem dX1_sure_23 : decode cX1_sure 23 = .ok (.lconst 0, 1) := by decide +kernel
theorem dX1_sure_24 : decode cX1_sure 24 = .ok (.invokevirtual 101, 3) := by decide +kernel
theorem dX1_sure_27 : decode cX1_sure 27 = .ok (.pop, 1) := by decide +kernel
theorem dX1_sure_28 : decode cX1_sure 28 = .ok (.aload_n 0, 1) := by decide +kernel
theorem dX1_sure_29 : decode cX1_sure 29 = .ok (.iconst (-1), 1) := by decide +kernel
theorem dX1_sure_30 : decode cX1_sure 30 = .ok (.iconst 0, 1) := by decide +kernel
theorem dX1_sure_31 : decode cX1_sure 31 = .ok (.invokevirtual 98, 3) := by decide +kernel
theorem dX1_sure_34 : decode cX1_sure 34 = .ok (.istore_n 2, 1) := by decide +kernel
theorem dX1_sure_35 : decode cX1_sure 35 = .ok (.aload_n 0, 1) := by decide +kernel
theorem dX1_sure_36 : decode cX1_sure 36 = .ok (.iload_n 1, 1) := by decide +kernel
theorem dX1_sure_37 : decode cX1_sure 37 = .ok (.iconst 1, 1) := by decide +kernel
theorem dX1_sure_38 : decode cX1_sure 38 = .ok (.aload_n 0, 1) := by decide +kernel
theorem dX1_sure_39 : decode cX1_sure 39 = .ok (.getfield 29, 3) := by decide +kernel
theorem dX1_sure_42 : decode cX1_sure 42 = .ok (.iload_n 1, 1) := by decide +kernel
theorem dX1_sure_43 : decode cX1_sure 43 = .ok (.iaload, 1) := by decide +kernel
theorem dX1_sure_44 : decode cX1_sure 44 = .ok (.ishl, 1) := by decide +kernel
theorem dX1_sure_45 : decode cX1_sure 45 = .ok (.iconst (-1), 1) := by decide +kernel
theorem dX1_sure_46 : decode cX1_sure 46 = .ok (.ixor, 1) := by decide +kernel
theorem dX1_sure_47 : decode cX1_sure 47 = .ok (.invokevirtual 98, 3) := by decide +kernel
theorem dX1_sure_50 : decode cX1_sure 50 = .ok (.istore_n 3, 1) := by decide +kernel
theorem dX1_sure_51 : decode cX1_sure 51 = .ok (.aload_n 0, 1) := by decide +kernel
theorem dX1_sure_52 : decode cX1_sure 52 = .ok (.iload_n 3, 1) := by decide +kernel
theorem dX1_sure_53 : decode cX1_sure 53 = .ok (.ifCond .ne 7, 3) := by decide +kernel
theorem dX1_sure_56 : decode cX1_sure 56 = .ok (.iconst 2, 1) := by decide +kernel
theorem dX1_sure_57 : decode cX1_sure 57 = .ok (.goto 4, 3) := by decide +kernel
theorem dX1_sure_60 : decode cX1_sure 60 = .ok (.iconst 0, 1) := by decide +kernel
theorem dX1_sure_61 : decode cX1_sure 61 = .ok (.invokevirtual 61, 3) := by decide +kernel
theorem dX1_sure_64 : decode cX1_sure 64 = .ok (.ifCond .eq 18, 3) := by decide +kernel
theorem dX1_sure_67 : decode cX1_sure 67 = .ok (.ldc2_w 109, 3) := by decide +kernel
theorem dX1_sure_70 : decode cX1_sure 70 = .ok (.iload_n 3, 1) := by decide +kernel
theorem dX1_sure_71 : decode cX1_sure 71 = .ok (.iload_n 2, 1) := by decide +kernel
theorem dX1_sure_72 : decode cX1_sure 72 = .ok (.isub, 1) := by decide +kernel
theorem dX1_sure_73 : decode cX1_sure 73 = .ok (.i2l, 1) := by decide +kernel
theorem dX1_sure_74 : decode cX1_sure 74 = .ok (.lmul, 1) := by decide +kernel
theorem dX1_sure_75 : decode cX1_sure 75 = .ok (.iload_n 3, 1) := by decide +kernel
theorem dX1_sure_76 : decode cX1_sure 76 = .ok (.i2l, 1) := by decide +kernel
theorem dX1_sure_77 : decode cX1_sure 77 = .ok (.ldiv, 1) := by decide +kernel
theorem dX1_sure_78 : decode cX1_sure 78 = .ok (.l2i, 1) := by decide +kernel
theorem dX1_sure_79 : decode cX1_sure 79 = .ok (.goto 4, 3) := by decide +kernel
theorem dX1_sure_82 : decode cX1_sure 82 = .ok (.iconst 0, 1) := by decide +kernel
theorem dX1_sure_83 : decode cX1_sure 83 = .ok (.ireturn, 1) := by decide +kernel
theorem dX1_changeAt_0 : decode cX1_changeAt 0 = .ok (.aload_n 0, 1) := by decide +kernel
theorem dX1_changeAt_1 : decode cX1_changeAt 1 = .ok (.lconst 0, 1) := by decide +kernel
theorem dX1_changeAt_2 : decode cX1_changeAt 2 = .ok (.invokevirtual 101, 3) := by decide +kernel
theorem dX1_changeAt_5 : decode cX1_changeAt 5 = .ok (.pop, 1) := by decide +kernel
theorem dX1_changeAt_6 : decode cX1_changeAt 6 = .ok (.iconst 0, 1) := by decide +kernel
theorem dX1_changeAt_7 : decode cX1_changeAt 7 = .ok (.istore_n 2, 1) := by decide +kernel
theorem dX1_changeAt_8 : decode cX1_changeAt 8 = .ok (.iconst 1, 1) := by decide +kernel
theorem dX1_changeAt_9 : decode cX1_changeAt 9 = .ok (.istore_n 3, 1) := by decide +kernel
theorem dX1_changeAt_10 : decode cX1_changeAt 10 = .ok (.iload_n 3, 1) := by decide +kernel
theorem dX1_changeAt_11 : decode cX1_changeAt 11 = .ok (.aload_n 0, 1) := by decide +kernel
theorem dX1_changeAt_12 : decode cX1_changeAt 12 = .ok (.getfield 39, 3) := by decide +kernel
theorem dX1_changeAt_15 : decode cX1_changeAt 15 = .ok (.if_icmp .ge 36, 3) := by decide +kernel
theorem dX1_changeAt_18 : decode cX1_changeAt 18 = .ok (.aload_n 0, 1) := by decide +kernel
theorem dX1_changeAt_19 : decode cX1_changeAt 19 = .ok (.getfield 29, 3) := by decide +kernel
theorem dX1_changeAt_22 : decode cX1_changeAt 22 = .ok (.iload_n 3, 1) := by decide +kernel
theorem dX1_changeAt_23 : decode cX1_changeAt 23 = .ok (.iaload, 1) := by decide +kernel
theorem dX1_changeAt_24 : decode cX1_changeAt 24 = .ok (.aload_n 0, 1) := by decide +kernel
theorem dX1_changeAt_25 : decode cX1_changeAt 25 = .ok (.getfield 29, 3) := by decide +kernel
theorem dX1_changeAt_28 : decode cX1_changeAt 28 = .ok (.iload_n 3, 1) := by decide +kernel
theorem dX1_changeAt_29 : decode cX1_changeAt 29 = .ok (.iconst 1, 1) := by decide +kernel
theorem dX1_changeAt_30 : decode cX1_changeAt 30 = .ok (.isub, 1) := by decide +kernel
theorem dX1_changeAt_31 : decode cX1_changeAt 31 = .ok (.iaload, 1) := by decide +kernel
theorem dX1_changeAt_32 : decode cX1_changeAt 32 = .ok (.if_icmp .eq 13, 3) := by decide +kernel
theorem dX1_changeAt_35 : decode cX1_changeAt 35 = .ok (.iload_n 2, 1) := by decide +kernel
theorem dX1_changeAt_36 : decode cX1_changeAt 36 = .ok (.iload_n 1, 1) := by decide +kernel
theorem dX1_changeAt_37 : decode cX1_changeAt 37 = .ok (.if_icmp .ne 5, 3) := by decide +kernel
theorem dX1_changeAt_40 : decode cX1_changeAt 40 = .ok (.iload_n 3, 1) := by decide +kernel
theorem dX1_changeAt_41 : decode cX1_changeAt 41 = .ok (.ireturn, 1) := by decide +kernel
theorem dX1_changeAt_42 : decode cX1_changeAt 42 = .ok (.iinc 2 1, 3) := by decide +kernel
theorem dX1_changeAt_45 : decode cX1_changeAt 45 = .ok (.iinc 3 1, 3) := by decide +kernel
theorem dX1_changeAt_48 : decode cX1_changeAt 48 = .ok (.goto (-38), 3) := by decide +kernel
theorem dX1_changeAt_51 : decode cX1_changeAt 51 = .ok (.iconst (-1), 1) := by decide +kernel
theorem dX1_changeAt_52 : decode cX1_changeAt 52 = .ok (.ireturn, 1) := by decide +kernel
theorem dX1_change_0 : decode cX1_change 0 = .ok (.aload_n 0, 1) := by decide +kernel
theorem dX1_change_1 : decode cX1_change 1 = .ok (.iload_n 1, 1) := by decide +kernel
theorem dX1_change_2 : decode cX1_change 2 = .ok (.ifCond .ge 7, 3) := by decide +kernel
theorem dX1_change_5 : decode cX1_change 5 = .ok (.iconst 1, 1) := by decide +kernel
theorem dX1_change_6 : decode cX1_change 6 = .ok (.goto 4, 3) := by decide +kernel
theorem dX1_change_9 : decode cX1_change 9 = .ok (.iconst 0, 1) := by decide +kernel
theorem dX1_change_10 : decode cX1_change 10 = .ok (.invokevirtual 61, 3) := by decide +kernel
theorem dX1_change_13 : decode cX1_change 13 = .ok (.ifCond .eq 11, 3) := by decide +kernel
theorem dX1_change_16 : decode cX1_change 16 = .ok (.aload_n 0, 1) := by decide +kernel
theorem dX1_change_17 : decode cX1_change 17 = .ok (.iload_n 1, 1) := by decide +kernel
theorem dX1_change_18 : decode cX1_change 18 = .ok (.invokevirtual 111, 3) := by decide +kernel
theorem dX1_change_21 : decode cX1_change 21 = .ok (.goto 4, 3) := by decide +kernel
theorem dX1_change_24 : decode cX1_change 24 = .ok (.iconst 0, 1) := by decide +kernel
theorem dX1_change_25 : decode cX1_change 25 = .ok (.ireturn, 1) := by decide +kernel
theorem dX1_pivot_0 : decode cX1_pivot 0 = .ok (.aload_n 0, 1) := by decide +kernel
theorem dX1_pivot_1 : decode cX1_pivot 1 = .ok (.aload_n 0, 1) := by decide +kernel
theorem dX1_pivot_2 : decode cX1_pivot 2 = .ok (.iload_n 1, 1) := by decide +kernel
theorem dX1_pivot_3 : decode cX1_pivot 3 = .ok (.invokevirtual 67, 3) := by decide +kernel
theorem dX1_pivot_6 : decode cX1_pivot 6 = .ok (.ifCond .eq 21, 3) := by decide +kernel
theorem dX1_pivot_9 : decode cX1_pivot 9 = .ok (.iload_n 2, 1) := by decide +kernel
theorem dX1_pivot_10 : decode cX1_pivot 10 = .ok (.invokestatic 83, 3) := by decide +kernel
theorem dX1_pivot_13 : decode cX1_pivot 13 = .ok (.ifCond .eq 14, 3) := by decide +kernel
theorem dX1_pivot_16 : decode cX1_pivot 16 = .ok (.iload_n 3, 1) := by decide +kernel
theorem dX1_pivot_17 : decode cX1_pivot 17 = .ok (.invokestatic 83, 3) := by decide +kernel
theorem dX1_pivot_20 : decode cX1_pivot 20 = .ok (.ifCond .eq 7, 3) := by decide +kernel
theorem dX1_pivot_23 : decode cX1_pivot 23 = .ok (.iconst 0, 1) := by decide +kernel
theorem dX1_pivot_24 : decode cX1_pivot 24 = .ok (.goto 4, 3) := by decide +kernel
theorem dX1_pivot_27 : decode cX1_pivot 27 = .ok (.iconst 1, 1) := by decide +kernel
theorem dX1_pivot_28 : decode cX1_pivot 28 = .ok (.invokevirtual 61, 3) := by decide +kernel
theorem dX1_pivot_31 : decode cX1_pivot 31 = .ok (.ifCond .ne 5, 3) := by decide +kernel
theorem dX1_pivot_34 : decode cX1_pivot 34 = .ok (.iconst 0, 1) := by decide +kernel
theorem dX1_pivot_35 : decode cX1_pivot 35 = .ok (.ireturn, 1) := by decide +kernel
theorem dX1_pivot_36 : decode cX1_pivot 36 = .ok (.iconst 1, 1) := by decide +kernel
theorem dX1_pivot_37 : decode cX1_pivot 37 = .ok (.istore 4, 2) := by decide +kernel
theorem dX1_pivot_39 : decode cX1_pivot 39 = .ok (.iconst 0, 1) := by decide +kernel
theorem dX1_pivot_40 : decode cX1_pivot 40 = .ok (.istore 5, 2) := by decide +kernel
theorem dX1_pivot_42 : decode cX1_pivot 42 = .ok (.iload 5, 2) := by decide +kernel
theorem dX1_pivot_44 : decode cX1_pivot 44 = .ok (.bipush 12, 2) := by decide +kernel
theorem dX1_pivot_46 : decode cX1_pivot 46 = .ok (.if_icmp .ge 56, 3) := by decide +kernel
theorem dX1_pivot_49 : decode cX1_pivot 49 = .ok (.iload 4, 2) := by decide +kernel
theorem dX1_pivot_51 : decode cX1_pivot 51 = .ok (.ifCond .eq 42, 3) := by decide +kernel
theorem dX1_pivot_54 : decode cX1_pivot 54 = .ok (.aload_n 0, 1) := by decide +kernel
theorem dX1_pivot_55 : decode cX1_pivot 55 = .ok (.getfield 7, 3) := by decide +kernel
theorem dX1_pivot_58 : decode cX1_pivot 58 = .ok (.bipush 12, 2) := by decide +kernel
theorem dX1_pivot_60 : decode cX1_pivot 60 = .ok (.iload_n 1, 1) := by decide +kernel
theorem dX1_pivot_61 : decode cX1_pivot 61 = .ok (.imul, 1) := by decide +kernel
theorem dX1_pivot_62 : decode cX1_pivot 62 = .ok (.iload 5, 2) := by decide +kernel
theorem dX1_pivot_64 : decode cX1_pivot 64 = .ok (.iadd, 1) := by decide +kernel
theorem dX1_pivot_65 : decode cX1_pivot 65 = .ok (.iaload, 1) := by decide +kernel
theorem dX1_pivot_66 : decode cX1_pivot 66 = .ok (.ifCond .eq 23, 3) := by decide +kernel
theorem dX1_pivot_69 : decode cX1_pivot 69 = .ok (.aload_n 0, 1) := by decide +kernel
theorem dX1_pivot_70 : decode cX1_pivot 70 = .ok (.iload 5, 2) := by decide +kernel
theorem dX1_pivot_72 : decode cX1_pivot 72 = .ok (.iload_n 2, 1) := by decide +kernel
theorem dX1_pivot_73 : decode cX1_pivot 73 = .ok (.invokevirtual 72, 3) := by decide +kernel
theorem dX1_pivot_76 : decode cX1_pivot 76 = .ok (.ifCond .le 17, 3) := by decide +kernel
theorem dX1_pivot_79 : decode cX1_pivot 79 = .ok (.aload_n 0, 1) := by decide +kernel
theorem dX1_pivot_80 : decode cX1_pivot 80 = .ok (.iload 5, 2) := by decide +kernel
theorem dX1_pivot_82 : decode cX1_pivot 82 = .ok (.iload_n 3, 1) := by decide +kernel
theorem dX1_pivot_83 : decode cX1_pivot 83 = .ok (.invokevirtual 72, 3) := by decide +kernel
theorem dX1_pivot_86 : decode cX1_pivot 86 = .ok (.ifCond .le 7, 3) := by decide +kernel
theorem dX1_pivot_89 : decode cX1_pivot 89 = .ok (.iconst 1, 1) := by decide +kernel
theorem dX1_pivot_90 : decode cX1_pivot 90 = .ok (.goto 4, 3) := by decide +kernel
theorem dX1_pivot_93 : decode cX1_pivot 93 = .ok (.iconst 0, 1) := by decide +kernel
theorem dX1_pivot_94 : decode cX1_pivot 94 = .ok (.istore 4, 2) := by decide +kernel
theorem dX1_pivot_96 : decode cX1_pivot 96 = .ok (.iinc 5 1, 3) := by decide +kernel
theorem dX1_pivot_99 : decode cX1_pivot 99 = .ok (.goto (-57), 3) := by decide +kernel
theorem dX1_pivot_102 : decode cX1_pivot 102 = .ok (.iload 4, 2) := by decide +kernel
theorem dX1_pivot_104 : decode cX1_pivot 104 = .ok (.ireturn, 1) := by decide +kernel
theorem dX1_whole_0 : decode cX1_whole 0 = .ok (.aload_n 0, 1) := by decide +kernel
theorem dX1_whole_1 : decode cX1_whole 1 = .ok (.aload_n 0, 1) := by decide +kernel
theorem dX1_whole_2 : decode cX1_whole 2 = .ok (.iload_n 1, 1) := by decide +kernel
theorem dX1_whole_3 : decode cX1_whole 3 = .ok (.invokevirtual 67, 3) := by decide +kernel
theorem dX1_whole_6 : decode cX1_whole 6 = .ok (.ifCond .eq 20, 3) := by decide +kernel
theorem dX1_whole_9 : decode cX1_whole 9 = .ok (.aload_n 0, 1) := by decide +kernel
theorem dX1_whole_10 : decode cX1_whole 10 = .ok (.iload_n 2, 1) := by decide +kernel
theorem dX1_whole_11 : decode cX1_whole 11 = .ok (.invokevirtual 67, 3) := by decide +kernel
theorem dX1_whole_14 : decode cX1_whole 14 = .ok (.ifCond .eq 12, 3) := by decide +kernel
theorem dX1_whole_17 : decode cX1_whole 17 = .ok (.iload_n 1, 1) := by decide +kernel
theorem dX1_whole_18 : decode cX1_whole 18 = .ok (.iload_n 2, 1) := by decide +kernel
theorem dX1_whole_19 : decode cX1_whole 19 = .ok (.if_icmp .gt 7, 3) := by decide +kernel
theorem dX1_whole_22 : decode cX1_whole 22 = .ok (.iconst 0, 1) := by decide +kernel
theorem dX1_whole_23 : decode cX1_whole 23 = .ok (.goto 4, 3) := by decide +kernel
theorem dX1_whole_26 : decode cX1_whole 26 = .ok (.iconst 1, 1) := by decide +kernel
theorem dX1_whole_27 : decode cX1_whole 27 = .ok (.invokevirtual 61, 3) := by decide +kernel
theorem dX1_whole_30 : decode cX1_whole 30 = .ok (.ifCond .ne 5, 3) := by decide +kernel
theorem dX1_whole_33 : decode cX1_whole 33 = .ok (.iconst 0, 1) := by decide +kernel
theorem dX1_whole_34 : decode cX1_whole 34 = .ok (.ireturn, 1) := by decide +kernel
theorem dX1_whole_35 : decode cX1_whole 35 = .ok (.iconst 0, 1) := by decide +kernel
theorem dX1_whole_36 : decode cX1_whole 36 = .ok (.istore_n 3, 1) := by decide +kernel
theorem dX1_whole_37 : decode cX1_whole 37 = .ok (.iconst (-1), 1) := by decide +kernel
theorem dX1_whole_38 : decode cX1_whole 38 = .ok (.istore 4, 2) := by decide +kernel
theorem dX1_whole_40 : decode cX1_whole 40 = .ok (.iconst 0, 1) := by decide +kernel
theorem dX1_whole_41 : decode cX1_whole 41 = .ok (.istore 5, 2) := by decide +kernel
theorem dX1_whole_43 : decode cX1_whole 43 = .ok (.iload 5, 2) := by decide +kernel
theorem dX1_whole_45 : decode cX1_whole 45 = .ok (.bipush 24, 2) := by decide +kernel
theorem dX1_whole_47 : decode cX1_whole 47 = .ok (.if_icmp .ge 70, 3) := by decide +kernel
theorem dX1_whole_50 : decode cX1_whole 50 = .ok (.iconst 0, 1) := by decide +kernel
theorem dX1_whole_51 : decode cX1_whole 51 = .ok (.istore 6, 2) := by decide +kernel
theorem dX1_whole_53 : decode cX1_whole 53 = .ok (.iload_n 1, 1) := by decide +kernel
theorem dX1_whole_54 : decode cX1_whole 54 = .ok (.istore 7, 2) := by decide +kernel
theorem dX1_whole_56 : decode cX1_whole 56 = .ok (.iload 7, 2) := by decide +kernel
theorem dX1_whole_58 : decode cX1_whole 58 = .ok (.iload_n 2, 1) := by decide +kernel
theorem dX1_whole_59 : decode cX1_whole 59 = .ok (.if_icmp .gt 22, 3) := by decide +kernel
theorem dX1_whole_62 : decode cX1_whole 62 = .ok (.iload 6, 2) := by decide +kernel
theorem dX1_whole_64 : decode cX1_whole 64 = .ok (.aload_n 0, 1) := by decide +kernel
theorem dX1_whole_65 : decode cX1_whole 65 = .ok (.iload 7, 2) := by decide +kernel
theorem dX1_whole_67 : decode cX1_whole 67 = .ok (.iload 5, 2) := by decide +kernel
theorem dX1_whole_69 : decode cX1_whole 69 = .ok (.invokevirtual 76, 3) := by decide +kernel
theorem dX1_whole_72 : decode cX1_whole 72 = .ok (.iadd, 1) := by decide +kernel
theorem dX1_whole_73 : decode cX1_whole 73 = .ok (.istore 6, 2) := by decide +kernel
theorem dX1_whole_75 : decode cX1_whole 75 = .ok (.iinc 7 1, 3) := by decide +kernel
theorem dX1_whole_78 : decode cX1_whole 78 = .ok (.goto (-22), 3) := by decide +kernel
theorem dX1_whole_81 : decode cX1_whole 81 = .ok (.iload 6, 2) := by decide +kernel
theorem dX1_whole_83 : decode cX1_whole 83 = .ok (.iload 4, 2) := by decide +kernel
theorem dX1_whole_85 : decode cX1_whole 85 = .ok (.if_icmp .le 8, 3) := by decide +kernel
theorem dX1_whole_88 : decode cX1_whole 88 = .ok (.iload 5, 2) := by decide +kernel
theorem dX1_whole_90 : decode cX1_whole 90 = .ok (.goto 4, 3) := by decide +kernel
theorem dX1_whole_93 : decode cX1_whole 93 = .ok (.iload_n 3, 1) := by decide +kernel
theorem dX1_whole_94 : decode cX1_whole 94 = .ok (.istore_n 3, 1) := by decide +kernel
theorem dX1_whole_95 : decode cX1_whole 95 = .ok (.iload 6, 2) := by decide +kernel
theorem dX1_whole_97 : decode cX1_whole 97 = .ok (.iload 4, 2) := by decide +kernel
theorem dX1_whole_99 : decode cX1_whole 99 = .ok (.if_icmp .le 8, 3) := by decide +kernel
theorem dX1_whole_102 : decode cX1_whole 102 = .ok (.iload 6, 2) := by decide +kernel
theorem dX1_whole_104 : decode cX1_whole 104 = .ok (.goto 5, 3) := by decide +kernel
theorem dX1_whole_107 : decode cX1_whole 107 = .ok (.iload 4, 2) := by decide +kernel
theorem dX1_whole_109 : decode cX1_whole 109 = .ok (.istore 4, 2) := by decide +kernel
theorem dX1_whole_111 : decode cX1_whole 111 = .ok (.iinc 5 1, 3) := by decide +kernel
theorem dX1_whole_114 : decode cX1_whole 114 = .ok (.goto (-71), 3) := by decide +kernel
theorem dX1_whole_117 : decode cX1_whole 117 = .ok (.iload_n 3, 1) := by decide +kernel
theorem dX1_whole_118 : decode cX1_whole 118 = .ok (.ireturn, 1) := by decide +kernel
theorem dX1_of_0 : decode cX1_of 0 = .ok (.aload_n 0, 1) := by decide +kernel
theorem dX1_of_1 : decode cX1_of 1 = .ok (.iload_n 1, 1) := by decide +kernel
theorem dX1_of_2 : decode cX1_of 2 = .ok (.i2l, 1) := by decide +kernel
theorem dX1_of_3 : decode cX1_of 3 = .ok (.lconst 0, 1) := by decide +kernel
theorem dX1_of_4 : decode cX1_of 4 = .ok (.ldc2_w 114, 3) := by decide +kernel
theorem dX1_of_7 : decode cX1_of 7 = .ok (.invokestatic 51, 3) := by decide +kernel
theorem dX1_of_10 : decode cX1_of 10 = .ok (.ifCond .eq 7, 3) := by decide +kernel
theorem dX1_of_13 : decode cX1_of 13 = .ok (.iconst 0, 1) := by decide +kernel
theorem dX1_of_14 : decode cX1_of 14 = .ok (.goto 4, 3) := by decide +kernel
theorem dX1_of_17 : decode cX1_of 17 = .ok (.iconst 1, 1) := by decide +kernel
theorem dX1_of_18 : decode cX1_of 18 = .ok (.invokevirtual 61, 3) := by decide +kernel
theorem dX1_of_21 : decode cX1_of 21 = .ok (.ifCond .ne 5, 3) := by decide +kernel
theorem dX1_of_24 : decode cX1_of 24 = .ok (.iconst 0, 1) := by decide +kernel
theorem dX1_of_25 : decode cX1_of 25 = .ok (.ireturn, 1) := by decide +kernel
theorem dX1_of_26 : decode cX1_of 26 = .ok (.iload_n 1, 1) := by decide +kernel
theorem dX1_of_27 : decode cX1_of 27 = .ok (.iconst 4, 1) := by decide +kernel
theorem dX1_of_28 : decode cX1_of 28 = .ok (.if_icmp .ne 54, 3) := by decide +kernel
theorem dX1_of_31 : decode cX1_of 31 = .ok (.iconst 0, 1) := by decide +kernel
theorem dX1_of_32 : decode cX1_of 32 = .ok (.istore_n 2, 1) := by decide +kernel
theorem dX1_of_33 : decode cX1_of 33 = .ok (.aload_n 0, 1) := by decide +kernel
theorem dX1_of_34 : decode cX1_of 34 = .ok (.lconst 0, 1) := by decide +kernel
theorem dX1_of_35 : decode cX1_of 35 = .ok (.invokevirtual 101, 3) := by decide +kernel
theorem dX1_of_38 : decode cX1_of 38 = .ok (.pop, 1) := by decide +kernel
theorem dX1_of_39 : decode cX1_of 39 = .ok (.iconst 1, 1) := by decide +kernel
theorem dX1_of_40 : decode cX1_of 40 = .ok (.istore_n 3, 1) := by decide +kernel
theorem dX1_of_41 : decode cX1_of 41 = .ok (.iload_n 3, 1) := by decide +kernel
theorem dX1_of_42 : decode cX1_of 42 = .ok (.aload_n 0, 1) := by decide +kernel
theorem dX1_of_43 : decode cX1_of 43 = .ok (.getfield 39, 3) := by decide +kernel
theorem dX1_of_46 : decode cX1_of 46 = .ok (.if_icmp .ge 34, 3) := by decide +kernel
theorem dX1_of_49 : decode cX1_of 49 = .ok (.iload_n 2, 1) := by decide +kernel
theorem dX1_of_50 : decode cX1_of 50 = .ok (.aload_n 0, 1) := by decide +kernel
theorem dX1_of_51 : decode cX1_of 51 = .ok (.getfield 29, 3) := by decide +kernel
theorem dX1_of_54 : decode cX1_of 54 = .ok (.iload_n 3, 1) := by decide +kernel
theorem dX1_of_55 : decode cX1_of 55 = .ok (.iaload, 1) := by decide +kernel
theorem dX1_of_56 : decode cX1_of 56 = .ok (.aload_n 0, 1) := by decide +kernel
theorem dX1_of_57 : decode cX1_of 57 = .ok (.getfield 29, 3) := by decide +kernel
theorem dX1_of_60 : decode cX1_of 60 = .ok (.iload_n 3, 1) := by decide +kernel
theorem dX1_of_61 : decode cX1_of 61 = .ok (.iconst 1, 1) := by decide +kernel
theorem dX1_of_62 : decode cX1_of 62 = .ok (.isub, 1) := by decide +kernel
theorem dX1_of_63 : decode cX1_of 63 = .ok (.iaload, 1) := by decide +kernel
theorem dX1_of_64 : decode cX1_of 64 = .ok (.if_icmp .ne 7, 3) := by decide +kernel
theorem dX1_of_67 : decode cX1_of 67 = .ok (.iconst 0, 1) := by decide +kernel
theorem dX1_of_68 : decode cX1_of 68 = .ok (.goto 4, 3) := by decide +kernel
theorem dX1_of_71 : decode cX1_of 71 = .ok (.iconst 1, 1) := by decide +kernel
theorem dX1_of_72 : decode cX1_of 72 = .ok (.iadd, 1) := by decide +kernel
theorem dX1_of_73 : decode cX1_of 73 = .ok (.istore_n 2, 1) := by decide +kernel
theorem dX1_of_74 : decode cX1_of 74 = .ok (.iinc 3 1, 3) := by decide +kernel
theorem dX1_of_77 : decode cX1_of 77 = .ok (.goto (-36), 3) := by decide +kernel
theorem dX1_of_80 : decode cX1_of 80 = .ok (.iload_n 2, 1) := by decide +kernel
theorem dX1_of_81 : decode cX1_of 81 = .ok (.ireturn, 1) := by decide +kernel
theorem dX1_of_82 : decode cX1_of 82 = .ok (.iload_n 1, 1) := by decide +kernel
theorem dX1_of_83 : decode cX1_of 83 = .ok (.ifCond .ne 10, 3) := by decide +kernel
theorem dX1_of_86 : decode cX1_of 86 = .ok (.aload_n 0, 1) := by decide +kernel
theorem dX1_of_87 : decode cX1_of 87 = .ok (.getfield 39, 3) := by decide +kernel
theorem dX1_of_90 : decode cX1_of 90 = .ok (.goto 31, 3) := by decide +kernel
theorem dX1_of_93 : decode cX1_of 93 = .ok (.iload_n 1, 1) := by decide +kernel
theorem dX1_of_94 : decode cX1_of 94 = .ok (.iconst 1, 1) := by decide +kernel
theorem dX1_of_95 : decode cX1_of 95 = .ok (.if_icmp .ne 10, 3) := by decide +kernel
theorem dX1_of_98 : decode cX1_of 98 = .ok (.aload_n 0, 1) := by decide +kernel
theorem dX1_of_99 : decode cX1_of 99 = .ok (.getfield 42, 3) := by decide +kernel
theorem dX1_of_102 : decode cX1_of 102 = .ok (.goto 19, 3) := by decide +kernel
theorem dX1_of_105 : decode cX1_of 105 = .ok (.iload_n 1, 1) := by decide +kernel
theorem dX1_of_106 : decode cX1_of 106 = .ok (.iconst 2, 1) := by decide +kernel
theorem dX1_of_107 : decode cX1_of 107 = .ok (.if_icmp .ne 10, 3) := by decide +kernel
theorem dX1_of_110 : decode cX1_of 110 = .ok (.aload_n 0, 1) := by decide +kernel
theorem dX1_of_111 : decode cX1_of 111 = .ok (.getfield 45, 3) := by decide +kernel
theorem dX1_of_114 : decode cX1_of 114 = .ok (.goto 7, 3) := by decide +kernel
theorem dX1_of_117 : decode cX1_of 117 = .ok (.aload_n 0, 1) := by decide +kernel
theorem dX1_of_118 : decode cX1_of 118 = .ok (.getfield 48, 3) := by decide +kernel
theorem dX1_of_121 : decode cX1_of 121 = .ok (.ireturn, 1) := by decide +kernel
end
section
set_option maxHeartbeats 4000000 in
set_option maxRecDepth 100000 in
theorem m_isGood (E : KE) (J : Nat → Nat) (cd n b y o : Nat) (Wm Pm Rm Ym Tm Cm Km : Nat → Nat) (c9 : Nat) (H0 : c9 ≤ 2) : kMz E yX1_isGood cX1_isGood 2 (rk 0 0) [.ref (J 0), .int (nI (c9))] (kmW E J cd n b y o Wm Pm Rm Ym Tm Cm Km) (fun r w => r = nI (if c9 = 0 then 1 else 0) ∧ w = (kmW E J c9 n b y o Wm Pm Rm Ym Tm Cm Km)) := by
  refine kMz_of (cc := cX1_isGood) (maxL := 2) (by decide) (Nat.le_of_ble_eq_true rfl) ?_
  intro G C hE
  refine kx_aload_n C dX1_isGood_0 rfl 0 rfl ?_
  refine kx_iload_n C dX1_isGood_1 rfl 1 rfl ?_
  refine kx_put (ws2 := (kmW E J c9 n b y o Wm Pm Rm Ym Tm Cm Km)) (ci := 1) C kin1 tyX1_ok nmX1 0 rfl rfl 0 (by decide) fl1_35 rfl rfl rfl rfl (Nat.le_of_ble_eq_true rfl) rfl dX1_isGood_2 ?_
  refine kx_iload_n C dX1_isGood_5 rfl 1 rfl ?_
  refine kx_if_ne (tgt := 13) C (by omega) dX1_isGood_6 (by decide) (fun c1 => ?_) (fun c1 => ?_)
  · skip
    refine kx_iconst (v := nI 0) C dX1_isGood_13 (by decide +kernel) ?_
    exact hE (Nat.le_of_ble_eq_true rfl) (Nat.le_of_ble_eq_true rfl) dX1_isGood_14 (by decide +kernel) ⟨congrArg nI (by simp [*]), rfl⟩
  · skip
    refine kx_iconst (v := nI 1) C dX1_isGood_9 (by decide +kernel) ?_
    refine kx_goto (tgt := 14) C dX1_isGood_10 (by decide) ?_
    exact hE (Nat.le_of_ble_eq_true rfl) (Nat.le_of_ble_eq_true rfl) dX1_isGood_14 (by decide +kernel) ⟨congrArg nI (by simp [*]), rfl⟩

set_option maxHeartbeats 4000000 in
set_option maxRecDepth 100000 in
theorem m_thrown (E : KE) (J : Nat → Nat) (cd n b y o : Nat) (Wm Pm Rm Ym Tm Cm Km : Nat → Nat) : kMi E yX1_thrown cX1_thrown 1 (rk 0 0) [.ref (J 0)] (kmW E J cd n b y o Wm Pm Rm Ym Tm Cm Km) (fun r w => r = nI cd ∧ w = (kmW E J cd n b y o Wm Pm Rm Ym Tm Cm Km)) := by
  refine kMi_of (cc := cX1_thrown) (maxL := 1) (by decide) (Nat.le_of_ble_eq_true rfl) ?_
  intro G C hE
  refine kx_aload_n C dX1_thrown_0 rfl 0 rfl ?_
  refine kx_get (v := .int (nI (cd))) (ci := 1) C kin1 0 rfl rfl 0 (by decide) fl1_35 rfl rfl dX1_thrown_1 ?_
  exact hE (Nat.le_of_ble_eq_true rfl) (Nat.le_of_ble_eq_true rfl) dX1_thrown_4 ⟨rfl, rfl⟩

theorem kIL1 {x : Int32} {m : Nat} (hm : m < 2 ^ 31) (h1 : ¬ x.toInt64 < lN 0) (h2 : ¬ lN m < x.toInt64) : ∃ j, j ≤ m ∧ x = nI j := kIn1 hm (fun z => h1 (k_l0.mpr z)) (fun z => h2 ((k_lm hm).mpr z))
theorem kIL2 {x : Int32} {m : Nat} (hm : m < 2 ^ 31) (h : x.toInt64 < lN 0 ∨ lN m < x.toInt64) : ¬ ∃ j, j ≤ m ∧ x = nI j := kIn2 hm (h.elim (fun z => Or.inl (k_l0.mp z)) (fun z => Or.inr ((k_lm hm).mp z)))
theorem kIL3 {x : Int32} {m : Nat} (hm : m < 2 ^ 31) (h1 : ¬ x.toInt64 < lN 1) (h2 : ¬ lN m < x.toInt64) : ∃ j, 1 ≤ j ∧ j ≤ m ∧ x = nI j := by
  obtain ⟨j, ⟨a, b⟩, c⟩ := kIn3 hm (fun z => h1 ((k_l1 (by decide)).mpr z)) (fun z => h2 ((k_lm hm).mpr z))
  exact ⟨j, a, b, c⟩
theorem kIL4 {x : Int32} {m : Nat} (hm : m < 2 ^ 31) (h : x.toInt64 < lN 1 ∨ lN m < x.toInt64) : ¬ ∃ j, 1 ≤ j ∧ j ≤ m ∧ x = nI j := kIn4 hm (h.elim (fun z => Or.inl ((k_l1 (by decide)).mp z)) (fun z => Or.inr ((k_lm hm).mp z)))
theorem kIL5 {x : Int32} {n : Nat} (hn : n ≤ 40) (h1 : ¬ x.toInt64 < lN 0) (h2 : ¬ (nI n - nI 1).toInt64 < x.toInt64) : ∃ j, j < n ∧ x = nI j := kSl1 hn (fun z => h1 (k_l0.mpr z)) (fun z => h2 (k_lx.mpr z))
theorem kIL6 {x : Int32} {n : Nat} (hn : n ≤ 40) (h : x.toInt64 < lN 0 ∨ (nI n - nI 1).toInt64 < x.toInt64) : ¬ ∃ j, j < n ∧ x = nI j := kSl2 hn (h.elim (fun z => Or.inl (k_l0.mp z)) (fun z => Or.inr (k_lx.mp z)))
theorem kIL7 {x : Int64} (h1 : ¬ x < lN 0) (h2 : ¬ lN 999999999999999999 < x) : ∃ j, j < 1000000000000000000 ∧ x = lN j := by
  obtain ⟨i, hi, rfl⟩ := pk_lOf (x := x) h1
  exact ⟨i, by have h3 : ¬ 999999999999999999 < i := fun z => h2 ((pk_lLT (by decide) hi).mpr z); omega, rfl⟩
theorem kIL8 {x : Int64} (h : x < lN 0 ∨ lN 999999999999999999 < x) : ¬ ∃ j, j < 1000000000000000000 ∧ x = lN j := by
  rintro ⟨j, hj, rfl⟩
  rcases h with h | h
  · have := (pk_lLT (by omega) (by decide)).mp h
    omega
  · have := (pk_lLT (by decide) (by omega)).mp h
    omega

set_option maxHeartbeats 4000000 in
set_option maxRecDepth 100000 in
theorem m_isIn0 (E : KE) (x : Int32) (m : Nat) (H0 : m < 2 ^ 31) : kMz E yX1_isIn cX1_isIn 6 (rk 0 0) [.long (x.toInt64), .long (lN (0)), .long (lN (m))] [] (fun r w => ((∃ j, j ≤ m ∧ x = nI j) ∧ r = nI 1 ∧ w = []) ∨ ((¬ (∃ j, j ≤ m ∧ x = nI j)) ∧ r = nI 0 ∧ w = [])) := by
  refine kMz_of (cc := cX1_isIn) (maxL := 6) (by decide) (Nat.le_of_ble_eq_true rfl) ?_
  intro G C hE
  refine kx_lload_n C dX1_isIn_0 rfl 0 rfl ?_
  refine kx_lload_n C dX1_isIn_1 rfl 1 rfl ?_
  refine kx_lcmp_ltR (tgt := 17) C dX1_isIn_2 dX1_isIn_3 (by decide) (fun c1 => ?_) (fun c1 => ?_)
  · skip
    refine kx_iconst (v := nI 0) C dX1_isIn_17 (by decide +kernel) ?_
    exact hE (Nat.le_of_ble_eq_true rfl) (Nat.le_of_ble_eq_true rfl) dX1_isIn_18 (by decide +kernel) (Or.inr ⟨kIL2 H0 (Or.inl c1), rfl, rfl⟩)
  · skip
    refine kx_lload_n C dX1_isIn_6 rfl 0 rfl ?_
    refine kx_lload C dX1_isIn_7 2 rfl ?_
    refine kx_lcmp_gtR (tgt := 17) C dX1_isIn_9 dX1_isIn_10 (by decide) (fun c2 => ?_) (fun c2 => ?_)
    · skip
      refine kx_iconst (v := nI 0) C dX1_isIn_17 (by decide +kernel) ?_
      exact hE (Nat.le_of_ble_eq_true rfl) (Nat.le_of_ble_eq_true rfl) dX1_isIn_18 (by decide +kernel) (Or.inr ⟨kIL2 H0 (Or.inr c2), rfl, rfl⟩)
    · skip
      refine kx_iconst (v := nI 1) C dX1_isIn_13 (by decide +kernel) ?_
      refine kx_goto (tgt := 18) C dX1_isIn_14 (by decide) ?_
      exact hE (Nat.le_of_ble_eq_true rfl) (Nat.le_of_ble_eq_true rfl) dX1_isIn_18 (by decide +kernel) (Or.inl ⟨kIL1 H0 c1 c2, rfl, rfl⟩)

set_option maxHeartbeats 4000000 in
set_option maxRecDepth 100000 in
theorem m_isIn1 (E : KE) (x : Int32) (m : Nat) (H0 : m < 2 ^ 31) : kMz E yX1_isIn cX1_isIn 6 (rk 0 0) [.long (x.toInt64), .long (lN (1)), .long (lN (m))] [] (fun r w => ((∃ j, 1 ≤ j ∧ j ≤ m ∧ x = nI j) ∧ r = nI 1 ∧ w = []) ∨ ((¬ (∃ j, 1 ≤ j ∧ j ≤ m ∧ x = nI j)) ∧ r = nI 0 ∧ w = [])) := by
  refine kMz_of (cc := cX1_isIn) (maxL := 6) (by decide) (Nat.le_of_ble_eq_true rfl) ?_
  intro G C hE
  refine kx_lload_n C dX1_isIn_0 rfl 0 rfl ?_
  refine kx_lload_n C dX1_isIn_1 rfl 1 rfl ?_
  refine kx_lcmp_ltR (tgt := 17) C dX1_isIn_2 dX1_isIn_3 (by decide) (fun c1 => ?_) (fun c1 => ?_)
  · skip
    refine kx_iconst (v := nI 0) C dX1_isIn_17 (by decide +kernel) ?_
    exact hE (Nat.le_of_ble_eq_true rfl) (Nat.le_of_ble_eq_true rfl) dX1_isIn_18 (by decide +kernel) (Or.inr ⟨kIL4 H0 (Or.inl c1), rfl, rfl⟩)
  · skip
    refine kx_lload_n C dX1_isIn_6 rfl 0 rfl ?_
    refine kx_lload C dX1_isIn_7 2 rfl ?_
    refine kx_lcmp_gtR (tgt := 17) C dX1_isIn_9 dX1_isIn_10 (by decide) (fun c2 => ?_) (fun c2 => ?_)
    · skip
      refine kx_iconst (v := nI 0) C dX1_isIn_17 (by decide +kernel) ?_
      exact hE (Nat.le_of_ble_eq_true rfl) (Nat.le_of_ble_eq_true rfl) dX1_isIn_18 (by decide +kernel) (Or.inr ⟨kIL4 H0 (Or.inr c2), rfl, rfl⟩)
    · skip
      refine kx_iconst (v := nI 1) C dX1_isIn_13 (by decide +kernel) ?_
      refine kx_goto (tgt := 18) C dX1_isIn_14 (by decide) ?_
      exact hE (Nat.le_of_ble_eq_true rfl) (Nat.le_of_ble_eq_true rfl) dX1_isIn_18 (by decide +kernel) (Or.inl ⟨kIL3 H0 c1 c2, rfl, rfl⟩)

set_option maxHeartbeats 4000000 in
set_option maxRecDepth 100000 in
theorem m_isInS (E : KE) (x : Int32) (n : Nat) (H0 : n ≤ 40) : kMz E yX1_isIn cX1_isIn 6 (rk 0 0) [.long (x.toInt64), .long (lN (0)), .long ((nI n - nI 1).toInt64)] [] (fun r w => ((∃ j, j < n ∧ x = nI j) ∧ r = nI 1 ∧ w = []) ∨ ((¬ (∃ j, j < n ∧ x = nI j)) ∧ r = nI 0 ∧ w = [])) := by
  refine kMz_of (cc := cX1_isIn) (maxL := 6) (by decide) (Nat.le_of_ble_eq_true rfl) ?_
  intro G C hE
  refine kx_lload_n C dX1_isIn_0 rfl 0 rfl ?_
  refine kx_lload_n C dX1_isIn_1 rfl 1 rfl ?_
  refine kx_lcmp_ltR (tgt := 17) C dX1_isIn_2 dX1_isIn_3 (by decide) (fun c1 => ?_) (fun c1 => ?_)
  · skip
    refine kx_iconst (v := nI 0) C dX1_isIn_17 (by decide +kernel) ?_
    exact hE (Nat.le_of_ble_eq_true rfl) (Nat.le_of_ble_eq_true rfl) dX1_isIn_18 (by decide +kernel) (Or.inr ⟨kIL6 H0 (Or.inl c1), rfl, rfl⟩)
  · skip
    refine kx_lload_n C dX1_isIn_6 rfl 0 rfl ?_
    refine kx_lload C dX1_isIn_7 2 rfl ?_
    refine kx_lcmp_gtR (tgt := 17) C dX1_isIn_9 dX1_isIn_10 (by decide) (fun c2 => ?_) (fun c2 => ?_)
    · skip
      refine kx_iconst (v := nI 0) C dX1_isIn_17 (by decide +kernel) ?_
      exact hE (Nat.le_of_ble_eq_true rfl) (Nat.le_of_ble_eq_true rfl) dX1_isIn_18 (by decide +kernel) (Or.inr ⟨kIL6 H0 (Or.inr c2), rfl, rfl⟩)
    · skip
      refine kx_iconst (v := nI 1) C dX1_isIn_13 (by decide +kernel) ?_
      refine kx_goto (tgt := 18) C dX1_isIn_14 (by decide) ?_
      exact hE (Nat.le_of_ble_eq_true rfl) (Nat.le_of_ble_eq_true rfl) dX1_isIn_18 (by decide +kernel) (Or.inl ⟨kIL5 H0 c1 c2, rfl, rfl⟩)

set_option maxHeartbeats 4000000 in
set_option maxRecDepth 100000 in
theorem m_isInL (E : KE) (x : Int64) : kMz E yX1_isIn cX1_isIn 6 (rk 0 0) [.long (x), .long (lN (0)), .long (lN (999999999999999999))] [] (fun r w => ((∃ j, j < 1000000000000000000 ∧ x = lN j) ∧ r = nI 1 ∧ w = []) ∨ ((¬ (∃ j, j < 1000000000000000000 ∧ x = lN j)) ∧ r = nI 0 ∧ w = [])) := by
  refine kMz_of (cc := cX1_isIn) (maxL := 6) (by decide) (Nat.le_of_ble_eq_true rfl) ?_
  intro G C hE
  refine kx_lload_n C dX1_isIn_0 rfl 0 rfl ?_
  refine kx_lload_n C dX1_isIn_1 rfl 1 rfl ?_
  refine kx_lcmp_ltR (tgt := 17) C dX1_isIn_2 dX1_isIn_3 (by decide) (fun c1 => ?_) (fun c1 => ?_)
  · skip
    refine kx_iconst (v := nI 0) C dX1_isIn_17 (by decide +kernel) ?_
    exact hE (Nat.le_of_ble_eq_true rfl) (Nat.le_of_ble_eq_true rfl) dX1_isIn_18 (by decide +kernel) (Or.inr ⟨kIL8 (Or.inl c1), rfl, rfl⟩)
  · skip
    refine kx_lload_n C dX1_isIn_6 rfl 0 rfl ?_
    refine kx_lload C dX1_isIn_7 2 rfl ?_
    refine kx_lcmp_gtR (tgt := 17) C dX1_isIn_9 dX1_isIn_10 (by decide) (fun c2 => ?_) (fun c2 => ?_)
    · skip
      refine kx_iconst (v := nI 0) C dX1_isIn_17 (by decide +kernel) ?_
      exact hE (Nat.le_of_ble_eq_true rfl) (Nat.le_of_ble_eq_true rfl) dX1_isIn_18 (by decide +kernel) (Or.inr ⟨kIL8 (Or.inr c2), rfl, rfl⟩)
    · skip
      refine kx_iconst (v := nI 1) C dX1_isIn_13 (by decide +kernel) ?_
      refine kx_goto (tgt := 18) C dX1_isIn_14 (by decide) ?_
      exact hE (Nat.le_of_ble_eq_true rfl) (Nat.le_of_ble_eq_true rfl) dX1_isIn_18 (by decide +kernel) (Or.inl ⟨kIL7 c1 c2, rfl, rfl⟩)

set_option maxHeartbeats 4000000 in
set_option maxRecDepth 100000 in
theorem m_isSlice (E : KE) (J : Nat → Nat) (cd n b y o : Nat) (Wm Pm Rm Ym Tm Cm Km : Nat → Nat) (x : Int32) (H1 : n ≤ 40) : kMz E yX1_isSlice cX1_isSlice 2 (rk 1 0) [.ref (J 0), .int (x)] (kmW E J cd n b y o Wm Pm Rm Ym Tm Cm Km) (fun r w => ((∃ j, j < n ∧ x = nI j) ∧ r = nI 1 ∧ w = (kmW E J cd n b y o Wm Pm Rm Ym Tm Cm Km)) ∨ ((¬ (∃ j, j < n ∧ x = nI j)) ∧ r = nI 0 ∧ w = (kmW E J cd n b y o Wm Pm Rm Ym Tm Cm Km))) := by
  refine kMz_of (cc := cX1_isSlice) (maxL := 2) (by decide) (Nat.le_of_ble_eq_true rfl) ?_
  intro G C hE
  refine kx_iload_n C dX1_isSlice_0 rfl 1 rfl ?_
  refine kx_i2l (v := (x).toInt64) C dX1_isSlice_1 rfl ?_
  refine kx_lconst (v := lN 0) C dX1_isSlice_2 (by decide +kernel) ?_
  refine kx_aload_n C dX1_isSlice_3 rfl 0 rfl ?_
  refine kx_get (v := .int (nI (n))) (ci := 1) C kin1 0 rfl rfl 1 (by decide) fl1_39 rfl rfl dX1_isSlice_4 ?_
  refine kx_iconst (v := nI 1) C dX1_isSlice_7 (by decide +kernel) ?_
  refine kx_isubR C dX1_isSlice_8 ?_
  refine kx_i2l (v := ((nI (n)) - (nI (1))).toInt64) C dX1_isSlice_9 rfl ?_
  refine kx_callSz (rest := []) (wr := (kmW E J cd n b y o Wm Pm Rm Ym Tm Cm Km)) C (m_isInS E x n H1) g1_51 3 rfl (by decide +kernel) ⟨Nat.le_of_ble_eq_true rfl, Nat.le_of_ble_eq_true rfl⟩ ⟨Nat.le_of_ble_eq_true rfl, Nat.le_of_ble_eq_true rfl⟩ [] [0, 1, 2, 3, 4, 5, 6, 7] rfl rfl (by decide) (by decide) (by decide) rfl (Nat.le_of_ble_eq_true rfl) dX1_isSlice_10 (fun v w q1 => ?_)
  rcases q1 with ⟨q1, rfl, rfl⟩ | ⟨q1, rfl, rfl⟩
  · skip
    refine kx_eqw (ws2 := (kmW E J cd n b y o Wm Pm Rm Ym Tm Cm Km)) (List.append_nil _) ?_
    exact hE (Nat.le_of_ble_eq_true rfl) (Nat.le_of_ble_eq_true rfl) dX1_isSlice_13 (by decide +kernel) (Or.inl ⟨q1, rfl, rfl⟩)
  · skip
    refine kx_eqw (ws2 := (kmW E J cd n b y o Wm Pm Rm Ym Tm Cm Km)) (List.append_nil _) ?_
    exact hE (Nat.le_of_ble_eq_true rfl) (Nat.le_of_ble_eq_true rfl) dX1_isSlice_13 (by decide +kernel) (Or.inr ⟨q1, rfl, rfl⟩)

set_option maxHeartbeats 4000000 in
set_option maxRecDepth 100000 in
theorem m_isKey (E : KE) (x : Int32) : kMz E yX1_isKey cX1_isKey 1 (rk 1 0) [.int (x)] [] (fun r w => ((∃ j, j ≤ 23 ∧ x = nI j) ∧ r = nI 1 ∧ w = []) ∨ ((¬ (∃ j, j ≤ 23 ∧ x = nI j)) ∧ r = nI 0 ∧ w = [])) := by
  refine kMz_of (cc := cX1_isKey) (maxL := 1) (by decide) (Nat.le_of_ble_eq_true rfl) ?_
  intro G C hE
  refine kx_iload_n C dX1_isKey_0 rfl 0 rfl ?_
  refine kx_i2l (v := (x).toInt64) C dX1_isKey_1 rfl ?_
  refine kx_lconst (v := lN 0) C dX1_isKey_2 (by decide +kernel) ?_
  refine kx_ldc2 (v := lN 23) C kc1_55 dX1_isKey_3 ?_
  refine kx_callSz (rest := []) (wr := []) C (m_isIn0 E x 23 (by decide)) g1_51 3 rfl (by decide +kernel) ⟨Nat.le_of_ble_eq_true rfl, Nat.le_of_ble_eq_true rfl⟩ ⟨Nat.le_of_ble_eq_true rfl, Nat.le_of_ble_eq_true rfl⟩ [] [] rfl rfl (by decide) (by decide) (by decide) rfl (Nat.le_of_ble_eq_true rfl) dX1_isKey_6 (fun v w q1 => ?_)
  rcases q1 with ⟨q1, rfl, rfl⟩ | ⟨q1, rfl, rfl⟩
  · skip
    refine kx_eqw (ws2 := []) (List.append_nil _) ?_
    exact hE (Nat.le_of_ble_eq_true rfl) (Nat.le_of_ble_eq_true rfl) dX1_isKey_9 (by decide +kernel) (Or.inl ⟨q1, rfl, rfl⟩)
  · skip
    refine kx_eqw (ws2 := []) (List.append_nil _) ?_
    exact hE (Nat.le_of_ble_eq_true rfl) (Nat.le_of_ble_eq_true rfl) dX1_isKey_9 (by decide +kernel) (Or.inr ⟨q1, rfl, rfl⟩)
end
