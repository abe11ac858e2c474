section
-- ===== PART A: goes FIRST, ahead of the names: the tables' words, and 'selects' of the private methods out of them =====
/-- a private method of a class that the tables say can be made, by its rows of tables_1 -/
def lw_okq (q : MethodName × Nat) : Prop := (q.1.cls ≠ "java/lang/invoke/MethodHandle" ∧ q.1.cls ≠ "java/lang/invoke/VarHandle") ∧ Cond.instantiable q.1.cls q.2 ∈ tables_1 ∧ Cond.privateMethod q.1 ∈ tables_1 ∧ Cond.instanceMethod q.1 ∈ tables_1
theorem lw_p0 : lw_okq (⟨"KeyWalks", "setFirst", "()V"⟩, 17) := ⟨⟨by decide +kernel, by decide +kernel⟩, List.mem_of_getElem? (i := 12) (by decide +kernel), List.mem_of_getElem? (i := 20) (by decide +kernel), List.mem_of_getElem? (i := 21) (by decide +kernel)⟩
theorem lw_p1 : lw_okq (⟨"KeyWalks", "forget", "()V"⟩, 17) := ⟨⟨by decide +kernel, by decide +kernel⟩, List.mem_of_getElem? (i := 12) (by decide +kernel), List.mem_of_getElem? (i := 29) (by decide +kernel), List.mem_of_getElem? (i := 30) (by decide +kernel)⟩
theorem lw_p2 : lw_okq (⟨"KeyWalks", "knowTails", "()V"⟩, 17) := ⟨⟨by decide +kernel, by decide +kernel⟩, List.mem_of_getElem? (i := 12) (by decide +kernel), List.mem_of_getElem? (i := 95) (by decide +kernel), List.mem_of_getElem? (i := 96) (by decide +kernel)⟩
theorem lw_p3 : lw_okq (⟨"KeyWalks", "fillTurns", "()V"⟩, 17) := ⟨⟨by decide +kernel, by decide +kernel⟩, List.mem_of_getElem? (i := 12) (by decide +kernel), List.mem_of_getElem? (i := 99) (by decide +kernel), List.mem_of_getElem? (i := 100) (by decide +kernel)⟩
theorem lw_p4 : lw_okq (⟨"KeyWalks", "turnBetween", "(II)I"⟩, 17) := ⟨⟨by decide +kernel, by decide +kernel⟩, List.mem_of_getElem? (i := 12) (by decide +kernel), List.mem_of_getElem? (i := 103) (by decide +kernel), List.mem_of_getElem? (i := 104) (by decide +kernel)⟩
theorem lw_p5 : lw_okq (⟨"KeyWalks", "fillSliceCosts", "(I)V"⟩, 17) := ⟨⟨by decide +kernel, by decide +kernel⟩, List.mem_of_getElem? (i := 12) (by decide +kernel), List.mem_of_getElem? (i := 122) (by decide +kernel), List.mem_of_getElem? (i := 123) (by decide +kernel)⟩
theorem lw_p6 : lw_okq (⟨"KeyWalks", "fitIn", "(II)I"⟩, 17) := ⟨⟨by decide +kernel, by decide +kernel⟩, List.mem_of_getElem? (i := 12) (by decide +kernel), List.mem_of_getElem? (i := 126) (by decide +kernel), List.mem_of_getElem? (i := 127) (by decide +kernel)⟩
theorem lw_p7 : lw_okq (⟨"KeyWalks", "numberOf", "(II)I"⟩, 17) := ⟨⟨by decide +kernel, by decide +kernel⟩, List.mem_of_getElem? (i := 12) (by decide +kernel), List.mem_of_getElem? (i := 130) (by decide +kernel), List.mem_of_getElem? (i := 131) (by decide +kernel)⟩
theorem lw_p8 : lw_okq (⟨"KeyWalks", "fillTail", "(II)V"⟩, 17) := ⟨⟨by decide +kernel, by decide +kernel⟩, List.mem_of_getElem? (i := 12) (by decide +kernel), List.mem_of_getElem? (i := 137) (by decide +kernel), List.mem_of_getElem? (i := 138) (by decide +kernel)⟩
theorem lw_p9 : lw_okq (⟨"KeyWalks", "fillLeast", "()V"⟩, 17) := ⟨⟨by decide +kernel, by decide +kernel⟩, List.mem_of_getElem? (i := 12) (by decide +kernel), List.mem_of_getElem? (i := 149) (by decide +kernel), List.mem_of_getElem? (i := 150) (by decide +kernel)⟩
theorem lw_p10 : lw_okq (⟨"KeyWalks", "followBest", "(JI[I)I"⟩, 17) := ⟨⟨by decide +kernel, by decide +kernel⟩, List.mem_of_getElem? (i := 12) (by decide +kernel), List.mem_of_getElem? (i := 153) (by decide +kernel), List.mem_of_getElem? (i := 154) (by decide +kernel)⟩
theorem lw_p11 : lw_okq (⟨"KeyWalks", "restAfter", "(II)I"⟩, 17) := ⟨⟨by decide +kernel, by decide +kernel⟩, List.mem_of_getElem? (i := 12) (by decide +kernel), List.mem_of_getElem? (i := 157) (by decide +kernel), List.mem_of_getElem? (i := 158) (by decide +kernel)⟩
theorem lw_p12 : lw_okq (⟨"KeyWalks", "turnInto", "(II)I"⟩, 17) := ⟨⟨by decide +kernel, by decide +kernel⟩, List.mem_of_getElem? (i := 12) (by decide +kernel), List.mem_of_getElem? (i := 161) (by decide +kernel), List.mem_of_getElem? (i := 162) (by decide +kernel)⟩
theorem lw_p13 : lw_okq (⟨"java/lang/Throwable", "fillInStackTrace", "(I)Ljava/lang/Throwable;"⟩, 6) := ⟨⟨by decide +kernel, by decide +kernel⟩, List.mem_of_getElem? (i := 218) (by decide +kernel), List.mem_of_getElem? (i := 216) (by decide +kernel), List.mem_of_getElem? (i := 217) (by decide +kernel)⟩
theorem lw_p14 : lw_okq (⟨"KeyWalks", "requireSlice", "(I)V"⟩, 17) := ⟨⟨by decide +kernel, by decide +kernel⟩, List.mem_of_getElem? (i := 12) (by decide +kernel), List.mem_of_getElem? (i := 286) (by decide +kernel), List.mem_of_getElem? (i := 287) (by decide +kernel)⟩
theorem lw_p15 : lw_okq (⟨"KeyWalks", "greatestFit", "(I)I"⟩, 17) := ⟨⟨by decide +kernel, by decide +kernel⟩, List.mem_of_getElem? (i := 12) (by decide +kernel), List.mem_of_getElem? (i := 316) (by decide +kernel), List.mem_of_getElem? (i := 317) (by decide +kernel)⟩
def lw_privs_1 : List (MethodName × Nat) := [(⟨"KeyWalks", "setFirst", "()V"⟩, 17), (⟨"KeyWalks", "forget", "()V"⟩, 17), (⟨"KeyWalks", "knowTails", "()V"⟩, 17), (⟨"KeyWalks", "fillTurns", "()V"⟩, 17), (⟨"KeyWalks", "turnBetween", "(II)I"⟩, 17), (⟨"KeyWalks", "fillSliceCosts", "(I)V"⟩, 17), (⟨"KeyWalks", "fitIn", "(II)I"⟩, 17), (⟨"KeyWalks", "numberOf", "(II)I"⟩, 17), (⟨"KeyWalks", "fillTail", "(II)V"⟩, 17), (⟨"KeyWalks", "fillLeast", "()V"⟩, 17), (⟨"KeyWalks", "followBest", "(JI[I)I"⟩, 17), (⟨"KeyWalks", "restAfter", "(II)I"⟩, 17), (⟨"KeyWalks", "turnInto", "(II)I"⟩, 17), (⟨"java/lang/Throwable", "fillInStackTrace", "(I)Ljava/lang/Throwable;"⟩, 6), (⟨"KeyWalks", "requireSlice", "(I)V"⟩, 17), (⟨"KeyWalks", "greatestFit", "(I)I"⟩, 17)]
theorem lw_r1 : ∀ q ∈ lw_privs_1, lw_okq q := List.forall_mem_cons.mpr ⟨lw_p0, List.forall_mem_cons.mpr ⟨lw_p1, List.forall_mem_cons.mpr ⟨lw_p2, List.forall_mem_cons.mpr ⟨lw_p3, List.forall_mem_cons.mpr ⟨lw_p4, List.forall_mem_cons.mpr ⟨lw_p5, List.forall_mem_cons.mpr ⟨lw_p6, List.forall_mem_cons.mpr ⟨lw_p7, List.forall_mem_cons.mpr ⟨lw_p8, List.forall_mem_cons.mpr ⟨lw_p9, List.forall_mem_cons.mpr ⟨lw_p10, List.forall_mem_cons.mpr ⟨lw_p11, List.forall_mem_cons.mpr ⟨lw_p12, List.forall_mem_cons.mpr ⟨lw_p13, List.forall_mem_cons.mpr ⟨lw_p14, List.forall_mem_cons.mpr ⟨lw_p15, fun _ h => absurd h List.not_mem_nil⟩⟩⟩⟩⟩⟩⟩⟩⟩⟩⟩⟩⟩⟩⟩⟩
theorem lw_p16 : lw_okq (⟨"KeyWalks", "knowHeads", "()V"⟩, 17) := ⟨⟨by decide +kernel, by decide +kernel⟩, List.mem_of_getElem? (i := 12) (by decide +kernel), List.mem_of_getElem? (i := 349) (by decide +kernel), List.mem_of_getElem? (i := 350) (by decide +kernel)⟩
theorem lw_p17 : lw_okq (⟨"KeyWalks", "leastInto", "(II)I"⟩, 17) := ⟨⟨by decide +kernel, by decide +kernel⟩, List.mem_of_getElem? (i := 12) (by decide +kernel), List.mem_of_getElem? (i := 353) (by decide +kernel), List.mem_of_getElem? (i := 354) (by decide +kernel)⟩
theorem lw_p18 : lw_okq (⟨"KeyWalks", "leastThrough", "(II)I"⟩, 17) := ⟨⟨by decide +kernel, by decide +kernel⟩, List.mem_of_getElem? (i := 12) (by decide +kernel), List.mem_of_getElem? (i := 357) (by decide +kernel), List.mem_of_getElem? (i := 358) (by decide +kernel)⟩
theorem lw_p19 : lw_okq (⟨"KeyWalks", "nextCost", "(I)I"⟩, 17) := ⟨⟨by decide +kernel, by decide +kernel⟩, List.mem_of_getElem? (i := 12) (by decide +kernel), List.mem_of_getElem? (i := 377) (by decide +kernel), List.mem_of_getElem? (i := 378) (by decide +kernel)⟩
theorem lw_p20 : lw_okq (⟨"KeyWalks", "changesAt", "(I)Z"⟩, 17) := ⟨⟨by decide +kernel, by decide +kernel⟩, List.mem_of_getElem? (i := 12) (by decide +kernel), List.mem_of_getElem? (i := 405) (by decide +kernel), List.mem_of_getElem? (i := 406) (by decide +kernel)⟩
theorem lw_p21 : lw_okq (⟨"KeyWalks", "fitTogether", "(III)I"⟩, 17) := ⟨⟨by decide +kernel, by decide +kernel⟩, List.mem_of_getElem? (i := 12) (by decide +kernel), List.mem_of_getElem? (i := 424) (by decide +kernel), List.mem_of_getElem? (i := 425) (by decide +kernel)⟩
theorem lw_p22 : lw_okq (⟨"KeyWalks", "changesOfFirst", "()I"⟩, 17) := ⟨⟨by decide +kernel, by decide +kernel⟩, List.mem_of_getElem? (i := 12) (by decide +kernel), List.mem_of_getElem? (i := 435) (by decide +kernel), List.mem_of_getElem? (i := 436) (by decide +kernel)⟩
theorem lw_p23 : lw_okq (⟨"KeyWalksModel", "begin", "()V"⟩, 12) := ⟨⟨by decide +kernel, by decide +kernel⟩, List.mem_of_getElem? (i := 440) (by decide +kernel), List.mem_of_getElem? (i := 446) (by decide +kernel), List.mem_of_getElem? (i := 447) (by decide +kernel)⟩
theorem lw_p24 : lw_okq (⟨"KeyWalksModel", "isGood", "(I)Z"⟩, 12) := ⟨⟨by decide +kernel, by decide +kernel⟩, List.mem_of_getElem? (i := 440) (by decide +kernel), List.mem_of_getElem? (i := 504) (by decide +kernel), List.mem_of_getElem? (i := 505) (by decide +kernel)⟩
theorem lw_p25 : lw_okq (⟨"KeyWalksModel", "isSlice", "(I)Z"⟩, 12) := ⟨⟨by decide +kernel, by decide +kernel⟩, List.mem_of_getElem? (i := 440) (by decide +kernel), List.mem_of_getElem? (i := 521) (by decide +kernel), List.mem_of_getElem? (i := 522) (by decide +kernel)⟩
theorem lw_p26 : lw_okq (⟨"KeyWalksModel", "fitOf", "(II)I"⟩, 12) := ⟨⟨by decide +kernel, by decide +kernel⟩, List.mem_of_getElem? (i := 440) (by decide +kernel), List.mem_of_getElem? (i := 538) (by decide +kernel), List.mem_of_getElem? (i := 539) (by decide +kernel)⟩
theorem lw_p27 : lw_okq (⟨"KeyWalksModel", "numberOf", "(II)I"⟩, 12) := ⟨⟨by decide +kernel, by decide +kernel⟩, List.mem_of_getElem? (i := 440) (by decide +kernel), List.mem_of_getElem? (i := 542) (by decide +kernel), List.mem_of_getElem? (i := 543) (by decide +kernel)⟩
theorem lw_p28 : lw_okq (⟨"KeyWalksModel", "costOf", "(II)I"⟩, 12) := ⟨⟨by decide +kernel, by decide +kernel⟩, List.mem_of_getElem? (i := 440) (by decide +kernel), List.mem_of_getElem? (i := 550) (by decide +kernel), List.mem_of_getElem? (i := 551) (by decide +kernel)⟩
theorem lw_p29 : lw_okq (⟨"KeyWalksModel", "turnOf", "(II)I"⟩, 12) := ⟨⟨by decide +kernel, by decide +kernel⟩, List.mem_of_getElem? (i := 440) (by decide +kernel), List.mem_of_getElem? (i := 558) (by decide +kernel), List.mem_of_getElem? (i := 559) (by decide +kernel)⟩
theorem lw_p30 : lw_okq (⟨"KeyWalksModel", "lay", "()V"⟩, 12) := ⟨⟨by decide +kernel, by decide +kernel⟩, List.mem_of_getElem? (i := 440) (by decide +kernel), List.mem_of_getElem? (i := 569) (by decide +kernel), List.mem_of_getElem? (i := 570) (by decide +kernel)⟩
theorem lw_p31 : lw_okq (⟨"KeyWalksModel", "weigh", "(II)I"⟩, 12) := ⟨⟨by decide +kernel, by decide +kernel⟩, List.mem_of_getElem? (i := 440) (by decide +kernel), List.mem_of_getElem? (i := 573) (by decide +kernel), List.mem_of_getElem? (i := 574) (by decide +kernel)⟩
def lw_privs_2 : List (MethodName × Nat) := [(⟨"KeyWalks", "knowHeads", "()V"⟩, 17), (⟨"KeyWalks", "leastInto", "(II)I"⟩, 17), (⟨"KeyWalks", "leastThrough", "(II)I"⟩, 17), (⟨"KeyWalks", "nextCost", "(I)I"⟩, 17), (⟨"KeyWalks", "changesAt", "(I)Z"⟩, 17), (⟨"KeyWalks", "fitTogether", "(III)I"⟩, 17), (⟨"KeyWalks", "changesOfFirst", "()I"⟩, 17), (⟨"KeyWalksModel", "begin", "()V"⟩, 12), (⟨"KeyWalksModel", "isGood", "(I)Z"⟩, 12), (⟨"KeyWalksModel", "isSlice", "(I)Z"⟩, 12), (⟨"KeyWalksModel", "fitOf", "(II)I"⟩, 12), (⟨"KeyWalksModel", "numberOf", "(II)I"⟩, 12), (⟨"KeyWalksModel", "costOf", "(II)I"⟩, 12), (⟨"KeyWalksModel", "turnOf", "(II)I"⟩, 12), (⟨"KeyWalksModel", "lay", "()V"⟩, 12), (⟨"KeyWalksModel", "weigh", "(II)I"⟩, 12)]
theorem lw_r2 : ∀ q ∈ lw_privs_2, lw_okq q := List.forall_mem_cons.mpr ⟨lw_p16, List.forall_mem_cons.mpr ⟨lw_p17, List.forall_mem_cons.mpr ⟨lw_p18, List.forall_mem_cons.mpr ⟨lw_p19, List.forall_mem_cons.mpr ⟨lw_p20, List.forall_mem_cons.mpr ⟨lw_p21, List.forall_mem_cons.mpr ⟨lw_p22, List.forall_mem_cons.mpr ⟨lw_p23, List.forall_mem_cons.mpr ⟨lw_p24, List.forall_mem_cons.mpr ⟨lw_p25, List.forall_mem_cons.mpr ⟨lw_p26, List.forall_mem_cons.mpr ⟨lw_p27, List.forall_mem_cons.mpr ⟨lw_p28, List.forall_mem_cons.mpr ⟨lw_p29, List.forall_mem_cons.mpr ⟨lw_p30, List.forall_mem_cons.mpr ⟨lw_p31, fun _ h => absurd h List.not_mem_nil⟩⟩⟩⟩⟩⟩⟩⟩⟩⟩⟩⟩⟩⟩⟩⟩
theorem lw_p32 : lw_okq (⟨"KeyWalksModel", "walkBehind", "(J)Z"⟩, 12) := ⟨⟨by decide +kernel, by decide +kernel⟩, List.mem_of_getElem? (i := 440) (by decide +kernel), List.mem_of_getElem? (i := 587) (by decide +kernel), List.mem_of_getElem? (i := 588) (by decide +kernel)⟩
theorem lw_p33 : lw_okq (⟨"KeyWalksModel", "changeAt", "(I)I"⟩, 12) := ⟨⟨by decide +kernel, by decide +kernel⟩, List.mem_of_getElem? (i := 440) (by decide +kernel), List.mem_of_getElem? (i := 614) (by decide +kernel), List.mem_of_getElem? (i := 615) (by decide +kernel)⟩
def lw_privs_3 : List (MethodName × Nat) := [(⟨"KeyWalksModel", "walkBehind", "(J)Z"⟩, 12), (⟨"KeyWalksModel", "changeAt", "(I)I"⟩, 12)]
theorem lw_r3 : ∀ q ∈ lw_privs_3, lw_okq q := List.forall_mem_cons.mpr ⟨lw_p32, List.forall_mem_cons.mpr ⟨lw_p33, fun _ h => absurd h List.not_mem_nil⟩⟩
def lw_privs : List (MethodName × Nat) := lw_privs_1 ++ (lw_privs_2 ++ (lw_privs_3))
def lw_tbl : List Cond := k2_sels lw_privs ++ tables_1
theorem lw_privs_ok : ∀ q ∈ lw_privs, lw_okq q := by
  show ∀ q ∈ lw_privs_1 ++ (lw_privs_2 ++ (lw_privs_3)), lw_okq q
  exact List.forall_mem_append.mpr ⟨lw_r1, List.forall_mem_append.mpr ⟨lw_r2, lw_r3⟩⟩
end
section
/-! ===== BEGIN words of one list among another's, by their places ===== -/
theorem goodIn_r {big : List Cond} (ws : List Cond) (ps : List Nat) (hp : ws = ps.filterMap (fun i => big[i]?)) (h : ws.all goodWord = true) : GoodIn big ws := by
  intro w hw
  have h1 := List.all_eq_true.mp h w hw
  rw [hp] at hw
  obtain ⟨i, -, hi⟩ := List.mem_filterMap.mp hw
  have hm : w ∈ big := by first | exact List.mem_of_getElem? hi | exact List.getElem?_mem hi
  exact ⟨hm, good_of_word h1⟩
theorem goodIn_app {big a b : List Cond} (ha : GoodIn big a) (hb : GoodIn big b) : GoodIn big (a ++ b) := fun w h => (List.mem_append.mp h).elim (ha w) (hb w)
theorem goodIn_ca {big a b : List Cond} {c : Cond} (ha : GoodIn big (c :: a)) (hb : GoodIn big b) : GoodIn big (c :: (a ++ b)) := fun w h => (List.mem_cons.mp h).elim (fun e => ha w (List.mem_cons.mpr (Or.inl e))) (fun h => (List.mem_append.mp h).elim (fun h => ha w (List.mem_cons.mpr (Or.inr h))) (hb w))
theorem goodIn_sub {big ws : List Cond} (hm : ∀ w ∈ ws, w ∈ big) (h : ws.all goodWord = true) : GoodIn big ws := fun w hw => ⟨hm w hw, good_of_word (List.all_eq_true.mp h w hw)⟩
/-! ===== END ===== -/

/-! ===== BEGIN exceptions that leave a method, and their catching by the caller (launches without stack traces) ===== -/
section VXA
/-! The laws vx_back, vx_callV, vx_callS, vx_callSW, vx_throw0, vx_throwS follow proofs of the library, with one case more: JvmDerived/Free/Laws.lean (Back.of_free), Shelf42/LK1.lean (callV, callS), Shelf/KitTraced.lean (throwNew0V, throwNewS). -/
/-- where a method has thrown q: the class by its name, the cell, what was written, the world -/
def vx_T (XC : String → State → State → Prop) (st : State) (q : Addr) (t : State) (mc ms : Nat) (free : Addr → Prop) : Prop :=
  ∃ (E : String) (ce : Cell) (L : List Loc), XC E st t ∧ t.heap[q]? = some ce ∧ ce.vm = .none ∧ st.vm.findClass E = some ce.cls ∧ st.WarmedH t.vm ∧ st.sameButNew ({ t with vm := st.vm } : State) L mc ms ∧ ∀ z ∈ L, free z.base
def vx_Q (Qc : Array Value → State → Outcome → State → Prop) (XC : String → State → State → Prop) (mc ms : Nat) (free : Addr → Prop) : Array Value → State → Outcome → State → Prop := fun a st o t =>
  (Qc a st o t ∧ ∃ L, FrameEnd st o t L mc ms ∧ ∀ q ∈ L, free q.base) ∨ ∃ q, o = .threw q ∧ vx_T XC st q t mc ms free
/-- a callee that returns or throws -/
def vx_Met (l : Launch) (y : MethodName) (ws : List Cond) (rm : Room) (Pc : Array Value → State → Prop) (Qc : Array Value → State → Outcome → State → Prop) (XC : String → State → State → Prop) (mc ms : Nat) (free : Addr → Prop) : Prop :=
  MetFree l y (headSpec ws rm) Pc (fun _ _ _ _ _ => True) (vx_Q Qc XC mc ms free)
def vx_Post (XC : String → State → State → Prop) (mc ms : Nat) (free : Addr → Prop) : Pt → Array Value → Addr → Pt → Prop := fun A a q B =>
  ∃ (g : JFrame) (mk : MethodId) (t : State) (L : List Loc) (E : String) (ce : Cell), B.U.heap = t.heap ∧ B.U.vm = t.vm ∧ XC E (A.U.calling g mk a) t ∧ t.heap[q]? = some ce ∧ ce.vm = .none ∧ A.U.vm.findClass E = some ce.cls ∧ B.locs = A.locs ++ L ∧ (∀ z ∈ L, free z.base) ∧ B.cells = A.cells + mc ∧ B.slots = A.slots + ms
def vx_Back (l : Launch) (R : Room) (p : Program) (e : Env) (below : List Frame) (s : State) (sargs : Array Value) (y : MethodName) (len W9 : Nat)
    (Pre : Pt → Array Value → Prop) (Post : Pt → Array Value → Option Value → Pt → Prop) (PostX : Pt → Array Value → Addr → Pt → Prop) : Prop :=
  ∀ (m : MethodId) (meth : Method) (c : Code) (A : Pt) (g : JFrame) (ig : Instr) (mk : MethodId) (a : Array Value),
    Stand p l e R s m sargs below meth c A.U A.locs A.cells A.slots → g.method = m → g.locals.size = c.maxLocals → decode c.code g.pc = .ok (ig, len) →
    2 * g.monitorRoom + (g.stack.map fun v => v.category).sum ≤ W9 → A.U.methodNamed? y = some mk → Pre A a →
    (∃ (v : Option Value) (B : Pt), Stand p l e R s m sargs below meth c B.U B.locs B.cells B.slots ∧ Post A a v B ∧
      Steps p.tables e below (doInvoke e (A.U.setTop g) [] mk a).1 (B.U.setTop { g with pc := g.pc + len, stack := v.toList ++ g.stack })) ∨
    (∃ (q : Addr) (B : Pt), Stand p l e R s m sargs below meth c B.U B.locs B.cells B.slots ∧ PostX A a q B ∧
      Steps p.tables e below (doInvoke e (A.U.setTop g) [] mk a).1 ((B.U.setTop g).pushFrame (.throwing q)))
section Payer
variable {l : Launch} {R : Room} {p : Program} {e : Env} {below : List Frame} {s : State} {sargs : Array Value} {y : MethodName} {len W9 : Nat}
theorem vx_back {ws : List Cond} {rm : Room} {Pc : Array Value → State → Prop} {Qc : Array Value → State → Outcome → State → Prop} {XC : String → State → State → Prop} {mc ms : Nat} {free : Addr → Prop} {bytes : ByteArray} {maxL : Nat} {ret : Option FieldType}
    (hM : vx_Met l y ws rm Pc Qc XC mc ms free) (hblind : FrameBlind Pc) (hrc : rm.cells = mc) (hrs : rm.slots = ms)
    (hframes : rm.frames + 1 ≤ R.frames) (hlocals : W9 + (maxL + 11) + rm.locals ≤ R.locals)
    (hws : ∀ w ∈ ws, ∀ a' U, s.WarmedH U.vm → w.before a' U = true) (hcode : Cond.code y bytes maxL ret ∈ ws) (hinit : ∀ a' U, s.WarmedH U.vm → (Cond.initialized y.cls).before a' U = true) :
    vx_Back l R p e below s sargs y len W9 (PreOf R mc ms Pc) (PostOf Qc mc ms free) (vx_Post XC mc ms free) := by
  intro m meth c A g ig mk a X hg hsize hdg hW hn hp
  have h1 : (headSpec ws rm).pre.before a A.U = true := atoms_intro fun w hw => hws w hw _ _ X.warmed
  have h2 : (Cond.code y bytes maxL ret).before a A.U = true := hws _ hcode _ _ X.warmed
  have h3 : (Cond.initialized y.cls).before a A.U = true := hinit _ _ X.warmed
  have h4 : A.cells + (headSpec ws rm).room.cells ≤ R.cells := by rw [show (headSpec ws rm).room.cells = mc from hrc]; exact hp.1
  have h5 : A.slots + (headSpec ws rm).room.slots ≤ R.slots := by rw [show (headSpec ws rm).room.slots = ms from hrs]; exact hp.2.1
  have hPc : Pc a (A.U.calling g mk a) := hblind _ _ _ _ hp.2.2
  obtain ⟨U, Ls, c0, s0⟩ := A
  dsimp only [Pt.U, Pt.locs, Pt.cells, Pt.slots] at h1 h2 h3 h4 h5 X hn hPc ⊢
  obtain ⟨methY, cY, hmY, hcY, -, hlY, -, -, -, -⟩ := Cond.code_spec hn h2
  obtain ⟨kY, hkY, -⟩ := className_of_methodNamed hn
  have hinitY : kY.init = .initialized := Cond.initialized_spec (findClass_of_methodNamed hn) hkY h3
  have h : At U g.method c below := by rw [hg]; exact X.here
  have hlocals9 : W9 + (maxL + 11) + (headSpec ws rm).room.locals ≤ R.locals := hlocals
  have happ : (headSpec ws rm).appliesLoose y e.platform (U.calling g mk a) = true :=
    Spec.appliesLoose_calling (g := g) h hdg hn hkY hinitY
      (X.room_calling (g := g) (R' := (headSpec ws rm).room) hsize hmY hcY hframes (by rw [hlY]; omega) h4 h5) h1
  obtain ⟨mid, hmid⟩ := h.above
  have hfr : (U.setTop g).frames = (.java g :: mid) ++ below := by rw [State.frames_setTop' g h.top, hmid]; rfl
  obtain ⟨o, s₂, hsteps, -, hend, hq⟩ := Steps.callFree hM p X.admits X.cas X.clock (acts := []) hfr happ hPc trivial
  have hq' : vx_Q Qc XC mc ms free a (U.calling g mk a) o s₂ := hq
  rw [State.frames_setTop' g h.top] at hend
  obtain ⟨g₀, hg0⟩ := Option.isSome_iff_exists.mp h.top
  obtain ⟨r, hr⟩ := State.topJava?_eq_some.mp hg0
  have hr' : (({ U with heap := s₂.heap, slotsUsed := s₂.slotsUsed } : State).setVm s₂.vm).frames = .java g₀ :: r := hr
  rcases hq' with ⟨hqc, L, hfe, hL⟩ | ⟨q, rfl, E, ce, L, hx, hce, hcv, hcl, hW₂, hsm, hL⟩
  · obtain ⟨⟨v, rfl⟩, hW₂, e2, q2, q3, q4, q5, q6⟩ := id hfe
    have e3 : s₂ = ({ (U.calling g mk a).setFrames s₂.frames with heap := s₂.heap, slotsUsed := s₂.slotsUsed } : State).setVm s₂.vm := by
      have : s₂ = ({ s₂ with vm := (U.calling g mk a).vm } : State).setVm s₂.vm := rfl
      rw [e2] at this
      exact this
    obtain ⟨c₂, i₂, len₂, hc₂, hd₂, hf₂⟩ := hend
    have hW' : U.WarmedH s₂.vm := hW₂
    have hcc : c₂ = c := by
      have h1 : s₂.code? g.method = U.code? g.method := by
        rw [State.code?_eq, State.code?_eq, hW'.alike.method?]
      exact Option.some.inj (hc₂.symm.trans (h1.trans h.code))
    subst hcc
    have hlen : len₂ = len := by rw [hdg] at hd₂; cases hd₂; rfl
    subst hlen
    have hs₂ : s₂ = (({ U with heap := s₂.heap, slotsUsed := s₂.slotsUsed } : State).setVm s₂.vm).setTop { g with pc := g.pc + len₂, stack := v.toList ++ g.stack } := by
      refine e3.trans ?_
      rw [hf₂, State.calling_eq h.top, State.setFrames_setFrames, State.setTop_of_frames _ hr', hr]
      rfl
    have hsame : U.sameButNew ({ U with heap := s₂.heap, slotsUsed := s₂.slotsUsed } : State) L mc ms := by
      refine ⟨?_, q2, q3, q4, q5, q6⟩
      obtain ⟨t, ht, -⟩ := State.frames_cons hr
      show ({ U with heap := s₂.heap, slotsUsed := s₂.slotsUsed } : State) = { U.setFrames U.frames with heap := s₂.heap, slotsUsed := s₂.slotsUsed }
      rw [State.setFrames_self ht]
    subst hg
    refine Or.inl ⟨v, ⟨(({ U with heap := s₂.heap, slotsUsed := s₂.slotsUsed } : State).setVm s₂.vm), Ls ++ L, c0 + mc, s0 + ms⟩,
      ⟨X.admits, X.cas, X.clock, X.frames, X.room, X.hears, X.method, X.code, (X.here.setHeapUsed s₂.heap s₂.slotsUsed).setVm hW'.alike, X.tail, State.WarmedH.trans X.warmed hW', X.limits, X.bytes, X.same.trans (hsame.setVm s.vm)⟩,
      ⟨g, mk, s₂, L, rfl, rfl, hqc, rfl, hL, rfl, rfl⟩, ?_⟩
    show Steps p.tables e below _ ((({ U with heap := s₂.heap, slotsUsed := s₂.slotsUsed } : State).setVm s₂.vm).setTop { g with pc := g.pc + len₂, stack := v.toList ++ g.stack })
    rw [← hs₂]
    exact hsteps
  · obtain ⟨e2, q2, q3, q4, q5, q6⟩ := id hsm
    have e3 : s₂ = ({ (U.calling g mk a).setFrames s₂.frames with heap := s₂.heap, slotsUsed := s₂.slotsUsed } : State).setVm s₂.vm := by
      have : s₂ = ({ s₂ with vm := (U.calling g mk a).vm } : State).setVm s₂.vm := rfl
      rw [e2] at this
      exact this
    have hf₂ : s₂.frames = .throwing q :: .java g :: U.frames.tail := hend
    have hW' : U.WarmedH s₂.vm := hW₂
    have hs₂ : s₂ = ((({ U with heap := s₂.heap, slotsUsed := s₂.slotsUsed } : State).setVm s₂.vm).setTop g).pushFrame (.throwing q) := by
      refine e3.trans ?_
      rw [hf₂, State.calling_eq h.top, State.setFrames_setFrames, State.pushFrame, State.frames_setTop _ hr', State.setTop_of_frames _ hr', State.setFrames_setFrames, hr]
      rfl
    have hsame : U.sameButNew ({ U with heap := s₂.heap, slotsUsed := s₂.slotsUsed } : State) L mc ms := by
      refine ⟨?_, q2, q3, q4, q5, q6⟩
      obtain ⟨t, ht, -⟩ := State.frames_cons hr
      show ({ U with heap := s₂.heap, slotsUsed := s₂.slotsUsed } : State) = { U.setFrames U.frames with heap := s₂.heap, slotsUsed := s₂.slotsUsed }
      rw [State.setFrames_self ht]
    subst hg
    refine Or.inr ⟨q, ⟨(({ U with heap := s₂.heap, slotsUsed := s₂.slotsUsed } : State).setVm s₂.vm), Ls ++ L, c0 + mc, s0 + ms⟩,
      ⟨X.admits, X.cas, X.clock, X.frames, X.room, X.hears, X.method, X.code, (X.here.setHeapUsed s₂.heap s₂.slotsUsed).setVm hW'.alike, X.tail, State.WarmedH.trans X.warmed hW', X.limits, X.bytes, X.same.trans (hsame.setVm s.vm)⟩,
      ⟨g, mk, s₂, L, E, ce, rfl, rfl, hx, hce, hcv, hcl, rfl, hL, rfl, rfl⟩, ?_⟩
    show Steps p.tables e below _ (((({ U with heap := s₂.heap, slotsUsed := s₂.slotsUsed } : State).setVm s₂.vm).setTop g).pushFrame (.throwing q))
    rw [← hs₂]
    exact hsteps
end Payer
section Calls
variable {p : Program} {l : Launch} {e : Env} {R : Room} {s : State} {m : MethodId} {args : Array Value} {below : List Frame} {meth : Method} {c : Code} {T : State} {locs : List Loc} {cells slots : Nat}
theorem vx_callV (X : Stand p l e R s m args below meth c T locs cells slots) (hexec : p.tables.exec = Jvm.exec) {own C : String} {index : Nat} {y : MethodName} {bytes : ByteArray} {maxL : Nat} {ret : Option FieldType}
    (hown : s.vm.findClass own = some m.cls) (hlink : (Cond.methodLink own index y).before args s = true) (hinst : (Cond.instanceMethod y).before args s = true) (hsel : (Cond.selects C y y).before args s = true)
    (hcode : (Cond.code y bytes maxL ret).before args s = true) (hy : y.cls ≠ "java/lang/invoke/MethodHandle" ∧ y.cls ≠ "java/lang/invoke/VarHandle")
    {W9 : Nat} {Pre : Pt → Array Value → Prop} {Post : Pt → Array Value → Option Value → Pt → Prop} {PostX : Pt → Array Value → Addr → Pt → Prop} (hK : vx_Back l R p e below s args y 3 W9 Pre Post PostX)
    {b : Addr} {cellB : Cell} (hcell : T.heap[b]? = some cellB) (hobj : cellB.vm.isStatics = false) (hcls : s.vm.findClass C = some cellB.cls)
    {g : JFrame} (hg : g.method = m) (hsize : g.locals.size = c.maxLocals) {argsL rest : List Value} (hlen : ∀ sig, parseMethodDescriptor y.desc = some sig → argsL.length = sig.parameters.length)
    (hstack : g.stack = argsL.reverse ++ .ref b :: rest) (hW : 2 * g.monitorRoom + (rest.map fun v => v.category).sum ≤ W9) (hdg : decode c.code g.pc = .ok (.invokevirtual index, 3))
    (hpre : ∀ vm₁, s.WarmedH vm₁ → Pre ⟨T.setVm vm₁, locs, cells, slots⟩ (Value.ref b :: argsL).toArray) :
    (∃ (v : Option Value) (vm₁ : Vm) (B : Pt), s.WarmedH vm₁ ∧ Stand p l e R s m args below meth c B.U B.locs B.cells B.slots ∧ Post ⟨T.setVm vm₁, locs, cells, slots⟩ (Value.ref b :: argsL).toArray v B ∧
      ∀ target, Steps p.tables e below (B.U.setTop { g with pc := g.pc + 3, stack := v.toList ++ rest }) target → Steps p.tables e below (T.setTop g) target) ∨
    (∃ (q : Addr) (vm₁ : Vm) (B : Pt), s.WarmedH vm₁ ∧ Stand p l e R s m args below meth c B.U B.locs B.cells B.slots ∧ PostX ⟨T.setVm vm₁, locs, cells, slots⟩ (Value.ref b :: argsL).toArray q B ∧
      Steps p.tables e below (T.setTop g) ((B.U.setTop { g with stack := rest }).pushFrame (.throwing q))) := by
  obtain ⟨mk, methM, hnamed, hmethM, hstM, habM⟩ := Cond.instanceMethod_spec hinst
  obtain ⟨methM', cM, hmethM', -, -, -, -, -, -, hsigM⟩ := Cond.code_spec hnamed hcode
  cases hmethM.symm.trans hmethM'
  obtain ⟨c2, r2, m2, q1, q2, q3, q4, kP, hkP, hkPi⟩ := Cond.selects_spec hsel
  cases hcls.symm.trans q1
  cases (State.methodFound?_of_named hnamed hy).symm.trans q2
  cases hnamed.symm.trans q3
  have hselP : selectMethod e.platform s.vm cellB.cls mk = .method mk := by rw [Launch.admits_selectMethod X.admits]; exact q4
  obtain ⟨vm₁, X₁, hstep₁⟩ := X.invokevirtual hexec hown hlink hnamed hmethM hstM hkP hkPi hy (a := b) (cell := cellB) hcell
    (fun z h => by rw [h] at hobj; cases hobj) hselP hmethM habM hkP hkPi (g := g) hg (argsL := argsL) (rest := rest) (hlen _ hsigM) hstack hdg
  rcases hK m meth c ⟨T.setVm vm₁, locs, cells, slots⟩ { g with stack := rest } (.invokevirtual index) mk (Value.ref b :: argsL).toArray X₁ hg hsize hdg hW (X₁.named hnamed) (hpre vm₁ X₁.warmed) with ⟨v, B, X', hpost, hsteps⟩ | ⟨q, B, X', hpost, hsteps⟩
  · exact Or.inl ⟨v, vm₁, B, X₁.warmed, X', hpost, fun target h => hstep₁ _ fun acts => by rw [doInvoke_state]; exact hsteps.trans h⟩
  · exact Or.inr ⟨q, vm₁, B, X₁.warmed, X', hpost, hstep₁ _ fun acts => by rw [doInvoke_state]; exact hsteps⟩
theorem vx_callS (X : Stand p l e R s m args below meth c T locs cells slots) (hexec : p.tables.exec = Jvm.exec) {own : String} {index : Nat} {y : MethodName} {bytes : ByteArray} {maxL : Nat} {ret : Option FieldType}
    (hown : s.vm.findClass own = some m.cls) (hlink : (Cond.methodLink own index y).before args s = true) (hstat : (Cond.static y).before args s = true) (hinit : (Cond.initialized y.cls).before args s = true)
    (hcode : (Cond.code y bytes maxL ret).before args s = true) (hy : y.cls ≠ "java/lang/invoke/MethodHandle" ∧ y.cls ≠ "java/lang/invoke/VarHandle")
    {W9 : Nat} {Pre : Pt → Array Value → Prop} {Post : Pt → Array Value → Option Value → Pt → Prop} {PostX : Pt → Array Value → Addr → Pt → Prop} (hK : vx_Back l R p e below s args y 3 W9 Pre Post PostX)
    {g : JFrame} (hg : g.method = m) (hsize : g.locals.size = c.maxLocals) {argsL rest : List Value} (hlen : ∀ sig, parseMethodDescriptor y.desc = some sig → argsL.length = sig.parameters.length)
    (hstack : g.stack = argsL.reverse ++ rest) (hW : 2 * g.monitorRoom + (rest.map fun v => v.category).sum ≤ W9) (hdg : decode c.code g.pc = .ok (.invokestatic index, 3))
    (hpre : ∀ vm₁, s.WarmedH vm₁ → Pre ⟨T.setVm vm₁, locs, cells, slots⟩ argsL.toArray) :
    (∃ (v : Option Value) (vm₁ : Vm) (B : Pt), s.WarmedH vm₁ ∧ Stand p l e R s m args below meth c B.U B.locs B.cells B.slots ∧ Post ⟨T.setVm vm₁, locs, cells, slots⟩ argsL.toArray v B ∧
      ∀ target, Steps p.tables e below (B.U.setTop { g with pc := g.pc + 3, stack := v.toList ++ rest }) target → Steps p.tables e below (T.setTop g) target) ∨
    (∃ (q : Addr) (vm₁ : Vm) (B : Pt), s.WarmedH vm₁ ∧ Stand p l e R s m args below meth c B.U B.locs B.cells B.slots ∧ PostX ⟨T.setVm vm₁, locs, cells, slots⟩ argsL.toArray q B ∧
      Steps p.tables e below (T.setTop g) ((B.U.setTop { g with stack := rest }).pushFrame (.throwing q))) := by
  obtain ⟨mk, hnamed⟩ := Cond.code_named hcode
  obtain ⟨methM, cM, hmethM, -, -, -, -, -, -, hsigM⟩ := Cond.code_spec hnamed hcode
  have hstatic : methM.isStatic = true := Cond.static_spec hnamed hmethM hstat
  obtain ⟨kP, hkP, -⟩ := className_of_methodNamed hnamed
  have hinitP : kP.init = .initialized := Cond.initialized_spec (findClass_of_methodNamed hnamed) hkP hinit
  obtain ⟨vm₁, X₁, hstep₁⟩ := X.invokestatic hexec hown hlink hnamed hmethM hstatic hkP hinitP hy (g := g) hg (argsL := argsL) (rest := rest) (hlen _ hsigM) hstack hdg
  rcases hK m meth c ⟨T.setVm vm₁, locs, cells, slots⟩ { g with stack := rest } (.invokestatic index) mk argsL.toArray X₁ hg hsize hdg hW (X₁.named hnamed) (hpre vm₁ X₁.warmed) with ⟨v, B, X', hpost, hsteps⟩ | ⟨q, B, X', hpost, hsteps⟩
  · exact Or.inl ⟨v, vm₁, B, X₁.warmed, X', hpost, fun target h => hstep₁ _ fun acts => by rw [doInvoke_state]; exact hsteps.trans h⟩
  · exact Or.inr ⟨q, vm₁, B, X₁.warmed, X', hpost, hstep₁ _ fun acts => by rw [doInvoke_state]; exact hsteps⟩
end Calls
theorem vx_cls {s : State} {T : State} {vm₁ : Vm} {E : String} {k : ClassId} (hW : s.WarmedH vm₁) (h : (T.setVm vm₁).vm.findClass E = some k) : s.vm.findClass E = some k := by
  have h1 : vm₁.findClass E = some k := h
  rw [hW.alike.findClass] at h1
  exact h1
/-- the method's frame g, with q thrown over it -/
def vx_W (p : Program) (l : Launch) (e : Env) (R : Room) (s : State) (m : MethodId) (args : Array Value) (below : List Frame) (meth : Method) (c : Code) (H : Heap) (locs : List Loc) (cells slots : Nat) (Q : State → Prop) (g : JFrame) (q : Addr) : Prop :=
  ∀ T : State, T.heap = H → Stand p l e R s m args below meth c T locs cells slots → ∃ t, Steps p.tables e below ((T.setTop g).pushFrame (.throwing q)) t ∧ Q t
def vx_Run (p : Program) (l : Launch) (e : Env) (R : Room) (s : State) (m : MethodId) (args : Array Value) (below : List Frame) (meth : Method) (c : Code) (H : Heap) (locs : List Loc) (cells slots mc ms : Nat) (g : JFrame) (rest : List Value) (Qa : State → Outcome → State → Prop) (XC : String → State → State → Prop) (free : Addr → Prop) : Prop :=
  ∀ T : State, T.heap = H → Stand p l e R s m args below meth c T locs cells slots →
    (∃ (v : Option Value) (st₀ t T' : State) (L : List Loc), st₀.heap = H ∧ Stand p l e R s m args below meth c T' (locs ++ L) (cells + mc) (slots + ms) ∧ (∀ q ∈ L, free q.base) ∧ T'.heap = t.heap ∧ T'.vm = t.vm ∧ Qa st₀ (.returned v) t ∧
      Goes p e below T g T' { g with pc := g.pc + 3, stack := v.toList ++ rest }) ∨
    (∃ (q : Addr) (st₀ t T' : State) (L : List Loc) (E : String) (ce : Cell), st₀.heap = H ∧ Stand p l e R s m args below meth c T' (locs ++ L) (cells + mc) (slots + ms) ∧ (∀ z ∈ L, free z.base) ∧ T'.heap = t.heap ∧ T'.vm = t.vm ∧ XC E st₀ t ∧ t.heap[q]? = some ce ∧ ce.vm = .none ∧ s.vm.findClass E = some ce.cls ∧
      Steps p.tables e below (T.setTop g) ((T'.setTop { g with stack := rest }).pushFrame (.throwing q)))
def vx_X {S : Type} (px : S → Prop) (B : String → S → State → Prop) (A : Nat → Prop) : String → State → State → Prop := fun E st t => ∃ u : S, px u ∧ B E u t ∧ va_F A st t
section Runs
variable {p : Program} {l : Launch} {e : Env} {R : Room} {s : State} {m : MethodId} {args : Array Value} {below : List Frame} {meth : Method} {c : Code} {H : Heap} {locs : List Loc} {cells slots : Nat}
variable {y : MethodName} {bytes cc : ByteArray} {maxL nL mc ms n index : Nat} {ret : Option FieldType} {ws : List Cond} {rm : Room} {Pc : Array Value → State → Prop} {Qc : Array Value → State → Outcome → State → Prop} {XC : String → State → State → Prop} {free : Addr → Prop} {Ts : List Cond} {own C : String} {b : Addr} {As rest : List Value} {g : JFrame}
theorem vx_callBack (cb : CallB R s args own index y bytes maxL ret ws rm mc ms n) (hM : vx_Met l y ws rm Pc Qc XC mc ms free) (hbl : FrameBlind Pc) : vx_Back l R p e below s args y 3 8 (PreOf R mc ms Pc) (PostOf Qc mc ms free) (vx_Post XC mc ms free) := by
  obtain ⟨hrc, hrs, hfr, hlo, hws, hcw, -, hini, -⟩ := cb
  exact vx_back (bytes := bytes) (maxL := maxL) (ret := ret) hM hbl hrc hrs hfr hlo hws hcw (fun a' U hW => word_at hW (Or.inl (by first | rfl | simp [Cond.onTables, Cond.keeps, Cond.steady])) hini)
theorem vx_runV (S : CallFix p m c cc nL s args Ts own) (hM : vx_Met l y ws rm Pc Qc XC mc ms free) (cw : CallW R s args own C index y bytes maxL ret ws rm mc ms n) (hp : PreV s H C b Pc As)
    (hg : g.method = m) (hn : As.length = n) (hsize : g.locals.size = nL) (hstack : g.stack = As.reverse ++ .ref b :: rest) (hW : 2 * g.monitorRoom + (rest.map fun v => v.category).sum ≤ 8) (hdg : decode cc g.pc = .ok (.invokevirtual index, 3)) (hf : cells + mc ≤ R.cells ∧ slots + ms ≤ R.slots) :
    vx_Run p l e R s m args below meth c H locs cells slots mc ms g rest (Qc (Value.ref b :: As).toArray) XC free := by
  have hK : vx_Back l R p e below s args y 3 8 (PreOf R mc ms Pc) (PostOf Qc mc ms free) (vx_Post XC mc ms free) := vx_callBack cw.1 hM hp.1
  obtain ⟨⟨-, -, -, -, -, -, hcode, -, hy, hlen, hl⟩, hin, hse⟩ := cw
  obtain ⟨hx, hb, hml, ho, -⟩ := S
  obtain ⟨-, ⟨cellB, hcB, hoB, hclB⟩, hPc⟩ := hp
  intro T hT X
  rcases vx_callV X hx (C := C) (bytes := bytes) (maxL := maxL) (ret := ret) ho hl hin hse hcode hy hK (by rw [hT]; exact hcB) hoB hclB hg (hsize.trans hml.symm) (argsL := As) (rest := rest) (fun sig h => hn.trans (hlen sig h)) hstack hW (by rw [hb]; exact hdg)
    (fun vm₁ hW₁ => ⟨hf.1, hf.2, hPc (T.setVm vm₁) hT hW₁⟩) with ⟨v, vm₁, ⟨U', l2, c2, s2⟩, hW₁, X', ⟨g', mk, t, L, e1, e2, hq, h1, hL, h2, h3⟩, st⟩ | ⟨q, vm₁, ⟨U', l2, c2, s2⟩, hW₁, X', ⟨g', mk, t, L, E, ce, e1, e2, hq, hce, hcv, hcl, h1, hL, h2, h3⟩, st⟩
  · dsimp only [Pt.U, Pt.locs, Pt.cells, Pt.slots] at X' e1 e2 h1 h2 h3 st
    subst h1; subst h2; subst h3
    exact Or.inl ⟨v, (T.setVm vm₁).calling g' mk (Value.ref b :: As).toArray, t, U', L, hT, X', hL, e1, e2, hq, st⟩
  · dsimp only [Pt.U, Pt.locs, Pt.cells, Pt.slots] at X' e1 e2 h1 h2 h3 st hcl
    subst h1; subst h2; subst h3
    exact Or.inr ⟨q, (T.setVm vm₁).calling g' mk (Value.ref b :: As).toArray, t, U', L, E, ce, hT, X', hL, e1, e2, hq, hce, hcv, vx_cls hW₁ hcl, st⟩
theorem vx_runS (S : CallFix p m c cc nL s args Ts own) (hM : vx_Met l y ws rm Pc Qc XC mc ms free) (cw : CallB R s args own index y bytes maxL ret ws rm mc ms n ∧ (Cond.static y).before args s = true) (hp : PreS s H Pc As)
    (hg : g.method = m) (hn : As.length = n) (hsize : g.locals.size = nL) (hstack : g.stack = As.reverse ++ rest) (hW : 2 * g.monitorRoom + (rest.map fun v => v.category).sum ≤ 8) (hdg : decode cc g.pc = .ok (.invokestatic index, 3)) (hf : cells + mc ≤ R.cells ∧ slots + ms ≤ R.slots) :
    vx_Run p l e R s m args below meth c H locs cells slots mc ms g rest (Qc As.toArray) XC free := by
  have hK : vx_Back l R p e below s args y 3 8 (PreOf R mc ms Pc) (PostOf Qc mc ms free) (vx_Post XC mc ms free) := vx_callBack cw.1 hM hp.1
  obtain ⟨⟨-, -, -, -, -, -, hcode, hini, hy, hlen, hl⟩, hstt⟩ := cw
  obtain ⟨hx, hb, hml, ho, -⟩ := S
  intro T hT X
  rcases vx_callS X hx (bytes := bytes) (maxL := maxL) (ret := ret) ho hl hstt hini hcode hy hK hg (hsize.trans hml.symm) (argsL := As) (rest := rest) (fun sig h => hn.trans (hlen sig h)) hstack hW (by rw [hb]; exact hdg)
    (fun vm₁ hW₁ => ⟨hf.1, hf.2, hp.2 (T.setVm vm₁) hT hW₁⟩) with ⟨v, vm₁, ⟨U', l2, c2, s2⟩, hW₁, X', ⟨g', mk, t, L, e1, e2, hq, h1, hL, h2, h3⟩, st⟩ | ⟨q, vm₁, ⟨U', l2, c2, s2⟩, hW₁, X', ⟨g', mk, t, L, E, ce, e1, e2, hq, hce, hcv, hcl, h1, hL, h2, h3⟩, st⟩
  · dsimp only [Pt.U, Pt.locs, Pt.cells, Pt.slots] at X' e1 e2 h1 h2 h3 st
    subst h1; subst h2; subst h3
    exact Or.inl ⟨v, (T.setVm vm₁).calling g' mk As.toArray, t, U', L, hT, X', hL, e1, e2, hq, st⟩
  · dsimp only [Pt.U, Pt.locs, Pt.cells, Pt.slots] at X' e1 e2 h1 h2 h3 st hcl
    subst h1; subst h2; subst h3
    exact Or.inr ⟨q, (T.setVm vm₁).calling g' mk As.toArray, t, U', L, E, ce, hT, X', hL, e1, e2, hq, hce, hcv, vx_cls hW₁ hcl, st⟩
end Runs
section Rows
variable {p : Program} {l : Launch} {e : Env} {R : Room} {s : State} {m : MethodId} {args : Array Value} {below : List Frame} {meth : Method} {c : Code} {H : Heap} {locs : List Loc} {cells slots : Nat} {Q : State → Prop}
variable {mc ms : Nat} {free : Addr → Prop} {A0 A1 : Nat → Prop} {H0 : Heap} {a : Array Value} {pc : Nat} {ls : Array Slot} {st0 rest : List Value}
theorem vx_keep {st₀ t T' : State} {L : List Loc} (h0 : st₀.heap = H) (e1 : T'.heap = t.heap) (hS : va_S A0 H0 H locs) (hA : ∀ q, q < H.size → A1 q → A0 q) (hf : ∀ q, free q → A0 q) (hL : ∀ q ∈ L, free q.base) (hF : va_F A1 st₀ t) :
    H.size ≤ T'.heap.size ∧ (∀ q : Nat, q < H.size → ¬ A1 q → T'.heap[q]? = H[q]?) ∧ va_S A0 H0 T'.heap (locs ++ L) := by
  obtain ⟨hz, hk⟩ := hF
  rw [h0] at hz hk
  exact ⟨by rw [e1]; exact hz, fun q h1 h2 => by rw [e1]; exact hk q h1 h2,
    ⟨Nat.le_trans hS.1 (by rw [e1]; exact hz), fun q h1 h2 => by rw [e1, hk q (Nat.lt_of_lt_of_le h1 hS.1) (fun z => h2 (hA q (Nat.lt_of_lt_of_le h1 hS.1) z))]; exact hS.2.1 q h1 h2, fun q hq => by
      rcases List.mem_append.mp hq with h | h
      · exact hS.2.2 q h
      · exact hf _ (hL q h)⟩⟩
theorem vx_calli {S SX : Type} {post : Int32 → S → Prop} {px : SX → Prop} {B : S → State → Prop} {BX : String → SX → State → Prop} {AX : Nat → Prop} (hr : vx_Run p l e R s m args below meth c H locs cells slots mc ms (F0 m pc ls st0) rest (va_Qi post B A1 a) (vx_X px BX AX) free) (hS : va_S A0 H0 H locs) (hA : ∀ q, q < H.size → A1 q → A0 q) (hf : ∀ q, free q → A0 q) (hAX : ∀ q, q < H.size → AX q → A0 q)
    (kx : ∀ (E : String) (ce : Cell) (q9 : Addr) (u : SX) (t : State) (H1 : Heap) (locs1 : List Loc), t.heap = H1 → s.vm.Alike t.vm → px u → BX E u t → H.size ≤ H1.size → (∀ q : Nat, q < H.size → ¬ AX q → H1[q]? = H[q]?) → va_S A0 H0 H1 locs1 → H1[q9]? = some ce → ce.vm = .none → s.vm.findClass E = some ce.cls → vx_W p l e R s m args below meth c H1 locs1 (cells + mc) (slots + ms) Q (F0 m pc ls rest) q9)
    (kk : ∀ (r : Int32) (u : S) (t : State) (H1 : Heap) (locs1 : List Loc), t.heap = H1 → s.vm.Alike t.vm → post r u → B u t → H.size ≤ H1.size → (∀ q : Nat, q < H.size → ¬ A1 q → H1[q]? = H[q]?) → va_S A0 H0 H1 locs1 → W p l e R s m args below meth c H1 locs1 (cells + mc) (slots + ms) Q (F0 m (pc + 3) ls (.int r :: rest))) : W p l e R s m args below meth c H locs cells slots Q (F0 m pc ls st0) := by
  intro T hT X
  rcases hr T hT X with ⟨v, st₀, t, T', L, h0, X', hL, e1, e2, ⟨⟨r, u, hv, hp, hb⟩, hF⟩, st⟩ | ⟨q, st₀, t, T', L, E, ce, h0, X', hL, e1, e2, ⟨u, hp, hb, hF⟩, hce, hcv, hcl, st⟩
  · cases hv
    obtain ⟨k1, k2, k3⟩ := vx_keep h0 e1 hS hA hf hL hF
    obtain ⟨t2, a1, b1⟩ := kk r u t T'.heap (locs ++ L) e1.symm (by rw [← e2]; exact X'.warmed.alike) hp hb k1 k2 k3 T' rfl X'
    exact ⟨t2, st t2 a1, b1⟩
  · obtain ⟨k1, k2, k3⟩ := vx_keep h0 e1 hS hAX hf hL hF
    obtain ⟨t2, a1, b1⟩ := kx E ce q u t T'.heap (locs ++ L) e1.symm (by rw [← e2]; exact X'.warmed.alike) hp hb k1 k2 k3 (by rw [e1]; exact hce) hcv hcl T' rfl X'
    exact ⟨t2, st.trans a1, b1⟩
theorem vx_calll {S SX : Type} {post : Int64 → S → Prop} {px : SX → Prop} {B : S → State → Prop} {BX : String → SX → State → Prop} {AX : Nat → Prop} (hr : vx_Run p l e R s m args below meth c H locs cells slots mc ms (F0 m pc ls st0) rest (va_Ql post B A1 a) (vx_X px BX AX) free) (hS : va_S A0 H0 H locs) (hA : ∀ q, q < H.size → A1 q → A0 q) (hf : ∀ q, free q → A0 q) (hAX : ∀ q, q < H.size → AX q → A0 q)
    (kx : ∀ (E : String) (ce : Cell) (q9 : Addr) (u : SX) (t : State) (H1 : Heap) (locs1 : List Loc), t.heap = H1 → s.vm.Alike t.vm → px u → BX E u t → H.size ≤ H1.size → (∀ q : Nat, q < H.size → ¬ AX q → H1[q]? = H[q]?) → va_S A0 H0 H1 locs1 → H1[q9]? = some ce → ce.vm = .none → s.vm.findClass E = some ce.cls → vx_W p l e R s m args below meth c H1 locs1 (cells + mc) (slots + ms) Q (F0 m pc ls rest) q9)
    (kk : ∀ (r : Int64) (u : S) (t : State) (H1 : Heap) (locs1 : List Loc), t.heap = H1 → s.vm.Alike t.vm → post r u → B u t → H.size ≤ H1.size → (∀ q : Nat, q < H.size → ¬ A1 q → H1[q]? = H[q]?) → va_S A0 H0 H1 locs1 → W p l e R s m args below meth c H1 locs1 (cells + mc) (slots + ms) Q (F0 m (pc + 3) ls (.long r :: rest))) : W p l e R s m args below meth c H locs cells slots Q (F0 m pc ls st0) := by
  intro T hT X
  rcases hr T hT X with ⟨v, st₀, t, T', L, h0, X', hL, e1, e2, ⟨⟨r, u, hv, hp, hb⟩, hF⟩, st⟩ | ⟨q, st₀, t, T', L, E, ce, h0, X', hL, e1, e2, ⟨u, hp, hb, hF⟩, hce, hcv, hcl, st⟩
  · cases hv
    obtain ⟨k1, k2, k3⟩ := vx_keep h0 e1 hS hA hf hL hF
    obtain ⟨t2, a1, b1⟩ := kk r u t T'.heap (locs ++ L) e1.symm (by rw [← e2]; exact X'.warmed.alike) hp hb k1 k2 k3 T' rfl X'
    exact ⟨t2, st t2 a1, b1⟩
  · obtain ⟨k1, k2, k3⟩ := vx_keep h0 e1 hS hAX hf hL hF
    obtain ⟨t2, a1, b1⟩ := kx E ce q u t T'.heap (locs ++ L) e1.symm (by rw [← e2]; exact X'.warmed.alike) hp hb k1 k2 k3 (by rw [e1]; exact hce) hcv hcl T' rfl X'
    exact ⟨t2, st.trans a1, b1⟩
theorem vx_callf {S SX : Type} {post : UInt32 → S → Prop} {px : SX → Prop} {B : S → State → Prop} {BX : String → SX → State → Prop} {AX : Nat → Prop} (hr : vx_Run p l e R s m args below meth c H locs cells slots mc ms (F0 m pc ls st0) rest (va_Qf post B A1 a) (vx_X px BX AX) free) (hS : va_S A0 H0 H locs) (hA : ∀ q, q < H.size → A1 q → A0 q) (hf : ∀ q, free q → A0 q) (hAX : ∀ q, q < H.size → AX q → A0 q)
    (kx : ∀ (E : String) (ce : Cell) (q9 : Addr) (u : SX) (t : State) (H1 : Heap) (locs1 : List Loc), t.heap = H1 → s.vm.Alike t.vm → px u → BX E u t → H.size ≤ H1.size → (∀ q : Nat, q < H.size → ¬ AX q → H1[q]? = H[q]?) → va_S A0 H0 H1 locs1 → H1[q9]? = some ce → ce.vm = .none → s.vm.findClass E = some ce.cls → vx_W p l e R s m args below meth c H1 locs1 (cells + mc) (slots + ms) Q (F0 m pc ls rest) q9)
    (kk : ∀ (r : UInt32) (u : S) (t : State) (H1 : Heap) (locs1 : List Loc), t.heap = H1 → s.vm.Alike t.vm → post r u → B u t → H.size ≤ H1.size → (∀ q : Nat, q < H.size → ¬ A1 q → H1[q]? = H[q]?) → va_S A0 H0 H1 locs1 → W p l e R s m args below meth c H1 locs1 (cells + mc) (slots + ms) Q (F0 m (pc + 3) ls (.float r :: rest))) : W p l e R s m args below meth c H locs cells slots Q (F0 m pc ls st0) := by
  intro T hT X
  rcases hr T hT X with ⟨v, st₀, t, T', L, h0, X', hL, e1, e2, ⟨⟨r, u, hv, hp, hb⟩, hF⟩, st⟩ | ⟨q, st₀, t, T', L, E, ce, h0, X', hL, e1, e2, ⟨u, hp, hb, hF⟩, hce, hcv, hcl, st⟩
  · cases hv
    obtain ⟨k1, k2, k3⟩ := vx_keep h0 e1 hS hA hf hL hF
    obtain ⟨t2, a1, b1⟩ := kk r u t T'.heap (locs ++ L) e1.symm (by rw [← e2]; exact X'.warmed.alike) hp hb k1 k2 k3 T' rfl X'
    exact ⟨t2, st t2 a1, b1⟩
  · obtain ⟨k1, k2, k3⟩ := vx_keep h0 e1 hS hAX hf hL hF
    obtain ⟨t2, a1, b1⟩ := kx E ce q u t T'.heap (locs ++ L) e1.symm (by rw [← e2]; exact X'.warmed.alike) hp hb k1 k2 k3 (by rw [e1]; exact hce) hcv hcl T' rfl X'
    exact ⟨t2, st.trans a1, b1⟩
theorem vx_calld {S SX : Type} {post : UInt64 → S → Prop} {px : SX → Prop} {B : S → State → Prop} {BX : String → SX → State → Prop} {AX : Nat → Prop} (hr : vx_Run p l e R s m args below meth c H locs cells slots mc ms (F0 m pc ls st0) rest (va_Qd post B A1 a) (vx_X px BX AX) free) (hS : va_S A0 H0 H locs) (hA : ∀ q, q < H.size → A1 q → A0 q) (hf : ∀ q, free q → A0 q) (hAX : ∀ q, q < H.size → AX q → A0 q)
    (kx : ∀ (E : String) (ce : Cell) (q9 : Addr) (u : SX) (t : State) (H1 : Heap) (locs1 : List Loc), t.heap = H1 → s.vm.Alike t.vm → px u → BX E u t → H.size ≤ H1.size → (∀ q : Nat, q < H.size → ¬ AX q → H1[q]? = H[q]?) → va_S A0 H0 H1 locs1 → H1[q9]? = some ce → ce.vm = .none → s.vm.findClass E = some ce.cls → vx_W p l e R s m args below meth c H1 locs1 (cells + mc) (slots + ms) Q (F0 m pc ls rest) q9)
    (kk : ∀ (r : UInt64) (u : S) (t : State) (H1 : Heap) (locs1 : List Loc), t.heap = H1 → s.vm.Alike t.vm → post r u → B u t → H.size ≤ H1.size → (∀ q : Nat, q < H.size → ¬ A1 q → H1[q]? = H[q]?) → va_S A0 H0 H1 locs1 → W p l e R s m args below meth c H1 locs1 (cells + mc) (slots + ms) Q (F0 m (pc + 3) ls (.double r :: rest))) : W p l e R s m args below meth c H locs cells slots Q (F0 m pc ls st0) := by
  intro T hT X
  rcases hr T hT X with ⟨v, st₀, t, T', L, h0, X', hL, e1, e2, ⟨⟨r, u, hv, hp, hb⟩, hF⟩, st⟩ | ⟨q, st₀, t, T', L, E, ce, h0, X', hL, e1, e2, ⟨u, hp, hb, hF⟩, hce, hcv, hcl, st⟩
  · cases hv
    obtain ⟨k1, k2, k3⟩ := vx_keep h0 e1 hS hA hf hL hF
    obtain ⟨t2, a1, b1⟩ := kk r u t T'.heap (locs ++ L) e1.symm (by rw [← e2]; exact X'.warmed.alike) hp hb k1 k2 k3 T' rfl X'
    exact ⟨t2, st t2 a1, b1⟩
  · obtain ⟨k1, k2, k3⟩ := vx_keep h0 e1 hS hAX hf hL hF
    obtain ⟨t2, a1, b1⟩ := kx E ce q u t T'.heap (locs ++ L) e1.symm (by rw [← e2]; exact X'.warmed.alike) hp hb k1 k2 k3 (by rw [e1]; exact hce) hcv hcl T' rfl X'
    exact ⟨t2, st.trans a1, b1⟩
theorem vx_callv {S SX : Type} {post : S → Prop} {px : SX → Prop} {B : S → State → Prop} {BX : String → SX → State → Prop} {AX : Nat → Prop} (hr : vx_Run p l e R s m args below meth c H locs cells slots mc ms (F0 m pc ls st0) rest (va_Qv post B A1 a) (vx_X px BX AX) free) (hS : va_S A0 H0 H locs) (hA : ∀ q, q < H.size → A1 q → A0 q) (hf : ∀ q, free q → A0 q) (hAX : ∀ q, q < H.size → AX q → A0 q)
    (kx : ∀ (E : String) (ce : Cell) (q9 : Addr) (u : SX) (t : State) (H1 : Heap) (locs1 : List Loc), t.heap = H1 → s.vm.Alike t.vm → px u → BX E u t → H.size ≤ H1.size → (∀ q : Nat, q < H.size → ¬ AX q → H1[q]? = H[q]?) → va_S A0 H0 H1 locs1 → H1[q9]? = some ce → ce.vm = .none → s.vm.findClass E = some ce.cls → vx_W p l e R s m args below meth c H1 locs1 (cells + mc) (slots + ms) Q (F0 m pc ls rest) q9)
    (kk : ∀ (u : S) (t : State) (H1 : Heap) (locs1 : List Loc), t.heap = H1 → s.vm.Alike t.vm → post u → B u t → H.size ≤ H1.size → (∀ q : Nat, q < H.size → ¬ A1 q → H1[q]? = H[q]?) → va_S A0 H0 H1 locs1 → W p l e R s m args below meth c H1 locs1 (cells + mc) (slots + ms) Q (F0 m (pc + 3) ls (rest))) : W p l e R s m args below meth c H locs cells slots Q (F0 m pc ls st0) := by
  intro T hT X
  rcases hr T hT X with ⟨v, st₀, t, T', L, h0, X', hL, e1, e2, ⟨⟨u, hv, hp, hb⟩, hF⟩, st⟩ | ⟨q, st₀, t, T', L, E, ce, h0, X', hL, e1, e2, ⟨u, hp, hb, hF⟩, hce, hcv, hcl, st⟩
  · cases hv
    obtain ⟨k1, k2, k3⟩ := vx_keep h0 e1 hS hA hf hL hF
    obtain ⟨t2, a1, b1⟩ := kk u t T'.heap (locs ++ L) e1.symm (by rw [← e2]; exact X'.warmed.alike) hp hb k1 k2 k3 T' rfl X'
    exact ⟨t2, st t2 a1, b1⟩
  · obtain ⟨k1, k2, k3⟩ := vx_keep h0 e1 hS hAX hf hL hF
    obtain ⟨t2, a1, b1⟩ := kx E ce q u t T'.heap (locs ++ L) e1.symm (by rw [← e2]; exact X'.warmed.alike) hp hb k1 k2 k3 (by rw [e1]; exact hce) hcv hcl T' rfl X'
    exact ⟨t2, st.trans a1, b1⟩
/-- caught by the row x of this method's table; the rows ahead don't take it -/
theorem vx_catch {own name : String} {E : String} {ce : Cell} {q : Addr} (hown : s.vm.findClass own = some m.cls) (pre : List ExceptionTableEntry) (x : ExceptionTableEntry) (suf : List ExceptionTableEntry) (hsplit : c.exceptionTable.toList = pre ++ x :: suf)
    (hpass : ∀ z ∈ pre, covers z pc = false ∨ (z.catchType ≠ 0 ∧ ∃ nm : String, (Cond.classLink own z.catchType nm).before args s = true ∧ va_Nc E nm s)) (hx : covers x pc = true) (h0 : x.catchType ≠ 0)
    (hlink : (Cond.classLink own x.catchType name).before args s = true) (hcast : (Cond.castable E name).before args s = true) (hcell : H[q]? = some ce) (hv : ce.vm = .none) (hcl : s.vm.findClass E = some ce.cls)
    (kk : W p l e R s m args below meth c H locs cells slots Q (F0 m x.handlerPc ls [.ref q])) : vx_W p l e R s m args below meth c H locs cells slots Q (F0 m pc ls rest) q := by
  intro T hT X
  have hpl : e.platform.magicAccessors = ({} : Platform).magicAccessors := by rw [X.admits.platform]
  obtain ⟨c3, c4, hc3, hc4, hasg⟩ := Cond.castable_spec hcast
  cases Option.some.inj (hc3.symm.trans hcl)
  obtain ⟨c5, hc5, hcl5⟩ := Cond.classLink_spec hown hlink e.platform hpl
  cases Option.some.inj (hc4.symm.trans hc5)
  obtain ⟨vm', X', st⟩ := X.thenCaughtThrough q (g := F0 m pc ls rest) rfl (Steps.refl _) (by rw [hT]; exact hcell) (by rw [hv]; rfl) (by obtain ⟨k9, h9, -⟩ := Vm.findClass_spec hcl; exact ⟨k9, h9⟩) pre x suf hsplit
    (fun z hz => by
      rcases hpass z hz with h | ⟨hz0, nm, hl1, hn1⟩
      · exact Or.inl h
      · obtain ⟨c6, hc6, hcl6⟩ := Cond.classLink_spec hown hl1 e.platform hpl
        obtain ⟨a8, b8, h1, h2, h3⟩ := hn1
        cases Option.some.inj (h1.symm.trans hcl)
        cases Option.some.inj (h2.symm.trans hc6)
        exact Or.inr ⟨hz0, _, hcl6, h3⟩) hx (Or.inr ⟨h0, c4, hcl5, hasg⟩)
  obtain ⟨t, a1, b1⟩ := kk (T.setVm vm') hT X'
  exact ⟨t, st.trans a1, b1⟩
end Rows
section Ends
variable {p : Program} {l : Launch} {e : Env} {R : Room} {s : State} {m : MethodId} {args : Array Value} {below : List Frame} {meth : Method} {c : Code} {H : Heap} {locs : List Loc} {cells slots : Nat} {Q : State → Prop}
variable {mc ms : Nat} {free : Addr → Prop} {A0 A1 : Nat → Prop} {H0 : Heap} {a : Array Value} {ls : Array Slot} {st0 rest : List Value}
variable {Qc : Array Value → State → Outcome → State → Prop} {XC : String → State → State → Prop}
/-- what a body that may throw owes at its end -/
def vx_MQ (below : List Frame) (Qc : Array Value → State → Outcome → State → Prop) (XC : String → State → State → Prop) (a : Array Value) (s : State) (mc ms : Nat) (free : Addr → Prop) : State → Prop := fun t =>
  ∃ o, t.status = .running ∧ Ended t below o ∧ vx_Q Qc XC mc ms free a s o t
theorem vx_ret {g : JFrame} {mc ms : Nat} (k : W p l e R s m args below meth c H locs cells slots (MQ below Qc args s mc ms free) g) : W p l e R s m args below meth c H locs cells slots (vx_MQ below Qc XC args s mc ms free) g := by
  intro T hT X
  obtain ⟨t, a1, o, b1, b2, b3, b4⟩ := k T hT X
  exact ⟨t, a1, o, b1, b2, Or.inl ⟨b3, b4⟩⟩
/-- not caught here: it goes on to the caller -/
theorem vx_widen {g : JFrame} {q : Addr} {k n : Nat} (h1 : cells ≤ k) (h2 : slots ≤ n) (kk : vx_W p l e R s m args below meth c H locs k n Q g q) : vx_W p l e R s m args below meth c H locs cells slots Q g q := fun T hT X => kk T hT (stand_widen X h1 h2)
theorem vx_out {pc : Nat} {E : String} {ce : Cell} {q : Addr} {mc ms : Nat} (hout : ∀ x ∈ c.exceptionTable.toList, covers x pc = false) (hlocks : meth.locks = false) (hcell : H[q]? = some ce) (hv : ce.vm = .none) (hcl : s.vm.findClass E = some ce.cls)
    (hx : ∀ t : State, t.heap = H → s.vm.Alike t.vm → XC E s t) (hf : ∀ z ∈ locs, free z.base) (hc : cells ≤ mc) (hs : slots ≤ ms) :
    vx_W p l e R s m args below meth c H locs cells slots (vx_MQ below Qc XC args s mc ms free) (F0 m pc ls rest) q := by
  intro T hT X
  obtain ⟨st1, hrun, hend, hW, hsm⟩ := X.leaveThrown q (g := F0 m pc ls rest) rfl rfl rfl hout hlocks
  have hcell9 : (T.setFrames (.throwing q :: below)).heap[q]? = some ce := by
    show T.heap[q]? = some ce
    rw [hT]; exact hcell
  exact ⟨_, st1, .threw q, hrun, hend, Or.inr ⟨q, rfl, E, ce, locs, hx _ hT hW.alike, hcell9, hv, hcl, hW, hsm.mono hc hs, hf⟩⟩
theorem vx_frame {U : State} {k n : Nat} (h : s.sameButNew ({ U with vm := s.vm } : State) locs k n) : s.heap.size ≤ U.heap.size ∧ ∀ q : Nat, q < s.heap.size → (∀ z ∈ locs, z.base ≠ q) → U.heap[q]? = s.heap[q]? := by
  obtain ⟨-, h2, -, -, -, h6⟩ := h
  refine ⟨h2, fun q hq hz => ?_⟩
  obtain ⟨c9, e1, e2, e3, e4⟩ := h6 q _ (Array.getElem?_eq_getElem hq)
  have hs : c9.slots = (s.heap[q]).slots := Array.ext_getElem? fun i => e4 i fun hm => hz _ hm rfl
  have h9 : c9 = s.heap[q] := by
    rw [hs] at e2
    exact e2
  have e5 : U.heap[q]? = some c9 := e1
  rw [e5, h9, Array.getElem?_eq_getElem hq]
/-- the words of a throw but the four that speak of the heap -/
def vx_no (w : Cond) : Bool := decide (w ≠ .isRef (.static Bundle.tN "UNASSIGNED_STACK" Bundle.steD)) && decide (w ≠ .isRef (.static Bundle.tN "SUPPRESSED_SENTINEL" Bundle.listD)) && decide (w ≠ .laysStatic Bundle.tN "UNASSIGNED_STACK" Bundle.steD) && decide (w ≠ .laysStatic Bundle.tN "SUPPRESSED_SENTINEL" Bundle.listD)
def vx_at0 (own : String) (ic : Nat) (X : String) (names : List String) : List Cond := (Bundle.ownAtoms0 own ic X names).filter vx_no
def vx_atS (own : String) (ic : Nat) (X : String) (names : List String) : List Cond := (Bundle.ownAtoms own ic X names).filter vx_no
/-- a word that the tables alone decide, or a good one -/
def vx_ot (w : Cond) : Bool := w.onTables || goodWord w
theorem vx_ot_at {args a' : Array Value} {s U : State} {w : Cond} (hW : s.WarmedH U.vm) (hvm : s.vm = U.vm) (hg : vx_ot w = true) (h : w.before args s = true) : w.before a' U = true := by
  simp only [vx_ot, Bool.or_eq_true] at hg
  rcases hg with hg | hg
  · exact va_tabs hg hvm h
  · exact word_at hW (good_of_word hg) h
/-- a list's words: the good ones out of the method's own list, the others by premises of their own -/
theorem vx_hat {args : Array Value} {s : State} {L B : List Cond} (h1 : ∀ w ∈ L.filter goodWord, w.before args s = true) (h2 : ∀ w ∈ L.filter (fun w => !goodWord w), w ∈ B) (h3 : ∀ w ∈ B, w.before args s = true) : ∀ w ∈ L, w.before args s = true := by
  intro w hw
  by_cases g : goodWord w = true
  · exact h1 w (List.mem_filter.mpr ⟨hw, g⟩)
  · refine h3 w (h2 w (List.mem_filter.mpr ⟨hw, ?_⟩))
    show (!goodWord w) = true
    cases hgw : goodWord w
    · rfl
    · exact absurd hgw g
theorem vx_c {args : Array Value} {s : State} {w : Cond} {B : List Cond} (h : w.before args s = true) (t : ∀ w ∈ B, w.before args s = true) : ∀ w' ∈ w :: B, w'.before args s = true := fun w' h' => (List.mem_cons.mp h').elim (fun e => by rw [e]; exact h) (t w')
theorem vx_n {args : Array Value} {s : State} : ∀ w ∈ ([] : List Cond), w.before args s = true := fun _ h => nomatch h
theorem vx_own {args : Array Value} {s : State} {L : List Cond} (h1 : ∀ w ∈ L.filter vx_no, w.before args s = true)
    (hU : (Cond.isRef (.static Bundle.tN "UNASSIGNED_STACK" Bundle.steD)).before args s = true) (hN : (Cond.isRef (.static Bundle.tN "SUPPRESSED_SENTINEL" Bundle.listD)).before args s = true)
    (lU : (Cond.laysStatic Bundle.tN "UNASSIGNED_STACK" Bundle.steD).before args s = true) (lN : (Cond.laysStatic Bundle.tN "SUPPRESSED_SENTINEL" Bundle.listD).before args s = true) : ∀ w ∈ L, w.before args s = true := by
  intro w hw
  by_cases e1 : w = .isRef (.static Bundle.tN "UNASSIGNED_STACK" Bundle.steD)
  · rw [e1]; exact hU
  · by_cases e2 : w = .isRef (.static Bundle.tN "SUPPRESSED_SENTINEL" Bundle.listD)
    · rw [e2]; exact hN
    · by_cases e3 : w = .laysStatic Bundle.tN "UNASSIGNED_STACK" Bundle.steD
      · rw [e3]; exact lU
      · by_cases e4 : w = .laysStatic Bundle.tN "SUPPRESSED_SENTINEL" Bundle.listD
        · rw [e4]; exact lN
        · exact h1 w (List.mem_filter.mpr ⟨hw, by unfold vx_no; rw [decide_eq_true e1, decide_eq_true e2, decide_eq_true e3, decide_eq_true e4]; rfl⟩)
/-- where a static field lies, its class's statics cell in H -/
def vx_L (C n d : String) (A : Nat → Prop) (U : State) (H : Heap) : Prop := ∃ (c : ClassId) (k : Class) (i : Nat) (f : Field) (a : Nat) (cell : Cell), U.vm.findClass C = some c ∧ U.fieldFound? C n d = some (c, k, i, f) ∧ f.isStatic = true ∧ k.statics = some a ∧ H[a]? = some cell ∧ cell.vm.isStatics = true ∧ cell.cls = c ∧ f.slot < cell.slots.size ∧ k.staticTypes[f.slot]? = some f.type ∧ ¬ A a
theorem vx_L.moved {C n d : String} {A : Nat → Prop} {u U : State} {H : Heap} (hvm : u.vm.Alike U.vm) (h : vx_L C n d A u H) : vx_L C n d A U H := by
  obtain ⟨c, k, i, f, a, cell, h1, h2, h3, h4, h5, h6, h7, h8, h9, h10⟩ := h
  obtain ⟨k', hi', he⟩ := State.fieldFound?_setVm hvm h2
  exact ⟨c, k', i, f, a, cell, by rw [hvm.findClass]; exact h1, hi', h3, by rw [he]; exact h4, h5, h6, h7, h8, by rw [he]; exact h9, h10⟩
theorem vx_L.kept {C n d : String} {A : Nat → Prop} {U : State} {H H1 : Heap} (h : vx_L C n d A U H) (hq : ∀ a : Nat, a < H.size → ¬ A a → H1[a]? = H[a]?) : vx_L C n d A U H1 := by
  obtain ⟨c, k, i, f, a, cell, h1, h2, h3, h4, h5, h6, h7, h8, h9, h10⟩ := h
  exact ⟨c, k, i, f, a, cell, h1, h2, h3, h4, by rw [hq a (Array.getElem?_eq_some_iff.mp h5).1 h10]; exact h5, h6, h7, h8, h9, h10⟩
theorem vx_L.narrow {C n d : String} {A B : Nat → Prop} {U : State} {H : Heap} (h : vx_L C n d A U H) (hAB : ∀ q, B q → A q) : vx_L C n d B U H := by
  obtain ⟨c, k, i, f, a, cell, h1, h2, h3, h4, h5, h6, h7, h8, h9, h10⟩ := h
  exact ⟨c, k, i, f, a, cell, h1, h2, h3, h4, h5, h6, h7, h8, h9, fun z => h10 (hAB _ z)⟩
theorem vx_L.word {C n d : String} {A : Nat → Prop} {s : State} {args : Array Value} (h : vx_L C n d A s s.heap) : (Cond.laysStatic C n d).before args s = true := by
  obtain ⟨c, k, i, f, a, cell, h1, h2, h3, h4, h5, h6, h7, h8, h9, -⟩ := h
  show (Cond.laysStatic C n d).holds args s none s [] = true
  exact Cond.laysStatic_of h1 h2 h3 h4 h5 h6 h7 h8 h9
/-- .. and what it holds: null or some reference -/
def vx_Zq (C n d : String) (A : Nat → Prop) (U : State) (H : Heap) : Prop := va_Zq C n d A U H ∧ vx_L C n d A U H
theorem vx_Zq.moved {C n d : String} {A : Nat → Prop} {u U : State} {H : Heap} (hvm : u.vm.Alike U.vm) (h : vx_Zq C n d A u H) : vx_Zq C n d A U H := ⟨va_Zq.moved hvm h.1, vx_L.moved hvm h.2⟩
theorem vx_Zq.kept {C n d : String} {A : Nat → Prop} {U : State} {H H1 : Heap} (h : vx_Zq C n d A U H) (hq : ∀ a : Nat, a < H.size → ¬ A a → H1[a]? = H[a]?) : vx_Zq C n d A U H1 := ⟨va_Zq.kept h.1 hq, vx_L.kept h.2 hq⟩
theorem vx_Zq.narrow {C n d : String} {A B : Nat → Prop} {U : State} {H : Heap} (h : vx_Zq C n d A U H) (hAB : ∀ q, B q → A q) : vx_Zq C n d B U H := ⟨va_Zq.narrow h.1 hAB, vx_L.narrow h.2 hAB⟩
theorem vx_Zqof {args : Array Value} {s : State} {C n d : String} {A : Nat → Prop} (hl : (Cond.laysStatic C n d).before args s = true) (hini : (Cond.initialized C).before args s = true) (h : (Cond.isRef (.static C n d)).before args s = true) (hA : ∀ a : Nat, a < s.heap.size → ¬ A a) : vx_Zq C n d A s s.heap := by
  refine ⟨va_Zqof hl hini h hA, ?_⟩
  obtain ⟨c, k, i, f, a, cell, h1, h2, h3, h4, h5, h6, h7, h8, h9⟩ := Cond.laysStatic_spec hl
  exact ⟨c, k, i, f, a, cell, h1, h2, h3, h4, h5, h6, h7, h8, h9, hA a (Array.getElem?_eq_some_iff.mp h5).1⟩
theorem vx_isRef {C n d : String} {v : Value} {A : Nat → Prop} {s : State} {args : Array Value} (h : va_Z C n d v A s s.heap) (hv : v.isRef = true) : (Cond.isRef (.static C n d)).before args s = true := by
  obtain ⟨cf, kf, fi, f, a, cell, h1, h2, h3, h4, h5, h6, h7, -⟩ := h
  have he : (Term.static C n d).eval args s none [] s = some v := by
    simp [Term.eval, State.fieldNamed?, h1, h2, h4, h5, h6, h7]
  simp only [Cond.before, Cond.holds, Cond.value, he]
  cases v <;> simp_all [Value.isRef]
theorem vx_isRefq {C n d : String} {A : Nat → Prop} {s : State} {args : Array Value} (h : va_Zq C n d A s s.heap) : (Cond.isRef (.static C n d)).before args s = true := by
  rcases h with h | ⟨t, h⟩
  · exact vx_isRef h rfl
  · exact vx_isRef h rfl
/-- the same frame, seen from here: as if the method were called anew in this heap -/
theorem vx_rebase {T : State} (X : Stand p l e R s m args below meth c T locs cells slots) {R' : Room} (hf : R'.frames ≤ R.frames) (hl : R'.locals ≤ R.locals) (hc : cells + R'.cells ≤ R.cells) (hs : slots + R'.slots ≤ R.slots) :
    Stand p l e R' ((T.setVm s.vm).setFrames (.invoking m args :: below)) m args below meth c T [] 0 0 := by
  have htop : (T.setVm s.vm).topJava?.isSome := X.here.top
  have hF : ((T.setVm s.vm).setFrames (.invoking m args :: below)).frames = .invoking m args :: below := State.frames_setFrames _ (State.cur_lt_of_top htop)
  obtain ⟨g₀, hg0⟩ := Option.isSome_iff_exists.mp htop
  obtain ⟨r, hr⟩ := State.topJava?_eq_some.mp hg0
  have hl9 : e.platform.stackLimits (T.setVm s.vm).me = e.platform.stackLimits s.me := X.limits
  have hb9 : (T.setVm s.vm).me.stackBytes = s.me.stackBytes := X.bytes
  refine ⟨X.admits, X.cas, X.clock, hF, ?_, X.hears, X.method, X.code, X.here, X.tail, X.warmed, ?_, ?_, ?_⟩
  · have h := X.room
    have hU : ((T.setVm s.vm).setFrames (.invoking m args :: below)).localsInUse = s.localsInUse := by
      rw [State.localsInUse_invoking hF (meth := meth) (c := c) X.method X.code, State.localsInUse_invoking X.frames X.method X.code]
    simp only [State.hasRoom, Bool.and_eq_true, decide_eq_true_eq] at h ⊢
    obtain ⟨⟨⟨⟨h1, h2, h3, h4, h5, h6⟩, h7⟩, h8⟩, h9⟩ := h
    rw [X.frames, List.length_cons] at h2 h3
    have q1 := X.heapSize
    have q2 := X.used
    simp only [hF, hU, List.length_cons, State.stackLimits_setFrames, State.stackBytes_setFrames, hl9, hb9]
    refine ⟨⟨⟨⟨by omega, by omega, by omega, by omega, by omega, h6⟩, ?_⟩, ?_⟩, X.book⟩
    · show T.heap.size + R'.cells ≤ e.platform.maxCells
      omega
    · show T.slotsUsed + R'.slots ≤ e.platform.maxSlots
      omega
  · rw [State.stackLimits_setFrames]; rfl
  · rw [State.stackBytes_setFrames]; rfl
  · refine ⟨?_, Nat.le_refl _, Nat.le_refl _, ?_, ?_, fun a c9 h9 => ⟨c9, h9, rfl, rfl, fun _ _ => rfl⟩⟩
    · obtain ⟨t, ht, -⟩ := State.frames_cons hr
      show T.setVm s.vm = { ((T.setVm s.vm).setFrames (.invoking m args :: below)).setFrames (T.setVm s.vm).frames with heap := T.heap, slotsUsed := T.slotsUsed }
      rw [State.setFrames_setFrames, State.setFrames_self ht]
      rfl
    · show T.slotsUsed = T.slotsUsed + ((T.heap.toList.drop T.heap.size).map (·.slots.size)).sum
      rw [List.drop_eq_nil_of_le (Nat.le_of_eq Array.length_toList)]
      rfl
    · show ((T.heap.toList.drop T.heap.size).map (·.slots.size)).sum ≤ 0
      rw [List.drop_eq_nil_of_le (Nat.le_of_eq Array.length_toList)]
      exact Nat.le_refl _
/-- 'throw new E()': new; dup; invokespecial; athrow -/
theorem vx_throw0 {cc : ByteArray} {pc : Nat} (hexec : p.tables.exec = Jvm.exec) (hb : c.code = cc) (hl : l.stackTraces = false) {own cls : String} {names : List String} {ik ic mc ms : Nat} {A : Nat → Prop}
    (hown : s.vm.findClass own = some m.cls) (hcls : Bundle.fit cls = true) (hnames : ∀ n ∈ names, Bundle.fit n = true)
    (hk : (Cond.classLink own ik cls).before args s = true) (hini : (Cond.initialized cls).before args s = true) (hat : ∀ w ∈ vx_at0 own ic cls names, w.before args s = true)
    (hgood : ∀ w ∈ Cond.classLink own ik cls :: Cond.initialized cls :: vx_at0 own ic cls names, vx_ot w = true)
    (hU : vx_Zq Bundle.tN "UNASSIGNED_STACK" Bundle.steD A s s.heap) (hN : vx_Zq Bundle.tN "SUPPRESSED_SENTINEL" Bundle.listD A s s.heap) (hS : va_S A s.heap H locs) (hsize : ls.size = c.maxLocals)
    (d0 : decode cc pc = .ok (.new ik, 3)) (d3 : decode cc (pc + 3) = .ok (.dup, 1)) (d4 : decode cc (pc + 4) = .ok (.invokespecial ic, 3)) (d7 : decode cc (pc + 7) = .ok (.athrow, 1))
    (hout : ∀ x ∈ c.exceptionTable.toList, covers x (pc + 7) = false)
    (hRframes : names.length + 3 < R.frames) (hRlocals : (rest.map fun v => v.category).sum + (13 * (names.length + 1) + 42) ≤ R.locals) (hRcells : cells + 1 ≤ R.cells) (hRslots : slots + 6 ≤ R.slots) (hlocks : meth.locks = false)
    (hx : ∀ t : State, s.vm.Alike t.vm → H.size ≤ t.heap.size → (∀ q : Nat, q < H.size → t.heap[q]? = H[q]?) → XC cls s t)
    (hf : ∀ z ∈ locs, free z.base) (hc : cells + 1 ≤ mc) (hs : slots + 6 ≤ ms) :
    W p l e R s m args below meth c H locs cells slots (vx_MQ below Qc XC args s mc ms free) (F0 m pc ls rest) := by
  intro T hT X
  have htr : e.platform.stackTraces = false := (show e.platform.stackTraces = l.stackTraces by rw [X.admits.platform]).trans hl
  have Y := vx_rebase X (R' := { frames := R.frames, locals := R.locals, cells := 1, slots := 6 }) (Nat.le_refl _) (Nat.le_refl _) hRcells hRslots
  obtain ⟨s', hA⟩ : ∃ z, z = (T.setVm s.vm).setFrames (.invoking m args :: below) := ⟨_, rfl⟩
  rw [← hA] at Y
  have hvm : s'.vm = s.vm := by rw [hA]; rfl
  have hhp : s'.heap = H := by rw [hA]; exact hT
  have hW0 : s.WarmedH s'.vm := by rw [hvm]; exact State.WarmedH.refl s
  have hat' : ∀ w ∈ vx_at0 own ic cls names, w.before args s' = true := fun w hw => vx_ot_at hW0 hvm.symm (hgood w (List.mem_cons_of_mem _ (List.mem_cons_of_mem _ hw))) (hat w hw)
  have hk' : (Cond.classLink own ik cls).before args s' = true := vx_ot_at hW0 hvm.symm (hgood _ List.mem_cons_self) hk
  have hini' : (Cond.initialized cls).before args s' = true := vx_ot_at hW0 hvm.symm (hgood _ (List.mem_cons_of_mem _ List.mem_cons_self)) hini
  have hU' : vx_Zq Bundle.tN "UNASSIGNED_STACK" Bundle.steD A s' s'.heap := by rw [hhp]; exact vx_Zq.moved hW0.alike (hU.kept hS.2.1)
  have hN' : vx_Zq Bundle.tN "SUPPRESSED_SENTINEL" Bundle.listD A s' s'.heap := by rw [hhp]; exact vx_Zq.moved hW0.alike (hN.kept hS.2.1)
  have h : ∀ w ∈ Bundle.ownAtoms0 own ic cls names, w.before args s' = true := vx_own hat' (vx_isRefq hU'.1) (vx_isRefq hN'.1) hU'.2.word hN'.2.word
  have hown' : s'.vm.findClass own = some m.cls := by rw [hvm]; exact hown
  have hins : (Cond.instantiable cls 6).before args s' = true := h _ (by simp [Bundle.ownAtoms0])
  obtain ⟨vm₁, cX, kX, hfX, hkX, -, -, X₁, st1⟩ := Y.newCold hexec (own := own) (C := cls) (index := ik) (n := 6) hown' hk' hins hini'
    (g := F0 m pc ls rest) rfl (by rw [hb]; exact d0) (Nat.le_refl _) (Nat.le_refl _)
  generalize hT1 : (T.setVm vm₁).pushCell { cls := cX, slots := kX.instanceTypes.map defaultValue, vm := .none } = T1 at X₁ st1
  have hcat : (Value.ref T.heap.size).category = 1 := rfl
  have hcellA : T1.heap[T.heap.size]? = some (freshCell cX kX) := by rw [← hT1]; exact State.heap_pushCell_size _ _
  have d3' : decode c.code (pc + 3) = .ok (.dup, 1) := by rw [hb]; exact d3
  obtain ⟨U, hsteps, hrun, hend, hW, hsame, ce, hce, hO⟩ := X₁.ctorThrow0 hexec htr (own := own) (cls := cls) (names := names) (ic := ic) hown' hcls hnames h (fun x hx => nomatch hx) hfX hkX hcellA (by rw [hhp, hT]; exact Nat.le_refl _)
    (g := { method := m, pc := pc + 4, locals := ls, stack := .ref T.heap.size :: .ref T.heap.size :: rest, locked := none }) rfl hsize rfl rfl (rest := rest) rfl
    (by rw [hb]; exact d4) (by rw [hb]; exact d7) hout hRframes (by simp only [List.map_cons, List.sum_cons, hcat]; omega) hlocks
  obtain ⟨f1, f2⟩ := vx_frame hsame
  rw [hhp] at f1 f2
  have hWs : s.WarmedH U.vm := State.WarmedH.trans hW0 hW
  have hcl : s.vm.findClass cls = some ce.cls := by
    have h9 := hO.cls
    rw [hvm] at h9
    exact h9
  have hall : s.sameButNew ({ U with vm := s.vm } : State) locs mc ms := by
    subst hA
    obtain ⟨e1, e2⟩ := hsame
    rw [State.setFrames_setFrames] at e1
    have h2 : (T.setVm s.vm).sameButNew ({ U with vm := s.vm } : State) [] (0 + 1) (0 + 6) := ⟨e1, e2⟩
    have h3 := X.same.trans h2
    rw [List.append_nil] at h3
    exact h3.mono hc hs
  refine ⟨U, ?_, .threw T.heap.size, hrun, hend, Or.inr ⟨T.heap.size, rfl, cls, ce, locs, hx U hWs.alike f1 (fun q hq => f2 q hq (fun z hz => nomatch hz)), hce, hO.vm, hcl, hWs, hall, hf⟩⟩
  refine st1 _ ?_
  show Steps p.tables e below (T1.setTop { method := m, pc := pc + 3, locals := ls, stack := .ref T.heap.size :: rest, locked := none }) _
  jvm_step X₁.here [X₁.here.top, hexec, d3', Value.category]
  exact hsteps
/-- 'throw new E("text")': new; dup; ldc; invokespecial; athrow -/
theorem vx_throwS {cc : ByteArray} {pc : Nat} (hexec : p.tables.exec = Jvm.exec) (hb : c.code = cc) (hl : l.stackTraces = false) {own cls text : String} {names : List String} {ik is ic mc ms sa : Nat} {A : Nat → Prop}
    (hown : s.vm.findClass own = some m.cls) (hcls : Bundle.fit cls = true) (hnames : ∀ n ∈ names, Bundle.fit n = true)
    (hk : (Cond.classLink own ik cls).before args s = true) (hini : (Cond.initialized cls).before args s = true) (hstr : vk_R own is text sa s) (hat : ∀ w ∈ vx_atS own ic cls names, w.before args s = true)
    (hgood : ∀ w ∈ Cond.classLink own ik cls :: Cond.initialized cls :: vx_atS own ic cls names, vx_ot w = true)
    (hU : vx_Zq Bundle.tN "UNASSIGNED_STACK" Bundle.steD A s s.heap) (hN : vx_Zq Bundle.tN "SUPPRESSED_SENTINEL" Bundle.listD A s s.heap) (hS : va_S A s.heap H locs) (hsize : ls.size = c.maxLocals)
    (d0 : decode cc pc = .ok (.new ik, 3)) (d3 : decode cc (pc + 3) = .ok (.dup, 1)) (d4 : decode cc (pc + 4) = .ok (.ldc is, 2)) (d6 : decode cc (pc + 6) = .ok (.invokespecial ic, 3)) (d9 : decode cc (pc + 9) = .ok (.athrow, 1))
    (hout : ∀ x ∈ c.exceptionTable.toList, covers x (pc + 9) = false)
    (hRframes : names.length + 3 < R.frames) (hRlocals : (rest.map fun v => v.category).sum + (13 * (names.length + 1) + 43) ≤ R.locals) (hRcells : cells + 1 ≤ R.cells) (hRslots : slots + 6 ≤ R.slots) (hlocks : meth.locks = false)
    (hx : ∀ t : State, s.vm.Alike t.vm → H.size ≤ t.heap.size → (∀ q : Nat, q < H.size → t.heap[q]? = H[q]?) → XC cls s t)
    (hf : ∀ z ∈ locs, free z.base) (hc : cells + 1 ≤ mc) (hs : slots + 6 ≤ ms) :
    W p l e R s m args below meth c H locs cells slots (vx_MQ below Qc XC args s mc ms free) (F0 m pc ls rest) := by
  intro T hT X
  have htr : e.platform.stackTraces = false := (show e.platform.stackTraces = l.stackTraces by rw [X.admits.platform]).trans hl
  have Y := vx_rebase X (R' := { frames := R.frames, locals := R.locals, cells := 1, slots := 6 }) (Nat.le_refl _) (Nat.le_refl _) hRcells hRslots
  obtain ⟨s', hA⟩ : ∃ z, z = (T.setVm s.vm).setFrames (.invoking m args :: below) := ⟨_, rfl⟩
  rw [← hA] at Y
  have hvm : s'.vm = s.vm := by rw [hA]; rfl
  have hhp : s'.heap = H := by rw [hA]; exact hT
  have hW0 : s.WarmedH s'.vm := by rw [hvm]; exact State.WarmedH.refl s
  have hat' : ∀ w ∈ vx_atS own ic cls names, w.before args s' = true := fun w hw => vx_ot_at hW0 hvm.symm (hgood w (List.mem_cons_of_mem _ (List.mem_cons_of_mem _ hw))) (hat w hw)
  have hk' : (Cond.classLink own ik cls).before args s' = true := vx_ot_at hW0 hvm.symm (hgood _ List.mem_cons_self) hk
  have hini' : (Cond.initialized cls).before args s' = true := vx_ot_at hW0 hvm.symm (hgood _ (List.mem_cons_of_mem _ List.mem_cons_self)) hini
  have hU' : vx_Zq Bundle.tN "UNASSIGNED_STACK" Bundle.steD A s' s'.heap := by rw [hhp]; exact vx_Zq.moved hW0.alike (hU.kept hS.2.1)
  have hN' : vx_Zq Bundle.tN "SUPPRESSED_SENTINEL" Bundle.listD A s' s'.heap := by rw [hhp]; exact vx_Zq.moved hW0.alike (hN.kept hS.2.1)
  have h : ∀ w ∈ Bundle.ownAtoms own ic cls names, w.before args s' = true := vx_own hat' (vx_isRefq hU'.1) (vx_isRefq hN'.1) hU'.2.word hN'.2.word
  have hown' : s'.vm.findClass own = some m.cls := by rw [hvm]; exact hown
  have hins : (Cond.instantiable cls 6).before args s' = true := h _ (by simp [Bundle.ownAtoms])
  obtain ⟨vm₁, cX, kX, hfX, hkX, -, -, X₁, st1⟩ := Y.newCold hexec (own := own) (C := cls) (index := ik) (n := 6) hown' hk' hins hini'
    (g := F0 m pc ls rest) rfl (by rw [hb]; exact d0) (Nat.le_refl _) (Nat.le_refl _)
  generalize hT1 : (T.setVm vm₁).pushCell { cls := cX, slots := kX.instanceTypes.map defaultValue, vm := .none } = T1 at X₁ st1
  have hcat : (Value.ref T.heap.size).category = 1 := rfl
  have hcellA : T1.heap[T.heap.size]? = some (freshCell cX kX) := by rw [← hT1]; exact State.heap_pushCell_size _ _
  have d3' : decode c.code (pc + 3) = .ok (.dup, 1) := by rw [hb]; exact d3
  have d4' : decode c.code (pc + 4) = .ok (.ldc is, 2) := by rw [hb]; exact d4
  have hstr' : vk_R own is text sa s' := vk_R.warm hW0 hstr
  obtain ⟨U, hsteps, hrun, hend, hW, hsame, ce, hce, hO⟩ := X₁.ctorThrowS hexec htr (own := own) (cls := cls) (names := names) (ic := ic) hown' hcls hnames h (fun x hx => nomatch hx) hfX hkX hcellA (by rw [hhp, hT]; exact Nat.le_refl _) (msg := .ref sa) rfl
    (g := { method := m, pc := pc + 6, locals := ls, stack := .ref sa :: .ref T.heap.size :: .ref T.heap.size :: rest, locked := none }) rfl hsize rfl rfl (rest := rest) rfl
    (by rw [hb]; exact d6) (by rw [hb]; exact d9) hout hRframes (by simp only [List.map_cons, List.sum_cons, hcat]; omega) hlocks
  obtain ⟨f1, f2⟩ := vx_frame hsame
  rw [hhp] at f1 f2
  have hWs : s.WarmedH U.vm := State.WarmedH.trans hW0 hW
  have hcl : s.vm.findClass cls = some ce.cls := by
    have h9 := hO.cls
    rw [hvm] at h9
    exact h9
  have hall : s.sameButNew ({ U with vm := s.vm } : State) locs mc ms := by
    subst hA
    obtain ⟨e1, e2⟩ := hsame
    rw [State.setFrames_setFrames] at e1
    have h2 : (T.setVm s.vm).sameButNew ({ U with vm := s.vm } : State) [] (0 + 1) (0 + 6) := ⟨e1, e2⟩
    have h3 := X.same.trans h2
    rw [List.append_nil] at h3
    exact h3.mono hc hs
  refine ⟨U, ?_, .threw T.heap.size, hrun, hend, Or.inr ⟨T.heap.size, rfl, cls, ce, locs, hx U hWs.alike f1 (fun q hq => f2 q hq (fun z hz => nomatch hz)), hce, hO.vm, hcl, hWs, hall, hf⟩⟩
  refine st1 _ ?_
  show Steps p.tables e below (T1.setTop { method := m, pc := pc + 3, locals := ls, stack := .ref T.heap.size :: rest, locked := none }) _
  jvm_step X₁.here [X₁.here.top, hexec, d3', Value.category]
  exact X₁.ldcString hexec (own := own) (text := text) (index := is) (a := sa) hown' hstr'.1 hstr'.2
    (g := { method := m, pc := pc + 4, locals := ls, stack := .ref T.heap.size :: .ref T.heap.size :: rest, locked := none }) rfl d4' _ hsteps
/-- 'throw new E("text")', the text by a wide index -/
theorem vx_throwSW {cc : ByteArray} {pc : Nat} (hexec : p.tables.exec = Jvm.exec) (hb : c.code = cc) (hl : l.stackTraces = false) {own cls text : String} {names : List String} {ik is ic mc ms sa : Nat} {A : Nat → Prop}
    (hown : s.vm.findClass own = some m.cls) (hcls : Bundle.fit cls = true) (hnames : ∀ n ∈ names, Bundle.fit n = true)
    (hk : (Cond.classLink own ik cls).before args s = true) (hini : (Cond.initialized cls).before args s = true) (hstr : vk_R own is text sa s) (hat : ∀ w ∈ vx_atS own ic cls names, w.before args s = true)
    (hgood : ∀ w ∈ Cond.classLink own ik cls :: Cond.initialized cls :: vx_atS own ic cls names, vx_ot w = true)
    (hU : vx_Zq Bundle.tN "UNASSIGNED_STACK" Bundle.steD A s s.heap) (hN : vx_Zq Bundle.tN "SUPPRESSED_SENTINEL" Bundle.listD A s s.heap) (hS : va_S A s.heap H locs) (hsize : ls.size = c.maxLocals)
    (d0 : decode cc pc = .ok (.new ik, 3)) (d3 : decode cc (pc + 3) = .ok (.dup, 1)) (d4 : decode cc (pc + 4) = .ok (.ldc_w is, 3)) (d7 : decode cc (pc + 7) = .ok (.invokespecial ic, 3)) (d10 : decode cc (pc + 10) = .ok (.athrow, 1))
    (hout : ∀ x ∈ c.exceptionTable.toList, covers x (pc + 10) = false)
    (hRframes : names.length + 3 < R.frames) (hRlocals : (rest.map fun v => v.category).sum + (13 * (names.length + 1) + 43) ≤ R.locals) (hRcells : cells + 1 ≤ R.cells) (hRslots : slots + 6 ≤ R.slots) (hlocks : meth.locks = false)
    (hx : ∀ t : State, s.vm.Alike t.vm → H.size ≤ t.heap.size → (∀ q : Nat, q < H.size → t.heap[q]? = H[q]?) → XC cls s t)
    (hf : ∀ z ∈ locs, free z.base) (hc : cells + 1 ≤ mc) (hs : slots + 6 ≤ ms) :
    W p l e R s m args below meth c H locs cells slots (vx_MQ below Qc XC args s mc ms free) (F0 m pc ls rest) := by
  intro T hT X
  have htr : e.platform.stackTraces = false := (show e.platform.stackTraces = l.stackTraces by rw [X.admits.platform]).trans hl
  have Y := vx_rebase X (R' := { frames := R.frames, locals := R.locals, cells := 1, slots := 6 }) (Nat.le_refl _) (Nat.le_refl _) hRcells hRslots
  obtain ⟨s', hA⟩ : ∃ z, z = (T.setVm s.vm).setFrames (.invoking m args :: below) := ⟨_, rfl⟩
  rw [← hA] at Y
  have hvm : s'.vm = s.vm := by rw [hA]; rfl
  have hhp : s'.heap = H := by rw [hA]; exact hT
  have hW0 : s.WarmedH s'.vm := by rw [hvm]; exact State.WarmedH.refl s
  have hat' : ∀ w ∈ vx_atS own ic cls names, w.before args s' = true := fun w hw => vx_ot_at hW0 hvm.symm (hgood w (List.mem_cons_of_mem _ (List.mem_cons_of_mem _ hw))) (hat w hw)
  have hk' : (Cond.classLink own ik cls).before args s' = true := vx_ot_at hW0 hvm.symm (hgood _ List.mem_cons_self) hk
  have hini' : (Cond.initialized cls).before args s' = true := vx_ot_at hW0 hvm.symm (hgood _ (List.mem_cons_of_mem _ List.mem_cons_self)) hini
  have hU' : vx_Zq Bundle.tN "UNASSIGNED_STACK" Bundle.steD A s' s'.heap := by rw [hhp]; exact vx_Zq.moved hW0.alike (hU.kept hS.2.1)
  have hN' : vx_Zq Bundle.tN "SUPPRESSED_SENTINEL" Bundle.listD A s' s'.heap := by rw [hhp]; exact vx_Zq.moved hW0.alike (hN.kept hS.2.1)
  have h : ∀ w ∈ Bundle.ownAtoms own ic cls names, w.before args s' = true := vx_own hat' (vx_isRefq hU'.1) (vx_isRefq hN'.1) hU'.2.word hN'.2.word
  have hown' : s'.vm.findClass own = some m.cls := by rw [hvm]; exact hown
  have hins : (Cond.instantiable cls 6).before args s' = true := h _ (by simp [Bundle.ownAtoms])
  obtain ⟨vm₁, cX, kX, hfX, hkX, -, -, X₁, st1⟩ := Y.newCold hexec (own := own) (C := cls) (index := ik) (n := 6) hown' hk' hins hini'
    (g := F0 m pc ls rest) rfl (by rw [hb]; exact d0) (Nat.le_refl _) (Nat.le_refl _)
  generalize hT1 : (T.setVm vm₁).pushCell { cls := cX, slots := kX.instanceTypes.map defaultValue, vm := .none } = T1 at X₁ st1
  have hcat : (Value.ref T.heap.size).category = 1 := rfl
  have hcellA : T1.heap[T.heap.size]? = some (freshCell cX kX) := by rw [← hT1]; exact State.heap_pushCell_size _ _
  have d3' : decode c.code (pc + 3) = .ok (.dup, 1) := by rw [hb]; exact d3
  have d4' : decode c.code (pc + 4) = .ok (.ldc_w is, 3) := by rw [hb]; exact d4
  have hstr' : vk_R own is text sa s' := vk_R.warm hW0 hstr
  obtain ⟨U, hsteps, hrun, hend, hW, hsame, ce, hce, hO⟩ := X₁.ctorThrowS hexec htr (own := own) (cls := cls) (names := names) (ic := ic) hown' hcls hnames h (fun x hx => nomatch hx) hfX hkX hcellA (by rw [hhp, hT]; exact Nat.le_refl _) (msg := .ref sa) rfl
    (g := { method := m, pc := pc + 7, locals := ls, stack := .ref sa :: .ref T.heap.size :: .ref T.heap.size :: rest, locked := none }) rfl hsize rfl rfl (rest := rest) rfl
    (by rw [hb]; exact d7) (by rw [hb]; exact d10) hout hRframes (by simp only [List.map_cons, List.sum_cons, hcat]; omega) hlocks
  obtain ⟨f1, f2⟩ := vx_frame hsame
  rw [hhp] at f1 f2
  have hWs : s.WarmedH U.vm := State.WarmedH.trans hW0 hW
  have hcl : s.vm.findClass cls = some ce.cls := by
    have h9 := hO.cls
    rw [hvm] at h9
    exact h9
  have hall : s.sameButNew ({ U with vm := s.vm } : State) locs mc ms := by
    subst hA
    obtain ⟨e1, e2⟩ := hsame
    rw [State.setFrames_setFrames] at e1
    have h2 : (T.setVm s.vm).sameButNew ({ U with vm := s.vm } : State) [] (0 + 1) (0 + 6) := ⟨e1, e2⟩
    have h3 := X.same.trans h2
    rw [List.append_nil] at h3
    exact h3.mono hc hs
  refine ⟨U, ?_, .threw T.heap.size, hrun, hend, Or.inr ⟨T.heap.size, rfl, cls, ce, locs, hx U hWs.alike f1 (fun q hq => f2 q hq (fun z hz => nomatch hz)), hce, hO.vm, hcl, hWs, hall, hf⟩⟩
  refine st1 _ ?_
  show Steps p.tables e below (T1.setTop { method := m, pc := pc + 3, locals := ls, stack := .ref T.heap.size :: rest, locked := none }) _
  jvm_step X₁.here [X₁.here.top, hexec, d3', Value.category]
  exact X₁.ldcStringW hexec (own := own) (text := text) (index := is) (a := sa) hown' hstr'.1 hstr'.2
    (g := { method := m, pc := pc + 4, locals := ls, stack := .ref T.heap.size :: .ref T.heap.size :: rest, locked := none }) rfl d4' _ hsteps
end Ends
section Bodies
variable {l : Launch}
theorem vx_ofW {y : MethodName} {ws ws' : List Cond} {rm : Room} {Pc : Array Value → State → Prop} {Qc : Array Value → State → Outcome → State → Prop} {XC : String → State → State → Prop} {mc ms : Nat} {free : Addr → Prop} {cc : ByteArray} {maxL : Nat} {ret : Option FieldType}
    (hy : plainName y.cls = true) (hw : ws = Cond.code y cc maxL ret :: ws')
    (body : ∀ p e s m args below meth c s₁, BodyLoose p l y (headSpec ws rm) cc maxL ret e s m args below meth c s₁ → c.maxLocals = maxL → (∀ x ∈ c.exceptionTable.toList, False) → Pc args s →
      W p l e (headSpec ws rm).room s m args below meth c s.heap [] 0 0 (vx_MQ below Qc XC args s mc ms free) (entryFrame m args maxL)) : vx_Met l y ws rm Pc Qc XC mc ms free := by
  refine MetFree.of_bodyS (code := cc) (maxLocals := maxL) (ret := ret) hy ?_ ?_
  · intro args s m h hn
    obtain ⟨meth, c, h1, h2, h3, h4, h5, h6, -, -⟩ := Cond.code_spec hn (atoms_spec (ws := ws) h _ (by rw [hw]; exact List.mem_cons_self))
    exact ⟨meth, c, h1, h2, h3, h4, h5, h6⟩
  · intro p e s m args below meth c s₁ B hml hP _
    have hh0 : s₁.heap = s.heap := by rw [B.state]; rfl
    have ht : ∀ x ∈ c.exceptionTable.toList, False := by
      obtain ⟨meth9, c9, h1, h2, -, -, -, -, h7, -⟩ := Cond.code_spec B.named (atoms_spec (ws := ws) B.pre _ (by rw [hw]; exact List.mem_cons_self))
      cases Option.some.inj (h1.symm.trans B.method)
      cases Option.some.inj (h2.symm.trans (Stand.of_body B).code)
      intro x hx
      rw [Array.isEmpty_iff.mp h7] at hx
      cases hx
    obtain ⟨t, a1, o, b1, b2, b3⟩ := body p e s m args below meth c s₁ B hml ht hP s₁ hh0 (Stand.of_body B)
    exact ⟨t, o, a1, b1, b2, b3⟩
/-- the table of a body with handlers -/
theorem vx_table {p : Program} {x y : MethodName} {S : Spec} {cc bytes : ByteArray} {maxL maxL' : Nat} {ret ret' : Option FieldType} {e : Env} {s s₁ : State} {m : MethodId} {args : Array Value} {below : List Frame} {meth : Method} {c : Code} {hh : List (Nat × Nat × Nat × Nat)}
    (B : BodyLoose p l y S cc maxL ret e s m args below meth c s₁) (h : (Cond.codeWith y bytes maxL' ret' hh).before args s = true) : c.exceptionTable.toList = tableOf hh := by
  obtain ⟨m9, meth9, c9, hn9, h1, h2, -, -, h6, -⟩ := Cond.codeWith_spec h
  cases Option.some.inj (hn9.symm.trans B.named)
  cases Option.some.inj (h1.symm.trans B.method)
  cases Option.some.inj (h2.symm.trans (Stand.of_body B).code)
  rw [← h6, table_eq]
end Bodies
end VXA
/-! ===== END ===== -/
/-! ===== BEGIN a static call of a method with an exception table ===== -/
section VXS
variable {p : Program} {l : Launch} {e : Env} {R : Room} {s : State} {m : MethodId} {args : Array Value} {below : List Frame} {meth : Method} {c : Code} {T : State} {H : Heap} {locs : List Loc} {cells slots : Nat}
abbrev vx_CSW (R : Room) (s : State) (args : Array Value) (own : String) (index : Nat) (y : MethodName) (bytes : ByteArray) (maxL : Nat) (ret : Option FieldType) (hh : List (Nat × Nat × Nat × Nat)) (ws : List Cond) (rm : Room) (mc ms n : Nat) : Prop :=
  (rm.cells = mc ∧ rm.slots = ms ∧ rm.frames + 1 ≤ R.frames ∧ 8 + (maxL + 11) + rm.locals ≤ R.locals ∧ (∀ w ∈ ws, ∀ (a' : Array Value) (U : State), s.WarmedH U.vm → w.before a' U = true) ∧ Cond.codeWith y bytes maxL ret hh ∈ ws) ∧
  (Cond.codeWith y bytes maxL ret hh).before args s = true ∧ (Cond.initialized y.cls).before args s = true ∧ (y.cls ≠ "java/lang/invoke/MethodHandle" ∧ y.cls ≠ "java/lang/invoke/VarHandle") ∧
  (∀ sig, parseMethodDescriptor y.desc = some sig → n = sig.parameters.length) ∧ (Cond.methodLink own index y).before args s = true ∧ (Cond.static y).before args s = true
theorem vx_cwSW {own : String} {index maxL mc ms : Nat} {y : MethodName} {bytes : ByteArray} {ret : Option FieldType} {hh : List (Nat × Nat × Nat × Nat)} {Ts ws ws' : List Cond} {rm : Room} (n : Nat) (ht : ∀ w ∈ Ts, w.before args s = true) (hT : GoodIn Ts (va_wsS own index y ws)) (hw : ws = Cond.codeWith y bytes maxL ret hh :: ws') (hrc : rm.cells = mc) (hrs : rm.slots = ms)
    (hd : y.cls ≠ "java/lang/invoke/MethodHandle" ∧ y.cls ≠ "java/lang/invoke/VarHandle" ∧ (parseMethodDescriptor y.desc).map (fun d => d.parameters.length) = some n) (hR : rm.frames + 1 ≤ R.frames ∧ 8 + (maxL + 11) + rm.locals ≤ R.locals) :
    vx_CSW R s args own index y bytes maxL ret hh ws rm mc ms n := by
  have ok : ∀ w ∈ va_wsS own index y ws, w.before args s = true := fun w h => ht w (hT w h).1
  have hG : GoodIn Ts ws := fun w h => hT w (by unfold va_wsS; exact List.mem_append_right _ h)
  have hc : Cond.codeWith y bytes maxL ret hh ∈ ws := by rw [hw]; exact List.mem_cons_self
  refine ⟨⟨hrc, hrs, hR.1, hR.2, pay_in ht hG, hc⟩, ht _ (hG _ hc).1, ok _ (by simp [va_wsS]), ⟨hd.1, hd.2.1⟩, fun sig h => ?_, ok _ (by simp [va_wsS]), ok _ (by simp [va_wsS])⟩
  have h2 := hd.2.2
  rw [h] at h2
  exact (Option.some.inj h2).symm
theorem vx_callSW (X : Stand p l e R s m args below meth c T locs cells slots) (hexec : p.tables.exec = Jvm.exec) {own : String} {index : Nat} {y : MethodName} {bytes : ByteArray} {maxL : Nat} {ret : Option FieldType} {hh : List (Nat × Nat × Nat × Nat)}
    (hown : s.vm.findClass own = some m.cls) (hlink : (Cond.methodLink own index y).before args s = true) (hstat : (Cond.static y).before args s = true) (hinit : (Cond.initialized y.cls).before args s = true)
    (hcode : (Cond.codeWith y bytes maxL ret hh).before args s = true) (hy : y.cls ≠ "java/lang/invoke/MethodHandle" ∧ y.cls ≠ "java/lang/invoke/VarHandle")
    {W9 : Nat} {Pre : Pt → Array Value → Prop} {Post : Pt → Array Value → Option Value → Pt → Prop} (hK : Back l R p e below s args y 3 W9 Pre Post)
    {g : JFrame} (hg : g.method = m) (hsize : g.locals.size = c.maxLocals) {argsL rest : List Value} (hlen : ∀ sig, parseMethodDescriptor y.desc = some sig → argsL.length = sig.parameters.length)
    (hstack : g.stack = argsL.reverse ++ rest) (hW : 2 * g.monitorRoom + (rest.map fun v => v.category).sum ≤ W9) (hdg : decode c.code g.pc = .ok (.invokestatic index, 3))
    (hpre : ∀ vm₁, s.WarmedH vm₁ → Pre ⟨T.setVm vm₁, locs, cells, slots⟩ argsL.toArray) :
    ∃ (v : Option Value) (vm₁ : Vm) (B : Pt), s.WarmedH vm₁ ∧ Stand p l e R s m args below meth c B.U B.locs B.cells B.slots ∧ Post ⟨T.setVm vm₁, locs, cells, slots⟩ argsL.toArray v B ∧
      ∀ target, Steps p.tables e below (B.U.setTop { g with pc := g.pc + 3, stack := v.toList ++ rest }) target → Steps p.tables e below (T.setTop g) target := by
  obtain ⟨mk, methM, cM, hnamed, hmethM, -, -, -, -, -, -, hsigM⟩ := Cond.codeWith_spec hcode
  have hstatic : methM.isStatic = true := Cond.static_spec hnamed hmethM hstat
  obtain ⟨kP, hkP, -⟩ := className_of_methodNamed hnamed
  have hinitP : kP.init = .initialized := Cond.initialized_spec (findClass_of_methodNamed hnamed) hkP hinit
  obtain ⟨vm₁, X₁, hstep₁⟩ := X.invokestatic hexec hown hlink hnamed hmethM hstatic hkP hinitP hy (g := g) hg (argsL := argsL) (rest := rest) (hlen _ hsigM) hstack hdg
  obtain ⟨v, B, X', hpost, hsteps⟩ := hK m meth c ⟨T.setVm vm₁, locs, cells, slots⟩ { g with stack := rest } (.invokestatic index) mk argsL.toArray X₁ hg hsize hdg hW (X₁.named hnamed) (hpre vm₁ X₁.warmed)
  exact ⟨v, vm₁, B, X₁.warmed, X', hpost, fun target h => hstep₁ _ fun acts => by rw [doInvoke_state]; exact hsteps.trans h⟩
theorem vx_runSW {y : MethodName} {bytes cc : ByteArray} {maxL nL mc ms n index : Nat} {ret : Option FieldType} {hh : List (Nat × Nat × Nat × Nat)} {ws : List Cond} {rm : Room} {Pc : Array Value → State → Prop} {Qc : Array Value → State → Outcome → State → Prop} {free : Addr → Prop} {Ts : List Cond} {own : String} {As rest : List Value} {g : JFrame}
    (S : CallFix p m c cc nL s args Ts own) (hM : Met l y ws rm Pc Qc mc ms free) (cw : vx_CSW R s args own index y bytes maxL ret hh ws rm mc ms n) (hp : PreS s H Pc As)
    (hg : g.method = m) (hn : As.length = n) (hsize : g.locals.size = nL) (hstack : g.stack = As.reverse ++ rest) (hW : 2 * g.monitorRoom + (rest.map fun v => v.category).sum ≤ 8) (hdg : decode cc g.pc = .ok (.invokestatic index, 3)) (hf : cells + mc ≤ R.cells ∧ slots + ms ≤ R.slots) :
    va_Run p l e R s m args below meth c H locs cells slots mc ms g rest (Qc As.toArray) (free) := by
  obtain ⟨⟨hrc, hrs, hfr, hlo, hws, hcw⟩, hcode, hini, hy, hlen, hl, hstt⟩ := cw
  have hK : Back l R p e below s args y 3 8 (PreOf R mc ms Pc) (PostOf Qc mc ms free) := va_backW (hh := hh) (bytes := bytes) (maxL := maxL) (ret := ret) hM hp.1 hrc hrs hfr hlo hws hcw (fun a' U hW => word_at hW (Or.inl (by first | rfl | simp [Cond.onTables, Cond.keeps, Cond.steady])) hini)
  obtain ⟨hx, hb, hml, ho, -⟩ := S
  intro T hT X
  obtain ⟨v, vm₁, ⟨U', l2, c2, s2⟩, hW₁, X', ⟨g', mk, t, L, e1, e2, hq, h1, hL, h2, h3⟩, st⟩ := vx_callSW X hx (hh := hh) (bytes := bytes) (maxL := maxL) (ret := ret) ho hl hstt hini hcode hy hK hg (hsize.trans hml.symm) (argsL := As) (rest := rest) (fun sig h => hn.trans (hlen sig h)) hstack hW (by rw [hb]; exact hdg)
    (fun vm₁ hW₁ => ⟨hf.1, hf.2, hp.2 (T.setVm vm₁) hT hW₁⟩)
  dsimp only [Pt.U, Pt.locs, Pt.cells, Pt.slots] at X' e1 e2 h1 h2 h3 st
  subst h1; subst h2; subst h3
  exact ⟨v, (T.setVm vm₁).calling g' mk As.toArray, t, U', L, hT, X', hL, e1, e2, hq, st⟩
/-- not caught here, past rows that name other classes: it goes on to the caller -/
theorem vx_outP {p : Program} {l : Launch} {e : Env} {R : Room} {s : State} {m : MethodId} {args : Array Value} {below : List Frame} {meth : Method} {c : Code} {H : Heap} {locs : List Loc} {cells slots : Nat} {free : Addr → Prop} {ls : Array Slot} {rest : List Value} {Qc : Array Value → State → Outcome → State → Prop} {XC : String → State → State → Prop}
    {pc : Nat} {own E : String} {ce : Cell} {q : Addr} {mc ms : Nat} (hown : s.vm.findClass own = some m.cls) (hlocks : meth.locks = false)
    (hpass : ∀ z ∈ c.exceptionTable.toList, covers z pc = false ∨ (z.catchType ≠ 0 ∧ ∃ nm : String, (Cond.classLink own z.catchType nm).before args s = true ∧ va_Nc E nm s)) (hcell : H[q]? = some ce) (hv : ce.vm = .none) (hcl : s.vm.findClass E = some ce.cls)
    (hx : ∀ t : State, t.heap = H → s.vm.Alike t.vm → XC E s t) (hf : ∀ z ∈ locs, free z.base) (hc : cells ≤ mc) (hs : slots ≤ ms) :
    vx_W p l e R s m args below meth c H locs cells slots (vx_MQ below Qc XC args s mc ms free) (F0 m pc ls rest) q := by
  intro T hT X
  have hpl : e.platform.magicAccessors = ({} : Platform).magicAccessors := by rw [X.admits.platform]
  obtain ⟨vm', hW', X', st⟩ := X.outThrough hlocks q (g := F0 m pc ls rest) rfl rfl rfl (cell := ce) (by rw [hT]; exact hcell) (by rw [hv]; rfl)
    (by obtain ⟨k9, h9, -⟩ := Vm.findClass_spec hcl; exact ⟨k9, h9⟩) (fun z hz => by
      rcases hpass z hz with h | ⟨hz0, nm, hl1, hn1⟩
      · exact Or.inl h
      · obtain ⟨c6, hc6, hcl6⟩ := Cond.classLink_spec hown hl1 e.platform hpl
        obtain ⟨a8, b8, h1, h2, h3⟩ := hn1
        cases Option.some.inj (h1.symm.trans hcl)
        cases Option.some.inj (h2.symm.trans hc6)
        exact Or.inr ⟨hz0, _, hcl6, h3⟩)
  obtain ⟨g₀, hfr⟩ := X'.frames_eq
  have hcell9 : ((T.setVm vm').setFrames (.throwing q :: below)).heap[q]? = some ce := by
    show T.heap[q]? = some ce
    rw [hT]; exact hcell
  have hend : Ended ((T.setVm vm').setFrames (.throwing q :: below)) below (.threw q) := State.frames_setFrames _ (State.cur_lt_of_frames hfr)
  refine ⟨(T.setVm vm').setFrames (.throwing q :: below), ?_, .threw q, X'.here.running, hend, Or.inr ⟨q, rfl, E, ce, locs, hx _ hT (X'.ends _).1.alike, hcell9, hv, hcl, (X'.ends _).1, (X'.ends _).2.mono hc hs, hf⟩⟩
  rw [X.pushThrowing_eq]
  exact st
/-- a thing of a world lies in the heap -/
theorem vx_lt {D : va_G} {cl : List vw_C} {ws : va_W} {H1 : Heap} (h : va_P D cl ws H1) {k : Nat} {q : Nat × va_E} (hk : ws[k]? = some q) : q.1 < H1.size := (h k q hk).lt
end VXS
/-! ===== END ===== -/
/-! ===== BEGIN methods with a table of their own: called by a name, returning or throwing ===== -/
section VXH
/-! vx_backW, vx_callVX, vx_callSX, vx_callVW, vx_runVW, vx_runVX, vx_runSX, vx_ofWH follow the same proofs as their sisters above (Free/Laws.lean, Shelf42/LK1.lean); vx_outP calls Shelf42/NT130.lean (outThrough). -/
section
variable {l : Launch} {R : Room} {p : Program} {e : Env} {below : List Frame} {s : State} {sargs : Array Value} {y : MethodName} {len W9 : Nat}
theorem vx_backW {ws : List Cond} {rm : Room} {Pc : Array Value → State → Prop} {Qc : Array Value → State → Outcome → State → Prop} {XC : String → State → State → Prop} {mc ms : Nat} {free : Addr → Prop} {bytes : ByteArray} {maxL : Nat} {ret : Option FieldType} {hh : List (Nat × Nat × Nat × Nat)}
    (hM : vx_Met l y ws rm Pc Qc XC mc ms free) (hblind : FrameBlind Pc) (hrc : rm.cells = mc) (hrs : rm.slots = ms)
    (hframes : rm.frames + 1 ≤ R.frames) (hlocals : W9 + (maxL + 11) + rm.locals ≤ R.locals)
    (hws : ∀ w ∈ ws, ∀ a' U, s.WarmedH U.vm → w.before a' U = true) (hcode : Cond.codeWith y bytes maxL ret hh ∈ ws) (hinit : ∀ a' U, s.WarmedH U.vm → (Cond.initialized y.cls).before a' U = true) :
    vx_Back l R p e below s sargs y len W9 (PreOf R mc ms Pc) (PostOf Qc mc ms free) (vx_Post XC mc ms free) := by
  intro m meth c A g ig mk a X hg hsize hdg hW hn hp
  have h1 : (headSpec ws rm).pre.before a A.U = true := atoms_intro fun w hw => hws w hw _ _ X.warmed
  have h2 : (Cond.codeWith y bytes maxL ret hh).before a A.U = true := hws _ hcode _ _ X.warmed
  have h3 : (Cond.initialized y.cls).before a A.U = true := hinit _ _ X.warmed
  have h4 : A.cells + (headSpec ws rm).room.cells ≤ R.cells := by rw [show (headSpec ws rm).room.cells = mc from hrc]; exact hp.1
  have h5 : A.slots + (headSpec ws rm).room.slots ≤ R.slots := by rw [show (headSpec ws rm).room.slots = ms from hrs]; exact hp.2.1
  have hPc : Pc a (A.U.calling g mk a) := hblind _ _ _ _ hp.2.2
  obtain ⟨U, Ls, c0, s0⟩ := A
  dsimp only [Pt.U, Pt.locs, Pt.cells, Pt.slots] at h1 h2 h3 h4 h5 X hn hPc ⊢
  obtain ⟨m9, methY, cY, hn9, hmY, hcY, -, hlY, -⟩ := Cond.codeWith_spec h2
  cases Option.some.inj (hn9.symm.trans hn)
  obtain ⟨kY, hkY, -⟩ := className_of_methodNamed hn
  have hinitY : kY.init = .initialized := Cond.initialized_spec (findClass_of_methodNamed hn) hkY h3
  have h : At U g.method c below := by rw [hg]; exact X.here
  have hlocals9 : W9 + (maxL + 11) + (headSpec ws rm).room.locals ≤ R.locals := hlocals
  have happ : (headSpec ws rm).appliesLoose y e.platform (U.calling g mk a) = true :=
    Spec.appliesLoose_calling (g := g) h hdg hn hkY hinitY
      (X.room_calling (g := g) (R' := (headSpec ws rm).room) hsize hmY hcY hframes (by rw [hlY]; omega) h4 h5) h1
  obtain ⟨mid, hmid⟩ := h.above
  have hfr : (U.setTop g).frames = (.java g :: mid) ++ below := by rw [State.frames_setTop' g h.top, hmid]; rfl
  obtain ⟨o, s₂, hsteps, -, hend, hq⟩ := Steps.callFree hM p X.admits X.cas X.clock (acts := []) hfr happ hPc trivial
  have hq' : vx_Q Qc XC mc ms free a (U.calling g mk a) o s₂ := hq
  rw [State.frames_setTop' g h.top] at hend
  obtain ⟨g₀, hg0⟩ := Option.isSome_iff_exists.mp h.top
  obtain ⟨r, hr⟩ := State.topJava?_eq_some.mp hg0
  have hr' : (({ U with heap := s₂.heap, slotsUsed := s₂.slotsUsed } : State).setVm s₂.vm).frames = .java g₀ :: r := hr
  rcases hq' with ⟨hqc, L, hfe, hL⟩ | ⟨q, rfl, E, ce, L, hx, hce, hcv, hcl, hW₂, hsm, hL⟩
  · obtain ⟨⟨v, rfl⟩, hW₂, e2, q2, q3, q4, q5, q6⟩ := id hfe
    have e3 : s₂ = ({ (U.calling g mk a).setFrames s₂.frames with heap := s₂.heap, slotsUsed := s₂.slotsUsed } : State).setVm s₂.vm := by
      have : s₂ = ({ s₂ with vm := (U.calling g mk a).vm } : State).setVm s₂.vm := rfl
      rw [e2] at this
      exact this
    obtain ⟨c₂, i₂, len₂, hc₂, hd₂, hf₂⟩ := hend
    have hW' : U.WarmedH s₂.vm := hW₂
    have hcc : c₂ = c := by
      have h1 : s₂.code? g.method = U.code? g.method := by
        rw [State.code?_eq, State.code?_eq, hW'.alike.method?]
      exact Option.some.inj (hc₂.symm.trans (h1.trans h.code))
    subst hcc
    have hlen : len₂ = len := by rw [hdg] at hd₂; cases hd₂; rfl
    subst hlen
    have hs₂ : s₂ = (({ U with heap := s₂.heap, slotsUsed := s₂.slotsUsed } : State).setVm s₂.vm).setTop { g with pc := g.pc + len₂, stack := v.toList ++ g.stack } := by
      refine e3.trans ?_
      rw [hf₂, State.calling_eq h.top, State.setFrames_setFrames, State.setTop_of_frames _ hr', hr]
      rfl
    have hsame : U.sameButNew ({ U with heap := s₂.heap, slotsUsed := s₂.slotsUsed } : State) L mc ms := by
      refine ⟨?_, q2, q3, q4, q5, q6⟩
      obtain ⟨t, ht, -⟩ := State.frames_cons hr
      show ({ U with heap := s₂.heap, slotsUsed := s₂.slotsUsed } : State) = { U.setFrames U.frames with heap := s₂.heap, slotsUsed := s₂.slotsUsed }
      rw [State.setFrames_self ht]
    subst hg
    refine Or.inl ⟨v, ⟨(({ U with heap := s₂.heap, slotsUsed := s₂.slotsUsed } : State).setVm s₂.vm), Ls ++ L, c0 + mc, s0 + ms⟩,
      ⟨X.admits, X.cas, X.clock, X.frames, X.room, X.hears, X.method, X.code, (X.here.setHeapUsed s₂.heap s₂.slotsUsed).setVm hW'.alike, X.tail, State.WarmedH.trans X.warmed hW', X.limits, X.bytes, X.same.trans (hsame.setVm s.vm)⟩,
      ⟨g, mk, s₂, L, rfl, rfl, hqc, rfl, hL, rfl, rfl⟩, ?_⟩
    show Steps p.tables e below _ ((({ U with heap := s₂.heap, slotsUsed := s₂.slotsUsed } : State).setVm s₂.vm).setTop { g with pc := g.pc + len₂, stack := v.toList ++ g.stack })
    rw [← hs₂]
    exact hsteps
  · obtain ⟨e2, q2, q3, q4, q5, q6⟩ := id hsm
    have e3 : s₂ = ({ (U.calling g mk a).setFrames s₂.frames with heap := s₂.heap, slotsUsed := s₂.slotsUsed } : State).setVm s₂.vm := by
      have : s₂ = ({ s₂ with vm := (U.calling g mk a).vm } : State).setVm s₂.vm := rfl
      rw [e2] at this
      exact this
    have hf₂ : s₂.frames = .throwing q :: .java g :: U.frames.tail := hend
    have hW' : U.WarmedH s₂.vm := hW₂
    have hs₂ : s₂ = ((({ U with heap := s₂.heap, slotsUsed := s₂.slotsUsed } : State).setVm s₂.vm).setTop g).pushFrame (.throwing q) := by
      refine e3.trans ?_
      rw [hf₂, State.calling_eq h.top, State.setFrames_setFrames, State.pushFrame, State.frames_setTop _ hr', State.setTop_of_frames _ hr', State.setFrames_setFrames, hr]
      rfl
    have hsame : U.sameButNew ({ U with heap := s₂.heap, slotsUsed := s₂.slotsUsed } : State) L mc ms := by
      refine ⟨?_, q2, q3, q4, q5, q6⟩
      obtain ⟨t, ht, -⟩ := State.frames_cons hr
      show ({ U with heap := s₂.heap, slotsUsed := s₂.slotsUsed } : State) = { U.setFrames U.frames with heap := s₂.heap, slotsUsed := s₂.slotsUsed }
      rw [State.setFrames_self ht]
    subst hg
    refine Or.inr ⟨q, ⟨(({ U with heap := s₂.heap, slotsUsed := s₂.slotsUsed } : State).setVm s₂.vm), Ls ++ L, c0 + mc, s0 + ms⟩,
      ⟨X.admits, X.cas, X.clock, X.frames, X.room, X.hears, X.method, X.code, (X.here.setHeapUsed s₂.heap s₂.slotsUsed).setVm hW'.alike, X.tail, State.WarmedH.trans X.warmed hW', X.limits, X.bytes, X.same.trans (hsame.setVm s.vm)⟩,
      ⟨g, mk, s₂, L, E, ce, rfl, rfl, hx, hce, hcv, hcl, rfl, hL, rfl, rfl⟩, ?_⟩
    show Steps p.tables e below _ (((({ U with heap := s₂.heap, slotsUsed := s₂.slotsUsed } : State).setVm s₂.vm).setTop g).pushFrame (.throwing q))
    rw [← hs₂]
    exact hsteps
end
variable {p : Program} {l : Launch} {e : Env} {R : Room} {s : State} {m : MethodId} {args : Array Value} {below : List Frame} {meth : Method} {c : Code} {T : State} {H : Heap} {locs : List Loc} {cells slots : Nat}
theorem vx_callVX (X : Stand p l e R s m args below meth c T locs cells slots) (hexec : p.tables.exec = Jvm.exec) {own C : String} {index : Nat} {y : MethodName} {bytes : ByteArray} {maxL : Nat} {ret : Option FieldType} {hh : List (Nat × Nat × Nat × Nat)}
    (hown : s.vm.findClass own = some m.cls) (hlink : (Cond.methodLink own index y).before args s = true) (hinst : (Cond.instanceMethod y).before args s = true) (hsel : (Cond.selects C y y).before args s = true)
    (hcode : (Cond.codeWith y bytes maxL ret hh).before args s = true) (hy : y.cls ≠ "java/lang/invoke/MethodHandle" ∧ y.cls ≠ "java/lang/invoke/VarHandle")
    {W9 : Nat} {Pre : Pt → Array Value → Prop} {Post : Pt → Array Value → Option Value → Pt → Prop} {PostX : Pt → Array Value → Addr → Pt → Prop} (hK : vx_Back l R p e below s args y 3 W9 Pre Post PostX)
    {b : Addr} {cellB : Cell} (hcell : T.heap[b]? = some cellB) (hobj : cellB.vm.isStatics = false) (hcls : s.vm.findClass C = some cellB.cls)
    {g : JFrame} (hg : g.method = m) (hsize : g.locals.size = c.maxLocals) {argsL rest : List Value} (hlen : ∀ sig, parseMethodDescriptor y.desc = some sig → argsL.length = sig.parameters.length)
    (hstack : g.stack = argsL.reverse ++ .ref b :: rest) (hW : 2 * g.monitorRoom + (rest.map fun v => v.category).sum ≤ W9) (hdg : decode c.code g.pc = .ok (.invokevirtual index, 3))
    (hpre : ∀ vm₁, s.WarmedH vm₁ → Pre ⟨T.setVm vm₁, locs, cells, slots⟩ (Value.ref b :: argsL).toArray) :
    (∃ (v : Option Value) (vm₁ : Vm) (B : Pt), s.WarmedH vm₁ ∧ Stand p l e R s m args below meth c B.U B.locs B.cells B.slots ∧ Post ⟨T.setVm vm₁, locs, cells, slots⟩ (Value.ref b :: argsL).toArray v B ∧
      ∀ target, Steps p.tables e below (B.U.setTop { g with pc := g.pc + 3, stack := v.toList ++ rest }) target → Steps p.tables e below (T.setTop g) target) ∨
    (∃ (q : Addr) (vm₁ : Vm) (B : Pt), s.WarmedH vm₁ ∧ Stand p l e R s m args below meth c B.U B.locs B.cells B.slots ∧ PostX ⟨T.setVm vm₁, locs, cells, slots⟩ (Value.ref b :: argsL).toArray q B ∧
      Steps p.tables e below (T.setTop g) ((B.U.setTop { g with stack := rest }).pushFrame (.throwing q))) := by
  obtain ⟨mk, methM, hnamed, hmethM, hstM, habM⟩ := Cond.instanceMethod_spec hinst
  obtain ⟨m8, methM', cM, hn8, hmethM', -, -, -, -, -, -, hsigM⟩ := Cond.codeWith_spec hcode
  cases Option.some.inj (hn8.symm.trans hnamed)
  cases hmethM.symm.trans hmethM'
  obtain ⟨c2, r2, m2, q1, q2, q3, q4, kP, hkP, hkPi⟩ := Cond.selects_spec hsel
  cases hcls.symm.trans q1
  cases (State.methodFound?_of_named hnamed hy).symm.trans q2
  cases hnamed.symm.trans q3
  have hselP : selectMethod e.platform s.vm cellB.cls mk = .method mk := by rw [Launch.admits_selectMethod X.admits]; exact q4
  obtain ⟨vm₁, X₁, hstep₁⟩ := X.invokevirtual hexec hown hlink hnamed hmethM hstM hkP hkPi hy (a := b) (cell := cellB) hcell
    (fun z h => by rw [h] at hobj; cases hobj) hselP hmethM habM hkP hkPi (g := g) hg (argsL := argsL) (rest := rest) (hlen _ hsigM) hstack hdg
  rcases hK m meth c ⟨T.setVm vm₁, locs, cells, slots⟩ { g with stack := rest } (.invokevirtual index) mk (Value.ref b :: argsL).toArray X₁ hg hsize hdg hW (X₁.named hnamed) (hpre vm₁ X₁.warmed) with ⟨v, B, X', hpost, hsteps⟩ | ⟨q, B, X', hpost, hsteps⟩
  · exact Or.inl ⟨v, vm₁, B, X₁.warmed, X', hpost, fun target h => hstep₁ _ fun acts => by rw [doInvoke_state]; exact hsteps.trans h⟩
  · exact Or.inr ⟨q, vm₁, B, X₁.warmed, X', hpost, hstep₁ _ fun acts => by rw [doInvoke_state]; exact hsteps⟩
theorem vx_callSX (X : Stand p l e R s m args below meth c T locs cells slots) (hexec : p.tables.exec = Jvm.exec) {own : String} {index : Nat} {y : MethodName} {bytes : ByteArray} {maxL : Nat} {ret : Option FieldType} {hh : List (Nat × Nat × Nat × Nat)}
    (hown : s.vm.findClass own = some m.cls) (hlink : (Cond.methodLink own index y).before args s = true) (hstat : (Cond.static y).before args s = true) (hinit : (Cond.initialized y.cls).before args s = true)
    (hcode : (Cond.codeWith y bytes maxL ret hh).before args s = true) (hy : y.cls ≠ "java/lang/invoke/MethodHandle" ∧ y.cls ≠ "java/lang/invoke/VarHandle")
    {W9 : Nat} {Pre : Pt → Array Value → Prop} {Post : Pt → Array Value → Option Value → Pt → Prop} {PostX : Pt → Array Value → Addr → Pt → Prop} (hK : vx_Back l R p e below s args y 3 W9 Pre Post PostX)
    {g : JFrame} (hg : g.method = m) (hsize : g.locals.size = c.maxLocals) {argsL rest : List Value} (hlen : ∀ sig, parseMethodDescriptor y.desc = some sig → argsL.length = sig.parameters.length)
    (hstack : g.stack = argsL.reverse ++ rest) (hW : 2 * g.monitorRoom + (rest.map fun v => v.category).sum ≤ W9) (hdg : decode c.code g.pc = .ok (.invokestatic index, 3))
    (hpre : ∀ vm₁, s.WarmedH vm₁ → Pre ⟨T.setVm vm₁, locs, cells, slots⟩ argsL.toArray) :
    (∃ (v : Option Value) (vm₁ : Vm) (B : Pt), s.WarmedH vm₁ ∧ Stand p l e R s m args below meth c B.U B.locs B.cells B.slots ∧ Post ⟨T.setVm vm₁, locs, cells, slots⟩ argsL.toArray v B ∧
      ∀ target, Steps p.tables e below (B.U.setTop { g with pc := g.pc + 3, stack := v.toList ++ rest }) target → Steps p.tables e below (T.setTop g) target) ∨
    (∃ (q : Addr) (vm₁ : Vm) (B : Pt), s.WarmedH vm₁ ∧ Stand p l e R s m args below meth c B.U B.locs B.cells B.slots ∧ PostX ⟨T.setVm vm₁, locs, cells, slots⟩ argsL.toArray q B ∧
      Steps p.tables e below (T.setTop g) ((B.U.setTop { g with stack := rest }).pushFrame (.throwing q))) := by
  obtain ⟨mk, methM, cM, hnamed, hmethM, -, -, -, -, -, -, hsigM⟩ := Cond.codeWith_spec hcode
  have hstatic : methM.isStatic = true := Cond.static_spec hnamed hmethM hstat
  obtain ⟨kP, hkP, -⟩ := className_of_methodNamed hnamed
  have hinitP : kP.init = .initialized := Cond.initialized_spec (findClass_of_methodNamed hnamed) hkP hinit
  obtain ⟨vm₁, X₁, hstep₁⟩ := X.invokestatic hexec hown hlink hnamed hmethM hstatic hkP hinitP hy (g := g) hg (argsL := argsL) (rest := rest) (hlen _ hsigM) hstack hdg
  rcases hK m meth c ⟨T.setVm vm₁, locs, cells, slots⟩ { g with stack := rest } (.invokestatic index) mk argsL.toArray X₁ hg hsize hdg hW (X₁.named hnamed) (hpre vm₁ X₁.warmed) with ⟨v, B, X', hpost, hsteps⟩ | ⟨q, B, X', hpost, hsteps⟩
  · exact Or.inl ⟨v, vm₁, B, X₁.warmed, X', hpost, fun target h => hstep₁ _ fun acts => by rw [doInvoke_state]; exact hsteps.trans h⟩
  · exact Or.inr ⟨q, vm₁, B, X₁.warmed, X', hpost, hstep₁ _ fun acts => by rw [doInvoke_state]; exact hsteps⟩
theorem vx_callVW (X : Stand p l e R s m args below meth c T locs cells slots) (hexec : p.tables.exec = Jvm.exec) {own C : String} {index : Nat} {y : MethodName} {bytes : ByteArray} {maxL : Nat} {ret : Option FieldType} {hh : List (Nat × Nat × Nat × Nat)}
    (hown : s.vm.findClass own = some m.cls) (hlink : (Cond.methodLink own index y).before args s = true) (hinst : (Cond.instanceMethod y).before args s = true) (hsel : (Cond.selects C y y).before args s = true)
    (hcode : (Cond.codeWith y bytes maxL ret hh).before args s = true) (hy : y.cls ≠ "java/lang/invoke/MethodHandle" ∧ y.cls ≠ "java/lang/invoke/VarHandle")
    {W9 : Nat} {Pre : Pt → Array Value → Prop} {Post : Pt → Array Value → Option Value → Pt → Prop} (hK : Back l R p e below s args y 3 W9 Pre Post)
    {b : Addr} {cellB : Cell} (hcell : T.heap[b]? = some cellB) (hobj : cellB.vm.isStatics = false) (hcls : s.vm.findClass C = some cellB.cls)
    {g : JFrame} (hg : g.method = m) (hsize : g.locals.size = c.maxLocals) {argsL rest : List Value} (hlen : ∀ sig, parseMethodDescriptor y.desc = some sig → argsL.length = sig.parameters.length)
    (hstack : g.stack = argsL.reverse ++ .ref b :: rest) (hW : 2 * g.monitorRoom + (rest.map fun v => v.category).sum ≤ W9) (hdg : decode c.code g.pc = .ok (.invokevirtual index, 3))
    (hpre : ∀ vm₁, s.WarmedH vm₁ → Pre ⟨T.setVm vm₁, locs, cells, slots⟩ (Value.ref b :: argsL).toArray) :
    ∃ (v : Option Value) (vm₁ : Vm) (B : Pt), s.WarmedH vm₁ ∧ Stand p l e R s m args below meth c B.U B.locs B.cells B.slots ∧ Post ⟨T.setVm vm₁, locs, cells, slots⟩ (Value.ref b :: argsL).toArray v B ∧
      ∀ target, Steps p.tables e below (B.U.setTop { g with pc := g.pc + 3, stack := v.toList ++ rest }) target → Steps p.tables e below (T.setTop g) target := by
  obtain ⟨mk, methM, hnamed, hmethM, hstM, habM⟩ := Cond.instanceMethod_spec hinst
  obtain ⟨m8, methM', cM, hn8, hmethM', -, -, -, -, -, -, hsigM⟩ := Cond.codeWith_spec hcode
  cases Option.some.inj (hn8.symm.trans hnamed)
  cases hmethM.symm.trans hmethM'
  obtain ⟨c2, r2, m2, q1, q2, q3, q4, kP, hkP, hkPi⟩ := Cond.selects_spec hsel
  cases hcls.symm.trans q1
  cases (State.methodFound?_of_named hnamed hy).symm.trans q2
  cases hnamed.symm.trans q3
  have hselP : selectMethod e.platform s.vm cellB.cls mk = .method mk := by rw [Launch.admits_selectMethod X.admits]; exact q4
  obtain ⟨vm₁, X₁, hstep₁⟩ := X.invokevirtual hexec hown hlink hnamed hmethM hstM hkP hkPi hy (a := b) (cell := cellB) hcell
    (fun z h => by rw [h] at hobj; cases hobj) hselP hmethM habM hkP hkPi (g := g) hg (argsL := argsL) (rest := rest) (hlen _ hsigM) hstack hdg
  obtain ⟨v, B, X', hpost, hsteps⟩ := hK m meth c ⟨T.setVm vm₁, locs, cells, slots⟩ { g with stack := rest } (.invokevirtual index) mk (Value.ref b :: argsL).toArray X₁ hg hsize hdg hW (X₁.named hnamed) (hpre vm₁ X₁.warmed)
  exact ⟨v, vm₁, B, X₁.warmed, X', hpost, fun target h => hstep₁ _ fun acts => by rw [doInvoke_state]; exact hsteps.trans h⟩
abbrev vx_CVW (R : Room) (s : State) (args : Array Value) (own C : String) (index : Nat) (y : MethodName) (bytes : ByteArray) (maxL : Nat) (ret : Option FieldType) (hh : List (Nat × Nat × Nat × Nat)) (ws : List Cond) (rm : Room) (mc ms n : Nat) : Prop :=
  (rm.cells = mc ∧ rm.slots = ms ∧ rm.frames + 1 ≤ R.frames ∧ 8 + (maxL + 11) + rm.locals ≤ R.locals ∧ (∀ w ∈ ws, ∀ (a' : Array Value) (U : State), s.WarmedH U.vm → w.before a' U = true) ∧ Cond.codeWith y bytes maxL ret hh ∈ ws) ∧
  (Cond.codeWith y bytes maxL ret hh).before args s = true ∧ (Cond.initialized y.cls).before args s = true ∧ (y.cls ≠ "java/lang/invoke/MethodHandle" ∧ y.cls ≠ "java/lang/invoke/VarHandle") ∧
  (∀ sig, parseMethodDescriptor y.desc = some sig → n = sig.parameters.length) ∧ (Cond.methodLink own index y).before args s = true ∧ (Cond.instanceMethod y).before args s = true ∧ (Cond.selects C y y).before args s = true
theorem vx_cwVW {own C : String} {index maxL mc ms : Nat} {y : MethodName} {bytes : ByteArray} {ret : Option FieldType} {hh : List (Nat × Nat × Nat × Nat)} {Ts ws ws' : List Cond} {rm : Room} (n : Nat) (ht : ∀ w ∈ Ts, w.before args s = true) (hT : GoodIn Ts (wsV own index C y ws)) (hw : ws = Cond.codeWith y bytes maxL ret hh :: ws') (hrc : rm.cells = mc) (hrs : rm.slots = ms)
    (hd : y.cls = C ∧ y.cls ≠ "java/lang/invoke/MethodHandle" ∧ y.cls ≠ "java/lang/invoke/VarHandle" ∧ (parseMethodDescriptor y.desc).map (fun d => d.parameters.length) = some n) (hR : rm.frames + 1 ≤ R.frames ∧ 8 + (maxL + 11) + rm.locals ≤ R.locals) :
    vx_CVW R s args own C index y bytes maxL ret hh ws rm mc ms n := by
  obtain ⟨hC, hd⟩ := hd
  subst hC
  have ok : ∀ w ∈ wsV own index y.cls y ws, w.before args s = true := fun w h => ht w (hT w h).1
  have hG : GoodIn Ts ws := fun w h => hT w (by unfold wsV; exact List.mem_append_right _ h)
  have hc : Cond.codeWith y bytes maxL ret hh ∈ ws := by rw [hw]; exact List.mem_cons_self
  refine ⟨⟨hrc, hrs, hR.1, hR.2, pay_in ht hG, hc⟩, ht _ (hG _ hc).1, ok _ (by simp [wsV]), ⟨hd.1, hd.2.1⟩, fun sig h => ?_, ok _ (by simp [wsV]), ok _ (by simp [wsV]), ok _ (by simp [wsV])⟩
  have h2 := hd.2.2
  rw [h] at h2
  exact (Option.some.inj h2).symm
theorem vx_runVW {y : MethodName} {bytes cc : ByteArray} {maxL nL mc ms n index : Nat} {ret : Option FieldType} {hh : List (Nat × Nat × Nat × Nat)} {ws : List Cond} {rm : Room} {Pc : Array Value → State → Prop} {Qc : Array Value → State → Outcome → State → Prop} {free : Addr → Prop} {Ts : List Cond} {own C : String} {b : Addr} {As rest : List Value} {g : JFrame}
    (S : CallFix p m c cc nL s args Ts own) (hM : Met l y ws rm Pc Qc mc ms free) (cw : vx_CVW R s args own C index y bytes maxL ret hh ws rm mc ms n) (hp : PreV s H C b Pc As)
    (hg : g.method = m) (hn : As.length = n) (hsize : g.locals.size = nL) (hstack : g.stack = As.reverse ++ .ref b :: rest) (hW : 2 * g.monitorRoom + (rest.map fun v => v.category).sum ≤ 8) (hdg : decode cc g.pc = .ok (.invokevirtual index, 3)) (hf : cells + mc ≤ R.cells ∧ slots + ms ≤ R.slots) :
    va_Run p l e R s m args below meth c H locs cells slots mc ms g rest (Qc (Value.ref b :: As).toArray) free := by
  obtain ⟨⟨hrc, hrs, hfr, hlo, hws, hcw⟩, hcode, hini, hy, hlen, hl, hin, hse⟩ := cw
  have hK : Back l R p e below s args y 3 8 (PreOf R mc ms Pc) (PostOf Qc mc ms free) := va_backW (hh := hh) (bytes := bytes) (maxL := maxL) (ret := ret) hM hp.1 hrc hrs hfr hlo hws hcw (fun a' U hW => word_at hW (Or.inl (by first | rfl | simp [Cond.onTables, Cond.keeps, Cond.steady])) hini)
  obtain ⟨hx, hb, hml, ho, -⟩ := S
  obtain ⟨-, ⟨cellB, hcB, hoB, hclB⟩, hPc⟩ := hp
  intro T hT X
  obtain ⟨v, vm₁, ⟨U', l2, c2, s2⟩, hW₁, X', ⟨g', mk, t, L, e1, e2, hq, h1, hL, h2, h3⟩, st⟩ := vx_callVW X hx (C := C) (hh := hh) (bytes := bytes) (maxL := maxL) (ret := ret) ho hl hin hse hcode hy hK (by rw [hT]; exact hcB) hoB hclB hg (hsize.trans hml.symm) (argsL := As) (rest := rest) (fun sig h => hn.trans (hlen sig h)) hstack hW (by rw [hb]; exact hdg)
    (fun vm₁ hW₁ => ⟨hf.1, hf.2, hPc (T.setVm vm₁) hT hW₁⟩)
  dsimp only [Pt.U, Pt.locs, Pt.cells, Pt.slots] at X' e1 e2 h1 h2 h3 st
  subst h1; subst h2; subst h3
  exact ⟨v, (T.setVm vm₁).calling g' mk (Value.ref b :: As).toArray, t, U', L, hT, X', hL, e1, e2, hq, st⟩
section
variable {y : MethodName} {bytes cc : ByteArray} {maxL nL mc ms n index : Nat} {ret : Option FieldType} {ws : List Cond} {rm : Room} {Pc : Array Value → State → Prop} {Qc : Array Value → State → Outcome → State → Prop} {XC : String → State → State → Prop} {free : Addr → Prop} {Ts : List Cond} {own C : String} {b : Addr} {As rest : List Value} {g : JFrame}
theorem vx_runVX {hh : List (Nat × Nat × Nat × Nat)} (S : CallFix p m c cc nL s args Ts own) (hM : vx_Met l y ws rm Pc Qc XC mc ms free) (cw : vx_CVW R s args own C index y bytes maxL ret hh ws rm mc ms n) (hp : PreV s H C b Pc As)
    (hg : g.method = m) (hn : As.length = n) (hsize : g.locals.size = nL) (hstack : g.stack = As.reverse ++ .ref b :: rest) (hW : 2 * g.monitorRoom + (rest.map fun v => v.category).sum ≤ 8) (hdg : decode cc g.pc = .ok (.invokevirtual index, 3)) (hf : cells + mc ≤ R.cells ∧ slots + ms ≤ R.slots) :
    vx_Run p l e R s m args below meth c H locs cells slots mc ms g rest (Qc (Value.ref b :: As).toArray) XC free := by
  obtain ⟨⟨hrc, hrs, hfr, hlo, hws, hcw⟩, hcode, hini, hy, hlen, hl, hin, hse⟩ := cw
  have hK : vx_Back l R p e below s args y 3 8 (PreOf R mc ms Pc) (PostOf Qc mc ms free) (vx_Post XC mc ms free) := vx_backW (hh := hh) (bytes := bytes) (maxL := maxL) (ret := ret) hM hp.1 hrc hrs hfr hlo hws hcw (fun a' U hW => word_at hW (Or.inl (by first | rfl | simp [Cond.onTables, Cond.keeps, Cond.steady])) hini)
  obtain ⟨hx, hb, hml, ho, -⟩ := S
  obtain ⟨-, ⟨cellB, hcB, hoB, hclB⟩, hPc⟩ := hp
  intro T hT X
  rcases vx_callVX X hx (C := C) (hh := hh) (bytes := bytes) (maxL := maxL) (ret := ret) ho hl hin hse hcode hy hK (by rw [hT]; exact hcB) hoB hclB hg (hsize.trans hml.symm) (argsL := As) (rest := rest) (fun sig h => hn.trans (hlen sig h)) hstack hW (by rw [hb]; exact hdg)
    (fun vm₁ hW₁ => ⟨hf.1, hf.2, hPc (T.setVm vm₁) hT hW₁⟩) with ⟨v, vm₁, ⟨U', l2, c2, s2⟩, hW₁, X', ⟨g', mk, t, L, e1, e2, hq, h1, hL, h2, h3⟩, st⟩ | ⟨q, vm₁, ⟨U', l2, c2, s2⟩, hW₁, X', ⟨g', mk, t, L, E, ce, e1, e2, hq, hce, hcv, hcl, h1, hL, h2, h3⟩, st⟩
  · dsimp only [Pt.U, Pt.locs, Pt.cells, Pt.slots] at X' e1 e2 h1 h2 h3 st
    subst h1; subst h2; subst h3
    exact Or.inl ⟨v, (T.setVm vm₁).calling g' mk (Value.ref b :: As).toArray, t, U', L, hT, X', hL, e1, e2, hq, st⟩
  · dsimp only [Pt.U, Pt.locs, Pt.cells, Pt.slots] at X' e1 e2 h1 h2 h3 st hcl
    subst h1; subst h2; subst h3
    exact Or.inr ⟨q, (T.setVm vm₁).calling g' mk (Value.ref b :: As).toArray, t, U', L, E, ce, hT, X', hL, e1, e2, hq, hce, hcv, vx_cls hW₁ hcl, st⟩
theorem vx_runSX {hh : List (Nat × Nat × Nat × Nat)} (S : CallFix p m c cc nL s args Ts own) (hM : vx_Met l y ws rm Pc Qc XC mc ms free) (cw : vx_CSW R s args own index y bytes maxL ret hh ws rm mc ms n) (hp : PreS s H Pc As)
    (hg : g.method = m) (hn : As.length = n) (hsize : g.locals.size = nL) (hstack : g.stack = As.reverse ++ rest) (hW : 2 * g.monitorRoom + (rest.map fun v => v.category).sum ≤ 8) (hdg : decode cc g.pc = .ok (.invokestatic index, 3)) (hf : cells + mc ≤ R.cells ∧ slots + ms ≤ R.slots) :
    vx_Run p l e R s m args below meth c H locs cells slots mc ms g rest (Qc As.toArray) XC free := by
  obtain ⟨⟨hrc, hrs, hfr, hlo, hws, hcw⟩, hcode, hini, hy, hlen, hl, hstt⟩ := cw
  have hK : vx_Back l R p e below s args y 3 8 (PreOf R mc ms Pc) (PostOf Qc mc ms free) (vx_Post XC mc ms free) := vx_backW (hh := hh) (bytes := bytes) (maxL := maxL) (ret := ret) hM hp.1 hrc hrs hfr hlo hws hcw (fun a' U hW => word_at hW (Or.inl (by first | rfl | simp [Cond.onTables, Cond.keeps, Cond.steady])) hini)
  obtain ⟨hx, hb, hml, ho, -⟩ := S
  intro T hT X
  rcases vx_callSX X hx (hh := hh) (bytes := bytes) (maxL := maxL) (ret := ret) ho hl hstt hini hcode hy hK hg (hsize.trans hml.symm) (argsL := As) (rest := rest) (fun sig h => hn.trans (hlen sig h)) hstack hW (by rw [hb]; exact hdg)
    (fun vm₁ hW₁ => ⟨hf.1, hf.2, hp.2 (T.setVm vm₁) hT hW₁⟩) with ⟨v, vm₁, ⟨U', l2, c2, s2⟩, hW₁, X', ⟨g', mk, t, L, e1, e2, hq, h1, hL, h2, h3⟩, st⟩ | ⟨q, vm₁, ⟨U', l2, c2, s2⟩, hW₁, X', ⟨g', mk, t, L, E, ce, e1, e2, hq, hce, hcv, hcl, h1, hL, h2, h3⟩, st⟩
  · dsimp only [Pt.U, Pt.locs, Pt.cells, Pt.slots] at X' e1 e2 h1 h2 h3 st
    subst h1; subst h2; subst h3
    exact Or.inl ⟨v, (T.setVm vm₁).calling g' mk As.toArray, t, U', L, hT, X', hL, e1, e2, hq, st⟩
  · dsimp only [Pt.U, Pt.locs, Pt.cells, Pt.slots] at X' e1 e2 h1 h2 h3 st hcl
    subst h1; subst h2; subst h3
    exact Or.inr ⟨q, (T.setVm vm₁).calling g' mk As.toArray, t, U', L, E, ce, hT, X', hL, e1, e2, hq, hce, hcv, vx_cls hW₁ hcl, st⟩
end
end VXH
theorem vx_ofWH {l : Launch} {y : MethodName} {ws ws' : List Cond} {rm : Room} {Pc : Array Value → State → Prop} {Qc : Array Value → State → Outcome → State → Prop} {XC : String → State → State → Prop} {mc ms : Nat} {free : Addr → Prop} {cc : ByteArray} {maxL : Nat} {ret : Option FieldType} {hh : List (Nat × Nat × Nat × Nat)}
    (hy : plainName y.cls = true) (hw : ws = Cond.codeWith y cc maxL ret hh :: ws')
    (body : ∀ p e s m args below meth c s₁, BodyLoose p l y (headSpec ws rm) cc maxL ret e s m args below meth c s₁ → c.maxLocals = maxL → Pc args s →
      W p l e (headSpec ws rm).room s m args below meth c s.heap [] 0 0 (vx_MQ below Qc XC args s mc ms free) (entryFrame m args maxL)) : vx_Met l y ws rm Pc Qc XC mc ms free := by
  refine MetFree.of_bodyS (code := cc) (maxLocals := maxL) (ret := ret) hy ?_ ?_
  · intro args s m h hn
    obtain ⟨m9, meth, c, hn9, h1, h2, h3, h4, -, h5, h6, -⟩ := Cond.codeWith_spec (atoms_spec (ws := ws) h _ (by rw [hw]; exact List.mem_cons_self))
    cases hn.symm.trans hn9
    exact ⟨meth, c, h1, h2, h3, h4, h5, h6⟩
  · intro p e s m args below meth c s₁ B hml hP _
    have hh0 : s₁.heap = s.heap := by rw [B.state]; rfl
    obtain ⟨t, a1, o, b1, b2, b3⟩ := body p e s m args below meth c s₁ B hml hP s₁ hh0 (Stand.of_body B)
    exact ⟨t, o, a1, b1, b2, b3⟩
/-! ===== END ===== -/
end
section
def RX0 : String := "KeyWalks"
def TX0 : u_T := fun k => match k with
  | 0 => ("KeyWalks", "profiles", "[I", true)
  | 1 => ("KeyWalks", "weights", "[I", true)
  | 2 => ("KeyWalks", "base", "I", false)
  | 3 => ("KeyWalks", "by", "I", false)
  | 4 => ("KeyWalks", "over", "I", false)
  | 5 => ("KeyWalks", "slices", "I", false)
  | 6 => ("KeyWalks", "turns", "[I", true)
  | 7 => ("KeyWalks", "sliceCosts", "[I", true)
  | 8 => ("KeyWalks", "tails", "[I", true)
  | 9 => ("KeyWalks", "ways", "[J", true)
  | 10 => ("KeyWalks", "heads", "[I", true)
  | 11 => ("KeyWalks", "firstKeys", "[I", true)
  | 12 => ("KeyWalks", "pickedKeys", "[I", true)
  | 13 => ("KeyWalks", "leastCost", "I", false)
  | 14 => ("KeyWalks", "bestCount", "J", false)
  | 15 => ("KeyWalks", "tailsKnown", "Z", false)
  | _ => ("KeyWalks", "headsKnown", "Z", false)
def tyX0 : Nat → FieldType := fun k => match k with
  | 0 => .array .int
  | 1 => .array .int
  | 2 => .int
  | 3 => .int
  | 4 => .int
  | 5 => .int
  | 6 => .array .int
  | 7 => .array .int
  | 8 => .array .int
  | 9 => .array .long
  | 10 => .array .int
  | 11 => .array .int
  | 12 => .array .int
  | 13 => .int
  | 14 => .long
  | 15 => .boolean
  | _ => .boolean
theorem nmX0 : ∀ a, a < 17 → ∀ b, b < 17 → a ≠ b → (TX0 a).2.1 ≠ (TX0 b).2.1 := by decide +kernel
theorem tyX0_ok : ∀ k, k < 17 → parseFieldDescriptor (TX0 k).2.2.1 = some (tyX0 k) := by decide +kernel
def RX1 : String := "KeyWalksModel"
def TX1 : u_T := fun k => match k with
  | 0 => ("KeyWalksModel", "code", "I", false)
  | 1 => ("KeyWalksModel", "slices", "I", false)
  | 2 => ("KeyWalksModel", "weight", "[I", true)
  | 3 => ("KeyWalksModel", "profile", "[I", true)
  | 4 => ("KeyWalksModel", "base", "I", false)
  | 5 => ("KeyWalksModel", "by", "I", false)
  | 6 => ("KeyWalksModel", "over", "I", false)
  | 7 => ("KeyWalksModel", "rest", "[I", true)
  | 8 => ("KeyWalksModel", "ways", "[J", true)
  | 9 => ("KeyWalksModel", "turns", "[I", true)
  | 10 => ("KeyWalksModel", "costs", "[I", true)
  | _ => ("KeyWalksModel", "walk", "[I", true)
def tyX1 : Nat → FieldType := fun k => match k with
  | 0 => .int
  | 1 => .int
  | 2 => .array .int
  | 3 => .array .int
  | 4 => .int
  | 5 => .int
  | 6 => .int
  | 7 => .array .int
  | 8 => .array .long
  | 9 => .array .int
  | 10 => .array .int
  | _ => .array .int
theorem nmX1 : ∀ a, a < 12 → ∀ b, b < 12 → a ≠ b → (TX1 a).2.1 ≠ (TX1 b).2.1 := by decide +kernel
theorem tyX1_ok : ∀ k, k < 12 → parseFieldDescriptor (TX1 k).2.2.1 = some (tyX1 k) := by decide +kernel
def RL : String := "KeyWalksLaw"
abbrev kCl : List vw_C := [(RX0, TX0, 17), (RX1, TX1, 12)]
abbrev cX0_init : ByteArray := prog_1_method_1_code
def yX0_init : MethodName := ⟨RX0, "<init>", "()V"⟩
abbrev cX0_setFirst : ByteArray := prog_1_method_22_code
def yX0_setFirst : MethodName := ⟨RX0, "setFirst", "()V"⟩
abbrev cX0_forget : ByteArray := prog_1_method_23_code
def yX0_forget : MethodName := ⟨RX0, "forget", "()V"⟩
abbrev cX0_clear : ByteArray := prog_1_method_2_code
def yX0_clear : MethodName := ⟨RX0, "clear", "()I"⟩
abbrev cX0_least : ByteArray := prog_1_method_11_code
def yX0_least : MethodName := ⟨RX0, "least", "()I"⟩
abbrev cX0_knowTails : ByteArray := prog_1_method_35_code
def yX0_knowTails : MethodName := ⟨RX0, "knowTails", "()V"⟩
abbrev cX0_fillTurns : ByteArray := prog_1_method_36_code
def yX0_fillTurns : MethodName := ⟨RX0, "fillTurns", "()V"⟩
abbrev cX0_turnBetween : ByteArray := prog_1_method_34_code
def yX0_turnBetween : MethodName := ⟨RX0, "turnBetween", "(II)I"⟩
abbrev cX0_placeOf : ByteArray := prog_1_method_29_code
def yX0_placeOf : MethodName := ⟨RX0, "placeOf", "(I)I"⟩
abbrev cX0_modeOf : ByteArray := prog_1_method_28_code
def yX0_modeOf : MethodName := ⟨RX0, "modeOf", "(I)I"⟩
abbrev cX0_tonicOf : ByteArray := prog_1_method_27_code
def yX0_tonicOf : MethodName := ⟨RX0, "tonicOf", "(I)I"⟩
abbrev cX0_fillSliceCosts : ByteArray := prog_1_method_37_code
def yX0_fillSliceCosts : MethodName := ⟨RX0, "fillSliceCosts", "(I)V"⟩
abbrev cX0_fitIn : ByteArray := prog_1_method_31_code
def yX0_fitIn : MethodName := ⟨RX0, "fitIn", "(II)I"⟩
abbrev cX0_numberOf : ByteArray := prog_1_method_30_code
def yX0_numberOf : MethodName := ⟨RX0, "numberOf", "(II)I"⟩
abbrev cX0_fillTail : ByteArray := prog_1_method_38_code
def yX0_fillTail : MethodName := ⟨RX0, "fillTail", "(II)V"⟩
abbrev cX0_cappedSum : ByteArray := prog_1_method_40_code
def yX0_cappedSum : MethodName := ⟨RX0, "cappedSum", "(JJ)J"⟩
abbrev cX0_fillLeast : ByteArray := prog_1_method_39_code
def yX0_fillLeast : MethodName := ⟨RX0, "fillLeast", "()V"⟩
abbrev cX0_followBest : ByteArray := prog_1_method_41_code
def yX0_followBest : MethodName := ⟨RX0, "followBest", "(JI[I)I"⟩
abbrev cX0_restAfter : ByteArray := prog_1_method_42_code
def yX0_restAfter : MethodName := ⟨RX0, "restAfter", "(II)I"⟩
abbrev cX0_turnInto : ByteArray := prog_1_method_43_code
def yX0_turnInto : MethodName := ⟨RX0, "turnInto", "(II)I"⟩
abbrev cX0_count : ByteArray := prog_1_method_13_code
def yX0_count : MethodName := ⟨RX0, "count", "()J"⟩
abbrev cL_profile : ByteArray := method_3_code
def yL_profile : MethodName := ⟨RL, "profile", "(LKeyWalks;III[J)I"⟩
abbrev cX0_profile : ByteArray := prog_1_method_3_code
def yX0_profile : MethodName := ⟨RX0, "profile", "(III)I"⟩
abbrev cX0_requireWithin : ByteArray := prog_1_method_26_code
def yX0_requireWithin : MethodName := ⟨RX0, "requireWithin", "(III)V"⟩
abbrev cL_costs : ByteArray := method_4_code
def yL_costs : MethodName := ⟨RL, "costs", "(LKeyWalks;III[J)I"⟩
abbrev cX0_costs : ByteArray := prog_1_method_4_code
def yX0_costs : MethodName := ⟨RX0, "costs", "(III)I"⟩
abbrev cL_slice : ByteArray := method_5_code
def yL_slice : MethodName := ⟨RL, "slice", "(LKeyWalks;[J)I"⟩
abbrev cX0_slice : ByteArray := prog_1_method_5_code
def yX0_slice : MethodName := ⟨RX0, "slice", "()I"⟩
abbrev cL_note : ByteArray := method_6_code
def yL_note : MethodName := ⟨RL, "note", "(LKeyWalks;III[J)I"⟩
abbrev cX0_note : ByteArray := prog_1_method_6_code
def yX0_note : MethodName := ⟨RX0, "note", "(III)I"⟩
abbrev cX0_requireSlice : ByteArray := prog_1_method_24_code
def yX0_requireSlice : MethodName := ⟨RX0, "requireSlice", "(I)V"⟩
abbrev cL_drop : ByteArray := method_7_code
def yL_drop : MethodName := ⟨RL, "drop", "(LKeyWalks;[J)I"⟩
abbrev cX0_drop : ByteArray := prog_1_method_7_code
def yX0_drop : MethodName := ⟨RX0, "drop", "()I"⟩
abbrev cL_fit : ByteArray := method_8_code
def yL_fit : MethodName := ⟨RL, "fit", "(LKeyWalks;II[J)I"⟩
abbrev cX0_fit : ByteArray := prog_1_method_8_code
def yX0_fit : MethodName := ⟨RX0, "fit", "(II)I"⟩
abbrev cX0_requireKey : ByteArray := prog_1_method_25_code
def yX0_requireKey : MethodName := ⟨RX0, "requireKey", "(I)V"⟩
abbrev cL_cost : ByteArray := method_9_code
def yL_cost : MethodName := ⟨RL, "cost", "(LKeyWalks;II[J)I"⟩
abbrev cX0_cost : ByteArray := prog_1_method_9_code
def yX0_cost : MethodName := ⟨RX0, "cost", "(II)I"⟩
abbrev cX0_greatestFit : ByteArray := prog_1_method_32_code
def yX0_greatestFit : MethodName := ⟨RX0, "greatestFit", "(I)I"⟩
abbrev cL_turn : ByteArray := method_10_code
def yL_turn : MethodName := ⟨RL, "turn", "(LKeyWalks;II[J)I"⟩
abbrev cX0_turn : ByteArray := prog_1_method_10_code
def yX0_turn : MethodName := ⟨RX0, "turn", "(II)I"⟩
abbrev cL_key : ByteArray := method_11_code
def yL_key : MethodName := ⟨RL, "key", "(LKeyWalks;I[J)I"⟩
abbrev cX0_key : ByteArray := prog_1_method_12_code
def yX0_key : MethodName := ⟨RX0, "key", "(I)I"⟩
abbrev cL_pick : ByteArray := method_12_code
def yL_pick : MethodName := ⟨RL, "pick", "(LKeyWalks;JI[J)I"⟩
abbrev cX0_pick : ByteArray := prog_1_method_14_code
def yX0_pick : MethodName := ⟨RX0, "pick", "(JI)I"⟩
abbrev cL_through : ByteArray := method_13_code
def yL_through : MethodName := ⟨RL, "through", "(LKeyWalks;II[J)I"⟩
abbrev cX0_through : ByteArray := prog_1_method_15_code
def yX0_through : MethodName := ⟨RX0, "through", "(II)I"⟩
abbrev cX0_knowHeads : ByteArray := prog_1_method_44_code
def yX0_knowHeads : MethodName := ⟨RX0, "knowHeads", "()V"⟩
abbrev cX0_leastInto : ByteArray := prog_1_method_45_code
def yX0_leastInto : MethodName := ⟨RX0, "leastInto", "(II)I"⟩
abbrev cX0_leastThrough : ByteArray := prog_1_method_46_code
def yX0_leastThrough : MethodName := ⟨RX0, "leastThrough", "(II)I"⟩
abbrev cL_near : ByteArray := method_14_code
def yL_near : MethodName := ⟨RL, "near", "(LKeyWalks;II[J)I"⟩
abbrev cX0_near : ByteArray := prog_1_method_16_code
def yX0_near : MethodName := ⟨RX0, "near", "(II)I"⟩
abbrev cL_sure : ByteArray := method_15_code
def yL_sure : MethodName := ⟨RL, "sure", "(LKeyWalks;I[J)I"⟩
abbrev cX0_sure : ByteArray := prog_1_method_17_code
def yX0_sure : MethodName := ⟨RX0, "sure", "(I)I"⟩
abbrev cX0_nextCost : ByteArray := prog_1_method_47_code
def yX0_nextCost : MethodName := ⟨RX0, "nextCost", "(I)I"⟩
abbrev cL_change : ByteArray := method_16_code
def yL_change : MethodName := ⟨RL, "change", "(LKeyWalks;I[J)I"⟩
abbrev cX0_change : ByteArray := prog_1_method_18_code
def yX0_change : MethodName := ⟨RX0, "change", "(I)I"⟩
abbrev cX0_changesAt : ByteArray := prog_1_method_48_code
def yX0_changesAt : MethodName := ⟨RX0, "changesAt", "(I)Z"⟩
abbrev cL_pivot : ByteArray := method_17_code
def yL_pivot : MethodName := ⟨RL, "pivot", "(LKeyWalks;III[J)I"⟩
abbrev cX0_pivot : ByteArray := prog_1_method_19_code
def yX0_pivot : MethodName := ⟨RX0, "pivot", "(III)Z"⟩
abbrev cL_whole : ByteArray := method_18_code
def yL_whole : MethodName := ⟨RL, "whole", "(LKeyWalks;II[J)I"⟩
abbrev cX0_whole : ByteArray := prog_1_method_20_code
def yX0_whole : MethodName := ⟨RX0, "whole", "(II)I"⟩
abbrev cX0_fitTogether : ByteArray := prog_1_method_33_code
def yX0_fitTogether : MethodName := ⟨RX0, "fitTogether", "(III)I"⟩
abbrev cL_of : ByteArray := method_19_code
def yL_of : MethodName := ⟨RL, "of", "(LKeyWalks;I[J)I"⟩
abbrev cX0_of : ByteArray := prog_1_method_21_code
def yX0_of : MethodName := ⟨RX0, "of", "(I)I"⟩
abbrev cX0_changesOfFirst : ByteArray := prog_1_method_49_code
def yX0_changesOfFirst : MethodName := ⟨RX0, "changesOfFirst", "()I"⟩
abbrev cX1_init : ByteArray := prog_3_method_1_code
def yX1_init : MethodName := ⟨RX1, "<init>", "()V"⟩
abbrev cX1_begin : ByteArray := prog_3_method_5_code
def yX1_begin : MethodName := ⟨RX1, "begin", "()V"⟩
abbrev cX1_thrown : ByteArray := prog_3_method_2_code
def yX1_thrown : MethodName := ⟨RX1, "thrown", "()I"⟩
abbrev cX1_clear : ByteArray := prog_3_method_6_code
def yX1_clear : MethodName := ⟨RX1, "clear", "()I"⟩
abbrev cX1_profile : ByteArray := prog_3_method_9_code
def yX1_profile : MethodName := ⟨RX1, "profile", "(III)I"⟩
abbrev cX1_isIn : ByteArray := prog_3_method_4_code
def yX1_isIn : MethodName := ⟨RX1, "isIn", "(JJJ)Z"⟩
abbrev cX1_isGood : ByteArray := prog_3_method_3_code
def yX1_isGood : MethodName := ⟨RX1, "isGood", "(I)Z"⟩
abbrev cX1_costs : ByteArray := prog_3_method_10_code
def yX1_costs : MethodName := ⟨RX1, "costs", "(III)I"⟩
abbrev cX1_slice : ByteArray := prog_3_method_11_code
def yX1_slice : MethodName := ⟨RX1, "slice", "()I"⟩
abbrev cX1_note : ByteArray := prog_3_method_12_code
def yX1_note : MethodName := ⟨RX1, "note", "(III)I"⟩
abbrev cX1_isSlice : ByteArray := prog_3_method_7_code
def yX1_isSlice : MethodName := ⟨RX1, "isSlice", "(I)Z"⟩
abbrev cX1_drop : ByteArray := prog_3_method_13_code
def yX1_drop : MethodName := ⟨RX1, "drop", "()I"⟩
abbrev cX1_fit : ByteArray := prog_3_method_19_code
def yX1_fit : MethodName := ⟨RX1, "fit", "(II)I"⟩
abbrev cX1_isKey : ByteArray := prog_3_method_8_code
def yX1_isKey : MethodName := ⟨RX1, "isKey", "(I)Z"⟩
abbrev cX1_fitOf : ByteArray := prog_3_method_15_code
def yX1_fitOf : MethodName := ⟨RX1, "fitOf", "(II)I"⟩
abbrev cX1_numberOf : ByteArray := prog_3_method_14_code
def yX1_numberOf : MethodName := ⟨RX1, "numberOf", "(II)I"⟩
abbrev cX1_cost : ByteArray := prog_3_method_20_code
def yX1_cost : MethodName := ⟨RX1, "cost", "(II)I"⟩
abbrev cX1_costOf : ByteArray := prog_3_method_16_code
def yX1_costOf : MethodName := ⟨RX1, "costOf", "(II)I"⟩
abbrev cX1_turn : ByteArray := prog_3_method_21_code
def yX1_turn : MethodName := ⟨RX1, "turn", "(II)I"⟩
abbrev cX1_turnOf : ByteArray := prog_3_method_18_code
def yX1_turnOf : MethodName := ⟨RX1, "turnOf", "(II)I"⟩
abbrev cX1_placeOf : ByteArray := prog_3_method_17_code
def yX1_placeOf : MethodName := ⟨RX1, "placeOf", "(I)I"⟩
abbrev cX1_least : ByteArray := prog_3_method_24_code
def yX1_least : MethodName := ⟨RX1, "least", "()I"⟩
abbrev cX1_lay : ByteArray := prog_3_method_22_code
def yX1_lay : MethodName := ⟨RX1, "lay", "()V"⟩
abbrev cX1_weigh : ByteArray := prog_3_method_23_code
def yX1_weigh : MethodName := ⟨RX1, "weigh", "(II)I"⟩
abbrev cX1_count : ByteArray := prog_3_method_25_code
def yX1_count : MethodName := ⟨RX1, "count", "()J"⟩
abbrev cX1_key : ByteArray := prog_3_method_27_code
def yX1_key : MethodName := ⟨RX1, "key", "(I)I"⟩
abbrev cX1_walkBehind : ByteArray := prog_3_method_26_code
def yX1_walkBehind : MethodName := ⟨RX1, "walkBehind", "(J)Z"⟩
abbrev cX1_pick : ByteArray := prog_3_method_28_code
def yX1_pick : MethodName := ⟨RX1, "pick", "(JI)I"⟩
abbrev cX1_through : ByteArray := prog_3_method_29_code
def yX1_through : MethodName := ⟨RX1, "through", "(II)I"⟩
abbrev cX1_near : ByteArray := prog_3_method_30_code
def yX1_near : MethodName := ⟨RX1, "near", "(II)I"⟩
abbrev cX1_sure : ByteArray := prog_3_method_31_code
def yX1_sure : MethodName := ⟨RX1, "sure", "(I)I"⟩
abbrev cX1_change : ByteArray := prog_3_method_33_code
def yX1_change : MethodName := ⟨RX1, "change", "(I)I"⟩
abbrev cX1_changeAt : ByteArray := prog_3_method_32_code
def yX1_changeAt : MethodName := ⟨RX1, "changeAt", "(I)I"⟩
abbrev cX1_pivot : ByteArray := prog_3_method_34_code
def yX1_pivot : MethodName := ⟨RX1, "pivot", "(III)Z"⟩
abbrev cX1_whole : ByteArray := prog_3_method_35_code
def yX1_whole : MethodName := ⟨RX1, "whole", "(II)I"⟩
abbrev cX1_of : ByteArray := prog_3_method_36_code
def yX1_of : MethodName := ⟨RX1, "of", "(I)I"⟩
end
section
def kStr : List (Nat × String) := [(163, "a number is outside what is told"), (63, "there are 40 slices"), (72, "the weight would be above 200"), (74, "there is no slice"), (104, "there is no such place among the best walks"), (123, "the next cost is 0"), (126, "there is no change below 0"), (135, "the first slice is behind the last one"), (145, "there is no such number to tell")]
/-- the profiles at first -/
def kFP (j : Nat) : Nat := [5, 0, 3, 0, 3, 3, 0, 3, 0, 3, 0, 3, 5, 0, 3, 3, 0, 3, 0, 3, 3, 0, 0, 3].getD j 0
/-! what is given at the start and stays: the table of first profiles, two statics of Throwable, the texts of throws -/
/-- words of the tables that a call may rely on -/
def kTb : List Cond := lw_tbl.filter goodWord
theorem kTb_in {w : Cond} (h : w ∈ lw_tbl) (g : goodWord w = true) : w ∈ kTb := List.mem_filter.mpr ⟨h, g⟩
theorem kTb_good {w : Cond} (h : w ∈ kTb) : (w.onTables && w.keeps) = true ∨ ∃ ty, w = .arrayClass ty := good_of_word (List.mem_filter.mp h).2
theorem kgV {own Cn : String} {index : Nat} {y : MethodName} {w : Cond} (h1 : Cond.methodLink own index y ∈ kTb) (h2 : Cond.instanceMethod y ∈ kTb) (h3 : Cond.selects Cn y y ∈ kTb) (h4 : Cond.initialized Cn ∈ kTb) (h5 : w ∈ kTb) : GoodIn kTb (wsV own index Cn y (w :: kTb)) := by
  intro v hv
  have hm : v ∈ kTb := by
    simp only [wsV, List.cons_append, List.nil_append, List.mem_cons] at hv
    rcases hv with rfl | rfl | rfl | rfl | rfl | hv
    · exact h1
    · exact h2
    · exact h3
    · exact h4
    · exact h5
    · exact hv
  exact ⟨hm, kTb_good hm⟩
theorem kgS {own : String} {index : Nat} {y : MethodName} {w : Cond} (h1 : Cond.methodLink own index y ∈ kTb) (h2 : Cond.static y ∈ kTb) (h4 : Cond.initialized y.cls ∈ kTb) (h5 : w ∈ kTb) : GoodIn kTb (va_wsS own index y (w :: kTb)) := by
  intro v hv
  have hm : v ∈ kTb := by
    simp only [va_wsS, List.cons_append, List.nil_append, List.mem_cons] at hv
    rcases hv with rfl | rfl | rfl | rfl | hv
    · exact h1
    · exact h2
    · exact h4
    · exact h5
    · exact hv
  exact ⟨hm, kTb_good hm⟩
/-- words of the tables that a call doesn't carry, but that stay -/
def kFa : List Cond := lw_tbl.filter (fun w => w.faceAtom && w.onTables)
def kOwn : String := "KeyWalks"
def amb (N0 : Nat) (U : State) (H : Heap) : Prop :=
  (∃ t : Nat, va_Z "KeyWalks" "FIRST_PROFILES" "[I" (.ref t) (fun q : Nat => N0 ≤ q) U H ∧ va_T .int t 24 (fun j => .int (nI (kFP j))) (fun q : Nat => N0 ≤ q) U H) ∧
  vx_Zq Bundle.tN "UNASSIGNED_STACK" Bundle.steD (fun q : Nat => N0 ≤ q) U H ∧ vx_Zq Bundle.tN "SUPPRESSED_SENTINEL" Bundle.listD (fun q : Nat => N0 ≤ q) U H ∧ (∀ x ∈ kStr, ∃ a : Nat, vk_R kOwn x.1 x.2 a U) ∧ ∀ w ∈ kFa, w.before #[] U = true
theorem fa_alike {u U : State} {w : Cond} (hw : w ∈ kFa) (ha : u.vm.Alike U.vm) (h : w.before #[] u = true) : w.before #[] U = true := by
  have h0 := (List.mem_filter.mp hw).2
  simp only [Bool.and_eq_true] at h0
  have h1 := Cond.faceAtom_setVm ha w h0.1 h
  exact va_tabs (u := u.setVm U.vm) h0.2 rfl h1
theorem amb_kept {N0 : Nat} {U : State} {H H1 : Heap} (h : amb N0 U H) (hq : ∀ a : Nat, a < H.size → ¬ (N0 ≤ a) → H1[a]? = H[a]?) : amb N0 U H1 := by
  obtain ⟨⟨t, h1, h2⟩, h3, h4, h5, h6⟩ := h
  exact ⟨⟨t, h1.kept hq, h2.kept hq⟩, h3.kept hq, h4.kept hq, h5, h6⟩
theorem amb_warm {N0 : Nat} {u U : State} {H : Heap} (hW : u.WarmedH U.vm) (h : amb N0 u H) : amb N0 U H := by
  obtain ⟨⟨t, h1, h2⟩, h3, h4, h5, h6⟩ := h
  exact ⟨⟨t, h1.moved hW.alike, h2.moved hW.alike⟩, h3.moved hW.alike, h4.moved hW.alike, fun x hx => ⟨_, (h5 x hx).choose_spec.warm hW⟩, fun w hw => fa_alike hw hW.alike (h6 w hw)⟩
theorem amb_same {N0 : Nat} {u U : State} {H : Heap} (hv : U.vm = u.vm) (h : amb N0 u H) : amb N0 U H := by
  have ha : u.vm.Alike U.vm := by rw [hv]; exact Vm.Alike.refl _
  obtain ⟨⟨t, h1, h2⟩, h3, h4, h5, h6⟩ := h
  exact ⟨⟨t, h1.moved ha, h2.moved ha⟩, h3.moved ha, h4.moved ha, fun x hx => ⟨_, (h5 x hx).choose_spec.same hv⟩, fun w hw => fa_alike hw ha (h6 w hw)⟩
theorem amb_str {N0 : Nat} {U : State} {H : Heap} {x : Nat × String} (h : amb N0 U H) (hx : x ∈ kStr) : ∃ a : Nat, vk_R kOwn x.1 x.2 a U := h.2.2.2.1 x hx
theorem amb_fa {N0 : Nat} {U : State} {H : Heap} {A : Array Value} {w : Cond} (h : amb N0 U H) (hw : w ∈ kFa) : w.before A U = true := va_any (by have := (List.mem_filter.mp hw).2; simp only [Bool.and_eq_true] at this; exact this.2) (h.2.2.2.2 w hw)
theorem amb_U {N0 : Nat} {U : State} {H : Heap} {A : Nat → Prop} (hA : ∀ q : Nat, A q → N0 ≤ q) (h : amb N0 U H) : vx_Zq Bundle.tN "UNASSIGNED_STACK" Bundle.steD A U H := h.2.1.narrow hA
theorem amb_S {N0 : Nat} {U : State} {H : Heap} {A : Nat → Prop} (hA : ∀ q : Nat, A q → N0 ≤ q) (h : amb N0 U H) : vx_Zq Bundle.tN "SUPPRESSED_SENTINEL" Bundle.listD A U H := h.2.2.1.narrow hA
end
section
theorem kin0 : ∀ w ∈ u_ws RX0 TX0 17, w ∈ kTb := by decide +kernel
theorem kin1 : ∀ w ∈ u_ws RX1 TX1 12, w ∈ kTb := by decide +kernel
theorem ini_KeyWalksLaw : Cond.initialized "KeyWalksLaw" ∈ kTb := kTb_in (List.mem_append_right _ (List.mem_of_getElem? (i := 0) (by decide +kernel))) rfl
theorem ini_KeyWalks : Cond.initialized "KeyWalks" ∈ kTb := kTb_in (List.mem_append_right _ (List.mem_of_getElem? (i := 1) (by decide +kernel))) rfl
theorem ini_java_lang_System : Cond.initialized "java/lang/System" ∈ kTb := kTb_in (List.mem_append_right _ (List.mem_of_getElem? (i := 2) (by decide +kernel))) rfl
theorem ini_KeyWalksModel : Cond.initialized "KeyWalksModel" ∈ kTb := kTb_in (List.mem_append_right _ (List.mem_of_getElem? (i := 3) (by decide +kernel))) rfl
theorem ini_java_lang_Throwable : Cond.initialized "java/lang/Throwable" ∈ kTb := kTb_in (List.mem_append_right _ (List.mem_of_getElem? (i := 4) (by decide +kernel))) rfl
theorem ini_java_lang_Exception : Cond.initialized "java/lang/Exception" ∈ kTb := kTb_in (List.mem_append_right _ (List.mem_of_getElem? (i := 5) (by decide +kernel))) rfl
theorem ini_java_lang_RuntimeException : Cond.initialized "java/lang/RuntimeException" ∈ kTb := kTb_in (List.mem_append_right _ (List.mem_of_getElem? (i := 6) (by decide +kernel))) rfl
theorem ini_java_lang_IllegalArgumentException : Cond.initialized "java/lang/IllegalArgumentException" ∈ kTb := kTb_in (List.mem_append_right _ (List.mem_of_getElem? (i := 7) (by decide +kernel))) rfl
theorem ini_java_lang_IllegalStateException : Cond.initialized "java/lang/IllegalStateException" ∈ kTb := kTb_in (List.mem_append_right _ (List.mem_of_getElem? (i := 8) (by decide +kernel))) rfl
theorem ini_java_lang_Math : Cond.initialized "java/lang/Math" ∈ kTb := kTb_in (List.mem_append_right _ (List.mem_of_getElem? (i := 9) (by decide +kernel))) rfl
theorem ini_java_lang_ArithmeticException : Cond.initialized "java/lang/ArithmeticException" ∈ kTb := kTb_in (List.mem_append_right _ (List.mem_of_getElem? (i := 10) (by decide +kernel))) rfl
theorem im_X0_init : Cond.instanceMethod yX0_init ∈ kTb := kTb_in (List.mem_append_right _ (List.mem_of_getElem? (i := 14) (by decide +kernel))) rfl
set_option maxRecDepth 100000 in
theorem cd_X0_init : Cond.code yX0_init cX0_init 1 none ∈ kTb := kTb_in (List.mem_append_right _ (List.mem_of_getElem? (i := 15) rfl)) rfl
theorem im_X0_setFirst : Cond.instanceMethod yX0_setFirst ∈ kTb := kTb_in (List.mem_append_right _ (List.mem_of_getElem? (i := 21) (by decide +kernel))) rfl
set_option maxRecDepth 100000 in
theorem cd_X0_setFirst : Cond.code yX0_setFirst cX0_setFirst 1 none ∈ kTb := kTb_in (List.mem_append_right _ (List.mem_of_getElem? (i := 22) rfl)) rfl
theorem fl0_147 : Cond.fieldLink RX0 147 "KeyWalks" "FIRST_PROFILES" "[I" ∈ kTb := kTb_in (List.mem_append_right _ (List.mem_of_getElem? (i := 23) (by decide +kernel))) rfl
theorem im_X0_forget : Cond.instanceMethod yX0_forget ∈ kTb := kTb_in (List.mem_append_right _ (List.mem_of_getElem? (i := 30) (by decide +kernel))) rfl
set_option maxRecDepth 100000 in
theorem cd_X0_forget : Cond.code yX0_forget cX0_forget 1 none ∈ kTb := kTb_in (List.mem_append_right _ (List.mem_of_getElem? (i := 31) rfl)) rfl
theorem fl0_9 : Cond.fieldLink RX0 9 "KeyWalks" "profiles" "[I" ∈ kTb := kTb_in (List.mem_append_right _ (List.mem_of_getElem? (i := 32) (by decide +kernel))) rfl
theorem fl0_13 : Cond.fieldLink RX0 13 "KeyWalks" "weights" "[I" ∈ kTb := kTb_in (List.mem_append_right _ (List.mem_of_getElem? (i := 33) (by decide +kernel))) rfl
theorem fl0_52 : Cond.fieldLink RX0 52 "KeyWalks" "base" "I" ∈ kTb := kTb_in (List.mem_append_right _ (List.mem_of_getElem? (i := 34) (by decide +kernel))) rfl
theorem fl0_55 : Cond.fieldLink RX0 55 "KeyWalks" "by" "I" ∈ kTb := kTb_in (List.mem_append_right _ (List.mem_of_getElem? (i := 35) (by decide +kernel))) rfl
theorem fl0_58 : Cond.fieldLink RX0 58 "KeyWalks" "over" "I" ∈ kTb := kTb_in (List.mem_append_right _ (List.mem_of_getElem? (i := 36) (by decide +kernel))) rfl
theorem fl0_41 : Cond.fieldLink RX0 41 "KeyWalks" "slices" "I" ∈ kTb := kTb_in (List.mem_append_right _ (List.mem_of_getElem? (i := 37) (by decide +kernel))) rfl
theorem fl0_16 : Cond.fieldLink RX0 16 "KeyWalks" "turns" "[I" ∈ kTb := kTb_in (List.mem_append_right _ (List.mem_of_getElem? (i := 38) (by decide +kernel))) rfl
theorem fl0_19 : Cond.fieldLink RX0 19 "KeyWalks" "sliceCosts" "[I" ∈ kTb := kTb_in (List.mem_append_right _ (List.mem_of_getElem? (i := 39) (by decide +kernel))) rfl
theorem fl0_22 : Cond.fieldLink RX0 22 "KeyWalks" "tails" "[I" ∈ kTb := kTb_in (List.mem_append_right _ (List.mem_of_getElem? (i := 40) (by decide +kernel))) rfl
theorem fl0_25 : Cond.fieldLink RX0 25 "KeyWalks" "ways" "[J" ∈ kTb := kTb_in (List.mem_append_right _ (List.mem_of_getElem? (i := 41) (by decide +kernel))) rfl
theorem fl0_29 : Cond.fieldLink RX0 29 "KeyWalks" "heads" "[I" ∈ kTb := kTb_in (List.mem_append_right _ (List.mem_of_getElem? (i := 42) (by decide +kernel))) rfl
theorem fl0_32 : Cond.fieldLink RX0 32 "KeyWalks" "firstKeys" "[I" ∈ kTb := kTb_in (List.mem_append_right _ (List.mem_of_getElem? (i := 43) (by decide +kernel))) rfl
theorem fl0_35 : Cond.fieldLink RX0 35 "KeyWalks" "pickedKeys" "[I" ∈ kTb := kTb_in (List.mem_append_right _ (List.mem_of_getElem? (i := 44) (by decide +kernel))) rfl
theorem fl0_93 : Cond.fieldLink RX0 93 "KeyWalks" "leastCost" "I" ∈ kTb := kTb_in (List.mem_append_right _ (List.mem_of_getElem? (i := 45) (by decide +kernel))) rfl
theorem fl0_96 : Cond.fieldLink RX0 96 "KeyWalks" "bestCount" "J" ∈ kTb := kTb_in (List.mem_append_right _ (List.mem_of_getElem? (i := 46) (by decide +kernel))) rfl
theorem fl0_156 : Cond.fieldLink RX0 156 "KeyWalks" "tailsKnown" "Z" ∈ kTb := kTb_in (List.mem_append_right _ (List.mem_of_getElem? (i := 47) (by decide +kernel))) rfl
theorem fl0_160 : Cond.fieldLink RX0 160 "KeyWalks" "headsKnown" "Z" ∈ kTb := kTb_in (List.mem_append_right _ (List.mem_of_getElem? (i := 48) (by decide +kernel))) rfl
theorem im_X0_clear : Cond.instanceMethod yX0_clear ∈ kTb := kTb_in (List.mem_append_right _ (List.mem_of_getElem? (i := 87) (by decide +kernel))) rfl
set_option maxRecDepth 100000 in
theorem cd_X0_clear : Cond.code yX0_clear cX0_clear 2 (some .int) ∈ kTb := kTb_in (List.mem_append_right _ (List.mem_of_getElem? (i := 89) rfl)) rfl
theorem im_X0_least : Cond.instanceMethod yX0_least ∈ kTb := kTb_in (List.mem_append_right _ (List.mem_of_getElem? (i := 91) (by decide +kernel))) rfl
set_option maxRecDepth 100000 in
theorem cd_X0_least : Cond.code yX0_least cX0_least 1 (some .int) ∈ kTb := kTb_in (List.mem_append_right _ (List.mem_of_getElem? (i := 93) rfl)) rfl
theorem im_X0_knowTails : Cond.instanceMethod yX0_knowTails ∈ kTb := kTb_in (List.mem_append_right _ (List.mem_of_getElem? (i := 96) (by decide +kernel))) rfl
set_option maxRecDepth 100000 in
theorem cd_X0_knowTails : Cond.code yX0_knowTails cX0_knowTails 3 none ∈ kTb := kTb_in (List.mem_append_right _ (List.mem_of_getElem? (i := 97) rfl)) rfl
theorem im_X0_fillTurns : Cond.instanceMethod yX0_fillTurns ∈ kTb := kTb_in (List.mem_append_right _ (List.mem_of_getElem? (i := 100) (by decide +kernel))) rfl
set_option maxRecDepth 100000 in
theorem cd_X0_fillTurns : Cond.code yX0_fillTurns cX0_fillTurns 3 none ∈ kTb := kTb_in (List.mem_append_right _ (List.mem_of_getElem? (i := 101) rfl)) rfl
theorem im_X0_turnBetween : Cond.instanceMethod yX0_turnBetween ∈ kTb := kTb_in (List.mem_append_right _ (List.mem_of_getElem? (i := 104) (by decide +kernel))) rfl
set_option maxRecDepth 100000 in
theorem cd_X0_turnBetween : Cond.code yX0_turnBetween cX0_turnBetween 5 (some .int) ∈ kTb := kTb_in (List.mem_append_right _ (List.mem_of_getElem? (i := 105) rfl)) rfl
theorem sm_X0_placeOf : Cond.static yX0_placeOf ∈ kTb := kTb_in (List.mem_append_right _ (List.mem_of_getElem? (i := 107) (by decide +kernel))) rfl
set_option maxRecDepth 100000 in
theorem cd_X0_placeOf : Cond.code yX0_placeOf cX0_placeOf 2 (some .int) ∈ kTb := kTb_in (List.mem_append_right _ (List.mem_of_getElem? (i := 108) rfl)) rfl
theorem sm_X0_modeOf : Cond.static yX0_modeOf ∈ kTb := kTb_in (List.mem_append_right _ (List.mem_of_getElem? (i := 110) (by decide +kernel))) rfl
set_option maxRecDepth 100000 in
theorem cd_X0_modeOf : Cond.code yX0_modeOf cX0_modeOf 1 (some .int) ∈ kTb := kTb_in (List.mem_append_right _ (List.mem_of_getElem? (i := 111) rfl)) rfl
theorem sm_X0_tonicOf : Cond.static yX0_tonicOf ∈ kTb := kTb_in (List.mem_append_right _ (List.mem_of_getElem? (i := 113) (by decide +kernel))) rfl
set_option maxRecDepth 100000 in
theorem cd_X0_tonicOf : Cond.code yX0_tonicOf cX0_tonicOf 1 (some .int) ∈ kTb := kTb_in (List.mem_append_right _ (List.mem_of_getElem? (i := 114) rfl)) rfl
theorem im_X0_fillSliceCosts : Cond.instanceMethod yX0_fillSliceCosts ∈ kTb := kTb_in (List.mem_append_right _ (List.mem_of_getElem? (i := 123) (by decide +kernel))) rfl
set_option maxRecDepth 100000 in
theorem cd_X0_fillSliceCosts : Cond.code yX0_fillSliceCosts cX0_fillSliceCosts 5 none ∈ kTb := kTb_in (List.mem_append_right _ (List.mem_of_getElem? (i := 124) rfl)) rfl
theorem im_X0_fitIn : Cond.instanceMethod yX0_fitIn ∈ kTb := kTb_in (List.mem_append_right _ (List.mem_of_getElem? (i := 127) (by decide +kernel))) rfl
set_option maxRecDepth 100000 in
theorem cd_X0_fitIn : Cond.code yX0_fitIn cX0_fitIn 5 (some .int) ∈ kTb := kTb_in (List.mem_append_right _ (List.mem_of_getElem? (i := 128) rfl)) rfl
theorem im_X0_numberOf : Cond.instanceMethod yX0_numberOf ∈ kTb := kTb_in (List.mem_append_right _ (List.mem_of_getElem? (i := 131) (by decide +kernel))) rfl
set_option maxRecDepth 100000 in
theorem cd_X0_numberOf : Cond.code yX0_numberOf cX0_numberOf 4 (some .int) ∈ kTb := kTb_in (List.mem_append_right _ (List.mem_of_getElem? (i := 132) rfl)) rfl
theorem im_X0_fillTail : Cond.instanceMethod yX0_fillTail ∈ kTb := kTb_in (List.mem_append_right _ (List.mem_of_getElem? (i := 138) (by decide +kernel))) rfl
set_option maxRecDepth 100000 in
theorem cd_X0_fillTail : Cond.code yX0_fillTail cX0_fillTail 10 none ∈ kTb := kTb_in (List.mem_append_right _ (List.mem_of_getElem? (i := 139) rfl)) rfl
theorem kc0_198 : Cond.constant RX0 198 (nI 1000000000) ∈ kTb := kTb_in (List.mem_append_right _ (List.mem_of_getElem? (i := 140) (by decide +kernel))) rfl
theorem sm_X0_cappedSum : Cond.static yX0_cappedSum ∈ kTb := kTb_in (List.mem_append_right _ (List.mem_of_getElem? (i := 142) (by decide +kernel))) rfl
set_option maxRecDepth 100000 in
theorem cd_X0_cappedSum : Cond.code yX0_cappedSum cX0_cappedSum 4 (some .long) ∈ kTb := kTb_in (List.mem_append_right _ (List.mem_of_getElem? (i := 143) rfl)) rfl
theorem kc0_100 : Cond.constantLong RX0 100 (lN 1000000000000000000) ∈ kTb := kTb_in (List.mem_append_right _ (List.mem_of_getElem? (i := 144) (by decide +kernel))) rfl
theorem im_X0_fillLeast : Cond.instanceMethod yX0_fillLeast ∈ kTb := kTb_in (List.mem_append_right _ (List.mem_of_getElem? (i := 150) (by decide +kernel))) rfl
set_option maxRecDepth 100000 in
theorem cd_X0_fillLeast : Cond.code yX0_fillLeast cX0_fillLeast 2 none ∈ kTb := kTb_in (List.mem_append_right _ (List.mem_of_getElem? (i := 151) rfl)) rfl
theorem im_X0_followBest : Cond.instanceMethod yX0_followBest ∈ kTb := kTb_in (List.mem_append_right _ (List.mem_of_getElem? (i := 154) (by decide +kernel))) rfl
set_option maxRecDepth 100000 in
theorem cd_X0_followBest : Cond.code yX0_followBest cX0_followBest 13 (some .int) ∈ kTb := kTb_in (List.mem_append_right _ (List.mem_of_getElem? (i := 155) rfl)) rfl
theorem im_X0_restAfter : Cond.instanceMethod yX0_restAfter ∈ kTb := kTb_in (List.mem_append_right _ (List.mem_of_getElem? (i := 158) (by decide +kernel))) rfl
set_option maxRecDepth 100000 in
theorem cd_X0_restAfter : Cond.code yX0_restAfter cX0_restAfter 3 (some .int) ∈ kTb := kTb_in (List.mem_append_right _ (List.mem_of_getElem? (i := 159) rfl)) rfl
theorem im_X0_turnInto : Cond.instanceMethod yX0_turnInto ∈ kTb := kTb_in (List.mem_append_right _ (List.mem_of_getElem? (i := 162) (by decide +kernel))) rfl
set_option maxRecDepth 100000 in
theorem cd_X0_turnInto : Cond.code yX0_turnInto cX0_turnInto 3 (some .int) ∈ kTb := kTb_in (List.mem_append_right _ (List.mem_of_getElem? (i := 163) rfl)) rfl
theorem im_X0_count : Cond.instanceMethod yX0_count ∈ kTb := kTb_in (List.mem_append_right _ (List.mem_of_getElem? (i := 165) (by decide +kernel))) rfl
set_option maxRecDepth 100000 in
theorem cd_X0_count : Cond.code yX0_count cX0_count 1 (some .long) ∈ kTb := kTb_in (List.mem_append_right _ (List.mem_of_getElem? (i := 167) rfl)) rfl
theorem sm_L_profile : Cond.static yL_profile ∈ kTb := kTb_in (List.mem_append_right _ (List.mem_of_getElem? (i := 169) (by decide +kernel))) rfl
theorem im_X0_profile : Cond.instanceMethod yX0_profile ∈ kTb := kTb_in (List.mem_append_right _ (List.mem_of_getElem? (i := 173) (by decide +kernel))) rfl
set_option maxRecDepth 100000 in
theorem cd_X0_profile : Cond.code yX0_profile cX0_profile 6 (some .int) ∈ kTb := kTb_in (List.mem_append_right _ (List.mem_of_getElem? (i := 175) rfl)) rfl
theorem sm_X0_requireWithin : Cond.static yX0_requireWithin ∈ kTb := kTb_in (List.mem_append_right _ (List.mem_of_getElem? (i := 177) (by decide +kernel))) rfl
set_option maxRecDepth 100000 in
theorem cd_X0_requireWithin : Cond.code yX0_requireWithin cX0_requireWithin 3 none ∈ kTb := kTb_in (List.mem_append_right _ (List.mem_of_getElem? (i := 178) rfl)) rfl
theorem sm_L_costs : Cond.static yL_costs ∈ kTb := kTb_in (List.mem_append_right _ (List.mem_of_getElem? (i := 248) (by decide +kernel))) rfl
theorem im_X0_costs : Cond.instanceMethod yX0_costs ∈ kTb := kTb_in (List.mem_append_right _ (List.mem_of_getElem? (i := 251) (by decide +kernel))) rfl
set_option maxRecDepth 100000 in
theorem cd_X0_costs : Cond.code yX0_costs cX0_costs 5 (some .int) ∈ kTb := kTb_in (List.mem_append_right _ (List.mem_of_getElem? (i := 253) rfl)) rfl
theorem sm_L_slice : Cond.static yL_slice ∈ kTb := kTb_in (List.mem_append_right _ (List.mem_of_getElem? (i := 255) (by decide +kernel))) rfl
theorem im_X0_slice : Cond.instanceMethod yX0_slice ∈ kTb := kTb_in (List.mem_append_right _ (List.mem_of_getElem? (i := 259) (by decide +kernel))) rfl
set_option maxRecDepth 100000 in
theorem cd_X0_slice : Cond.code yX0_slice cX0_slice 3 (some .int) ∈ kTb := kTb_in (List.mem_append_right _ (List.mem_of_getElem? (i := 261) rfl)) rfl
theorem sm_L_note : Cond.static yL_note ∈ kTb := kTb_in (List.mem_append_right _ (List.mem_of_getElem? (i := 279) (by decide +kernel))) rfl
theorem im_X0_note : Cond.instanceMethod yX0_note ∈ kTb := kTb_in (List.mem_append_right _ (List.mem_of_getElem? (i := 282) (by decide +kernel))) rfl
set_option maxRecDepth 100000 in
theorem cd_X0_note : Cond.code yX0_note cX0_note 6 (some .int) ∈ kTb := kTb_in (List.mem_append_right _ (List.mem_of_getElem? (i := 284) rfl)) rfl
theorem im_X0_requireSlice : Cond.instanceMethod yX0_requireSlice ∈ kTb := kTb_in (List.mem_append_right _ (List.mem_of_getElem? (i := 287) (by decide +kernel))) rfl
set_option maxRecDepth 100000 in
theorem cd_X0_requireSlice : Cond.code yX0_requireSlice cX0_requireSlice 2 none ∈ kTb := kTb_in (List.mem_append_right _ (List.mem_of_getElem? (i := 288) rfl)) rfl
theorem sm_L_drop : Cond.static yL_drop ∈ kTb := kTb_in (List.mem_append_right _ (List.mem_of_getElem? (i := 291) (by decide +kernel))) rfl
theorem im_X0_drop : Cond.instanceMethod yX0_drop ∈ kTb := kTb_in (List.mem_append_right _ (List.mem_of_getElem? (i := 294) (by decide +kernel))) rfl
set_option maxRecDepth 100000 in
theorem cd_X0_drop : Cond.code yX0_drop cX0_drop 1 (some .int) ∈ kTb := kTb_in (List.mem_append_right _ (List.mem_of_getElem? (i := 296) rfl)) rfl
theorem sm_L_fit : Cond.static yL_fit ∈ kTb := kTb_in (List.mem_append_right _ (List.mem_of_getElem? (i := 299) (by decide +kernel))) rfl
theorem im_X0_fit : Cond.instanceMethod yX0_fit ∈ kTb := kTb_in (List.mem_append_right _ (List.mem_of_getElem? (i := 302) (by decide +kernel))) rfl
set_option maxRecDepth 100000 in
theorem cd_X0_fit : Cond.code yX0_fit cX0_fit 3 (some .int) ∈ kTb := kTb_in (List.mem_append_right _ (List.mem_of_getElem? (i := 304) rfl)) rfl
theorem sm_X0_requireKey : Cond.static yX0_requireKey ∈ kTb := kTb_in (List.mem_append_right _ (List.mem_of_getElem? (i := 306) (by decide +kernel))) rfl
set_option maxRecDepth 100000 in
theorem cd_X0_requireKey : Cond.code yX0_requireKey cX0_requireKey 1 none ∈ kTb := kTb_in (List.mem_append_right _ (List.mem_of_getElem? (i := 307) rfl)) rfl
theorem sm_L_cost : Cond.static yL_cost ∈ kTb := kTb_in (List.mem_append_right _ (List.mem_of_getElem? (i := 309) (by decide +kernel))) rfl
theorem im_X0_cost : Cond.instanceMethod yX0_cost ∈ kTb := kTb_in (List.mem_append_right _ (List.mem_of_getElem? (i := 312) (by decide +kernel))) rfl
set_option maxRecDepth 100000 in
theorem cd_X0_cost : Cond.code yX0_cost cX0_cost 3 (some .int) ∈ kTb := kTb_in (List.mem_append_right _ (List.mem_of_getElem? (i := 314) rfl)) rfl
theorem im_X0_greatestFit : Cond.instanceMethod yX0_greatestFit ∈ kTb := kTb_in (List.mem_append_right _ (List.mem_of_getElem? (i := 317) (by decide +kernel))) rfl
set_option maxRecDepth 100000 in
theorem cd_X0_greatestFit : Cond.code yX0_greatestFit cX0_greatestFit 4 (some .int) ∈ kTb := kTb_in (List.mem_append_right _ (List.mem_of_getElem? (i := 318) rfl)) rfl
theorem sm_L_turn : Cond.static yL_turn ∈ kTb := kTb_in (List.mem_append_right _ (List.mem_of_getElem? (i := 320) (by decide +kernel))) rfl
theorem im_X0_turn : Cond.instanceMethod yX0_turn ∈ kTb := kTb_in (List.mem_append_right _ (List.mem_of_getElem? (i := 323) (by decide +kernel))) rfl
set_option maxRecDepth 100000 in
theorem cd_X0_turn : Cond.code yX0_turn cX0_turn 3 (some .int) ∈ kTb := kTb_in (List.mem_append_right _ (List.mem_of_getElem? (i := 325) rfl)) rfl
theorem sm_L_key : Cond.static yL_key ∈ kTb := kTb_in (List.mem_append_right _ (List.mem_of_getElem? (i := 327) (by decide +kernel))) rfl
theorem im_X0_key : Cond.instanceMethod yX0_key ∈ kTb := kTb_in (List.mem_append_right _ (List.mem_of_getElem? (i := 330) (by decide +kernel))) rfl
set_option maxRecDepth 100000 in
theorem cd_X0_key : Cond.code yX0_key cX0_key 2 (some .int) ∈ kTb := kTb_in (List.mem_append_right _ (List.mem_of_getElem? (i := 332) rfl)) rfl
theorem sm_L_pick : Cond.static yL_pick ∈ kTb := kTb_in (List.mem_append_right _ (List.mem_of_getElem? (i := 334) (by decide +kernel))) rfl
theorem im_X0_pick : Cond.instanceMethod yX0_pick ∈ kTb := kTb_in (List.mem_append_right _ (List.mem_of_getElem? (i := 337) (by decide +kernel))) rfl
set_option maxRecDepth 100000 in
theorem cd_X0_pick : Cond.code yX0_pick cX0_pick 4 (some .int) ∈ kTb := kTb_in (List.mem_append_right _ (List.mem_of_getElem? (i := 339) rfl)) rfl
theorem sm_L_through : Cond.static yL_through ∈ kTb := kTb_in (List.mem_append_right _ (List.mem_of_getElem? (i := 342) (by decide +kernel))) rfl
theorem im_X0_through : Cond.instanceMethod yX0_through ∈ kTb := kTb_in (List.mem_append_right _ (List.mem_of_getElem? (i := 345) (by decide +kernel))) rfl
set_option maxRecDepth 100000 in
theorem cd_X0_through : Cond.code yX0_through cX0_through 3 (some .int) ∈ kTb := kTb_in (List.mem_append_right _ (List.mem_of_getElem? (i := 347) rfl)) rfl
theorem im_X0_knowHeads : Cond.instanceMethod yX0_knowHeads ∈ kTb := kTb_in (List.mem_append_right _ (List.mem_of_getElem? (i := 350) (by decide +kernel))) rfl
set_option maxRecDepth 100000 in
theorem cd_X0_knowHeads : Cond.code yX0_knowHeads cX0_knowHeads 4 none ∈ kTb := kTb_in (List.mem_append_right _ (List.mem_of_getElem? (i := 351) rfl)) rfl
theorem im_X0_leastInto : Cond.instanceMethod yX0_leastInto ∈ kTb := kTb_in (List.mem_append_right _ (List.mem_of_getElem? (i := 354) (by decide +kernel))) rfl
set_option maxRecDepth 100000 in
theorem cd_X0_leastInto : Cond.code yX0_leastInto cX0_leastInto 5 (some .int) ∈ kTb := kTb_in (List.mem_append_right _ (List.mem_of_getElem? (i := 355) rfl)) rfl
theorem im_X0_leastThrough : Cond.instanceMethod yX0_leastThrough ∈ kTb := kTb_in (List.mem_append_right _ (List.mem_of_getElem? (i := 358) (by decide +kernel))) rfl
set_option maxRecDepth 100000 in
theorem cd_X0_leastThrough : Cond.code yX0_leastThrough cX0_leastThrough 4 (some .int) ∈ kTb := kTb_in (List.mem_append_right _ (List.mem_of_getElem? (i := 359) rfl)) rfl
theorem sm_L_near : Cond.static yL_near ∈ kTb := kTb_in (List.mem_append_right _ (List.mem_of_getElem? (i := 361) (by decide +kernel))) rfl
theorem im_X0_near : Cond.instanceMethod yX0_near ∈ kTb := kTb_in (List.mem_append_right _ (List.mem_of_getElem? (i := 364) (by decide +kernel))) rfl
set_option maxRecDepth 100000 in
theorem cd_X0_near : Cond.code yX0_near cX0_near 5 (some .int) ∈ kTb := kTb_in (List.mem_append_right _ (List.mem_of_getElem? (i := 366) rfl)) rfl
theorem kc0_117 : Cond.constant RX0 117 (nI 100000) ∈ kTb := kTb_in (List.mem_append_right _ (List.mem_of_getElem? (i := 367) (by decide +kernel))) rfl
theorem sm_L_sure : Cond.static yL_sure ∈ kTb := kTb_in (List.mem_append_right _ (List.mem_of_getElem? (i := 369) (by decide +kernel))) rfl
theorem im_X0_sure : Cond.instanceMethod yX0_sure ∈ kTb := kTb_in (List.mem_append_right _ (List.mem_of_getElem? (i := 373) (by decide +kernel))) rfl
set_option maxRecDepth 100000 in
theorem cd_X0_sure : Cond.code yX0_sure cX0_sure 3 (some .int) ∈ kTb := kTb_in (List.mem_append_right _ (List.mem_of_getElem? (i := 375) rfl)) rfl
theorem im_X0_nextCost : Cond.instanceMethod yX0_nextCost ∈ kTb := kTb_in (List.mem_append_right _ (List.mem_of_getElem? (i := 378) (by decide +kernel))) rfl
set_option maxRecDepth 100000 in
theorem cd_X0_nextCost : Cond.code yX0_nextCost cX0_nextCost 4 (some .int) ∈ kTb := kTb_in (List.mem_append_right _ (List.mem_of_getElem? (i := 379) rfl)) rfl
theorem sm_L_change : Cond.static yL_change ∈ kTb := kTb_in (List.mem_append_right _ (List.mem_of_getElem? (i := 397) (by decide +kernel))) rfl
theorem im_X0_change : Cond.instanceMethod yX0_change ∈ kTb := kTb_in (List.mem_append_right _ (List.mem_of_getElem? (i := 400) (by decide +kernel))) rfl
set_option maxRecDepth 100000 in
theorem cd_X0_change : Cond.code yX0_change cX0_change 4 (some .int) ∈ kTb := kTb_in (List.mem_append_right _ (List.mem_of_getElem? (i := 402) rfl)) rfl
theorem im_X0_changesAt : Cond.instanceMethod yX0_changesAt ∈ kTb := kTb_in (List.mem_append_right _ (List.mem_of_getElem? (i := 406) (by decide +kernel))) rfl
set_option maxRecDepth 100000 in
theorem cd_X0_changesAt : Cond.code yX0_changesAt cX0_changesAt 2 (some .boolean) ∈ kTb := kTb_in (List.mem_append_right _ (List.mem_of_getElem? (i := 407) rfl)) rfl
theorem sm_L_pivot : Cond.static yL_pivot ∈ kTb := kTb_in (List.mem_append_right _ (List.mem_of_getElem? (i := 409) (by decide +kernel))) rfl
theorem im_X0_pivot : Cond.instanceMethod yX0_pivot ∈ kTb := kTb_in (List.mem_append_right _ (List.mem_of_getElem? (i := 412) (by decide +kernel))) rfl
set_option maxRecDepth 100000 in
theorem cd_X0_pivot : Cond.code yX0_pivot cX0_pivot 6 (some .boolean) ∈ kTb := kTb_in (List.mem_append_right _ (List.mem_of_getElem? (i := 414) rfl)) rfl
theorem sm_L_whole : Cond.static yL_whole ∈ kTb := kTb_in (List.mem_append_right _ (List.mem_of_getElem? (i := 416) (by decide +kernel))) rfl
theorem im_X0_whole : Cond.instanceMethod yX0_whole ∈ kTb := kTb_in (List.mem_append_right _ (List.mem_of_getElem? (i := 419) (by decide +kernel))) rfl
set_option maxRecDepth 100000 in
theorem cd_X0_whole : Cond.code yX0_whole cX0_whole 7 (some .int) ∈ kTb := kTb_in (List.mem_append_right _ (List.mem_of_getElem? (i := 421) rfl)) rfl
theorem im_X0_fitTogether : Cond.instanceMethod yX0_fitTogether ∈ kTb := kTb_in (List.mem_append_right _ (List.mem_of_getElem? (i := 425) (by decide +kernel))) rfl
set_option maxRecDepth 100000 in
theorem cd_X0_fitTogether : Cond.code yX0_fitTogether cX0_fitTogether 6 (some .int) ∈ kTb := kTb_in (List.mem_append_right _ (List.mem_of_getElem? (i := 426) rfl)) rfl
theorem sm_L_of : Cond.static yL_of ∈ kTb := kTb_in (List.mem_append_right _ (List.mem_of_getElem? (i := 428) (by decide +kernel))) rfl
theorem im_X0_of : Cond.instanceMethod yX0_of ∈ kTb := kTb_in (List.mem_append_right _ (List.mem_of_getElem? (i := 431) (by decide +kernel))) rfl
set_option maxRecDepth 100000 in
theorem cd_X0_of : Cond.code yX0_of cX0_of 2 (some .int) ∈ kTb := kTb_in (List.mem_append_right _ (List.mem_of_getElem? (i := 433) rfl)) rfl
theorem im_X0_changesOfFirst : Cond.instanceMethod yX0_changesOfFirst ∈ kTb := kTb_in (List.mem_append_right _ (List.mem_of_getElem? (i := 436) (by decide +kernel))) rfl
set_option maxRecDepth 100000 in
theorem cd_X0_changesOfFirst : Cond.code yX0_changesOfFirst cX0_changesOfFirst 3 (some .int) ∈ kTb := kTb_in (List.mem_append_right _ (List.mem_of_getElem? (i := 437) rfl)) rfl
theorem im_X1_init : Cond.instanceMethod yX1_init ∈ kTb := kTb_in (List.mem_append_right _ (List.mem_of_getElem? (i := 442) (by decide +kernel))) rfl
set_option maxRecDepth 100000 in
theorem cd_X1_init : Cond.code yX1_init cX1_init 1 none ∈ kTb := kTb_in (List.mem_append_right _ (List.mem_of_getElem? (i := 443) rfl)) rfl
theorem im_X1_begin : Cond.instanceMethod yX1_begin ∈ kTb := kTb_in (List.mem_append_right _ (List.mem_of_getElem? (i := 447) (by decide +kernel))) rfl
set_option maxRecDepth 100000 in
theorem cd_X1_begin : Cond.code yX1_begin cX1_begin 2 none ∈ kTb := kTb_in (List.mem_append_right _ (List.mem_of_getElem? (i := 448) rfl)) rfl
theorem fl1_35 : Cond.fieldLink RX1 35 "KeyWalksModel" "code" "I" ∈ kTb := kTb_in (List.mem_append_right _ (List.mem_of_getElem? (i := 449) (by decide +kernel))) rfl
theorem fl1_39 : Cond.fieldLink RX1 39 "KeyWalksModel" "slices" "I" ∈ kTb := kTb_in (List.mem_append_right _ (List.mem_of_getElem? (i := 450) (by decide +kernel))) rfl
theorem fl1_7 : Cond.fieldLink RX1 7 "KeyWalksModel" "weight" "[I" ∈ kTb := kTb_in (List.mem_append_right _ (List.mem_of_getElem? (i := 451) (by decide +kernel))) rfl
theorem fl1_13 : Cond.fieldLink RX1 13 "KeyWalksModel" "profile" "[I" ∈ kTb := kTb_in (List.mem_append_right _ (List.mem_of_getElem? (i := 452) (by decide +kernel))) rfl
theorem fl1_42 : Cond.fieldLink RX1 42 "KeyWalksModel" "base" "I" ∈ kTb := kTb_in (List.mem_append_right _ (List.mem_of_getElem? (i := 453) (by decide +kernel))) rfl
theorem fl1_45 : Cond.fieldLink RX1 45 "KeyWalksModel" "by" "I" ∈ kTb := kTb_in (List.mem_append_right _ (List.mem_of_getElem? (i := 454) (by decide +kernel))) rfl
theorem fl1_48 : Cond.fieldLink RX1 48 "KeyWalksModel" "over" "I" ∈ kTb := kTb_in (List.mem_append_right _ (List.mem_of_getElem? (i := 455) (by decide +kernel))) rfl
theorem fl1_16 : Cond.fieldLink RX1 16 "KeyWalksModel" "rest" "[I" ∈ kTb := kTb_in (List.mem_append_right _ (List.mem_of_getElem? (i := 456) (by decide +kernel))) rfl
theorem fl1_19 : Cond.fieldLink RX1 19 "KeyWalksModel" "ways" "[J" ∈ kTb := kTb_in (List.mem_append_right _ (List.mem_of_getElem? (i := 457) (by decide +kernel))) rfl
theorem fl1_23 : Cond.fieldLink RX1 23 "KeyWalksModel" "turns" "[I" ∈ kTb := kTb_in (List.mem_append_right _ (List.mem_of_getElem? (i := 458) (by decide +kernel))) rfl
theorem fl1_26 : Cond.fieldLink RX1 26 "KeyWalksModel" "costs" "[I" ∈ kTb := kTb_in (List.mem_append_right _ (List.mem_of_getElem? (i := 459) (by decide +kernel))) rfl
theorem fl1_29 : Cond.fieldLink RX1 29 "KeyWalksModel" "walk" "[I" ∈ kTb := kTb_in (List.mem_append_right _ (List.mem_of_getElem? (i := 460) (by decide +kernel))) rfl
theorem im_X1_thrown : Cond.instanceMethod yX1_thrown ∈ kTb := kTb_in (List.mem_append_right _ (List.mem_of_getElem? (i := 487) (by decide +kernel))) rfl
set_option maxRecDepth 100000 in
theorem cd_X1_thrown : Cond.code yX1_thrown cX1_thrown 1 (some .int) ∈ kTb := kTb_in (List.mem_append_right _ (List.mem_of_getElem? (i := 489) rfl)) rfl
theorem im_X1_clear : Cond.instanceMethod yX1_clear ∈ kTb := kTb_in (List.mem_append_right _ (List.mem_of_getElem? (i := 491) (by decide +kernel))) rfl
set_option maxRecDepth 100000 in
theorem cd_X1_clear : Cond.code yX1_clear cX1_clear 2 (some .int) ∈ kTb := kTb_in (List.mem_append_right _ (List.mem_of_getElem? (i := 493) rfl)) rfl
theorem im_X1_profile : Cond.instanceMethod yX1_profile ∈ kTb := kTb_in (List.mem_append_right _ (List.mem_of_getElem? (i := 495) (by decide +kernel))) rfl
set_option maxRecDepth 100000 in
theorem cd_X1_profile : Cond.code yX1_profile cX1_profile 5 (some .int) ∈ kTb := kTb_in (List.mem_append_right _ (List.mem_of_getElem? (i := 497) rfl)) rfl
theorem sm_X1_isIn : Cond.static yX1_isIn ∈ kTb := kTb_in (List.mem_append_right _ (List.mem_of_getElem? (i := 499) (by decide +kernel))) rfl
set_option maxRecDepth 100000 in
theorem cd_X1_isIn : Cond.code yX1_isIn cX1_isIn 6 (some .boolean) ∈ kTb := kTb_in (List.mem_append_right _ (List.mem_of_getElem? (i := 500) rfl)) rfl
theorem kc1_57 : Cond.constantLong RX1 57 (lN 11) ∈ kTb := kTb_in (List.mem_append_right _ (List.mem_of_getElem? (i := 501) (by decide +kernel))) rfl
theorem kc1_59 : Cond.constantLong RX1 59 (lN 99) ∈ kTb := kTb_in (List.mem_append_right _ (List.mem_of_getElem? (i := 502) (by decide +kernel))) rfl
theorem im_X1_isGood : Cond.instanceMethod yX1_isGood ∈ kTb := kTb_in (List.mem_append_right _ (List.mem_of_getElem? (i := 505) (by decide +kernel))) rfl
set_option maxRecDepth 100000 in
theorem cd_X1_isGood : Cond.code yX1_isGood cX1_isGood 2 (some .boolean) ∈ kTb := kTb_in (List.mem_append_right _ (List.mem_of_getElem? (i := 506) rfl)) rfl
theorem im_X1_costs : Cond.instanceMethod yX1_costs ∈ kTb := kTb_in (List.mem_append_right _ (List.mem_of_getElem? (i := 508) (by decide +kernel))) rfl
set_option maxRecDepth 100000 in
theorem cd_X1_costs : Cond.code yX1_costs cX1_costs 5 (some .int) ∈ kTb := kTb_in (List.mem_append_right _ (List.mem_of_getElem? (i := 510) rfl)) rfl
theorem kc1_65 : Cond.constantLong RX1 65 (lN 1000) ∈ kTb := kTb_in (List.mem_append_right _ (List.mem_of_getElem? (i := 511) (by decide +kernel))) rfl
theorem im_X1_slice : Cond.instanceMethod yX1_slice ∈ kTb := kTb_in (List.mem_append_right _ (List.mem_of_getElem? (i := 513) (by decide +kernel))) rfl
set_option maxRecDepth 100000 in
theorem cd_X1_slice : Cond.code yX1_slice cX1_slice 2 (some .int) ∈ kTb := kTb_in (List.mem_append_right _ (List.mem_of_getElem? (i := 515) rfl)) rfl
theorem im_X1_note : Cond.instanceMethod yX1_note ∈ kTb := kTb_in (List.mem_append_right _ (List.mem_of_getElem? (i := 517) (by decide +kernel))) rfl
set_option maxRecDepth 100000 in
theorem cd_X1_note : Cond.code yX1_note cX1_note 5 (some .int) ∈ kTb := kTb_in (List.mem_append_right _ (List.mem_of_getElem? (i := 519) rfl)) rfl
theorem im_X1_isSlice : Cond.instanceMethod yX1_isSlice ∈ kTb := kTb_in (List.mem_append_right _ (List.mem_of_getElem? (i := 522) (by decide +kernel))) rfl
set_option maxRecDepth 100000 in
theorem cd_X1_isSlice : Cond.code yX1_isSlice cX1_isSlice 2 (some .boolean) ∈ kTb := kTb_in (List.mem_append_right _ (List.mem_of_getElem? (i := 523) rfl)) rfl
theorem kc1_70 : Cond.constantLong RX1 70 (lN 200) ∈ kTb := kTb_in (List.mem_append_right _ (List.mem_of_getElem? (i := 524) (by decide +kernel))) rfl
theorem im_X1_drop : Cond.instanceMethod yX1_drop ∈ kTb := kTb_in (List.mem_append_right _ (List.mem_of_getElem? (i := 526) (by decide +kernel))) rfl
set_option maxRecDepth 100000 in
theorem cd_X1_drop : Cond.code yX1_drop cX1_drop 1 (some .int) ∈ kTb := kTb_in (List.mem_append_right _ (List.mem_of_getElem? (i := 528) rfl)) rfl
theorem im_X1_fit : Cond.instanceMethod yX1_fit ∈ kTb := kTb_in (List.mem_append_right _ (List.mem_of_getElem? (i := 530) (by decide +kernel))) rfl
set_option maxRecDepth 100000 in
theorem cd_X1_fit : Cond.code yX1_fit cX1_fit 3 (some .int) ∈ kTb := kTb_in (List.mem_append_right _ (List.mem_of_getElem? (i := 532) rfl)) rfl
theorem sm_X1_isKey : Cond.static yX1_isKey ∈ kTb := kTb_in (List.mem_append_right _ (List.mem_of_getElem? (i := 534) (by decide +kernel))) rfl
set_option maxRecDepth 100000 in
theorem cd_X1_isKey : Cond.code yX1_isKey cX1_isKey 1 (some .boolean) ∈ kTb := kTb_in (List.mem_append_right _ (List.mem_of_getElem? (i := 535) rfl)) rfl
theorem kc1_55 : Cond.constantLong RX1 55 (lN 23) ∈ kTb := kTb_in (List.mem_append_right _ (List.mem_of_getElem? (i := 536) (by decide +kernel))) rfl
theorem im_X1_fitOf : Cond.instanceMethod yX1_fitOf ∈ kTb := kTb_in (List.mem_append_right _ (List.mem_of_getElem? (i := 539) (by decide +kernel))) rfl
set_option maxRecDepth 100000 in
theorem cd_X1_fitOf : Cond.code yX1_fitOf cX1_fitOf 5 (some .int) ∈ kTb := kTb_in (List.mem_append_right _ (List.mem_of_getElem? (i := 540) rfl)) rfl
theorem im_X1_numberOf : Cond.instanceMethod yX1_numberOf ∈ kTb := kTb_in (List.mem_append_right _ (List.mem_of_getElem? (i := 543) (by decide +kernel))) rfl
set_option maxRecDepth 100000 in
theorem cd_X1_numberOf : Cond.code yX1_numberOf cX1_numberOf 3 (some .int) ∈ kTb := kTb_in (List.mem_append_right _ (List.mem_of_getElem? (i := 544) rfl)) rfl
theorem im_X1_cost : Cond.instanceMethod yX1_cost ∈ kTb := kTb_in (List.mem_append_right _ (List.mem_of_getElem? (i := 546) (by decide +kernel))) rfl
set_option maxRecDepth 100000 in
theorem cd_X1_cost : Cond.code yX1_cost cX1_cost 3 (some .int) ∈ kTb := kTb_in (List.mem_append_right _ (List.mem_of_getElem? (i := 548) rfl)) rfl
theorem im_X1_costOf : Cond.instanceMethod yX1_costOf ∈ kTb := kTb_in (List.mem_append_right _ (List.mem_of_getElem? (i := 551) (by decide +kernel))) rfl
set_option maxRecDepth 100000 in
theorem cd_X1_costOf : Cond.code yX1_costOf cX1_costOf 5 (some .int) ∈ kTb := kTb_in (List.mem_append_right _ (List.mem_of_getElem? (i := 552) rfl)) rfl
theorem im_X1_turn : Cond.instanceMethod yX1_turn ∈ kTb := kTb_in (List.mem_append_right _ (List.mem_of_getElem? (i := 554) (by decide +kernel))) rfl
set_option maxRecDepth 100000 in
theorem cd_X1_turn : Cond.code yX1_turn cX1_turn 3 (some .int) ∈ kTb := kTb_in (List.mem_append_right _ (List.mem_of_getElem? (i := 556) rfl)) rfl
theorem im_X1_turnOf : Cond.instanceMethod yX1_turnOf ∈ kTb := kTb_in (List.mem_append_right _ (List.mem_of_getElem? (i := 559) (by decide +kernel))) rfl
set_option maxRecDepth 100000 in
theorem cd_X1_turnOf : Cond.code yX1_turnOf cX1_turnOf 4 (some .int) ∈ kTb := kTb_in (List.mem_append_right _ (List.mem_of_getElem? (i := 560) rfl)) rfl
theorem sm_X1_placeOf : Cond.static yX1_placeOf ∈ kTb := kTb_in (List.mem_append_right _ (List.mem_of_getElem? (i := 562) (by decide +kernel))) rfl
set_option maxRecDepth 100000 in
theorem cd_X1_placeOf : Cond.code yX1_placeOf cX1_placeOf 1 (some .int) ∈ kTb := kTb_in (List.mem_append_right _ (List.mem_of_getElem? (i := 563) rfl)) rfl
theorem im_X1_least : Cond.instanceMethod yX1_least ∈ kTb := kTb_in (List.mem_append_right _ (List.mem_of_getElem? (i := 565) (by decide +kernel))) rfl
set_option maxRecDepth 100000 in
theorem cd_X1_least : Cond.code yX1_least cX1_least 1 (some .int) ∈ kTb := kTb_in (List.mem_append_right _ (List.mem_of_getElem? (i := 567) rfl)) rfl
theorem im_X1_lay : Cond.instanceMethod yX1_lay ∈ kTb := kTb_in (List.mem_append_right _ (List.mem_of_getElem? (i := 570) (by decide +kernel))) rfl
set_option maxRecDepth 100000 in
theorem cd_X1_lay : Cond.code yX1_lay cX1_lay 4 none ∈ kTb := kTb_in (List.mem_append_right _ (List.mem_of_getElem? (i := 571) rfl)) rfl
theorem im_X1_weigh : Cond.instanceMethod yX1_weigh ∈ kTb := kTb_in (List.mem_append_right _ (List.mem_of_getElem? (i := 574) (by decide +kernel))) rfl
set_option maxRecDepth 100000 in
theorem cd_X1_weigh : Cond.code yX1_weigh cX1_weigh 10 (some .int) ∈ kTb := kTb_in (List.mem_append_right _ (List.mem_of_getElem? (i := 575) rfl)) rfl
theorem kc1_92 : Cond.constant RX1 92 (nI 1000000000) ∈ kTb := kTb_in (List.mem_append_right _ (List.mem_of_getElem? (i := 576) (by decide +kernel))) rfl
theorem kc1_93 : Cond.constantLong RX1 93 (lN 1000000000000000000) ∈ kTb := kTb_in (List.mem_append_right _ (List.mem_of_getElem? (i := 577) (by decide +kernel))) rfl
theorem im_X1_count : Cond.instanceMethod yX1_count ∈ kTb := kTb_in (List.mem_append_right _ (List.mem_of_getElem? (i := 579) (by decide +kernel))) rfl
set_option maxRecDepth 100000 in
theorem cd_X1_count : Cond.code yX1_count cX1_count 5 (some .long) ∈ kTb := kTb_in (List.mem_append_right _ (List.mem_of_getElem? (i := 581) rfl)) rfl
theorem im_X1_key : Cond.instanceMethod yX1_key ∈ kTb := kTb_in (List.mem_append_right _ (List.mem_of_getElem? (i := 583) (by decide +kernel))) rfl
set_option maxRecDepth 100000 in
theorem cd_X1_key : Cond.code yX1_key cX1_key 2 (some .int) ∈ kTb := kTb_in (List.mem_append_right _ (List.mem_of_getElem? (i := 585) rfl)) rfl
theorem im_X1_walkBehind : Cond.instanceMethod yX1_walkBehind ∈ kTb := kTb_in (List.mem_append_right _ (List.mem_of_getElem? (i := 588) (by decide +kernel))) rfl
set_option maxRecDepth 100000 in
theorem cd_X1_walkBehind : Cond.code yX1_walkBehind cX1_walkBehind 11 (some .boolean) ∈ kTb := kTb_in (List.mem_append_right _ (List.mem_of_getElem? (i := 589) rfl)) rfl
theorem im_X1_pick : Cond.instanceMethod yX1_pick ∈ kTb := kTb_in (List.mem_append_right _ (List.mem_of_getElem? (i := 591) (by decide +kernel))) rfl
set_option maxRecDepth 100000 in
theorem cd_X1_pick : Cond.code yX1_pick cX1_pick 4 (some .int) ∈ kTb := kTb_in (List.mem_append_right _ (List.mem_of_getElem? (i := 593) rfl)) rfl
theorem kc1_105 : Cond.constantLong RX1 105 (lN 999999999999999999) ∈ kTb := kTb_in (List.mem_append_right _ (List.mem_of_getElem? (i := 594) (by decide +kernel))) rfl
theorem im_X1_through : Cond.instanceMethod yX1_through ∈ kTb := kTb_in (List.mem_append_right _ (List.mem_of_getElem? (i := 596) (by decide +kernel))) rfl
set_option maxRecDepth 100000 in
theorem cd_X1_through : Cond.code yX1_through cX1_through 3 (some .int) ∈ kTb := kTb_in (List.mem_append_right _ (List.mem_of_getElem? (i := 598) rfl)) rfl
theorem im_X1_near : Cond.instanceMethod yX1_near ∈ kTb := kTb_in (List.mem_append_right _ (List.mem_of_getElem? (i := 600) (by decide +kernel))) rfl
set_option maxRecDepth 100000 in
theorem cd_X1_near : Cond.code yX1_near cX1_near 6 (some .int) ∈ kTb := kTb_in (List.mem_append_right _ (List.mem_of_getElem? (i := 602) rfl)) rfl
theorem kc1_107 : Cond.constantLong RX1 107 (lN 100000) ∈ kTb := kTb_in (List.mem_append_right _ (List.mem_of_getElem? (i := 603) (by decide +kernel))) rfl
theorem im_X1_sure : Cond.instanceMethod yX1_sure ∈ kTb := kTb_in (List.mem_append_right _ (List.mem_of_getElem? (i := 605) (by decide +kernel))) rfl
set_option maxRecDepth 100000 in
theorem cd_X1_sure : Cond.code yX1_sure cX1_sure 4 (some .int) ∈ kTb := kTb_in (List.mem_append_right _ (List.mem_of_getElem? (i := 607) rfl)) rfl
theorem kc1_109 : Cond.constantLong RX1 109 (lN 100) ∈ kTb := kTb_in (List.mem_append_right _ (List.mem_of_getElem? (i := 608) (by decide +kernel))) rfl
theorem im_X1_change : Cond.instanceMethod yX1_change ∈ kTb := kTb_in (List.mem_append_right _ (List.mem_of_getElem? (i := 610) (by decide +kernel))) rfl
set_option maxRecDepth 100000 in
theorem cd_X1_change : Cond.code yX1_change cX1_change 2 (some .int) ∈ kTb := kTb_in (List.mem_append_right _ (List.mem_of_getElem? (i := 612) rfl)) rfl
theorem im_X1_changeAt : Cond.instanceMethod yX1_changeAt ∈ kTb := kTb_in (List.mem_append_right _ (List.mem_of_getElem? (i := 615) (by decide +kernel))) rfl
set_option maxRecDepth 100000 in
theorem cd_X1_changeAt : Cond.code yX1_changeAt cX1_changeAt 4 (some .int) ∈ kTb := kTb_in (List.mem_append_right _ (List.mem_of_getElem? (i := 616) rfl)) rfl
theorem im_X1_pivot : Cond.instanceMethod yX1_pivot ∈ kTb := kTb_in (List.mem_append_right _ (List.mem_of_getElem? (i := 618) (by decide +kernel))) rfl
set_option maxRecDepth 100000 in
theorem cd_X1_pivot : Cond.code yX1_pivot cX1_pivot 6 (some .boolean) ∈ kTb := kTb_in (List.mem_append_right _ (List.mem_of_getElem? (i := 620) rfl)) rfl
theorem im_X1_whole : Cond.instanceMethod yX1_whole ∈ kTb := kTb_in (List.mem_append_right _ (List.mem_of_getElem? (i := 622) (by decide +kernel))) rfl
set_option maxRecDepth 100000 in
theorem cd_X1_whole : Cond.code yX1_whole cX1_whole 8 (some .int) ∈ kTb := kTb_in (List.mem_append_right _ (List.mem_of_getElem? (i := 624) rfl)) rfl
theorem im_X1_of : Cond.instanceMethod yX1_of ∈ kTb := kTb_in (List.mem_append_right _ (List.mem_of_getElem? (i := 626) (by decide +kernel))) rfl
set_option maxRecDepth 100000 in
theorem cd_X1_of : Cond.code yX1_of cX1_of 4 (some .int) ∈ kTb := kTb_in (List.mem_append_right _ (List.mem_of_getElem? (i := 628) rfl)) rfl
theorem kc1_114 : Cond.constantLong RX1 114 (lN 4) ∈ kTb := kTb_in (List.mem_append_right _ (List.mem_of_getElem? (i := 629) (by decide +kernel))) rfl
theorem kcL_125 : Cond.constantLong RL 125 (lN 4294967295) ∈ kTb := kTb_in (List.mem_append_right _ (List.mem_of_getElem? (i := 630) (by decide +kernel))) rfl
theorem mL_72 : Cond.methodLink RL 72 yX0_init ∈ kTb := kTb_in (List.mem_append_right _ (List.mem_of_getElem? (i := 13) (by decide +kernel))) rfl
theorem m0_1 : Cond.methodLink RX0 1 ⟨"java/lang/Object", "<init>", "()V"⟩ ∈ kTb := kTb_in (List.mem_append_right _ (List.mem_of_getElem? (i := 16) (by decide +kernel))) rfl
theorem m0_38 : Cond.methodLink RX0 38 yX0_setFirst ∈ kTb := kTb_in (List.mem_append_right _ (List.mem_of_getElem? (i := 19) (by decide +kernel))) rfl
theorem g0_38 : GoodIn kTb (wsV RX0 38 RX0 yX0_setFirst (Cond.code yX0_setFirst cX0_setFirst 1 none :: kTb)) := kgV m0_38 im_X0_setFirst (kTb_in (by decide +kernel) rfl) ini_KeyWalks cd_X0_setFirst
theorem m0_150 : Cond.methodLink RX0 150 arraycopyName ∈ kTb := kTb_in (List.mem_append_right _ (List.mem_of_getElem? (i := 25) (by decide +kernel))) rfl
theorem m0_49 : Cond.methodLink RX0 49 yX0_forget ∈ kTb := kTb_in (List.mem_append_right _ (List.mem_of_getElem? (i := 28) (by decide +kernel))) rfl
theorem g0_49 : GoodIn kTb (wsV RX0 49 RX0 yX0_forget (Cond.code yX0_forget cX0_forget 1 none :: kTb)) := kgV m0_49 im_X0_forget (kTb_in (by decide +kernel) rfl) ini_KeyWalks cd_X0_forget
theorem mL_76 : Cond.methodLink RL 76 yX0_clear ∈ kTb := kTb_in (List.mem_append_right _ (List.mem_of_getElem? (i := 86) (by decide +kernel))) rfl
theorem gL_76 : GoodIn kTb (wsV RL 76 RX0 yX0_clear (Cond.code yX0_clear cX0_clear 2 (some .int) :: kTb)) := kgV mL_76 im_X0_clear (kTb_in (by decide +kernel) rfl) ini_KeyWalks cd_X0_clear
theorem mL_112 : Cond.methodLink RL 112 yX0_least ∈ kTb := kTb_in (List.mem_append_right _ (List.mem_of_getElem? (i := 90) (by decide +kernel))) rfl
theorem gL_112 : GoodIn kTb (wsV RL 112 RX0 yX0_least (Cond.code yX0_least cX0_least 1 (some .int) :: kTb)) := kgV mL_112 im_X0_least (kTb_in (by decide +kernel) rfl) ini_KeyWalks cd_X0_least
theorem m0_90 : Cond.methodLink RX0 90 yX0_knowTails ∈ kTb := kTb_in (List.mem_append_right _ (List.mem_of_getElem? (i := 94) (by decide +kernel))) rfl
theorem g0_90 : GoodIn kTb (wsV RX0 90 RX0 yX0_knowTails (Cond.code yX0_knowTails cX0_knowTails 3 none :: kTb)) := kgV m0_90 im_X0_knowTails (kTb_in (by decide +kernel) rfl) ini_KeyWalks cd_X0_knowTails
theorem m0_185 : Cond.methodLink RX0 185 yX0_fillTurns ∈ kTb := kTb_in (List.mem_append_right _ (List.mem_of_getElem? (i := 98) (by decide +kernel))) rfl
theorem g0_185 : GoodIn kTb (wsV RX0 185 RX0 yX0_fillTurns (Cond.code yX0_fillTurns cX0_fillTurns 3 none :: kTb)) := kgV m0_185 im_X0_fillTurns (kTb_in (by decide +kernel) rfl) ini_KeyWalks cd_X0_fillTurns
theorem m0_87 : Cond.methodLink RX0 87 yX0_turnBetween ∈ kTb := kTb_in (List.mem_append_right _ (List.mem_of_getElem? (i := 102) (by decide +kernel))) rfl
theorem g0_87 : GoodIn kTb (wsV RX0 87 RX0 yX0_turnBetween (Cond.code yX0_turnBetween cX0_turnBetween 5 (some .int) :: kTb)) := kgV m0_87 im_X0_turnBetween (kTb_in (by decide +kernel) rfl) ini_KeyWalks cd_X0_turnBetween
theorem m0_176 : Cond.methodLink RX0 176 yX0_placeOf ∈ kTb := kTb_in (List.mem_append_right _ (List.mem_of_getElem? (i := 106) (by decide +kernel))) rfl
theorem g0_176 : GoodIn kTb (va_wsS RX0 176 yX0_placeOf (Cond.code yX0_placeOf cX0_placeOf 2 (some .int) :: kTb)) := kgS m0_176 sm_X0_placeOf ini_KeyWalks cd_X0_placeOf
theorem m0_165 : Cond.methodLink RX0 165 yX0_modeOf ∈ kTb := kTb_in (List.mem_append_right _ (List.mem_of_getElem? (i := 109) (by decide +kernel))) rfl
theorem g0_165 : GoodIn kTb (va_wsS RX0 165 yX0_modeOf (Cond.code yX0_modeOf cX0_modeOf 1 (some .int) :: kTb)) := kgS m0_165 sm_X0_modeOf ini_KeyWalks cd_X0_modeOf
theorem m0_168 : Cond.methodLink RX0 168 yX0_tonicOf ∈ kTb := kTb_in (List.mem_append_right _ (List.mem_of_getElem? (i := 112) (by decide +kernel))) rfl
theorem g0_168 : GoodIn kTb (va_wsS RX0 168 yX0_tonicOf (Cond.code yX0_tonicOf cX0_tonicOf 1 (some .int) :: kTb)) := kgS m0_168 sm_X0_tonicOf ini_KeyWalks cd_X0_tonicOf
theorem m0_179 : Cond.methodLink RX0 179 Lib.Math.abs.name ∈ kTb := kTb_in (List.mem_append_right _ (List.mem_of_getElem? (i := 115) (by decide +kernel))) rfl
theorem m0_182 : Cond.methodLink RX0 182 Lib.Math.min.name ∈ kTb := kTb_in (List.mem_append_right _ (List.mem_of_getElem? (i := 118) (by decide +kernel))) rfl
theorem m0_188 : Cond.methodLink RX0 188 yX0_fillSliceCosts ∈ kTb := kTb_in (List.mem_append_right _ (List.mem_of_getElem? (i := 121) (by decide +kernel))) rfl
theorem g0_188 : GoodIn kTb (wsV RX0 188 RX0 yX0_fillSliceCosts (Cond.code yX0_fillSliceCosts cX0_fillSliceCosts 5 none :: kTb)) := kgV m0_188 im_X0_fillSliceCosts (kTb_in (by decide +kernel) rfl) ini_KeyWalks cd_X0_fillSliceCosts
theorem m0_79 : Cond.methodLink RX0 79 yX0_fitIn ∈ kTb := kTb_in (List.mem_append_right _ (List.mem_of_getElem? (i := 125) (by decide +kernel))) rfl
theorem g0_79 : GoodIn kTb (wsV RX0 79 RX0 yX0_fitIn (Cond.code yX0_fitIn cX0_fitIn 5 (some .int) :: kTb)) := kgV m0_79 im_X0_fitIn (kTb_in (by decide +kernel) rfl) ini_KeyWalks cd_X0_fitIn
theorem m0_132 : Cond.methodLink RX0 132 yX0_numberOf ∈ kTb := kTb_in (List.mem_append_right _ (List.mem_of_getElem? (i := 129) (by decide +kernel))) rfl
theorem g0_132 : GoodIn kTb (wsV RX0 132 RX0 yX0_numberOf (Cond.code yX0_numberOf cX0_numberOf 4 (some .int) :: kTb)) := kgV m0_132 im_X0_numberOf (kTb_in (by decide +kernel) rfl) ini_KeyWalks cd_X0_numberOf
theorem m0_171 : Cond.methodLink RX0 171 Lib.Math.max.name ∈ kTb := kTb_in (List.mem_append_right _ (List.mem_of_getElem? (i := 133) (by decide +kernel))) rfl
theorem m0_191 : Cond.methodLink RX0 191 yX0_fillTail ∈ kTb := kTb_in (List.mem_append_right _ (List.mem_of_getElem? (i := 136) (by decide +kernel))) rfl
theorem g0_191 : GoodIn kTb (wsV RX0 191 RX0 yX0_fillTail (Cond.code yX0_fillTail cX0_fillTail 10 none :: kTb)) := kgV m0_191 im_X0_fillTail (kTb_in (by decide +kernel) rfl) ini_KeyWalks cd_X0_fillTail
theorem m0_199 : Cond.methodLink RX0 199 yX0_cappedSum ∈ kTb := kTb_in (List.mem_append_right _ (List.mem_of_getElem? (i := 141) (by decide +kernel))) rfl
theorem g0_199 : GoodIn kTb (va_wsS RX0 199 yX0_cappedSum (Cond.code yX0_cappedSum cX0_cappedSum 4 (some .long) :: kTb)) := kgS m0_199 sm_X0_cappedSum ini_KeyWalks cd_X0_cappedSum
theorem m0_203 : Cond.methodLink RX0 203 Lib.MathLoose.min_long.x ∈ kTb := kTb_in (List.mem_append_right _ (List.mem_of_getElem? (i := 145) (by decide +kernel))) rfl
theorem m0_195 : Cond.methodLink RX0 195 yX0_fillLeast ∈ kTb := kTb_in (List.mem_append_right _ (List.mem_of_getElem? (i := 148) (by decide +kernel))) rfl
theorem g0_195 : GoodIn kTb (wsV RX0 195 RX0 yX0_fillLeast (Cond.code yX0_fillLeast cX0_fillLeast 2 none :: kTb)) := kgV m0_195 im_X0_fillLeast (kTb_in (by decide +kernel) rfl) ini_KeyWalks cd_X0_fillLeast
theorem m0_107 : Cond.methodLink RX0 107 yX0_followBest ∈ kTb := kTb_in (List.mem_append_right _ (List.mem_of_getElem? (i := 152) (by decide +kernel))) rfl
theorem g0_107 : GoodIn kTb (wsV RX0 107 RX0 yX0_followBest (Cond.code yX0_followBest cX0_followBest 13 (some .int) :: kTb)) := kgV m0_107 im_X0_followBest (kTb_in (by decide +kernel) rfl) ini_KeyWalks cd_X0_followBest
theorem m0_205 : Cond.methodLink RX0 205 yX0_restAfter ∈ kTb := kTb_in (List.mem_append_right _ (List.mem_of_getElem? (i := 156) (by decide +kernel))) rfl
theorem g0_205 : GoodIn kTb (wsV RX0 205 RX0 yX0_restAfter (Cond.code yX0_restAfter cX0_restAfter 3 (some .int) :: kTb)) := kgV m0_205 im_X0_restAfter (kTb_in (by decide +kernel) rfl) ini_KeyWalks cd_X0_restAfter
theorem m0_208 : Cond.methodLink RX0 208 yX0_turnInto ∈ kTb := kTb_in (List.mem_append_right _ (List.mem_of_getElem? (i := 160) (by decide +kernel))) rfl
theorem g0_208 : GoodIn kTb (wsV RX0 208 RX0 yX0_turnInto (Cond.code yX0_turnInto cX0_turnInto 3 (some .int) :: kTb)) := kgV m0_208 im_X0_turnInto (kTb_in (by decide +kernel) rfl) ini_KeyWalks cd_X0_turnInto
theorem mL_120 : Cond.methodLink RL 120 yX0_count ∈ kTb := kTb_in (List.mem_append_right _ (List.mem_of_getElem? (i := 164) (by decide +kernel))) rfl
theorem gL_120 : GoodIn kTb (wsV RL 120 RX0 yX0_count (Cond.code yX0_count cX0_count 1 (some .long) :: kTb)) := kgV mL_120 im_X0_count (kTb_in (by decide +kernel) rfl) ini_KeyWalks cd_X0_count
theorem mL_80 : Cond.methodLink RL 80 yL_profile ∈ kTb := kTb_in (List.mem_append_right _ (List.mem_of_getElem? (i := 168) (by decide +kernel))) rfl
theorem mL_7 : Cond.methodLink RL 7 yX0_profile ∈ kTb := kTb_in (List.mem_append_right _ (List.mem_of_getElem? (i := 172) (by decide +kernel))) rfl
theorem gL_7 : GoodIn kTb (wsV RL 7 RX0 yX0_profile (Cond.code yX0_profile cX0_profile 6 (some .int) :: kTb)) := kgV mL_7 im_X0_profile (kTb_in (by decide +kernel) rfl) ini_KeyWalks cd_X0_profile
theorem m0_45 : Cond.methodLink RX0 45 yX0_requireWithin ∈ kTb := kTb_in (List.mem_append_right _ (List.mem_of_getElem? (i := 176) (by decide +kernel))) rfl
theorem g0_45 : GoodIn kTb (va_wsS RX0 45 yX0_requireWithin (Cond.code yX0_requireWithin cX0_requireWithin 3 none :: kTb)) := kgS m0_45 sm_X0_requireWithin ini_KeyWalks cd_X0_requireWithin
theorem m0_106 : Cond.methodLink RX0 106 ⟨"java/lang/IllegalArgumentException", "<init>", "(Ljava/lang/String;)V"⟩ ∈ kTb := kTb_in (List.mem_append_right _ (List.mem_of_getElem? (i := 221) (by decide +kernel))) rfl
theorem mL_89 : Cond.methodLink RL 89 yL_costs ∈ kTb := kTb_in (List.mem_append_right _ (List.mem_of_getElem? (i := 247) (by decide +kernel))) rfl
theorem mL_15 : Cond.methodLink RL 15 yX0_costs ∈ kTb := kTb_in (List.mem_append_right _ (List.mem_of_getElem? (i := 250) (by decide +kernel))) rfl
theorem gL_15 : GoodIn kTb (wsV RL 15 RX0 yX0_costs (Cond.code yX0_costs cX0_costs 5 (some .int) :: kTb)) := kgV mL_15 im_X0_costs (kTb_in (by decide +kernel) rfl) ini_KeyWalks cd_X0_costs
theorem mL_92 : Cond.methodLink RL 92 yL_slice ∈ kTb := kTb_in (List.mem_append_right _ (List.mem_of_getElem? (i := 254) (by decide +kernel))) rfl
theorem mL_18 : Cond.methodLink RL 18 yX0_slice ∈ kTb := kTb_in (List.mem_append_right _ (List.mem_of_getElem? (i := 258) (by decide +kernel))) rfl
theorem gL_18 : GoodIn kTb (wsV RL 18 RX0 yX0_slice (Cond.code yX0_slice cX0_slice 3 (some .int) :: kTb)) := kgV mL_18 im_X0_slice (kTb_in (by decide +kernel) rfl) ini_KeyWalks cd_X0_slice
theorem m0_65 : Cond.methodLink RX0 65 ⟨"java/lang/IllegalStateException", "<init>", "(Ljava/lang/String;)V"⟩ ∈ kTb := kTb_in (List.mem_append_right _ (List.mem_of_getElem? (i := 272) (by decide +kernel))) rfl
theorem mL_96 : Cond.methodLink RL 96 yL_note ∈ kTb := kTb_in (List.mem_append_right _ (List.mem_of_getElem? (i := 278) (by decide +kernel))) rfl
theorem mL_24 : Cond.methodLink RL 24 yX0_note ∈ kTb := kTb_in (List.mem_append_right _ (List.mem_of_getElem? (i := 281) (by decide +kernel))) rfl
theorem gL_24 : GoodIn kTb (wsV RL 24 RX0 yX0_note (Cond.code yX0_note cX0_note 6 (some .int) :: kTb)) := kgV mL_24 im_X0_note (kTb_in (by decide +kernel) rfl) ini_KeyWalks cd_X0_note
theorem m0_68 : Cond.methodLink RX0 68 yX0_requireSlice ∈ kTb := kTb_in (List.mem_append_right _ (List.mem_of_getElem? (i := 285) (by decide +kernel))) rfl
theorem g0_68 : GoodIn kTb (wsV RX0 68 RX0 yX0_requireSlice (Cond.code yX0_requireSlice cX0_requireSlice 2 none :: kTb)) := kgV m0_68 im_X0_requireSlice (kTb_in (by decide +kernel) rfl) ini_KeyWalks cd_X0_requireSlice
theorem mL_99 : Cond.methodLink RL 99 yL_drop ∈ kTb := kTb_in (List.mem_append_right _ (List.mem_of_getElem? (i := 290) (by decide +kernel))) rfl
theorem mL_27 : Cond.methodLink RL 27 yX0_drop ∈ kTb := kTb_in (List.mem_append_right _ (List.mem_of_getElem? (i := 293) (by decide +kernel))) rfl
theorem gL_27 : GoodIn kTb (wsV RL 27 RX0 yX0_drop (Cond.code yX0_drop cX0_drop 1 (some .int) :: kTb)) := kgV mL_27 im_X0_drop (kTb_in (by decide +kernel) rfl) ini_KeyWalks cd_X0_drop
theorem mL_102 : Cond.methodLink RL 102 yL_fit ∈ kTb := kTb_in (List.mem_append_right _ (List.mem_of_getElem? (i := 298) (by decide +kernel))) rfl
theorem mL_30 : Cond.methodLink RL 30 yX0_fit ∈ kTb := kTb_in (List.mem_append_right _ (List.mem_of_getElem? (i := 301) (by decide +kernel))) rfl
theorem gL_30 : GoodIn kTb (wsV RL 30 RX0 yX0_fit (Cond.code yX0_fit cX0_fit 3 (some .int) :: kTb)) := kgV mL_30 im_X0_fit (kTb_in (by decide +kernel) rfl) ini_KeyWalks cd_X0_fit
theorem m0_76 : Cond.methodLink RX0 76 yX0_requireKey ∈ kTb := kTb_in (List.mem_append_right _ (List.mem_of_getElem? (i := 305) (by decide +kernel))) rfl
theorem g0_76 : GoodIn kTb (va_wsS RX0 76 yX0_requireKey (Cond.code yX0_requireKey cX0_requireKey 1 none :: kTb)) := kgS m0_76 sm_X0_requireKey ini_KeyWalks cd_X0_requireKey
theorem mL_106 : Cond.methodLink RL 106 yL_cost ∈ kTb := kTb_in (List.mem_append_right _ (List.mem_of_getElem? (i := 308) (by decide +kernel))) rfl
theorem mL_34 : Cond.methodLink RL 34 yX0_cost ∈ kTb := kTb_in (List.mem_append_right _ (List.mem_of_getElem? (i := 311) (by decide +kernel))) rfl
theorem gL_34 : GoodIn kTb (wsV RL 34 RX0 yX0_cost (Cond.code yX0_cost cX0_cost 3 (some .int) :: kTb)) := kgV mL_34 im_X0_cost (kTb_in (by decide +kernel) rfl) ini_KeyWalks cd_X0_cost
theorem m0_83 : Cond.methodLink RX0 83 yX0_greatestFit ∈ kTb := kTb_in (List.mem_append_right _ (List.mem_of_getElem? (i := 315) (by decide +kernel))) rfl
theorem g0_83 : GoodIn kTb (wsV RX0 83 RX0 yX0_greatestFit (Cond.code yX0_greatestFit cX0_greatestFit 4 (some .int) :: kTb)) := kgV m0_83 im_X0_greatestFit (kTb_in (by decide +kernel) rfl) ini_KeyWalks cd_X0_greatestFit
theorem mL_109 : Cond.methodLink RL 109 yL_turn ∈ kTb := kTb_in (List.mem_append_right _ (List.mem_of_getElem? (i := 319) (by decide +kernel))) rfl
theorem mL_37 : Cond.methodLink RL 37 yX0_turn ∈ kTb := kTb_in (List.mem_append_right _ (List.mem_of_getElem? (i := 322) (by decide +kernel))) rfl
theorem gL_37 : GoodIn kTb (wsV RL 37 RX0 yX0_turn (Cond.code yX0_turn cX0_turn 3 (some .int) :: kTb)) := kgV mL_37 im_X0_turn (kTb_in (by decide +kernel) rfl) ini_KeyWalks cd_X0_turn
theorem mL_116 : Cond.methodLink RL 116 yL_key ∈ kTb := kTb_in (List.mem_append_right _ (List.mem_of_getElem? (i := 326) (by decide +kernel))) rfl
theorem mL_40 : Cond.methodLink RL 40 yX0_key ∈ kTb := kTb_in (List.mem_append_right _ (List.mem_of_getElem? (i := 329) (by decide +kernel))) rfl
theorem gL_40 : GoodIn kTb (wsV RL 40 RX0 yX0_key (Cond.code yX0_key cX0_key 2 (some .int) :: kTb)) := kgV mL_40 im_X0_key (kTb_in (by decide +kernel) rfl) ini_KeyWalks cd_X0_key
theorem mL_127 : Cond.methodLink RL 127 yL_pick ∈ kTb := kTb_in (List.mem_append_right _ (List.mem_of_getElem? (i := 333) (by decide +kernel))) rfl
theorem mL_44 : Cond.methodLink RL 44 yX0_pick ∈ kTb := kTb_in (List.mem_append_right _ (List.mem_of_getElem? (i := 336) (by decide +kernel))) rfl
theorem gL_44 : GoodIn kTb (wsV RL 44 RX0 yX0_pick (Cond.code yX0_pick cX0_pick 4 (some .int) :: kTb)) := kgV mL_44 im_X0_pick (kTb_in (by decide +kernel) rfl) ini_KeyWalks cd_X0_pick
theorem mL_131 : Cond.methodLink RL 131 yL_through ∈ kTb := kTb_in (List.mem_append_right _ (List.mem_of_getElem? (i := 341) (by decide +kernel))) rfl
theorem mL_48 : Cond.methodLink RL 48 yX0_through ∈ kTb := kTb_in (List.mem_append_right _ (List.mem_of_getElem? (i := 344) (by decide +kernel))) rfl
theorem gL_48 : GoodIn kTb (wsV RL 48 RX0 yX0_through (Cond.code yX0_through cX0_through 3 (some .int) :: kTb)) := kgV mL_48 im_X0_through (kTb_in (by decide +kernel) rfl) ini_KeyWalks cd_X0_through
theorem m0_111 : Cond.methodLink RX0 111 yX0_knowHeads ∈ kTb := kTb_in (List.mem_append_right _ (List.mem_of_getElem? (i := 348) (by decide +kernel))) rfl
theorem g0_111 : GoodIn kTb (wsV RX0 111 RX0 yX0_knowHeads (Cond.code yX0_knowHeads cX0_knowHeads 4 none :: kTb)) := kgV m0_111 im_X0_knowHeads (kTb_in (by decide +kernel) rfl) ini_KeyWalks cd_X0_knowHeads
theorem m0_211 : Cond.methodLink RX0 211 yX0_leastInto ∈ kTb := kTb_in (List.mem_append_right _ (List.mem_of_getElem? (i := 352) (by decide +kernel))) rfl
theorem g0_211 : GoodIn kTb (wsV RX0 211 RX0 yX0_leastInto (Cond.code yX0_leastInto cX0_leastInto 5 (some .int) :: kTb)) := kgV m0_211 im_X0_leastInto (kTb_in (by decide +kernel) rfl) ini_KeyWalks cd_X0_leastInto
theorem m0_114 : Cond.methodLink RX0 114 yX0_leastThrough ∈ kTb := kTb_in (List.mem_append_right _ (List.mem_of_getElem? (i := 356) (by decide +kernel))) rfl
theorem g0_114 : GoodIn kTb (wsV RX0 114 RX0 yX0_leastThrough (Cond.code yX0_leastThrough cX0_leastThrough 4 (some .int) :: kTb)) := kgV m0_114 im_X0_leastThrough (kTb_in (by decide +kernel) rfl) ini_KeyWalks cd_X0_leastThrough
theorem mL_134 : Cond.methodLink RL 134 yL_near ∈ kTb := kTb_in (List.mem_append_right _ (List.mem_of_getElem? (i := 360) (by decide +kernel))) rfl
theorem mL_51 : Cond.methodLink RL 51 yX0_near ∈ kTb := kTb_in (List.mem_append_right _ (List.mem_of_getElem? (i := 363) (by decide +kernel))) rfl
theorem gL_51 : GoodIn kTb (wsV RL 51 RX0 yX0_near (Cond.code yX0_near cX0_near 5 (some .int) :: kTb)) := kgV mL_51 im_X0_near (kTb_in (by decide +kernel) rfl) ini_KeyWalks cd_X0_near
theorem mL_137 : Cond.methodLink RL 137 yL_sure ∈ kTb := kTb_in (List.mem_append_right _ (List.mem_of_getElem? (i := 368) (by decide +kernel))) rfl
theorem mL_54 : Cond.methodLink RL 54 yX0_sure ∈ kTb := kTb_in (List.mem_append_right _ (List.mem_of_getElem? (i := 372) (by decide +kernel))) rfl
theorem gL_54 : GoodIn kTb (wsV RL 54 RX0 yX0_sure (Cond.code yX0_sure cX0_sure 3 (some .int) :: kTb)) := kgV mL_54 im_X0_sure (kTb_in (by decide +kernel) rfl) ini_KeyWalks cd_X0_sure
theorem m0_118 : Cond.methodLink RX0 118 yX0_nextCost ∈ kTb := kTb_in (List.mem_append_right _ (List.mem_of_getElem? (i := 376) (by decide +kernel))) rfl
theorem g0_118 : GoodIn kTb (wsV RX0 118 RX0 yX0_nextCost (Cond.code yX0_nextCost cX0_nextCost 4 (some .int) :: kTb)) := kgV m0_118 im_X0_nextCost (kTb_in (by decide +kernel) rfl) ini_KeyWalks cd_X0_nextCost
theorem m0_125 : Cond.methodLink RX0 125 ⟨"java/lang/ArithmeticException", "<init>", "(Ljava/lang/String;)V"⟩ ∈ kTb := kTb_in (List.mem_append_right _ (List.mem_of_getElem? (i := 390) (by decide +kernel))) rfl
theorem mL_140 : Cond.methodLink RL 140 yL_change ∈ kTb := kTb_in (List.mem_append_right _ (List.mem_of_getElem? (i := 396) (by decide +kernel))) rfl
theorem mL_59 : Cond.methodLink RL 59 yX0_change ∈ kTb := kTb_in (List.mem_append_right _ (List.mem_of_getElem? (i := 399) (by decide +kernel))) rfl
theorem gL_59 : GoodIn kTb (wsV RL 59 RX0 yX0_change (Cond.code yX0_change cX0_change 4 (some .int) :: kTb)) := kgV mL_59 im_X0_change (kTb_in (by decide +kernel) rfl) ini_KeyWalks cd_X0_change
theorem m0_128 : Cond.methodLink RX0 128 yX0_changesAt ∈ kTb := kTb_in (List.mem_append_right _ (List.mem_of_getElem? (i := 404) (by decide +kernel))) rfl
theorem g0_128 : GoodIn kTb (wsV RX0 128 RX0 yX0_changesAt (Cond.code yX0_changesAt cX0_changesAt 2 (some .boolean) :: kTb)) := kgV m0_128 im_X0_changesAt (kTb_in (by decide +kernel) rfl) ini_KeyWalks cd_X0_changesAt
theorem mL_143 : Cond.methodLink RL 143 yL_pivot ∈ kTb := kTb_in (List.mem_append_right _ (List.mem_of_getElem? (i := 408) (by decide +kernel))) rfl
theorem mL_62 : Cond.methodLink RL 62 yX0_pivot ∈ kTb := kTb_in (List.mem_append_right _ (List.mem_of_getElem? (i := 411) (by decide +kernel))) rfl
theorem gL_62 : GoodIn kTb (wsV RL 62 RX0 yX0_pivot (Cond.code yX0_pivot cX0_pivot 6 (some .boolean) :: kTb)) := kgV mL_62 im_X0_pivot (kTb_in (by decide +kernel) rfl) ini_KeyWalks cd_X0_pivot
theorem mL_146 : Cond.methodLink RL 146 yL_whole ∈ kTb := kTb_in (List.mem_append_right _ (List.mem_of_getElem? (i := 415) (by decide +kernel))) rfl
theorem mL_66 : Cond.methodLink RL 66 yX0_whole ∈ kTb := kTb_in (List.mem_append_right _ (List.mem_of_getElem? (i := 418) (by decide +kernel))) rfl
theorem gL_66 : GoodIn kTb (wsV RL 66 RX0 yX0_whole (Cond.code yX0_whole cX0_whole 7 (some .int) :: kTb)) := kgV mL_66 im_X0_whole (kTb_in (by decide +kernel) rfl) ini_KeyWalks cd_X0_whole
theorem m0_137 : Cond.methodLink RX0 137 yX0_fitTogether ∈ kTb := kTb_in (List.mem_append_right _ (List.mem_of_getElem? (i := 423) (by decide +kernel))) rfl
theorem g0_137 : GoodIn kTb (wsV RX0 137 RX0 yX0_fitTogether (Cond.code yX0_fitTogether cX0_fitTogether 6 (some .int) :: kTb)) := kgV m0_137 im_X0_fitTogether (kTb_in (by decide +kernel) rfl) ini_KeyWalks cd_X0_fitTogether
theorem mL_149 : Cond.methodLink RL 149 yL_of ∈ kTb := kTb_in (List.mem_append_right _ (List.mem_of_getElem? (i := 427) (by decide +kernel))) rfl
theorem mL_69 : Cond.methodLink RL 69 yX0_of ∈ kTb := kTb_in (List.mem_append_right _ (List.mem_of_getElem? (i := 430) (by decide +kernel))) rfl
theorem gL_69 : GoodIn kTb (wsV RL 69 RX0 yX0_of (Cond.code yX0_of cX0_of 2 (some .int) :: kTb)) := kgV mL_69 im_X0_of (kTb_in (by decide +kernel) rfl) ini_KeyWalks cd_X0_of
theorem m0_141 : Cond.methodLink RX0 141 yX0_changesOfFirst ∈ kTb := kTb_in (List.mem_append_right _ (List.mem_of_getElem? (i := 434) (by decide +kernel))) rfl
theorem g0_141 : GoodIn kTb (wsV RX0 141 RX0 yX0_changesOfFirst (Cond.code yX0_changesOfFirst cX0_changesOfFirst 3 (some .int) :: kTb)) := kgV m0_141 im_X0_changesOfFirst (kTb_in (by decide +kernel) rfl) ini_KeyWalks cd_X0_changesOfFirst
theorem mL_75 : Cond.methodLink RL 75 yX1_init ∈ kTb := kTb_in (List.mem_append_right _ (List.mem_of_getElem? (i := 441) (by decide +kernel))) rfl
theorem m1_1 : Cond.methodLink RX1 1 ⟨"java/lang/Object", "<init>", "()V"⟩ ∈ kTb := kTb_in (List.mem_append_right _ (List.mem_of_getElem? (i := 444) (by decide +kernel))) rfl
theorem m1_32 : Cond.methodLink RX1 32 yX1_begin ∈ kTb := kTb_in (List.mem_append_right _ (List.mem_of_getElem? (i := 445) (by decide +kernel))) rfl
theorem g1_32 : GoodIn kTb (wsV RX1 32 RX1 yX1_begin (Cond.code yX1_begin cX1_begin 2 none :: kTb)) := kgV m1_32 im_X1_begin (kTb_in (by decide +kernel) rfl) ini_KeyWalksModel cd_X1_begin
theorem mL_86 : Cond.methodLink RL 86 yX1_thrown ∈ kTb := kTb_in (List.mem_append_right _ (List.mem_of_getElem? (i := 486) (by decide +kernel))) rfl
theorem gL_86 : GoodIn kTb (wsV RL 86 RX1 yX1_thrown (Cond.code yX1_thrown cX1_thrown 1 (some .int) :: kTb)) := kgV mL_86 im_X1_thrown (kTb_in (by decide +kernel) rfl) ini_KeyWalksModel cd_X1_thrown
theorem mL_79 : Cond.methodLink RL 79 yX1_clear ∈ kTb := kTb_in (List.mem_append_right _ (List.mem_of_getElem? (i := 490) (by decide +kernel))) rfl
theorem gL_79 : GoodIn kTb (wsV RL 79 RX1 yX1_clear (Cond.code yX1_clear cX1_clear 2 (some .int) :: kTb)) := kgV mL_79 im_X1_clear (kTb_in (by decide +kernel) rfl) ini_KeyWalksModel cd_X1_clear
theorem mL_85 : Cond.methodLink RL 85 yX1_profile ∈ kTb := kTb_in (List.mem_append_right _ (List.mem_of_getElem? (i := 494) (by decide +kernel))) rfl
theorem gL_85 : GoodIn kTb (wsV RL 85 RX1 yX1_profile (Cond.code yX1_profile cX1_profile 5 (some .int) :: kTb)) := kgV mL_85 im_X1_profile (kTb_in (by decide +kernel) rfl) ini_KeyWalksModel cd_X1_profile
theorem m1_51 : Cond.methodLink RX1 51 yX1_isIn ∈ kTb := kTb_in (List.mem_append_right _ (List.mem_of_getElem? (i := 498) (by decide +kernel))) rfl
theorem g1_51 : GoodIn kTb (va_wsS RX1 51 yX1_isIn (Cond.code yX1_isIn cX1_isIn 6 (some .boolean) :: kTb)) := kgS m1_51 sm_X1_isIn ini_KeyWalksModel cd_X1_isIn
theorem m1_61 : Cond.methodLink RX1 61 yX1_isGood ∈ kTb := kTb_in (List.mem_append_right _ (List.mem_of_getElem? (i := 503) (by decide +kernel))) rfl
theorem g1_61 : GoodIn kTb (wsV RX1 61 RX1 yX1_isGood (Cond.code yX1_isGood cX1_isGood 2 (some .boolean) :: kTb)) := kgV m1_61 im_X1_isGood (kTb_in (by decide +kernel) rfl) ini_KeyWalksModel cd_X1_isGood
theorem mL_91 : Cond.methodLink RL 91 yX1_costs ∈ kTb := kTb_in (List.mem_append_right _ (List.mem_of_getElem? (i := 507) (by decide +kernel))) rfl
theorem gL_91 : GoodIn kTb (wsV RL 91 RX1 yX1_costs (Cond.code yX1_costs cX1_costs 5 (some .int) :: kTb)) := kgV mL_91 im_X1_costs (kTb_in (by decide +kernel) rfl) ini_KeyWalksModel cd_X1_costs
theorem mL_95 : Cond.methodLink RL 95 yX1_slice ∈ kTb := kTb_in (List.mem_append_right _ (List.mem_of_getElem? (i := 512) (by decide +kernel))) rfl
theorem gL_95 : GoodIn kTb (wsV RL 95 RX1 yX1_slice (Cond.code yX1_slice cX1_slice 2 (some .int) :: kTb)) := kgV mL_95 im_X1_slice (kTb_in (by decide +kernel) rfl) ini_KeyWalksModel cd_X1_slice
theorem mL_98 : Cond.methodLink RL 98 yX1_note ∈ kTb := kTb_in (List.mem_append_right _ (List.mem_of_getElem? (i := 516) (by decide +kernel))) rfl
theorem gL_98 : GoodIn kTb (wsV RL 98 RX1 yX1_note (Cond.code yX1_note cX1_note 5 (some .int) :: kTb)) := kgV mL_98 im_X1_note (kTb_in (by decide +kernel) rfl) ini_KeyWalksModel cd_X1_note
theorem m1_67 : Cond.methodLink RX1 67 yX1_isSlice ∈ kTb := kTb_in (List.mem_append_right _ (List.mem_of_getElem? (i := 520) (by decide +kernel))) rfl
theorem g1_67 : GoodIn kTb (wsV RX1 67 RX1 yX1_isSlice (Cond.code yX1_isSlice cX1_isSlice 2 (some .boolean) :: kTb)) := kgV m1_67 im_X1_isSlice (kTb_in (by decide +kernel) rfl) ini_KeyWalksModel cd_X1_isSlice
theorem mL_101 : Cond.methodLink RL 101 yX1_drop ∈ kTb := kTb_in (List.mem_append_right _ (List.mem_of_getElem? (i := 525) (by decide +kernel))) rfl
theorem gL_101 : GoodIn kTb (wsV RL 101 RX1 yX1_drop (Cond.code yX1_drop cX1_drop 1 (some .int) :: kTb)) := kgV mL_101 im_X1_drop (kTb_in (by decide +kernel) rfl) ini_KeyWalksModel cd_X1_drop
theorem mL_105 : Cond.methodLink RL 105 yX1_fit ∈ kTb := kTb_in (List.mem_append_right _ (List.mem_of_getElem? (i := 529) (by decide +kernel))) rfl
theorem gL_105 : GoodIn kTb (wsV RL 105 RX1 yX1_fit (Cond.code yX1_fit cX1_fit 3 (some .int) :: kTb)) := kgV mL_105 im_X1_fit (kTb_in (by decide +kernel) rfl) ini_KeyWalksModel cd_X1_fit
theorem m1_83 : Cond.methodLink RX1 83 yX1_isKey ∈ kTb := kTb_in (List.mem_append_right _ (List.mem_of_getElem? (i := 533) (by decide +kernel))) rfl
theorem g1_83 : GoodIn kTb (va_wsS RX1 83 yX1_isKey (Cond.code yX1_isKey cX1_isKey 1 (some .boolean) :: kTb)) := kgS m1_83 sm_X1_isKey ini_KeyWalksModel cd_X1_isKey
theorem m1_76 : Cond.methodLink RX1 76 yX1_fitOf ∈ kTb := kTb_in (List.mem_append_right _ (List.mem_of_getElem? (i := 537) (by decide +kernel))) rfl
theorem g1_76 : GoodIn kTb (wsV RX1 76 RX1 yX1_fitOf (Cond.code yX1_fitOf cX1_fitOf 5 (some .int) :: kTb)) := kgV m1_76 im_X1_fitOf (kTb_in (by decide +kernel) rfl) ini_KeyWalksModel cd_X1_fitOf
theorem m1_72 : Cond.methodLink RX1 72 yX1_numberOf ∈ kTb := kTb_in (List.mem_append_right _ (List.mem_of_getElem? (i := 541) (by decide +kernel))) rfl
theorem g1_72 : GoodIn kTb (wsV RX1 72 RX1 yX1_numberOf (Cond.code yX1_numberOf cX1_numberOf 3 (some .int) :: kTb)) := kgV m1_72 im_X1_numberOf (kTb_in (by decide +kernel) rfl) ini_KeyWalksModel cd_X1_numberOf
theorem mL_108 : Cond.methodLink RL 108 yX1_cost ∈ kTb := kTb_in (List.mem_append_right _ (List.mem_of_getElem? (i := 545) (by decide +kernel))) rfl
theorem gL_108 : GoodIn kTb (wsV RL 108 RX1 yX1_cost (Cond.code yX1_cost cX1_cost 3 (some .int) :: kTb)) := kgV mL_108 im_X1_cost (kTb_in (by decide +kernel) rfl) ini_KeyWalksModel cd_X1_cost
theorem m1_86 : Cond.methodLink RX1 86 yX1_costOf ∈ kTb := kTb_in (List.mem_append_right _ (List.mem_of_getElem? (i := 549) (by decide +kernel))) rfl
theorem g1_86 : GoodIn kTb (wsV RX1 86 RX1 yX1_costOf (Cond.code yX1_costOf cX1_costOf 5 (some .int) :: kTb)) := kgV m1_86 im_X1_costOf (kTb_in (by decide +kernel) rfl) ini_KeyWalksModel cd_X1_costOf
theorem mL_111 : Cond.methodLink RL 111 yX1_turn ∈ kTb := kTb_in (List.mem_append_right _ (List.mem_of_getElem? (i := 553) (by decide +kernel))) rfl
theorem gL_111 : GoodIn kTb (wsV RL 111 RX1 yX1_turn (Cond.code yX1_turn cX1_turn 3 (some .int) :: kTb)) := kgV mL_111 im_X1_turn (kTb_in (by decide +kernel) rfl) ini_KeyWalksModel cd_X1_turn
theorem m1_89 : Cond.methodLink RX1 89 yX1_turnOf ∈ kTb := kTb_in (List.mem_append_right _ (List.mem_of_getElem? (i := 557) (by decide +kernel))) rfl
theorem g1_89 : GoodIn kTb (wsV RX1 89 RX1 yX1_turnOf (Cond.code yX1_turnOf cX1_turnOf 4 (some .int) :: kTb)) := kgV m1_89 im_X1_turnOf (kTb_in (by decide +kernel) rfl) ini_KeyWalksModel cd_X1_turnOf
theorem m1_79 : Cond.methodLink RX1 79 yX1_placeOf ∈ kTb := kTb_in (List.mem_append_right _ (List.mem_of_getElem? (i := 561) (by decide +kernel))) rfl
theorem g1_79 : GoodIn kTb (va_wsS RX1 79 yX1_placeOf (Cond.code yX1_placeOf cX1_placeOf 1 (some .int) :: kTb)) := kgS m1_79 sm_X1_placeOf ini_KeyWalksModel cd_X1_placeOf
theorem mL_115 : Cond.methodLink RL 115 yX1_least ∈ kTb := kTb_in (List.mem_append_right _ (List.mem_of_getElem? (i := 564) (by decide +kernel))) rfl
theorem gL_115 : GoodIn kTb (wsV RL 115 RX1 yX1_least (Cond.code yX1_least cX1_least 1 (some .int) :: kTb)) := kgV mL_115 im_X1_least (kTb_in (by decide +kernel) rfl) ini_KeyWalksModel cd_X1_least
theorem m1_95 : Cond.methodLink RX1 95 yX1_lay ∈ kTb := kTb_in (List.mem_append_right _ (List.mem_of_getElem? (i := 568) (by decide +kernel))) rfl
theorem g1_95 : GoodIn kTb (wsV RX1 95 RX1 yX1_lay (Cond.code yX1_lay cX1_lay 4 none :: kTb)) := kgV m1_95 im_X1_lay (kTb_in (by decide +kernel) rfl) ini_KeyWalksModel cd_X1_lay
theorem m1_98 : Cond.methodLink RX1 98 yX1_weigh ∈ kTb := kTb_in (List.mem_append_right _ (List.mem_of_getElem? (i := 572) (by decide +kernel))) rfl
theorem g1_98 : GoodIn kTb (wsV RX1 98 RX1 yX1_weigh (Cond.code yX1_weigh cX1_weigh 10 (some .int) :: kTb)) := kgV m1_98 im_X1_weigh (kTb_in (by decide +kernel) rfl) ini_KeyWalksModel cd_X1_weigh
theorem mL_124 : Cond.methodLink RL 124 yX1_count ∈ kTb := kTb_in (List.mem_append_right _ (List.mem_of_getElem? (i := 578) (by decide +kernel))) rfl
theorem gL_124 : GoodIn kTb (wsV RL 124 RX1 yX1_count (Cond.code yX1_count cX1_count 5 (some .long) :: kTb)) := kgV mL_124 im_X1_count (kTb_in (by decide +kernel) rfl) ini_KeyWalksModel cd_X1_count
theorem mL_119 : Cond.methodLink RL 119 yX1_key ∈ kTb := kTb_in (List.mem_append_right _ (List.mem_of_getElem? (i := 582) (by decide +kernel))) rfl
theorem gL_119 : GoodIn kTb (wsV RL 119 RX1 yX1_key (Cond.code yX1_key cX1_key 2 (some .int) :: kTb)) := kgV mL_119 im_X1_key (kTb_in (by decide +kernel) rfl) ini_KeyWalksModel cd_X1_key
theorem m1_101 : Cond.methodLink RX1 101 yX1_walkBehind ∈ kTb := kTb_in (List.mem_append_right _ (List.mem_of_getElem? (i := 586) (by decide +kernel))) rfl
theorem g1_101 : GoodIn kTb (wsV RX1 101 RX1 yX1_walkBehind (Cond.code yX1_walkBehind cX1_walkBehind 11 (some .boolean) :: kTb)) := kgV m1_101 im_X1_walkBehind (kTb_in (by decide +kernel) rfl) ini_KeyWalksModel cd_X1_walkBehind
theorem mL_130 : Cond.methodLink RL 130 yX1_pick ∈ kTb := kTb_in (List.mem_append_right _ (List.mem_of_getElem? (i := 590) (by decide +kernel))) rfl
theorem gL_130 : GoodIn kTb (wsV RL 130 RX1 yX1_pick (Cond.code yX1_pick cX1_pick 4 (some .int) :: kTb)) := kgV mL_130 im_X1_pick (kTb_in (by decide +kernel) rfl) ini_KeyWalksModel cd_X1_pick
theorem mL_133 : Cond.methodLink RL 133 yX1_through ∈ kTb := kTb_in (List.mem_append_right _ (List.mem_of_getElem? (i := 595) (by decide +kernel))) rfl
theorem gL_133 : GoodIn kTb (wsV RL 133 RX1 yX1_through (Cond.code yX1_through cX1_through 3 (some .int) :: kTb)) := kgV mL_133 im_X1_through (kTb_in (by decide +kernel) rfl) ini_KeyWalksModel cd_X1_through
theorem mL_136 : Cond.methodLink RL 136 yX1_near ∈ kTb := kTb_in (List.mem_append_right _ (List.mem_of_getElem? (i := 599) (by decide +kernel))) rfl
theorem gL_136 : GoodIn kTb (wsV RL 136 RX1 yX1_near (Cond.code yX1_near cX1_near 6 (some .int) :: kTb)) := kgV mL_136 im_X1_near (kTb_in (by decide +kernel) rfl) ini_KeyWalksModel cd_X1_near
theorem mL_139 : Cond.methodLink RL 139 yX1_sure ∈ kTb := kTb_in (List.mem_append_right _ (List.mem_of_getElem? (i := 604) (by decide +kernel))) rfl
theorem gL_139 : GoodIn kTb (wsV RL 139 RX1 yX1_sure (Cond.code yX1_sure cX1_sure 4 (some .int) :: kTb)) := kgV mL_139 im_X1_sure (kTb_in (by decide +kernel) rfl) ini_KeyWalksModel cd_X1_sure
theorem mL_142 : Cond.methodLink RL 142 yX1_change ∈ kTb := kTb_in (List.mem_append_right _ (List.mem_of_getElem? (i := 609) (by decide +kernel))) rfl
theorem gL_142 : GoodIn kTb (wsV RL 142 RX1 yX1_change (Cond.code yX1_change cX1_change 2 (some .int) :: kTb)) := kgV mL_142 im_X1_change (kTb_in (by decide +kernel) rfl) ini_KeyWalksModel cd_X1_change
theorem m1_111 : Cond.methodLink RX1 111 yX1_changeAt ∈ kTb := kTb_in (List.mem_append_right _ (List.mem_of_getElem? (i := 613) (by decide +kernel))) rfl
theorem g1_111 : GoodIn kTb (wsV RX1 111 RX1 yX1_changeAt (Cond.code yX1_changeAt cX1_changeAt 4 (some .int) :: kTb)) := kgV m1_111 im_X1_changeAt (kTb_in (by decide +kernel) rfl) ini_KeyWalksModel cd_X1_changeAt
theorem mL_145 : Cond.methodLink RL 145 yX1_pivot ∈ kTb := kTb_in (List.mem_append_right _ (List.mem_of_getElem? (i := 617) (by decide +kernel))) rfl
theorem gL_145 : GoodIn kTb (wsV RL 145 RX1 yX1_pivot (Cond.code yX1_pivot cX1_pivot 6 (some .boolean) :: kTb)) := kgV mL_145 im_X1_pivot (kTb_in (by decide +kernel) rfl) ini_KeyWalksModel cd_X1_pivot
theorem mL_148 : Cond.methodLink RL 148 yX1_whole ∈ kTb := kTb_in (List.mem_append_right _ (List.mem_of_getElem? (i := 621) (by decide +kernel))) rfl
theorem gL_148 : GoodIn kTb (wsV RL 148 RX1 yX1_whole (Cond.code yX1_whole cX1_whole 8 (some .int) :: kTb)) := kgV mL_148 im_X1_whole (kTb_in (by decide +kernel) rfl) ini_KeyWalksModel cd_X1_whole
theorem mL_151 : Cond.methodLink RL 151 yX1_of ∈ kTb := kTb_in (List.mem_append_right _ (List.mem_of_getElem? (i := 625) (by decide +kernel))) rfl
theorem gL_151 : GoodIn kTb (wsV RL 151 RX1 yX1_of (Cond.code yX1_of cX1_of 4 (some .int) :: kTb)) := kgV mL_151 im_X1_of (kTb_in (by decide +kernel) rfl) ini_KeyWalksModel cd_X1_of
theorem m_mmaxs : Cond.static Lib.Math.max.name ∈ kTb := kTb_in (by decide +kernel) rfl
theorem m_mmaxc : Cond.code Lib.Math.max.name Lib.Math.max.code 2 (some .int) ∈ kTb := kTb_in (by decide +kernel) rfl
theorem m_mmins : Cond.static Lib.Math.min.name ∈ kTb := kTb_in (by decide +kernel) rfl
theorem m_mminc : Cond.code Lib.Math.min.name Lib.Math.min.code 2 (some .int) ∈ kTb := kTb_in (by decide +kernel) rfl
theorem m_mabss : Cond.static Lib.Math.abs.name ∈ kTb := kTb_in (by decide +kernel) rfl
theorem m_mabsc : Cond.code Lib.Math.abs.name Lib.Math.abs.code 1 (some .int) ∈ kTb := kTb_in (by decide +kernel) rfl
theorem m_mminLs : Cond.static Lib.MathLoose.min_long.x ∈ kTb := kTb_in (by decide +kernel) rfl
theorem m_mminLc : Cond.code Lib.MathLoose.min_long.x Lib.MathLoose.min_long.code 4 (some .long) ∈ kTb := kTb_in (by decide +kernel) rfl
theorem m_math : Cond.initialized "java/lang/Math" ∈ kTb := ini_java_lang_Math
abbrev kTx_163 : String := "a number is outside what is told"
abbrev kTx_63 : String := "there are 40 slices"
abbrev kTx_72 : String := "the weight would be above 200"
abbrev kTx_74 : String := "there is no slice"
abbrev kTx_104 : String := "there is no such place among the best walks"
abbrev kTx_123 : String := "the next cost is 0"
abbrev kTx_126 : String := "there is no change below 0"
abbrev kTx_135 : String := "the first slice is behind the last one"
abbrev kTx_145 : String := "there is no such number to tell"
abbrev kEx_102 : String := "java/lang/IllegalArgumentException"
abbrev kNm_102 : List String := ["java/lang/RuntimeException", "java/lang/Exception"]
theorem kcl0_102 : Cond.classLink RX0 102 kEx_102 ∈ kTb := kTb_in (List.mem_append_right _ (List.mem_of_getElem? (i := 179) (by decide +kernel))) rfl
theorem kini_102 : Cond.initialized kEx_102 ∈ kTb := ini_java_lang_IllegalArgumentException
abbrev kEx_61 : String := "java/lang/IllegalStateException"
abbrev kNm_61 : List String := ["java/lang/RuntimeException", "java/lang/Exception"]
theorem kcl0_61 : Cond.classLink RX0 61 kEx_61 ∈ kTb := kTb_in (List.mem_append_right _ (List.mem_of_getElem? (i := 262) (by decide +kernel))) rfl
theorem kini_61 : Cond.initialized kEx_61 ∈ kTb := ini_java_lang_IllegalStateException
abbrev kEx_121 : String := "java/lang/ArithmeticException"
abbrev kNm_121 : List String := ["java/lang/RuntimeException", "java/lang/Exception"]
theorem kcl0_121 : Cond.classLink RX0 121 kEx_121 ∈ kTb := kTb_in (List.mem_append_right _ (List.mem_of_getElem? (i := 380) (by decide +kernel))) rfl
theorem kini_121 : Cond.initialized kEx_121 ∈ kTb := ini_java_lang_ArithmeticException
theorem kat_102_106 : ∀ w ∈ vx_atS RX0 106 kEx_102 kNm_102, w ∈ kTb ∨ w ∈ kFa := by decide +kernel
theorem kot_102_106 : ∀ w ∈ Cond.classLink RX0 102 kEx_102 :: Cond.initialized kEx_102 :: vx_atS RX0 106 kEx_102 kNm_102, vx_ot w = true := by decide +kernel
theorem kat_61_65 : ∀ w ∈ vx_atS RX0 65 kEx_61 kNm_61, w ∈ kTb ∨ w ∈ kFa := by decide +kernel
theorem kot_61_65 : ∀ w ∈ Cond.classLink RX0 61 kEx_61 :: Cond.initialized kEx_61 :: vx_atS RX0 65 kEx_61 kNm_61, vx_ot w = true := by decide +kernel
theorem kat_121_125 : ∀ w ∈ vx_atS RX0 125 kEx_121 kNm_121, w ∈ kTb ∨ w ∈ kFa := by decide +kernel
theorem kot_121_125 : ∀ w ∈ Cond.classLink RX0 121 kEx_121 :: Cond.initialized kEx_121 :: vx_atS RX0 125 kEx_121 kNm_121, vx_ot w = true := by decide +kernel
end
section
/-! rows of our own: one judgement kx over a world (list of cells) and a list of locals, kept as lists; numbers as Nat where they are none below 0 -/
abbrev KE : Type := Launch × va_G × Nat × Nat × Nat
def kI (E : KE) : Nat := E.2.2.1
def kL (E : KE) : Nat := E.2.2.2.1
def kN (E : KE) : Nat := E.2.2.2.2
def kT (E : KE) : List (ClassId × FieldType) := [(kI E, .int), (kL E, .long)]
abbrev KG : Type := Program × Env × State × MethodId × Array Value × List Frame × Method × Code × (Nat → Prop) × (State → Prop)
/-- what stays through a walk: the machine, the code, the words, the tables, the cells that may change -/
def kc (E : KE) (G : KG) (cc : ByteArray) (nL : Nat) (own : String) : Prop :=
  match G with
  | (p, _, s, m, args, _, meth, c, A, _) => p.tables.exec = Jvm.exec ∧ c.code = cc ∧ c.maxLocals = nL ∧ s.vm.findClass own = some m.cls ∧ (∀ w ∈ kTb, w.before args s = true) ∧ va_K E.2.1 kCl (kT E) s ∧ (∀ q : Nat, s.heap.size ≤ q → A q) ∧ (∀ q : Nat, A q → kN E ≤ q) ∧ amb (kN E) s s.heap ∧ kN E ≤ s.heap.size ∧ meth.locks = false
/-- the walk at pc, with the world ws, the locals lv, the stack st -/
def kx (E : KE) (R : Room) (G : KG) (nL cells slots : Nat) (ws : va_W) (lv : List (Nat × Value)) (pc : Nat) (st : List Value) : Prop :=
  match G with
  | (p, e, s, m, args, below, meth, c, A, Q) => ∀ (H : Heap) (locs : List Loc) (ls : Array Slot), va_P E.2.1 kCl ws H → va_D A ws → va_S A s.heap H locs → lv_has ls nL lv → W p E.1 e R s m args below meth c H locs cells slots Q (F0 m pc ls st)
theorem kI1 (a : Nat) : nI a + Int32.ofInt 1 = nI (a + 1) := nI_1 a
theorem kIm (a : Nat) : nI (a + 1) + Int32.ofInt (-1) = nI a := pk_m1 a
section KR
variable {E : KE} {R : Room} {G : KG} {cc : ByteArray} {nL : Nat} {own : String} {cells slots : Nat} {ws : va_W} {lv : List (Nat × Value)} {pc : Nat} {st : List Value}
theorem kx_iconst (C : kc E G cc nL own) {n : Int} {v : Int32} (hd : decode cc pc = .ok (.iconst n, 1)) (hv : Int32.ofInt n = v) (kk : kx E R G nL cells slots ws lv (pc + 1) (.int v :: st)) : kx E R G nL cells slots ws lv (pc) (st) := by
  obtain ⟨p, e, s, m, args, below, meth, c, A, Q⟩ := G
  obtain ⟨hx, hb, hml, hown, hts, hK, hA, hN, ham, hNs, hlk⟩ := C
  intro H locs ls hP hD hS hl
  exact lv_iconst hx hb hd hv (kk H locs ls hP hD hS hl)
theorem kx_bipush (C : kc E G cc nL own) {n : Int} {v : Int32} (hd : decode cc pc = .ok (.bipush n, 2)) (hv : (Int8.ofInt n).toInt32 = v) (kk : kx E R G nL cells slots ws lv (pc + 2) (.int v :: st)) : kx E R G nL cells slots ws lv (pc) (st) := by
  obtain ⟨p, e, s, m, args, below, meth, c, A, Q⟩ := G
  obtain ⟨hx, hb, hml, hown, hts, hK, hA, hN, ham, hNs, hlk⟩ := C
  intro H locs ls hP hD hS hl
  exact lv_bipush hx hb hd hv (kk H locs ls hP hD hS hl)
theorem kx_sipush (C : kc E G cc nL own) {n : Int} {v : Int32} (hd : decode cc pc = .ok (.sipush n, 3)) (hv : (Int16.ofInt n).toInt32 = v) (kk : kx E R G nL cells slots ws lv (pc + 3) (.int v :: st)) : kx E R G nL cells slots ws lv (pc) (st) := by
  obtain ⟨p, e, s, m, args, below, meth, c, A, Q⟩ := G
  obtain ⟨hx, hb, hml, hown, hts, hK, hA, hN, ham, hNs, hlk⟩ := C
  intro H locs ls hP hD hS hl
  exact lv_sipush hx hb hd hv (kk H locs ls hP hD hS hl)
theorem kx_lconst (C : kc E G cc nL own) {n : Fin 2} {v : Int64} (hd : decode cc pc = .ok (.lconst n, 1)) (hv : Int64.ofNat (n : Nat) = v) (kk : kx E R G nL cells slots ws lv (pc + 1) (.long v :: st)) : kx E R G nL cells slots ws lv (pc) (st) := by
  obtain ⟨p, e, s, m, args, below, meth, c, A, Q⟩ := G
  obtain ⟨hx, hb, hml, hown, hts, hK, hA, hN, ham, hNs, hlk⟩ := C
  intro H locs ls hP hD hS hl
  exact lv_lconst hx hb hd hv (kk H locs ls hP hD hS hl)
theorem kx_ldc (C : kc E G cc nL own) {index : Nat} {v : Int32} (hc : Cond.constant own index v ∈ kTb) (hd : decode cc pc = .ok (.ldc index, 2)) (kk : kx E R G nL cells slots ws lv (pc + 2) (.int v :: st)) : kx E R G nL cells slots ws lv (pc) (st) := by
  obtain ⟨p, e, s, m, args, below, meth, c, A, Q⟩ := G
  obtain ⟨hx, hb, hml, hown, hts, hK, hA, hN, ham, hNs, hlk⟩ := C
  intro H locs ls hP hD hS hl
  exact lv_ldc hx hb hown (hts _ hc) hd (kk H locs ls hP hD hS hl)
theorem kx_ldc2 (C : kc E G cc nL own) {index : Nat} {v : Int64} (hc : Cond.constantLong own index v ∈ kTb) (hd : decode cc pc = .ok (.ldc2_w index, 3)) (kk : kx E R G nL cells slots ws lv (pc + 3) (.long v :: st)) : kx E R G nL cells slots ws lv (pc) (st) := by
  obtain ⟨p, e, s, m, args, below, meth, c, A, Q⟩ := G
  obtain ⟨hx, hb, hml, hown, hts, hK, hA, hN, ham, hNs, hlk⟩ := C
  intro H locs ls hP hD hS hl
  exact lv_ldc2 hx hb hown (hts _ hc) hd (kk H locs ls hP hD hS hl)
theorem kx_iload_n (C : kc E G cc nL own) {f : Fin 4} {i : Nat} {x : Int32} (hd : decode cc pc = .ok (.iload_n f, 1)) (hi : (f : Nat) = i) (k : Nat) (hk : lv[k]? = some (i, .int x)) (kk : kx E R G nL cells slots ws lv (pc + 1) (.int x :: st)) : kx E R G nL cells slots ws lv (pc) (st) := by
  obtain ⟨p, e, s, m, args, below, meth, c, A, Q⟩ := G
  obtain ⟨hx, hb, hml, hown, hts, hK, hA, hN, ham, hNs, hlk⟩ := C
  intro H locs ls hP hD hS hl
  exact lv_iload_n hx hb hd hi (lv_at hl k hk) (kk H locs ls hP hD hS hl)
theorem kx_iload (C : kc E G cc nL own) {i : Nat} {x : Int32} (hd : decode cc pc = .ok (.iload i, 2)) (k : Nat) (hk : lv[k]? = some (i, .int x)) (kk : kx E R G nL cells slots ws lv (pc + 2) (.int x :: st)) : kx E R G nL cells slots ws lv (pc) (st) := by
  obtain ⟨p, e, s, m, args, below, meth, c, A, Q⟩ := G
  obtain ⟨hx, hb, hml, hown, hts, hK, hA, hN, ham, hNs, hlk⟩ := C
  intro H locs ls hP hD hS hl
  exact lv_iload hx hb hd (lv_at hl k hk) (kk H locs ls hP hD hS hl)
theorem kx_istore_n (C : kc E G cc nL own) {f : Fin 4} {i : Nat} {x : Int32} {lv2 : List (Nat × Value)} (hd : decode cc pc = .ok (.istore_n f, 1)) (hi : (f : Nat) = i) (hn : i < nL) (h2 : (i, Value.int x) :: lv.filter (fun q => !(q.1 == i) && !(q.1 + 1 == i && q.2.category == 2)) = lv2) (kk : kx E R G nL cells slots ws lv2 (pc + 1) (st)) : kx E R G nL cells slots ws lv (pc) (.int x :: st) := by
  obtain ⟨p, e, s, m, args, below, meth, c, A, Q⟩ := G
  obtain ⟨hx, hb, hml, hown, hts, hK, hA, hN, ham, hNs, hlk⟩ := C
  intro H locs ls hP hD hS hl
  exact lv_istore_n hx hb hd hi hl hn h2 (fun ls2 hl2 => kk H locs ls2 hP hD hS hl2)
theorem kx_istore (C : kc E G cc nL own) {i : Nat} {x : Int32} {lv2 : List (Nat × Value)} (hd : decode cc pc = .ok (.istore i, 2)) (hn : i < nL) (h2 : (i, Value.int x) :: lv.filter (fun q => !(q.1 == i) && !(q.1 + 1 == i && q.2.category == 2)) = lv2) (kk : kx E R G nL cells slots ws lv2 (pc + 2) (st)) : kx E R G nL cells slots ws lv (pc) (.int x :: st) := by
  obtain ⟨p, e, s, m, args, below, meth, c, A, Q⟩ := G
  obtain ⟨hx, hb, hml, hown, hts, hK, hA, hN, ham, hNs, hlk⟩ := C
  intro H locs ls hP hD hS hl
  exact lv_istore hx hb hd hl hn h2 (fun ls2 hl2 => kk H locs ls2 hP hD hS hl2)
theorem kx_lload_n (C : kc E G cc nL own) {f : Fin 4} {i : Nat} {x : Int64} (hd : decode cc pc = .ok (.lload_n f, 1)) (hi : (f : Nat) = i) (k : Nat) (hk : lv[k]? = some (i, .long x)) (kk : kx E R G nL cells slots ws lv (pc + 1) (.long x :: st)) : kx E R G nL cells slots ws lv (pc) (st) := by
  obtain ⟨p, e, s, m, args, below, meth, c, A, Q⟩ := G
  obtain ⟨hx, hb, hml, hown, hts, hK, hA, hN, ham, hNs, hlk⟩ := C
  intro H locs ls hP hD hS hl
  exact lv_lload_n hx hb hd hi (lv_at hl k hk) (kk H locs ls hP hD hS hl)
theorem kx_lload (C : kc E G cc nL own) {i : Nat} {x : Int64} (hd : decode cc pc = .ok (.lload i, 2)) (k : Nat) (hk : lv[k]? = some (i, .long x)) (kk : kx E R G nL cells slots ws lv (pc + 2) (.long x :: st)) : kx E R G nL cells slots ws lv (pc) (st) := by
  obtain ⟨p, e, s, m, args, below, meth, c, A, Q⟩ := G
  obtain ⟨hx, hb, hml, hown, hts, hK, hA, hN, ham, hNs, hlk⟩ := C
  intro H locs ls hP hD hS hl
  exact lv_lload hx hb hd (lv_at hl k hk) (kk H locs ls hP hD hS hl)
theorem kx_lstore_n (C : kc E G cc nL own) {f : Fin 4} {i : Nat} {x : Int64} {lv2 : List (Nat × Value)} (hd : decode cc pc = .ok (.lstore_n f, 1)) (hi : (f : Nat) = i) (hn : i + 1 < nL) (h2 : (i, Value.long x) :: lv.filter (fun q => !(q.1 == i) && (!(q.1 == i + 1) && !(q.1 + 1 == i && q.2.category == 2))) = lv2) (kk : kx E R G nL cells slots ws lv2 (pc + 1) (st)) : kx E R G nL cells slots ws lv (pc) (.long x :: st) := by
  obtain ⟨p, e, s, m, args, below, meth, c, A, Q⟩ := G
  obtain ⟨hx, hb, hml, hown, hts, hK, hA, hN, ham, hNs, hlk⟩ := C
  intro H locs ls hP hD hS hl
  exact lv_lstore_n hx hb hd hi hl hn h2 (fun ls2 hl2 => kk H locs ls2 hP hD hS hl2)
theorem kx_lstore (C : kc E G cc nL own) {i : Nat} {x : Int64} {lv2 : List (Nat × Value)} (hd : decode cc pc = .ok (.lstore i, 2)) (hn : i + 1 < nL) (h2 : (i, Value.long x) :: lv.filter (fun q => !(q.1 == i) && (!(q.1 == i + 1) && !(q.1 + 1 == i && q.2.category == 2))) = lv2) (kk : kx E R G nL cells slots ws lv2 (pc + 2) (st)) : kx E R G nL cells slots ws lv (pc) (.long x :: st) := by
  obtain ⟨p, e, s, m, args, below, meth, c, A, Q⟩ := G
  obtain ⟨hx, hb, hml, hown, hts, hK, hA, hN, ham, hNs, hlk⟩ := C
  intro H locs ls hP hD hS hl
  exact lv_lstore hx hb hd hl hn h2 (fun ls2 hl2 => kk H locs ls2 hP hD hS hl2)
theorem kx_aload_n (C : kc E G cc nL own) {f : Fin 4} {i : Nat} {x : Nat} (hd : decode cc pc = .ok (.aload_n f, 1)) (hi : (f : Nat) = i) (k : Nat) (hk : lv[k]? = some (i, .ref x)) (kk : kx E R G nL cells slots ws lv (pc + 1) (.ref x :: st)) : kx E R G nL cells slots ws lv (pc) (st) := by
  obtain ⟨p, e, s, m, args, below, meth, c, A, Q⟩ := G
  obtain ⟨hx, hb, hml, hown, hts, hK, hA, hN, ham, hNs, hlk⟩ := C
  intro H locs ls hP hD hS hl
  exact lv_aload_n hx hb hd hi (lv_at hl k hk) (kk H locs ls hP hD hS hl)
theorem kx_aload (C : kc E G cc nL own) {i : Nat} {x : Nat} (hd : decode cc pc = .ok (.aload i, 2)) (k : Nat) (hk : lv[k]? = some (i, .ref x)) (kk : kx E R G nL cells slots ws lv (pc + 2) (.ref x :: st)) : kx E R G nL cells slots ws lv (pc) (st) := by
  obtain ⟨p, e, s, m, args, below, meth, c, A, Q⟩ := G
  obtain ⟨hx, hb, hml, hown, hts, hK, hA, hN, ham, hNs, hlk⟩ := C
  intro H locs ls hP hD hS hl
  exact lv_aload hx hb hd (lv_at hl k hk) (kk H locs ls hP hD hS hl)
theorem kx_astore_n (C : kc E G cc nL own) {f : Fin 4} {i : Nat} {x : Nat} {lv2 : List (Nat × Value)} (hd : decode cc pc = .ok (.astore_n f, 1)) (hi : (f : Nat) = i) (hn : i < nL) (h2 : (i, Value.ref x) :: lv.filter (fun q => !(q.1 == i) && !(q.1 + 1 == i && q.2.category == 2)) = lv2) (kk : kx E R G nL cells slots ws lv2 (pc + 1) (st)) : kx E R G nL cells slots ws lv (pc) (.ref x :: st) := by
  obtain ⟨p, e, s, m, args, below, meth, c, A, Q⟩ := G
  obtain ⟨hx, hb, hml, hown, hts, hK, hA, hN, ham, hNs, hlk⟩ := C
  intro H locs ls hP hD hS hl
  exact lv_astore_n hx hb hd hi hl hn h2 (fun ls2 hl2 => kk H locs ls2 hP hD hS hl2)
theorem kx_astore (C : kc E G cc nL own) {i : Nat} {x : Nat} {lv2 : List (Nat × Value)} (hd : decode cc pc = .ok (.astore i, 2)) (hn : i < nL) (h2 : (i, Value.ref x) :: lv.filter (fun q => !(q.1 == i) && !(q.1 + 1 == i && q.2.category == 2)) = lv2) (kk : kx E R G nL cells slots ws lv2 (pc + 2) (st)) : kx E R G nL cells slots ws lv (pc) (.ref x :: st) := by
  obtain ⟨p, e, s, m, args, below, meth, c, A, Q⟩ := G
  obtain ⟨hx, hb, hml, hown, hts, hK, hA, hN, ham, hNs, hlk⟩ := C
  intro H locs ls hP hD hS hl
  exact lv_astore hx hb hd hl hn h2 (fun ls2 hl2 => kk H locs ls2 hP hD hS hl2)
theorem kx_iinc (C : kc E G cc nL own) {i : Nat} {n : Int} {x v : Int32} {lv2 : List (Nat × Value)} (hd : decode cc pc = .ok (.iinc i n, 3)) (k : Nat) (hk : lv[k]? = some (i, .int x)) (hv : x + Int32.ofInt n = v) (hn : i < nL) (h2 : (i, Value.int v) :: lv.filter (fun q => !(q.1 == i) && !(q.1 + 1 == i && q.2.category == 2)) = lv2) (kk : kx E R G nL cells slots ws lv2 (pc + 3) (st)) : kx E R G nL cells slots ws lv (pc) (st) := by
  obtain ⟨p, e, s, m, args, below, meth, c, A, Q⟩ := G
  obtain ⟨hx, hb, hml, hown, hts, hK, hA, hN, ham, hNs, hlk⟩ := C
  intro H locs ls hP hD hS hl
  exact lv_iinc hx hb hd hl hk hv hn h2 (fun ls2 hl2 => kk H locs ls2 hP hD hS hl2)
theorem kx_lv {lv2 : List (Nat × Value)} (ks : List Nat) (h : lv_pick lv ks = lv2) (kk : kx E R G nL cells slots ws lv2 (pc) (st)) : kx E R G nL cells slots ws lv (pc) (st) := by
  obtain ⟨p, e, s, m, args, below, meth, c, A, Q⟩ := G
  intro H locs ls hP hD hS hl
  exact kk H locs ls hP hD hS (lv_sub hl ks h)
theorem kx_ws {ws2 : va_W} (is : List Nat) (hn : va_nd is = true) (h1 : is.filterMap (fun i => ws[i]?) = ws2) (h2 : is.map (fun i => ws[i]?) = ws2.map some) (kk : kx E R G nL cells slots ws2 lv (pc) (st)) : kx E R G nL cells slots ws lv (pc) (st) := by
  obtain ⟨p, e, s, m, args, below, meth, c, A, Q⟩ := G
  intro H locs ls hP hD hS hl
  exact kk H locs ls (hP.sub is h1) (hD.sub is hn h2) hS hl
theorem kx_eqw {ws2 : va_W} (h : ws = ws2) (kk : kx E R G nL cells slots ws2 lv (pc) (st)) : kx E R G nL cells slots ws lv (pc) (st) := h ▸ kk
theorem kx_eqs {st2 : List Value} (h : st = st2) (kk : kx E R G nL cells slots ws lv (pc) (st2)) : kx E R G nL cells slots ws lv (pc) (st) := h ▸ kk
theorem kx_widen {k n : Nat} (h1 : cells ≤ k) (h2 : slots ≤ n) (kk : kx E R G nL k n ws lv (pc) (st)) : kx E R G nL cells slots ws lv (pc) (st) := by
  obtain ⟨p, e, s, m, args, below, meth, c, A, Q⟩ := G
  intro H locs ls hP hD hS hl
  exact W.widen h1 h2 (kk H locs ls hP hD hS hl)
theorem kx_dup (C : kc E G cc nL own) {va : Value} (hd : decode cc pc = .ok (.dup, 1)) (hva : va.category = 1) (kk : kx E R G nL cells slots ws lv (pc + 1) (va :: va :: st)) : kx E R G nL cells slots ws lv (pc) (va :: st) := by
  obtain ⟨p, e, s, m, args, below, meth, c, A, Q⟩ := G
  obtain ⟨hx, hb, hml, hown, hts, hK, hA, hN, ham, hNs, hlk⟩ := C
  intro H locs ls hP hD hS hl
  exact lv_dup hx hb hd hva (kk H locs ls hP hD hS hl)
theorem kx_dup2 (C : kc E G cc nL own) {va vb : Value} (hd : decode cc pc = .ok (.dup2, 1)) (hva : va.category = 1) (hvb : vb.category = 1) (kk : kx E R G nL cells slots ws lv (pc + 1) (va :: vb :: va :: vb :: st)) : kx E R G nL cells slots ws lv (pc) (va :: vb :: st) := by
  obtain ⟨p, e, s, m, args, below, meth, c, A, Q⟩ := G
  obtain ⟨hx, hb, hml, hown, hts, hK, hA, hN, ham, hNs, hlk⟩ := C
  intro H locs ls hP hD hS hl
  exact lv_dup2_11 hx hb hd hva hvb (kk H locs ls hP hD hS hl)
theorem kx_pop (C : kc E G cc nL own) {va : Value} (hd : decode cc pc = .ok (.pop, 1)) (hva : va.category = 1) (kk : kx E R G nL cells slots ws lv (pc + 1) (st)) : kx E R G nL cells slots ws lv (pc) (va :: st) := by
  obtain ⟨p, e, s, m, args, below, meth, c, A, Q⟩ := G
  obtain ⟨hx, hb, hml, hown, hts, hK, hA, hN, ham, hNs, hlk⟩ := C
  intro H locs ls hP hD hS hl
  exact lv_pop hx hb hd hva (kk H locs ls hP hD hS hl)
theorem kx_goto (C : kc E G cc nL own) {off : Int} {tgt : Nat} (hd : decode cc pc = .ok (.goto off, 3)) (ht : (pc : Int) + off = (tgt : Int)) (kk : kx E R G nL cells slots ws lv (tgt) (st)) : kx E R G nL cells slots ws lv (pc) (st) := by
  obtain ⟨p, e, s, m, args, below, meth, c, A, Q⟩ := G
  obtain ⟨hx, hb, hml, hown, hts, hK, hA, hN, ham, hNs, hlk⟩ := C
  intro H locs ls hP hD hS hl
  exact lv_goto hx hb hd ht (kk H locs ls hP hD hS hl)
theorem kx_iaddR (C : kc E G cc nL own) {x y : Int32} (hd : decode cc pc = .ok (.iadd, 1)) (kk : kx E R G nL cells slots ws lv (pc + 1) (.int (x + y) :: st)) : kx E R G nL cells slots ws lv (pc) (.int y :: .int x :: st) := by
  obtain ⟨p, e, s, m, args, below, meth, c, A, Q⟩ := G
  obtain ⟨hx, hb, hml, hown, hts, hK, hA, hN, ham, hNs, hlk⟩ := C
  intro H locs ls hP hD hS hl
  exact lv_iadd hx hb hd (kk H locs ls hP hD hS hl)
theorem kx_isubR (C : kc E G cc nL own) {x y : Int32} (hd : decode cc pc = .ok (.isub, 1)) (kk : kx E R G nL cells slots ws lv (pc + 1) (.int (x - y) :: st)) : kx E R G nL cells slots ws lv (pc) (.int y :: .int x :: st) := by
  obtain ⟨p, e, s, m, args, below, meth, c, A, Q⟩ := G
  obtain ⟨hx, hb, hml, hown, hts, hK, hA, hN, ham, hNs, hlk⟩ := C
  intro H locs ls hP hD hS hl
  exact lv_isub hx hb hd (kk H locs ls hP hD hS hl)
theorem kx_imulR (C : kc E G cc nL own) {x y : Int32} (hd : decode cc pc = .ok (.imul, 1)) (kk : kx E R G nL cells slots ws lv (pc + 1) (.int (x * y) :: st)) : kx E R G nL cells slots ws lv (pc) (.int y :: .int x :: st) := by
  obtain ⟨p, e, s, m, args, below, meth, c, A, Q⟩ := G
  obtain ⟨hx, hb, hml, hown, hts, hK, hA, hN, ham, hNs, hlk⟩ := C
  intro H locs ls hP hD hS hl
  exact lv_imul hx hb hd (kk H locs ls hP hD hS hl)
theorem kx_iandR (C : kc E G cc nL own) {x y : Int32} (hd : decode cc pc = .ok (.iand, 1)) (kk : kx E R G nL cells slots ws lv (pc + 1) (.int (x &&& y) :: st)) : kx E R G nL cells slots ws lv (pc) (.int y :: .int x :: st) := by
  obtain ⟨p, e, s, m, args, below, meth, c, A, Q⟩ := G
  obtain ⟨hx, hb, hml, hown, hts, hK, hA, hN, ham, hNs, hlk⟩ := C
  intro H locs ls hP hD hS hl
  exact lv_iand hx hb hd (kk H locs ls hP hD hS hl)
theorem kx_iorR (C : kc E G cc nL own) {x y : Int32} (hd : decode cc pc = .ok (.ior, 1)) (kk : kx E R G nL cells slots ws lv (pc + 1) (.int (x ||| y) :: st)) : kx E R G nL cells slots ws lv (pc) (.int y :: .int x :: st) := by
  obtain ⟨p, e, s, m, args, below, meth, c, A, Q⟩ := G
  obtain ⟨hx, hb, hml, hown, hts, hK, hA, hN, ham, hNs, hlk⟩ := C
  intro H locs ls hP hD hS hl
  exact lv_ior hx hb hd (kk H locs ls hP hD hS hl)
theorem kx_ishlR (C : kc E G cc nL own) {x y : Int32} (hd : decode cc pc = .ok (.ishl, 1)) (kk : kx E R G nL cells slots ws lv (pc + 1) (.int (x <<< (y &&& 31)) :: st)) : kx E R G nL cells slots ws lv (pc) (.int y :: .int x :: st) := by
  obtain ⟨p, e, s, m, args, below, meth, c, A, Q⟩ := G
  obtain ⟨hx, hb, hml, hown, hts, hK, hA, hN, ham, hNs, hlk⟩ := C
  intro H locs ls hP hD hS hl
  exact lv_ishl hx hb hd (kk H locs ls hP hD hS hl)
theorem kx_laddR (C : kc E G cc nL own) {x y : Int64} (hd : decode cc pc = .ok (.ladd, 1)) (kk : kx E R G nL cells slots ws lv (pc + 1) (.long (x + y) :: st)) : kx E R G nL cells slots ws lv (pc) (.long y :: .long x :: st) := by
  obtain ⟨p, e, s, m, args, below, meth, c, A, Q⟩ := G
  obtain ⟨hx, hb, hml, hown, hts, hK, hA, hN, ham, hNs, hlk⟩ := C
  intro H locs ls hP hD hS hl
  exact lv_ladd hx hb hd (kk H locs ls hP hD hS hl)
theorem kx_lsubR (C : kc E G cc nL own) {x y : Int64} (hd : decode cc pc = .ok (.lsub, 1)) (kk : kx E R G nL cells slots ws lv (pc + 1) (.long (x - y) :: st)) : kx E R G nL cells slots ws lv (pc) (.long y :: .long x :: st) := by
  obtain ⟨p, e, s, m, args, below, meth, c, A, Q⟩ := G
  obtain ⟨hx, hb, hml, hown, hts, hK, hA, hN, ham, hNs, hlk⟩ := C
  intro H locs ls hP hD hS hl
  exact lv_lsub hx hb hd (kk H locs ls hP hD hS hl)
theorem kx_landR (C : kc E G cc nL own) {x y : Int64} (hd : decode cc pc = .ok (.land, 1)) (kk : kx E R G nL cells slots ws lv (pc + 1) (.long (x &&& y) :: st)) : kx E R G nL cells slots ws lv (pc) (.long y :: .long x :: st) := by
  obtain ⟨p, e, s, m, args, below, meth, c, A, Q⟩ := G
  obtain ⟨hx, hb, hml, hown, hts, hK, hA, hN, ham, hNs, hlk⟩ := C
  intro H locs ls hP hD hS hl
  exact lv_land hx hb hd (kk H locs ls hP hD hS hl)
theorem kx_lorR (C : kc E G cc nL own) {x y : Int64} (hd : decode cc pc = .ok (.lor, 1)) (kk : kx E R G nL cells slots ws lv (pc + 1) (.long (x ||| y) :: st)) : kx E R G nL cells slots ws lv (pc) (.long y :: .long x :: st) := by
  obtain ⟨p, e, s, m, args, below, meth, c, A, Q⟩ := G
  obtain ⟨hx, hb, hml, hown, hts, hK, hA, hN, ham, hNs, hlk⟩ := C
  intro H locs ls hP hD hS hl
  exact lv_lor hx hb hd (kk H locs ls hP hD hS hl)
theorem kx_i2l (C : kc E G cc nL own) {x : Int32} {v : Int64} (hd : decode cc pc = .ok (.i2l, 1)) (hv : x.toInt64 = v) (kk : kx E R G nL cells slots ws lv (pc + 1) (.long v :: st)) : kx E R G nL cells slots ws lv (pc) (.int x :: st) := by
  obtain ⟨p, e, s, m, args, below, meth, c, A, Q⟩ := G
  obtain ⟨hx, hb, hml, hown, hts, hK, hA, hN, ham, hNs, hlk⟩ := C
  intro H locs ls hP hD hS hl
  exact lv_i2l hx hb hd hv (kk H locs ls hP hD hS hl)
theorem kx_lshl (C : kc E G cc nL own) {x : Int64} {y : Int32} {v : Int64} (hd : decode cc pc = .ok (.lshl, 1)) (hv : x <<< (y.toInt64 &&& 63) = v) (kk : kx E R G nL cells slots ws lv (pc + 1) (.long v :: st)) : kx E R G nL cells slots ws lv (pc) (.int y :: .long x :: st) := by
  obtain ⟨p, e, s, m, args, below, meth, c, A, Q⟩ := G
  obtain ⟨hx, hb, hml, hown, hts, hK, hA, hN, ham, hNs, hlk⟩ := C
  intro H locs ls hP hD hS hl
  exact lv_lshl hx hb hd hv (kk H locs ls hP hD hS hl)
theorem kx_iadd (C : kc E G cc nL own) {a b : Nat} (hd : decode cc pc = .ok (.iadd, 1)) (kk : kx E R G nL cells slots ws lv (pc + 1) (.int (nI (a + b)) :: st)) : kx E R G nL cells slots ws lv (pc) (.int (nI b) :: .int (nI a) :: st) := by
  obtain ⟨p, e, s, m, args, below, meth, c, A, Q⟩ := G
  obtain ⟨hx, hb, hml, hown, hts, hK, hA, hN, ham, hNs, hlk⟩ := C
  intro H locs ls hP hD hS hl
  refine lv_iadd hx hb hd ?_
  rw [nI_add]
  exact (kk H locs ls hP hD hS hl)
theorem kx_imul (C : kc E G cc nL own) {a b : Nat} (hd : decode cc pc = .ok (.imul, 1)) (kk : kx E R G nL cells slots ws lv (pc + 1) (.int (nI (a * b)) :: st)) : kx E R G nL cells slots ws lv (pc) (.int (nI b) :: .int (nI a) :: st) := by
  obtain ⟨p, e, s, m, args, below, meth, c, A, Q⟩ := G
  obtain ⟨hx, hb, hml, hown, hts, hK, hA, hN, ham, hNs, hlk⟩ := C
  intro H locs ls hP hD hS hl
  refine lv_imul hx hb hd ?_
  rw [pk_mul]
  exact (kk H locs ls hP hD hS hl)
theorem kx_isub (C : kc E G cc nL own) {a b : Nat} (h : b ≤ a) (hd : decode cc pc = .ok (.isub, 1)) (kk : kx E R G nL cells slots ws lv (pc + 1) (.int (nI (a - b)) :: st)) : kx E R G nL cells slots ws lv (pc) (.int (nI b) :: .int (nI a) :: st) := by
  obtain ⟨p, e, s, m, args, below, meth, c, A, Q⟩ := G
  obtain ⟨hx, hb, hml, hown, hts, hK, hA, hN, ham, hNs, hlk⟩ := C
  intro H locs ls hP hD hS hl
  refine lv_isub hx hb hd ?_
  rw [pk_sub h]
  exact (kk H locs ls hP hD hS hl)
theorem kx_idiv (C : kc E G cc nL own) {a b : Nat} (ha : a < 2 ^ 31) (h0 : 0 < b) (hb2 : b < 2 ^ 31) (hd : decode cc pc = .ok (.idiv, 1)) (kk : kx E R G nL cells slots ws lv (pc + 1) (.int (nI (a / b)) :: st)) : kx E R G nL cells slots ws lv (pc) (.int (nI b) :: .int (nI a) :: st) := by
  obtain ⟨p, e, s, m, args, below, meth, c, A, Q⟩ := G
  obtain ⟨hx, hb, hml, hown, hts, hK, hA, hN, ham, hNs, hlk⟩ := C
  intro H locs ls hP hD hS hl
  refine lv_idiv hx hb hd (nI_ne0 h0 hb2) ?_
  rw [pk_div ha h0 hb2]
  exact (kk H locs ls hP hD hS hl)
theorem kx_irem (C : kc E G cc nL own) {a b : Nat} (ha : a < 2 ^ 31) (h0 : 0 < b) (hb2 : b < 2 ^ 31) (hd : decode cc pc = .ok (.irem, 1)) (kk : kx E R G nL cells slots ws lv (pc + 1) (.int (nI (a % b)) :: st)) : kx E R G nL cells slots ws lv (pc) (.int (nI b) :: .int (nI a) :: st) := by
  obtain ⟨p, e, s, m, args, below, meth, c, A, Q⟩ := G
  obtain ⟨hx, hb, hml, hown, hts, hK, hA, hN, ham, hNs, hlk⟩ := C
  intro H locs ls hP hD hS hl
  refine lv_irem hx hb hd (nI_ne0 h0 hb2) ?_
  rw [pk_rem ha h0 hb2]
  exact (kk H locs ls hP hD hS hl)
theorem kx_ladd (C : kc E G cc nL own) {a b : Nat} (hd : decode cc pc = .ok (.ladd, 1)) (kk : kx E R G nL cells slots ws lv (pc + 1) (.long (lN (a + b)) :: st)) : kx E R G nL cells slots ws lv (pc) (.long (lN b) :: .long (lN a) :: st) := by
  obtain ⟨p, e, s, m, args, below, meth, c, A, Q⟩ := G
  obtain ⟨hx, hb, hml, hown, hts, hK, hA, hN, ham, hNs, hlk⟩ := C
  intro H locs ls hP hD hS hl
  refine lv_ladd hx hb hd ?_
  rw [lN_add]
  exact (kk H locs ls hP hD hS hl)
theorem kx_lsub (C : kc E G cc nL own) {a b : Nat} (h : b ≤ a) (hd : decode cc pc = .ok (.lsub, 1)) (kk : kx E R G nL cells slots ws lv (pc + 1) (.long (lN (a - b)) :: st)) : kx E R G nL cells slots ws lv (pc) (.long (lN b) :: .long (lN a) :: st) := by
  obtain ⟨p, e, s, m, args, below, meth, c, A, Q⟩ := G
  obtain ⟨hx, hb, hml, hown, hts, hK, hA, hN, ham, hNs, hlk⟩ := C
  intro H locs ls hP hD hS hl
  refine lv_lsub hx hb hd ?_
  rw [lN_sub h]
  exact (kk H locs ls hP hD hS hl)
theorem kx_icmp_eqR (C : kc E G cc nL own) {x y : Int32} {off : Int} {tgt : Nat} (hd : decode cc pc = .ok (.if_icmp .eq off, 3)) (ht : (pc : Int) + off = (tgt : Int)) (kt : x = y → kx E R G nL cells slots ws lv (tgt) (st)) (kf : ¬ x = y → kx E R G nL cells slots ws lv (pc + 3) (st)) : kx E R G nL cells slots ws lv (pc) (.int y :: .int x :: st) := by
  obtain ⟨p, e, s, m, args, below, meth, c, A, Q⟩ := G
  obtain ⟨hx, hb, hml, hown, hts, hK, hA, hN, ham, hNs, hlk⟩ := C
  intro H locs ls hP hD hS hl
  exact lv_icmp_eq hx hb hd ht (fun h => kt h H locs ls hP hD hS hl) (fun h => kf h H locs ls hP hD hS hl)
theorem kx_if_eqR (C : kc E G cc nL own) {x : Int32} {off : Int} {tgt : Nat} (hd : decode cc pc = .ok (.ifCond .eq off, 3)) (ht : (pc : Int) + off = (tgt : Int)) (kt : x = 0 → kx E R G nL cells slots ws lv (tgt) (st)) (kf : ¬ x = 0 → kx E R G nL cells slots ws lv (pc + 3) (st)) : kx E R G nL cells slots ws lv (pc) (.int x :: st) := by
  obtain ⟨p, e, s, m, args, below, meth, c, A, Q⟩ := G
  obtain ⟨hx, hb, hml, hown, hts, hK, hA, hN, ham, hNs, hlk⟩ := C
  intro H locs ls hP hD hS hl
  exact lv_if_eq hx hb hd ht (fun h => kt h H locs ls hP hD hS hl) (fun h => kf h H locs ls hP hD hS hl)
theorem kx_icmp_eq (C : kc E G cc nL own) {a b : Nat} {off : Int} {tgt : Nat} (ha : a < 2 ^ 31) (hb2 : b < 2 ^ 31) (hd : decode cc pc = .ok (.if_icmp .eq off, 3)) (ht : (pc : Int) + off = (tgt : Int)) (kt : a = b → kx E R G nL cells slots ws lv (tgt) (st)) (kf : a ≠ b → kx E R G nL cells slots ws lv (pc + 3) (st)) : kx E R G nL cells slots ws lv (pc) (.int (nI b) :: .int (nI a) :: st) := by
  obtain ⟨p, e, s, m, args, below, meth, c, A, Q⟩ := G
  obtain ⟨hx, hb, hml, hown, hts, hK, hA, hN, ham, hNs, hlk⟩ := C
  intro H locs ls hP hD hS hl
  exact lv_icmp_eq hx hb hd ht (fun h => kt ((nI_eq ha hb2).mp h) H locs ls hP hD hS hl) (fun h => kf (fun z => h ((nI_eq ha hb2).mpr z)) H locs ls hP hD hS hl)
theorem kx_icmp_neR (C : kc E G cc nL own) {x y : Int32} {off : Int} {tgt : Nat} (hd : decode cc pc = .ok (.if_icmp .ne off, 3)) (ht : (pc : Int) + off = (tgt : Int)) (kt : ¬ x = y → kx E R G nL cells slots ws lv (tgt) (st)) (kf : x = y → kx E R G nL cells slots ws lv (pc + 3) (st)) : kx E R G nL cells slots ws lv (pc) (.int y :: .int x :: st) := by
  obtain ⟨p, e, s, m, args, below, meth, c, A, Q⟩ := G
  obtain ⟨hx, hb, hml, hown, hts, hK, hA, hN, ham, hNs, hlk⟩ := C
  intro H locs ls hP hD hS hl
  exact lv_icmp_ne hx hb hd ht (fun h => kt h H locs ls hP hD hS hl) (fun h => kf h H locs ls hP hD hS hl)
theorem kx_if_neR (C : kc E G cc nL own) {x : Int32} {off : Int} {tgt : Nat} (hd : decode cc pc = .ok (.ifCond .ne off, 3)) (ht : (pc : Int) + off = (tgt : Int)) (kt : ¬ x = 0 → kx E R G nL cells slots ws lv (tgt) (st)) (kf : x = 0 → kx E R G nL cells slots ws lv (pc + 3) (st)) : kx E R G nL cells slots ws lv (pc) (.int x :: st) := by
  obtain ⟨p, e, s, m, args, below, meth, c, A, Q⟩ := G
  obtain ⟨hx, hb, hml, hown, hts, hK, hA, hN, ham, hNs, hlk⟩ := C
  intro H locs ls hP hD hS hl
  exact lv_if_ne hx hb hd ht (fun h => kt h H locs ls hP hD hS hl) (fun h => kf h H locs ls hP hD hS hl)
theorem kx_icmp_ne (C : kc E G cc nL own) {a b : Nat} {off : Int} {tgt : Nat} (ha : a < 2 ^ 31) (hb2 : b < 2 ^ 31) (hd : decode cc pc = .ok (.if_icmp .ne off, 3)) (ht : (pc : Int) + off = (tgt : Int)) (kt : a ≠ b → kx E R G nL cells slots ws lv (tgt) (st)) (kf : a = b → kx E R G nL cells slots ws lv (pc + 3) (st)) : kx E R G nL cells slots ws lv (pc) (.int (nI b) :: .int (nI a) :: st) := by
  obtain ⟨p, e, s, m, args, below, meth, c, A, Q⟩ := G
  obtain ⟨hx, hb, hml, hown, hts, hK, hA, hN, ham, hNs, hlk⟩ := C
  intro H locs ls hP hD hS hl
  exact lv_icmp_ne hx hb hd ht (fun h => kt (fun z => h ((nI_eq ha hb2).mpr z)) H locs ls hP hD hS hl) (fun h => kf ((nI_eq ha hb2).mp h) H locs ls hP hD hS hl)
theorem kx_icmp_ltR (C : kc E G cc nL own) {x y : Int32} {off : Int} {tgt : Nat} (hd : decode cc pc = .ok (.if_icmp .lt off, 3)) (ht : (pc : Int) + off = (tgt : Int)) (kt : x < y → kx E R G nL cells slots ws lv (tgt) (st)) (kf : ¬ x < y → kx E R G nL cells slots ws lv (pc + 3) (st)) : kx E R G nL cells slots ws lv (pc) (.int y :: .int x :: st) := by
  obtain ⟨p, e, s, m, args, below, meth, c, A, Q⟩ := G
  obtain ⟨hx, hb, hml, hown, hts, hK, hA, hN, ham, hNs, hlk⟩ := C
  intro H locs ls hP hD hS hl
  exact lv_icmp_lt hx hb hd ht (fun h => kt h H locs ls hP hD hS hl) (fun h => kf h H locs ls hP hD hS hl)
theorem kx_if_ltR (C : kc E G cc nL own) {x : Int32} {off : Int} {tgt : Nat} (hd : decode cc pc = .ok (.ifCond .lt off, 3)) (ht : (pc : Int) + off = (tgt : Int)) (kt : x < 0 → kx E R G nL cells slots ws lv (tgt) (st)) (kf : ¬ x < 0 → kx E R G nL cells slots ws lv (pc + 3) (st)) : kx E R G nL cells slots ws lv (pc) (.int x :: st) := by
  obtain ⟨p, e, s, m, args, below, meth, c, A, Q⟩ := G
  obtain ⟨hx, hb, hml, hown, hts, hK, hA, hN, ham, hNs, hlk⟩ := C
  intro H locs ls hP hD hS hl
  exact lv_if_lt hx hb hd ht (fun h => kt h H locs ls hP hD hS hl) (fun h => kf h H locs ls hP hD hS hl)
theorem kx_icmp_lt (C : kc E G cc nL own) {a b : Nat} {off : Int} {tgt : Nat} (ha : a < 2 ^ 31) (hb2 : b < 2 ^ 31) (hd : decode cc pc = .ok (.if_icmp .lt off, 3)) (ht : (pc : Int) + off = (tgt : Int)) (kt : a < b → kx E R G nL cells slots ws lv (tgt) (st)) (kf : b ≤ a → kx E R G nL cells slots ws lv (pc + 3) (st)) : kx E R G nL cells slots ws lv (pc) (.int (nI b) :: .int (nI a) :: st) := by
  obtain ⟨p, e, s, m, args, below, meth, c, A, Q⟩ := G
  obtain ⟨hx, hb, hml, hown, hts, hK, hA, hN, ham, hNs, hlk⟩ := C
  intro H locs ls hP hD hS hl
  exact lv_icmp_lt hx hb hd ht (fun h => kt ((nI_ltI ha hb2).mp h) H locs ls hP hD hS hl) (fun h => kf (Nat.not_lt.mp fun z => h ((nI_ltI ha hb2).mpr z)) H locs ls hP hD hS hl)
theorem kx_icmp_geR (C : kc E G cc nL own) {x y : Int32} {off : Int} {tgt : Nat} (hd : decode cc pc = .ok (.if_icmp .ge off, 3)) (ht : (pc : Int) + off = (tgt : Int)) (kt : y ≤ x → kx E R G nL cells slots ws lv (tgt) (st)) (kf : ¬ y ≤ x → kx E R G nL cells slots ws lv (pc + 3) (st)) : kx E R G nL cells slots ws lv (pc) (.int y :: .int x :: st) := by
  obtain ⟨p, e, s, m, args, below, meth, c, A, Q⟩ := G
  obtain ⟨hx, hb, hml, hown, hts, hK, hA, hN, ham, hNs, hlk⟩ := C
  intro H locs ls hP hD hS hl
  exact lv_icmp_ge hx hb hd ht (fun h => kt h H locs ls hP hD hS hl) (fun h => kf h H locs ls hP hD hS hl)
theorem kx_if_geR (C : kc E G cc nL own) {x : Int32} {off : Int} {tgt : Nat} (hd : decode cc pc = .ok (.ifCond .ge off, 3)) (ht : (pc : Int) + off = (tgt : Int)) (kt : 0 ≤ x → kx E R G nL cells slots ws lv (tgt) (st)) (kf : ¬ 0 ≤ x → kx E R G nL cells slots ws lv (pc + 3) (st)) : kx E R G nL cells slots ws lv (pc) (.int x :: st) := by
  obtain ⟨p, e, s, m, args, below, meth, c, A, Q⟩ := G
  obtain ⟨hx, hb, hml, hown, hts, hK, hA, hN, ham, hNs, hlk⟩ := C
  intro H locs ls hP hD hS hl
  exact lv_if_ge hx hb hd ht (fun h => kt h H locs ls hP hD hS hl) (fun h => kf h H locs ls hP hD hS hl)
theorem kx_icmp_ge (C : kc E G cc nL own) {a b : Nat} {off : Int} {tgt : Nat} (ha : a < 2 ^ 31) (hb2 : b < 2 ^ 31) (hd : decode cc pc = .ok (.if_icmp .ge off, 3)) (ht : (pc : Int) + off = (tgt : Int)) (kt : b ≤ a → kx E R G nL cells slots ws lv (tgt) (st)) (kf : a < b → kx E R G nL cells slots ws lv (pc + 3) (st)) : kx E R G nL cells slots ws lv (pc) (.int (nI b) :: .int (nI a) :: st) := by
  obtain ⟨p, e, s, m, args, below, meth, c, A, Q⟩ := G
  obtain ⟨hx, hb, hml, hown, hts, hK, hA, hN, ham, hNs, hlk⟩ := C
  intro H locs ls hP hD hS hl
  exact lv_icmp_ge hx hb hd ht (fun h => kt ((nI_leI hb2 ha).mp h) H locs ls hP hD hS hl) (fun h => kf (Nat.not_le.mp fun z => h ((nI_leI hb2 ha).mpr z)) H locs ls hP hD hS hl)
theorem kx_icmp_gtR (C : kc E G cc nL own) {x y : Int32} {off : Int} {tgt : Nat} (hd : decode cc pc = .ok (.if_icmp .gt off, 3)) (ht : (pc : Int) + off = (tgt : Int)) (kt : y < x → kx E R G nL cells slots ws lv (tgt) (st)) (kf : ¬ y < x → kx E R G nL cells slots ws lv (pc + 3) (st)) : kx E R G nL cells slots ws lv (pc) (.int y :: .int x :: st) := by
  obtain ⟨p, e, s, m, args, below, meth, c, A, Q⟩ := G
  obtain ⟨hx, hb, hml, hown, hts, hK, hA, hN, ham, hNs, hlk⟩ := C
  intro H locs ls hP hD hS hl
  exact lv_icmp_gt hx hb hd ht (fun h => kt h H locs ls hP hD hS hl) (fun h => kf h H locs ls hP hD hS hl)
theorem kx_if_gtR (C : kc E G cc nL own) {x : Int32} {off : Int} {tgt : Nat} (hd : decode cc pc = .ok (.ifCond .gt off, 3)) (ht : (pc : Int) + off = (tgt : Int)) (kt : 0 < x → kx E R G nL cells slots ws lv (tgt) (st)) (kf : ¬ 0 < x → kx E R G nL cells slots ws lv (pc + 3) (st)) : kx E R G nL cells slots ws lv (pc) (.int x :: st) := by
  obtain ⟨p, e, s, m, args, below, meth, c, A, Q⟩ := G
  obtain ⟨hx, hb, hml, hown, hts, hK, hA, hN, ham, hNs, hlk⟩ := C
  intro H locs ls hP hD hS hl
  exact lv_if_gt hx hb hd ht (fun h => kt h H locs ls hP hD hS hl) (fun h => kf h H locs ls hP hD hS hl)
theorem kx_icmp_gt (C : kc E G cc nL own) {a b : Nat} {off : Int} {tgt : Nat} (ha : a < 2 ^ 31) (hb2 : b < 2 ^ 31) (hd : decode cc pc = .ok (.if_icmp .gt off, 3)) (ht : (pc : Int) + off = (tgt : Int)) (kt : b < a → kx E R G nL cells slots ws lv (tgt) (st)) (kf : a ≤ b → kx E R G nL cells slots ws lv (pc + 3) (st)) : kx E R G nL cells slots ws lv (pc) (.int (nI b) :: .int (nI a) :: st) := by
  obtain ⟨p, e, s, m, args, below, meth, c, A, Q⟩ := G
  obtain ⟨hx, hb, hml, hown, hts, hK, hA, hN, ham, hNs, hlk⟩ := C
  intro H locs ls hP hD hS hl
  exact lv_icmp_gt hx hb hd ht (fun h => kt ((nI_ltI hb2 ha).mp h) H locs ls hP hD hS hl) (fun h => kf (Nat.not_lt.mp fun z => h ((nI_ltI hb2 ha).mpr z)) H locs ls hP hD hS hl)
theorem kx_icmp_leR (C : kc E G cc nL own) {x y : Int32} {off : Int} {tgt : Nat} (hd : decode cc pc = .ok (.if_icmp .le off, 3)) (ht : (pc : Int) + off = (tgt : Int)) (kt : x ≤ y → kx E R G nL cells slots ws lv (tgt) (st)) (kf : ¬ x ≤ y → kx E R G nL cells slots ws lv (pc + 3) (st)) : kx E R G nL cells slots ws lv (pc) (.int y :: .int x :: st) := by
  obtain ⟨p, e, s, m, args, below, meth, c, A, Q⟩ := G
  obtain ⟨hx, hb, hml, hown, hts, hK, hA, hN, ham, hNs, hlk⟩ := C
  intro H locs ls hP hD hS hl
  exact lv_icmp_le hx hb hd ht (fun h => kt h H locs ls hP hD hS hl) (fun h => kf h H locs ls hP hD hS hl)
theorem kx_if_leR (C : kc E G cc nL own) {x : Int32} {off : Int} {tgt : Nat} (hd : decode cc pc = .ok (.ifCond .le off, 3)) (ht : (pc : Int) + off = (tgt : Int)) (kt : x ≤ 0 → kx E R G nL cells slots ws lv (tgt) (st)) (kf : ¬ x ≤ 0 → kx E R G nL cells slots ws lv (pc + 3) (st)) : kx E R G nL cells slots ws lv (pc) (.int x :: st) := by
  obtain ⟨p, e, s, m, args, below, meth, c, A, Q⟩ := G
  obtain ⟨hx, hb, hml, hown, hts, hK, hA, hN, ham, hNs, hlk⟩ := C
  intro H locs ls hP hD hS hl
  exact lv_if_le hx hb hd ht (fun h => kt h H locs ls hP hD hS hl) (fun h => kf h H locs ls hP hD hS hl)
theorem kx_icmp_le (C : kc E G cc nL own) {a b : Nat} {off : Int} {tgt : Nat} (ha : a < 2 ^ 31) (hb2 : b < 2 ^ 31) (hd : decode cc pc = .ok (.if_icmp .le off, 3)) (ht : (pc : Int) + off = (tgt : Int)) (kt : a ≤ b → kx E R G nL cells slots ws lv (tgt) (st)) (kf : b < a → kx E R G nL cells slots ws lv (pc + 3) (st)) : kx E R G nL cells slots ws lv (pc) (.int (nI b) :: .int (nI a) :: st) := by
  obtain ⟨p, e, s, m, args, below, meth, c, A, Q⟩ := G
  obtain ⟨hx, hb, hml, hown, hts, hK, hA, hN, ham, hNs, hlk⟩ := C
  intro H locs ls hP hD hS hl
  exact lv_icmp_le hx hb hd ht (fun h => kt ((nI_leI ha hb2).mp h) H locs ls hP hD hS hl) (fun h => kf (Nat.not_le.mp fun z => h ((nI_leI ha hb2).mpr z)) H locs ls hP hD hS hl)
end KR
theorem k_nI0 {a : Nat} (ha : a < 2 ^ 31) : nI a = 0 ↔ a = 0 := by
  rw [← nI_0]
  exact nI_eq ha (by decide)
theorem k_nIp {a : Nat} (ha : a < 2 ^ 31) : 0 < nI a ↔ 0 < a := by
  rw [← nI_0]
  exact nI_ltI (by decide) ha
theorem k_nIl {a : Nat} (ha : a < 2 ^ 31) : nI a ≤ 0 ↔ a = 0 := by
  rw [← nI_0]
  rw [nI_leI ha (by decide)]
  omega
section KR2
variable {E : KE} {R : Room} {G : KG} {cc : ByteArray} {nL : Nat} {own : String} {cells slots : Nat} {ws : va_W} {lv : List (Nat × Value)} {pc : Nat} {st : List Value}
theorem kx_if_eq (C : kc E G cc nL own) {a : Nat} {off : Int} {tgt : Nat} (ha : a < 2 ^ 31) (hd : decode cc pc = .ok (.ifCond .eq off, 3)) (ht : (pc : Int) + off = (tgt : Int)) (kt : a = 0 → kx E R G nL cells slots ws lv (tgt) (st)) (kf : a ≠ 0 → kx E R G nL cells slots ws lv (pc + 3) (st)) : kx E R G nL cells slots ws lv (pc) (.int (nI a) :: st) := by
  obtain ⟨p, e, s, m, args, below, meth, c, A, Q⟩ := G
  obtain ⟨hx, hb, hml, hown, hts, hK, hA, hN, ham, hNs, hlk⟩ := C
  intro H locs ls hP hD hS hl
  exact lv_if_eq hx hb hd ht (fun h => kt ((k_nI0 ha).mp h) H locs ls hP hD hS hl) (fun h => kf (fun z => h ((k_nI0 ha).mpr z)) H locs ls hP hD hS hl)
theorem kx_if_ne (C : kc E G cc nL own) {a : Nat} {off : Int} {tgt : Nat} (ha : a < 2 ^ 31) (hd : decode cc pc = .ok (.ifCond .ne off, 3)) (ht : (pc : Int) + off = (tgt : Int)) (kt : a ≠ 0 → kx E R G nL cells slots ws lv (tgt) (st)) (kf : a = 0 → kx E R G nL cells slots ws lv (pc + 3) (st)) : kx E R G nL cells slots ws lv (pc) (.int (nI a) :: st) := by
  obtain ⟨p, e, s, m, args, below, meth, c, A, Q⟩ := G
  obtain ⟨hx, hb, hml, hown, hts, hK, hA, hN, ham, hNs, hlk⟩ := C
  intro H locs ls hP hD hS hl
  exact lv_if_ne hx hb hd ht (fun h => kt (fun z => h ((k_nI0 ha).mpr z)) H locs ls hP hD hS hl) (fun h => kf ((k_nI0 ha).mp h) H locs ls hP hD hS hl)
theorem kx_if_gt (C : kc E G cc nL own) {a : Nat} {off : Int} {tgt : Nat} (ha : a < 2 ^ 31) (hd : decode cc pc = .ok (.ifCond .gt off, 3)) (ht : (pc : Int) + off = (tgt : Int)) (kt : 0 < a → kx E R G nL cells slots ws lv (tgt) (st)) (kf : a = 0 → kx E R G nL cells slots ws lv (pc + 3) (st)) : kx E R G nL cells slots ws lv (pc) (.int (nI a) :: st) := by
  obtain ⟨p, e, s, m, args, below, meth, c, A, Q⟩ := G
  obtain ⟨hx, hb, hml, hown, hts, hK, hA, hN, ham, hNs, hlk⟩ := C
  intro H locs ls hP hD hS hl
  exact lv_if_gt hx hb hd ht (fun h => kt ((k_nIp ha).mp h) H locs ls hP hD hS hl) (fun h => kf (Nat.eq_zero_of_not_pos fun z => h ((k_nIp ha).mpr z)) H locs ls hP hD hS hl)
theorem kx_if_le (C : kc E G cc nL own) {a : Nat} {off : Int} {tgt : Nat} (ha : a < 2 ^ 31) (hd : decode cc pc = .ok (.ifCond .le off, 3)) (ht : (pc : Int) + off = (tgt : Int)) (kt : a = 0 → kx E R G nL cells slots ws lv (tgt) (st)) (kf : 0 < a → kx E R G nL cells slots ws lv (pc + 3) (st)) : kx E R G nL cells slots ws lv (pc) (.int (nI a) :: st) := by
  obtain ⟨p, e, s, m, args, below, meth, c, A, Q⟩ := G
  obtain ⟨hx, hb, hml, hown, hts, hK, hA, hN, ham, hNs, hlk⟩ := C
  intro H locs ls hP hD hS hl
  exact lv_if_le hx hb hd ht (fun h => kt ((k_nIl ha).mp h) H locs ls hP hD hS hl) (fun h => kf (Nat.pos_of_ne_zero fun z => h ((k_nIl ha).mpr z)) H locs ls hP hD hS hl)
theorem kx_lcmp_ltR (C : kc E G cc nL own) {x y : Int64} {off : Int} {tgt : Nat} (hd : decode cc pc = .ok (.lcmp, 1)) (hd2 : decode cc (pc + 1) = .ok (.ifCond .lt off, 3)) (ht : ((pc + 1 : Nat) : Int) + off = (tgt : Int)) (kt : x < y → kx E R G nL cells slots ws lv (tgt) (st)) (kf : ¬ x < y → kx E R G nL cells slots ws lv (pc + 1 + 3) (st)) : kx E R G nL cells slots ws lv (pc) (.long y :: .long x :: st) := by
  obtain ⟨p, e, s, m, args, below, meth, c, A, Q⟩ := G
  obtain ⟨hx, hb, hml, hown, hts, hK, hA, hN, ham, hNs, hlk⟩ := C
  intro H locs ls hP hD hS hl
  refine W.lcmp hx hb hd ?_
  exact lv_if_lt hx hb hd2 ht (fun h => kt ((lg_cmp_lt x y).mp h) H locs ls hP hD hS hl) (fun h => kf (fun z => h ((lg_cmp_lt x y).mpr z)) H locs ls hP hD hS hl)
theorem kx_lcmp_lt (C : kc E G cc nL own) {a b : Nat} {off : Int} {tgt : Nat} (ha : a < 2 ^ 63) (hb2 : b < 2 ^ 63) (hd : decode cc pc = .ok (.lcmp, 1)) (hd2 : decode cc (pc + 1) = .ok (.ifCond .lt off, 3)) (ht : ((pc + 1 : Nat) : Int) + off = (tgt : Int)) (kt : a < b → kx E R G nL cells slots ws lv (tgt) (st)) (kf : b ≤ a → kx E R G nL cells slots ws lv (pc + 1 + 3) (st)) : kx E R G nL cells slots ws lv (pc) (.long (lN b) :: .long (lN a) :: st) := by
  obtain ⟨p, e, s, m, args, below, meth, c, A, Q⟩ := G
  obtain ⟨hx, hb, hml, hown, hts, hK, hA, hN, ham, hNs, hlk⟩ := C
  intro H locs ls hP hD hS hl
  refine W.lcmp hx hb hd ?_
  exact lv_if_lt hx hb hd2 ht (fun h => kt ((pk_lLT ha hb2).mp ((lg_cmp_lt _ _).mp h)) H locs ls hP hD hS hl) (fun h => kf (Nat.not_lt.mp fun z => h ((lg_cmp_lt _ _).mpr ((pk_lLT ha hb2).mpr z))) H locs ls hP hD hS hl)
theorem kx_lcmp_geR (C : kc E G cc nL own) {x y : Int64} {off : Int} {tgt : Nat} (hd : decode cc pc = .ok (.lcmp, 1)) (hd2 : decode cc (pc + 1) = .ok (.ifCond .ge off, 3)) (ht : ((pc + 1 : Nat) : Int) + off = (tgt : Int)) (kt : y ≤ x → kx E R G nL cells slots ws lv (tgt) (st)) (kf : ¬ y ≤ x → kx E R G nL cells slots ws lv (pc + 1 + 3) (st)) : kx E R G nL cells slots ws lv (pc) (.long y :: .long x :: st) := by
  obtain ⟨p, e, s, m, args, below, meth, c, A, Q⟩ := G
  obtain ⟨hx, hb, hml, hown, hts, hK, hA, hN, ham, hNs, hlk⟩ := C
  intro H locs ls hP hD hS hl
  refine W.lcmp hx hb hd ?_
  exact lv_if_ge hx hb hd2 ht (fun h => kt ((lg_cmp_ge x y).mp h) H locs ls hP hD hS hl) (fun h => kf (fun z => h ((lg_cmp_ge x y).mpr z)) H locs ls hP hD hS hl)
theorem kx_lcmp_ge (C : kc E G cc nL own) {a b : Nat} {off : Int} {tgt : Nat} (ha : a < 2 ^ 63) (hb2 : b < 2 ^ 63) (hd : decode cc pc = .ok (.lcmp, 1)) (hd2 : decode cc (pc + 1) = .ok (.ifCond .ge off, 3)) (ht : ((pc + 1 : Nat) : Int) + off = (tgt : Int)) (kt : b ≤ a → kx E R G nL cells slots ws lv (tgt) (st)) (kf : a < b → kx E R G nL cells slots ws lv (pc + 1 + 3) (st)) : kx E R G nL cells slots ws lv (pc) (.long (lN b) :: .long (lN a) :: st) := by
  obtain ⟨p, e, s, m, args, below, meth, c, A, Q⟩ := G
  obtain ⟨hx, hb, hml, hown, hts, hK, hA, hN, ham, hNs, hlk⟩ := C
  intro H locs ls hP hD hS hl
  refine W.lcmp hx hb hd ?_
  exact lv_if_ge hx hb hd2 ht (fun h => kt ((pk_lLE hb2 ha).mp ((lg_cmp_ge _ _).mp h)) H locs ls hP hD hS hl) (fun h => kf (Nat.not_le.mp fun z => h ((lg_cmp_ge _ _).mpr ((pk_lLE hb2 ha).mpr z))) H locs ls hP hD hS hl)
end KR2
def nF (P : Nat → Nat) : Nat → Int32 := fun j => nI (P j)
def lF (P : Nat → Nat) : Nat → Int64 := fun j => lN (P j)
theorem nF_up (P : Nat → Nat) (j v : Nat) : upd (nF P) j (nI v) = nF (va_up P j v) := by
  funext q
  by_cases h : q = j
  · simp [upd, nF, va_up, h]
  · simp [upd, nF, va_up, h]
theorem lF_up (P : Nat → Nat) (j v : Nat) : vp_updL (lF P) j (lN v) = lF (va_up P j v) := by
  funext q
  by_cases h : q = j
  · simp [vp_updL, lF, va_up, h]
  · simp [vp_updL, lF, va_up, h]
section KR3
variable {E : KE} {R : Room} {G : KG} {cc : ByteArray} {nL : Nat} {own : String} {cells slots : Nat} {ws : va_W} {lv : List (Nat × Value)} {pc : Nat} {st : List Value}
theorem kx_iald (C : kc E G cc nL own) (q0 : Nat) {a n : Nat} {P : Nat → Nat} (hw : ws[q0]? = some (a, .inl (kI E, n, .inl (nF P)))) {j : Nat} (hj : j < n) (hn : n < 2 ^ 31) (hd : decode cc pc = .ok (.iaload, 1)) (kk : kx E R G nL cells slots ws lv (pc + 1) (.int (nI (P j)) :: st)) : kx E R G nL cells slots ws lv (pc) (.int (nI j) :: .ref a :: st) := by
  obtain ⟨p, e, s, m, args, below, meth, c, A, Q⟩ := G
  obtain ⟨hx, hb, hml, hown, hts, hK, hA, hN, ham, hNs, hlk⟩ := C
  intro H locs ls hP hD hS hl
  refine va_iald hx hb hK hP q0 0 hw rfl (vp_in_nI hj hn) hd ?_
  rw [nI_clamp (Nat.lt_trans hj hn)]
  exact kk H locs ls hP hD hS hl
theorem kx_iast (C : kc E G cc nL own) (q0 : Nat) {a n : Nat} {P : Nat → Nat} (hw : ws[q0]? = some (a, .inl (kI E, n, .inl (nF P)))) {j v : Nat} (hj : j < n) (hn : n < 2 ^ 31) {ws2 : va_W} (h2 : ws.set q0 (a, .inl (kI E, n, .inl (nF (va_up P j v)))) = ws2) (hd : decode cc pc = .ok (.iastore, 1)) (kk : kx E R G nL cells slots ws2 lv (pc + 1) (st)) : kx E R G nL cells slots ws lv (pc) (.int (nI v) :: .int (nI j) :: .ref a :: st) := by
  obtain ⟨p, e, s, m, args, below, meth, c, A, Q⟩ := G
  obtain ⟨hx, hb, hml, hown, hts, hK, hA, hN, ham, hNs, hlk⟩ := C
  intro H locs ls hP hD hS hl
  refine va_iast hx hb hK hP hD hS q0 0 hw rfl (vp_in_nI hj hn) hd ?_
  rw [nI_clamp (Nat.lt_trans hj hn), nF_up, h2]
  exact fun H1 locs1 hP1 hD1 hS1 => kk H1 locs1 ls hP1 hD1 hS1 hl
theorem kx_lald (C : kc E G cc nL own) (q0 : Nat) {a n : Nat} {P : Nat → Nat} (hw : ws[q0]? = some (a, .inl (kL E, n, .inr (.inl (lF P))))) {j : Nat} (hj : j < n) (hn : n < 2 ^ 31) (hd : decode cc pc = .ok (.laload, 1)) (kk : kx E R G nL cells slots ws lv (pc + 1) (.long (lN (P j)) :: st)) : kx E R G nL cells slots ws lv (pc) (.int (nI j) :: .ref a :: st) := by
  obtain ⟨p, e, s, m, args, below, meth, c, A, Q⟩ := G
  obtain ⟨hx, hb, hml, hown, hts, hK, hA, hN, ham, hNs, hlk⟩ := C
  intro H locs ls hP hD hS hl
  refine va_lald hx hb hK hP q0 1 hw rfl (vp_in_nI hj hn) hd ?_
  rw [nI_clamp (Nat.lt_trans hj hn)]
  exact kk H locs ls hP hD hS hl
theorem kx_last (C : kc E G cc nL own) (q0 : Nat) {a n : Nat} {P : Nat → Nat} (hw : ws[q0]? = some (a, .inl (kL E, n, .inr (.inl (lF P))))) {j v : Nat} (hj : j < n) (hn : n < 2 ^ 31) {ws2 : va_W} (h2 : ws.set q0 (a, .inl (kL E, n, .inr (.inl (lF (va_up P j v))))) = ws2) (hd : decode cc pc = .ok (.lastore, 1)) (kk : kx E R G nL cells slots ws2 lv (pc + 1) (st)) : kx E R G nL cells slots ws lv (pc) (.long (lN v) :: .int (nI j) :: .ref a :: st) := by
  obtain ⟨p, e, s, m, args, below, meth, c, A, Q⟩ := G
  obtain ⟨hx, hb, hml, hown, hts, hK, hA, hN, ham, hNs, hlk⟩ := C
  intro H locs ls hP hD hS hl
  refine va_last hx hb hK hP hD hS q0 1 hw rfl (vp_in_nI hj hn) hd ?_
  rw [nI_clamp (Nat.lt_trans hj hn), lF_up, h2]
  exact fun H1 locs1 hP1 hD1 hS1 => kk H1 locs1 ls hP1 hD1 hS1 hl
theorem kx_get (C : kc E G cc nL own) {ref : String} {T : u_T} {N ci index a : Nat} {Cn : String} (hin : ∀ w ∈ u_ws Cn T N, w ∈ kTb) (q0 : Nat) {fs : List Value} (he : ws[q0]? = some (a, .inr (ci, fs))) (hc : kCl[ci]? = some (Cn, T, N)) (k : Nat) (hk : k < N) (hlink : Cond.fieldLink own index ref (T k).2.1 (T k).2.2.1 ∈ kTb) (href : (T k).1 = ref) {v : Value} (hv : fs[k]? = some v) (hd : decode cc pc = .ok (.getfield index, 3)) (kk : kx E R G nL cells slots ws lv (pc + 3) (v :: st)) : kx E R G nL cells slots ws lv (pc) (.ref a :: st) := by
  obtain ⟨p, e, s, m, args, below, meth, c, A, Q⟩ := G
  obtain ⟨hx, hb, hml, hown, hts, hK, hA, hN, ham, hNs, hlk⟩ := C
  intro H locs ls hP hD hS hl
  subst href
  exact va_get hx hb hts hin hown hK hP q0 he hc k hk (hts _ hlink) (fun _ h9 => h9) hv hd (kk H locs ls hP hD hS hl)
theorem kx_put (C : kc E G cc nL own) {ref : String} {T : u_T} {N ci index a : Nat} {Cn : String} (hin : ∀ w ∈ u_ws Cn T N, w ∈ kTb) {ty0 : Nat → FieldType} (hty : ∀ k, k < N → parseFieldDescriptor (T k).2.2.1 = some (ty0 k)) (hnm : ∀ a, a < N → ∀ b, b < N → a ≠ b → (T a).2.1 ≠ (T b).2.1) (q0 : Nat) {fs : List Value} (he : ws[q0]? = some (a, .inr (ci, fs))) (hc : kCl[ci]? = some (Cn, T, N)) (k : Nat) (hk : k < N) (hlink : Cond.fieldLink own index ref (T k).2.1 (T k).2.2.1 ∈ kTb) (href : (T k).1 = ref) (hfin : (T k).2.2.2 = false) {v : Value} (hn : narrow (ty0 k) v = v) (hfit : fits (ty0 k) v = true) (hl2 : k < fs.length) {ws2 : va_W} (h2 : ws.set q0 (a, .inr (ci, fs.set k v)) = ws2) (hd : decode cc pc = .ok (.putfield index, 3)) (kk : kx E R G nL cells slots ws2 lv (pc + 3) (st)) : kx E R G nL cells slots ws lv (pc) (v :: .ref a :: st) := by
  obtain ⟨p, e, s, m, args, below, meth, c, A, Q⟩ := G
  obtain ⟨hx, hb, hml, hown, hts, hK, hA, hN, ham, hNs, hlk⟩ := C
  intro H locs ls hP hD hS hl
  subst href
  subst h2
  exact va_put hx hb hts hin ty0 hty hnm hown hK hP hD hS q0 he hc k hk (hts _ hlink) (fun _ h9 => h9) hfin (hty k hk) hn hfit hl2 hd (fun H1 locs1 hP1 hD1 hS1 => kk H1 locs1 ls hP1 hD1 hS1 hl)
end KR3
theorem k_set_self {α : Type} {l : List α} {k : Nat} {x : α} (h : l[k]? = some x) : l.set k x = l := by
  apply List.ext_getElem?
  intro j
  rw [List.getElem?_set]
  by_cases e : k = j
  · subst e
    rw [if_pos rfl, h]
    have := (List.getElem?_eq_some_iff.mp h).1
    simp [this]
  · rw [if_neg e]
section KR5
variable {E : KE} {R : Room} {G : KG} {cc : ByteArray} {nL : Nat} {own : String} {cells slots : Nat} {ws : va_W} {lv : List (Nat × Value)} {pc : Nat} {st : List Value}
theorem kx_topn {a b : Nat} (h : a = b) (kk : kx E R G nL cells slots ws lv (pc) (.int (nI b) :: st)) : kx E R G nL cells slots ws lv (pc) (.int (nI a) :: st) := h ▸ kk
theorem kx_topL {a b : Nat} (h : a = b) (kk : kx E R G nL cells slots ws lv (pc) (.long (lN b) :: st)) : kx E R G nL cells slots ws lv (pc) (.long (lN a) :: st) := h ▸ kk
theorem kx_topi {a b : Int32} (h : a = b) (kk : kx E R G nL cells slots ws lv (pc) (.int b :: st)) : kx E R G nL cells slots ws lv (pc) (.int a :: st) := h ▸ kk
theorem kx_lvv {i : Nat} {x z : Value} {lv2 : List (Nat × Value)} (h : x = z) (k : Nat) (hk : lv[k]? = some (i, x)) (h2 : lv.set k (i, z) = lv2) (kk : kx E R G nL cells slots ws lv2 (pc) (st)) : kx E R G nL cells slots ws lv (pc) (st) := by
  subst h
  rw [k_set_self hk] at h2
  exact h2 ▸ kk
theorem kx_lvn {i a b : Nat} {lv2 : List (Nat × Value)} (h : a = b) (k : Nat) (hk : lv[k]? = some (i, .int (nI a))) (h2 : lv.set k (i, .int (nI b)) = lv2) (kk : kx E R G nL cells slots ws lv2 (pc) (st)) : kx E R G nL cells slots ws lv (pc) (st) := kx_lvv (by rw [h]) k hk h2 kk
theorem kx_lvL {i a b : Nat} {lv2 : List (Nat × Value)} (h : a = b) (k : Nat) (hk : lv[k]? = some (i, .long (lN a))) (h2 : lv.set k (i, .long (lN b)) = lv2) (kk : kx E R G nL cells slots ws lv2 (pc) (st)) : kx E R G nL cells slots ws lv (pc) (st) := kx_lvv (by rw [h]) k hk h2 kk
end KR5
end
