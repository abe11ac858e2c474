def kStr : List (Nat × String) := [(163, "a number is outside what is told"), (63, "there are 40 slices"), (72, "the weight would be above 200"), (74, "there is no slice"), (104, "there is no such place among the best walks"), (123, "the next cost is 0"), (126, "there is no change below 0"), (135, "the first slice is behind the last one"), (145, "there is no such number to tell")]
/-- the profiles at first -/
def kFP (j : Nat) : Nat := [5, 0, 3, 0, 3, 3, 0, 3, 0, 3, 0, 3, 5, 0, 3, 3, 0, 3, 0, 3, 3, 0, 0, 3].getD j 0
/-! what is given at the start and stays: the table of first profiles, two statics of Throwable, the texts of throws -/
/-- words of the tables that a call may rely on -/
def kTb : List Cond := lw_tbl.filter goodWord
theorem kTb_in {w : Cond} (h : w ∈ lw_tbl) (g : goodWord w = true) : w ∈ kTb := List.mem_filter.mpr ⟨h, g⟩
theorem kTb_good {w : Cond} (h : w ∈ kTb) : (w.onTables && w.keeps) = true ∨ ∃ ty, w = .arrayClass ty := good_of_word (List.mem_filter.mp h).2
theorem kgV {own Cn : String} {index : Nat} {y : MethodName} {w : Cond} (h1 : Cond.methodLink own index y ∈ kTb) (h2 : Cond.instanceMethod y ∈ kTb) (h3 : Cond.selects Cn y y ∈ kTb) (h4 : Cond.initialized Cn ∈ kTb) (h5 : w ∈ kTb) : GoodIn kTb (wsV own index Cn y (w :: kTb)) := by
  intro v hv
  have hm : v ∈ kTb := by
    simp only [wsV, List.cons_append, List.nil_append, List.mem_cons] at hv
    rcases hv with rfl | rfl | rfl | rfl | rfl | hv
    · exact h1
    · exact h2
    · exact h3
    · exact h4
    · exact h5
    · exact hv
  exact ⟨hm, kTb_good hm⟩
theorem kgS {own : String} {index : Nat} {y : MethodName} {w : Cond} (h1 : Cond.methodLink own index y ∈ kTb) (h2 : Cond.static y ∈ kTb) (h4 : Cond.initialized y.cls ∈ kTb) (h5 : w ∈ kTb) : GoodIn kTb (va_wsS own index y (w :: kTb)) := by
  intro v hv
  have hm : v ∈ kTb := by
    simp only [va_wsS, List.cons_append, List.nil_append, List.mem_cons] at hv
    rcases hv with rfl | rfl | rfl | rfl | hv
    · exact h1
    · exact h2
    · exact h4
    · exact h5
    · exact hv
  exact ⟨hm, kTb_good hm⟩
/-- words of the tables that a call doesn't carry, but that stay -/
def kFa : List Cond := lw_tbl.filter (fun w => w.faceAtom && w.onTables)
def kOwn : String := "KeyWalks"
def amb (N0 : Nat) (U : State) (H : Heap) : Prop :=
  (∃ t : Nat, va_Z "KeyWalks" "FIRST_PROFILES" "[I" (.ref t) (fun q : Nat => N0 ≤ q) U H ∧ va_T .int t 24 (fun j => .int (nI (kFP j))) (fun q : Nat => N0 ≤ q) U H) ∧
  vx_Zq Bundle.tN "UNASSIGNED_STACK" Bundle.steD (fun q : Nat => N0 ≤ q) U H ∧ vx_Zq Bundle.tN "SUPPRESSED_SENTINEL" Bundle.listD (fun q : Nat => N0 ≤ q) U H ∧ (∀ x ∈ kStr, ∃ a : Nat, vk_R kOwn x.1 x.2 a U) ∧ ∀ w ∈ kFa, w.before #[] U = true
theorem fa_alike {u U : State} {w : Cond} (hw : w ∈ kFa) (ha : u.vm.Alike U.vm) (h : w.before #[] u = true) : w.before #[] U = true := by
  have h0 := (List.mem_filter.mp hw).2
  simp only [Bool.and_eq_true] at h0
  have h1 := Cond.faceAtom_setVm ha w h0.1 h
  exact va_tabs (u := u.setVm U.vm) h0.2 rfl h1
theorem amb_kept {N0 : Nat} {U : State} {H H1 : Heap} (h : amb N0 U H) (hq : ∀ a : Nat, a < H.size → ¬ (N0 ≤ a) → H1[a]? = H[a]?) : amb N0 U H1 := by
  obtain ⟨⟨t, h1, h2⟩, h3, h4, h5, h6⟩ := h
  exact ⟨⟨t, h1.kept hq, h2.kept hq⟩, h3.kept hq, h4.kept hq, h5, h6⟩
theorem amb_warm {N0 : Nat} {u U : State} {H : Heap} (hW : u.WarmedH U.vm) (h : amb N0 u H) : amb N0 U H := by
  obtain ⟨⟨t, h1, h2⟩, h3, h4, h5, h6⟩ := h
  exact ⟨⟨t, h1.moved hW.alike, h2.moved hW.alike⟩, h3.moved hW.alike, h4.moved hW.alike, fun x hx => ⟨_, (h5 x hx).choose_spec.warm hW⟩, fun w hw => fa_alike hw hW.alike (h6 w hw)⟩
theorem amb_same {N0 : Nat} {u U : State} {H : Heap} (hv : U.vm = u.vm) (h : amb N0 u H) : amb N0 U H := by
  have ha : u.vm.Alike U.vm := by rw [hv]; exact Vm.Alike.refl _
  obtain ⟨⟨t, h1, h2⟩, h3, h4, h5, h6⟩ := h
  exact ⟨⟨t, h1.moved ha, h2.moved ha⟩, h3.moved ha, h4.moved ha, fun x hx => ⟨_, (h5 x hx).choose_spec.same hv⟩, fun w hw => fa_alike hw ha (h6 w hw)⟩
theorem amb_str {N0 : Nat} {U : State} {H : Heap} {x : Nat × String} (h : amb N0 U H) (hx : x ∈ kStr) : ∃ a : Nat, vk_R kOwn x.1 x.2 a U := h.2.2.2.1 x hx
theorem amb_fa {N0 : Nat} {U : State} {H : Heap} {A : Array Value} {w : Cond} (h : amb N0 U H) (hw : w ∈ kFa) : w.before A U = true := va_any (by have := (List.mem_filter.mp hw).2; simp only [Bool.and_eq_true] at this; exact this.2) (h.2.2.2.2 w hw)
theorem amb_U {N0 : Nat} {U : State} {H : Heap} {A : Nat → Prop} (hA : ∀ q : Nat, A q → N0 ≤ q) (h : amb N0 U H) : vx_Zq Bundle.tN "UNASSIGNED_STACK" Bundle.steD A U H := h.2.1.narrow hA
theorem amb_S {N0 : Nat} {U : State} {H : Heap} {A : Nat → Prop} (hA : ∀ q : Nat, A q → N0 ≤ q) (h : amb N0 U H) : vx_Zq Bundle.tN "SUPPRESSED_SENTINEL" Bundle.listD A U H := h.2.2.1.narrow hA
