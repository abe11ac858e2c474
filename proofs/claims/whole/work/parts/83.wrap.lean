/-- what the law's methods answer: 0 and the answer in the cell, or the number of the handler -/
def kZl (r : Int32) : Int64 := if r = 0 then lN 0 else lN 1
def kH1 (E : KE) (ob : Nat) (f0 : Nat → Int64) (n1 : String) (cv : Int32 → Int64) (post : Int32 → va_W → Prop) (px : String → va_W → Prop) (r : Int32) (w : va_W) : Prop :=
  (r = nI 0 ∧ ∃ (r9 : Int32) (w9 : va_W) (f : Nat → Int64), post r9 w9 ∧ f 0 = cv r9 ∧ w = kOu E ob f :: w9) ∨ (r = nI 1 ∧ ∃ w9 : va_W, px n1 w9 ∧ w = kOu E ob f0 :: w9)
def kH2 (E : KE) (ob : Nat) (f0 : Nat → Int64) (n1 n2 : String) (post : Int32 → va_W → Prop) (px : String → va_W → Prop) (r : Int32) (w : va_W) : Prop :=
  (r = nI 0 ∧ ∃ (r9 : Int32) (w9 : va_W) (f : Nat → Int64), post r9 w9 ∧ f 0 = r9.toInt64 ∧ w = kOu E ob f :: w9) ∨ (r = nI 1 ∧ ∃ w9 : va_W, px n1 w9 ∧ w = kOu E ob f0 :: w9) ∨ (r = nI 2 ∧ ∃ w9 : va_W, px n2 w9 ∧ w = kOu E ob f0 :: w9)

set_option maxRecDepth 100000 in
theorem cw_profile : Cond.codeWith yL_profile cL_profile 6 (some .int) [(0, 12, 15, 13)] ∈ kTb := kTb_in (List.mem_append_right _ (List.mem_of_getElem? (i := 170) rfl)) rfl
set_option maxHeartbeats 4000000 in
set_option maxRecDepth 100000 in
theorem l_profile (E : KE) (K : Nat → Nat) (b y o n ls bc tk hk : Nat) (P Wt Tu Sc Ta Wa He Fk Pk : Nat → Nat) (ob : Nat) (f0 : Nat → Int64) (x0 : Int32) (x1 : Int32) (x2 : Int32) {post : Int32 → va_W → Prop} {px : String → va_W → Prop} (hM : kTi E yX0_profile cX0_profile 6 (rk 10 1) [.ref (K 0), .int (x0), .int (x1), .int (x2)] (kwW E K b y o n ls bc tk hk P Wt Tu Sc Ta Wa He Fk Pk) post px) (hpx : ∀ n9 w, px n9 w → n9 = kIAE) : kHi E yL_profile cL_profile 6 [(0, 12, 15, 13)] (rk 11 1) [.ref (K 0), .int (x0), .int (x1), .int (x2), .ref (ob)] (kOu E ob f0 :: (kwW E K b y o n ls bc tk hk P Wt Tu Sc Ta Wa He Fk Pk)) (kH1 E ob f0 kIAE Int32.toInt64 post px) := by
  refine kHi_of (cc := cL_profile) (maxL := 6) (by decide) (Nat.le_of_ble_eq_true rfl) ?_
  intro G C ht hHP hE
  refine kx_aload C dL_profile_0 4 rfl ?_
  refine kx_iconst (v := nI 0) C dL_profile_2 (by decide +kernel) ?_
  refine kx_aload_n C dL_profile_3 rfl 0 rfl ?_
  refine kx_iload_n C dL_profile_4 rfl 1 rfl ?_
  refine kx_iload_n C dL_profile_5 rfl 2 rfl ?_
  refine kx_iload_n C dL_profile_6 rfl 3 rfl ?_
  refine kx_callViT (rest := [.int (nI 0), .ref ob]) (wr := [kOu E ob f0]) C hM gL_7 3 rfl (by decide +kernel) ⟨Nat.le_of_ble_eq_true rfl, Nat.le_of_ble_eq_true rfl⟩ ⟨Nat.le_of_ble_eq_true rfl, Nat.le_of_ble_eq_true rfl⟩ [1, 2, 3, 4, 5, 6, 7, 8, 9, 10] [0] rfl rfl (by decide) (by decide) (by decide) 0 rfl rfl rfl (Nat.le_of_ble_eq_true rfl) dL_profile_7 (fun n9 w9 hx => ?_) (fun r9 w9 hp => ?_)
  · skip
    obtain rfl := hpx _ _ hx
    refine kxx_catch C ht [] ⟨0, 12, 15, 13⟩ [] rfl (fun z hz => by cases hz) (by decide) (by decide) k_cl13 k_ca13 (fun q => ?_)
    show kx E (rk 11 1) G 6 _ _ _ _ 15 _
    refine kx_astore (lv2 := [(5, .ref (q)), (0, .ref (K 0)), (1, .int (x0)), (2, .int (x1)), (3, .int (x2)), (4, .ref (ob))]) C dL_profile_15 (by decide) rfl ?_
    refine kx_iconst (v := nI 1) C dL_profile_17 (by decide +kernel) ?_
    exact hE (Nat.le_of_ble_eq_true rfl) (Nat.le_of_ble_eq_true rfl) dL_profile_18 (Or.inr ⟨rfl, w9, hx, rfl⟩)
  refine kx_i2l (v := (r9).toInt64) C dL_profile_10 rfl ?_
  refine kx_lastO (x := (r9).toInt64) (ws2 := kOu E ob (vp_updL f0 0 ((r9).toInt64)) :: w9) C 0 rfl rfl dL_profile_11 ?_
  refine kx_goto (tgt := 19) C dL_profile_12 (by decide) ?_
  refine kx_iconst (v := nI 0) C dL_profile_19 (by decide +kernel) ?_
  exact hE (Nat.le_of_ble_eq_true rfl) (Nat.le_of_ble_eq_true rfl) dL_profile_20 (Or.inl ⟨rfl, r9, w9, _, hp, pk_uLs, rfl⟩)

set_option maxRecDepth 100000 in
theorem cw_costs : Cond.codeWith yL_costs cL_costs 6 (some .int) [(0, 12, 15, 13)] ∈ kTb := kTb_in (List.mem_append_right _ (List.mem_of_getElem? (i := 249) rfl)) rfl
set_option maxHeartbeats 4000000 in
set_option maxRecDepth 100000 in
theorem l_costs (E : KE) (K : Nat → Nat) (b y o n ls bc tk hk : Nat) (P Wt Tu Sc Ta Wa He Fk Pk : Nat → Nat) (ob : Nat) (f0 : Nat → Int64) (x0 : Int32) (x1 : Int32) (x2 : Int32) {post : Int32 → va_W → Prop} {px : String → va_W → Prop} (hM : kTi E yX0_costs cX0_costs 5 (rk 10 1) [.ref (K 0), .int (x0), .int (x1), .int (x2)] (kwW E K b y o n ls bc tk hk P Wt Tu Sc Ta Wa He Fk Pk) post px) (hpx : ∀ n9 w, px n9 w → n9 = kIAE) : kHi E yL_costs cL_costs 6 [(0, 12, 15, 13)] (rk 11 1) [.ref (K 0), .int (x0), .int (x1), .int (x2), .ref (ob)] (kOu E ob f0 :: (kwW E K b y o n ls bc tk hk P Wt Tu Sc Ta Wa He Fk Pk)) (kH1 E ob f0 kIAE Int32.toInt64 post px) := by
  refine kHi_of (cc := cL_costs) (maxL := 6) (by decide) (Nat.le_of_ble_eq_true rfl) ?_
  intro G C ht hHP hE
  refine kx_aload C dL_costs_0 4 rfl ?_
  refine kx_iconst (v := nI 0) C dL_costs_2 (by decide +kernel) ?_
  refine kx_aload_n C dL_costs_3 rfl 0 rfl ?_
  refine kx_iload_n C dL_costs_4 rfl 1 rfl ?_
  refine kx_iload_n C dL_costs_5 rfl 2 rfl ?_
  refine kx_iload_n C dL_costs_6 rfl 3 rfl ?_
  refine kx_callViT (rest := [.int (nI 0), .ref ob]) (wr := [kOu E ob f0]) C hM gL_15 3 rfl (by decide +kernel) ⟨Nat.le_of_ble_eq_true rfl, Nat.le_of_ble_eq_true rfl⟩ ⟨Nat.le_of_ble_eq_true rfl, Nat.le_of_ble_eq_true rfl⟩ [1, 2, 3, 4, 5, 6, 7, 8, 9, 10] [0] rfl rfl (by decide) (by decide) (by decide) 0 rfl rfl rfl (Nat.le_of_ble_eq_true rfl) dL_costs_7 (fun n9 w9 hx => ?_) (fun r9 w9 hp => ?_)
  · skip
    obtain rfl := hpx _ _ hx
    refine kxx_catch C ht [] ⟨0, 12, 15, 13⟩ [] rfl (fun z hz => by cases hz) (by decide) (by decide) k_cl13 k_ca13 (fun q => ?_)
    show kx E (rk 11 1) G 6 _ _ _ _ 15 _
    refine kx_astore (lv2 := [(5, .ref (q)), (0, .ref (K 0)), (1, .int (x0)), (2, .int (x1)), (3, .int (x2)), (4, .ref (ob))]) C dL_costs_15 (by decide) rfl ?_
    refine kx_iconst (v := nI 1) C dL_costs_17 (by decide +kernel) ?_
    exact hE (Nat.le_of_ble_eq_true rfl) (Nat.le_of_ble_eq_true rfl) dL_costs_18 (Or.inr ⟨rfl, w9, hx, rfl⟩)
  refine kx_i2l (v := (r9).toInt64) C dL_costs_10 rfl ?_
  refine kx_lastO (x := (r9).toInt64) (ws2 := kOu E ob (vp_updL f0 0 ((r9).toInt64)) :: w9) C 0 rfl rfl dL_costs_11 ?_
  refine kx_goto (tgt := 19) C dL_costs_12 (by decide) ?_
  refine kx_iconst (v := nI 0) C dL_costs_19 (by decide +kernel) ?_
  exact hE (Nat.le_of_ble_eq_true rfl) (Nat.le_of_ble_eq_true rfl) dL_costs_20 (Or.inl ⟨rfl, r9, w9, _, hp, pk_uLs, rfl⟩)

set_option maxRecDepth 100000 in
theorem cw_slice : Cond.codeWith yL_slice cL_slice 3 (some .int) [(0, 8, 11, 22)] ∈ kTb := kTb_in (List.mem_append_right _ (List.mem_of_getElem? (i := 256) rfl)) rfl
set_option maxHeartbeats 4000000 in
set_option maxRecDepth 100000 in
theorem l_slice (E : KE) (K : Nat → Nat) (b y o n ls bc tk hk : Nat) (P Wt Tu Sc Ta Wa He Fk Pk : Nat → Nat) (ob : Nat) (f0 : Nat → Int64) {post : Int32 → va_W → Prop} {px : String → va_W → Prop} (hM : kTi E yX0_slice cX0_slice 3 (rk 10 1) [.ref (K 0)] (kwW E K b y o n ls bc tk hk P Wt Tu Sc Ta Wa He Fk Pk) post px) (hpx : ∀ n9 w, px n9 w → n9 = kISE) : kHi E yL_slice cL_slice 3 [(0, 8, 11, 22)] (rk 11 1) [.ref (K 0), .ref (ob)] (kOu E ob f0 :: (kwW E K b y o n ls bc tk hk P Wt Tu Sc Ta Wa He Fk Pk)) (kH1 E ob f0 kISE Int32.toInt64 post px) := by
  refine kHi_of (cc := cL_slice) (maxL := 3) (by decide) (Nat.le_of_ble_eq_true rfl) ?_
  intro G C ht hHP hE
  refine kx_aload_n C dL_slice_0 rfl 1 rfl ?_
  refine kx_iconst (v := nI 0) C dL_slice_1 (by decide +kernel) ?_
  refine kx_aload_n C dL_slice_2 rfl 0 rfl ?_
  refine kx_callViT (rest := [.int (nI 0), .ref ob]) (wr := [kOu E ob f0]) C hM gL_18 0 rfl (by decide +kernel) ⟨Nat.le_of_ble_eq_true rfl, Nat.le_of_ble_eq_true rfl⟩ ⟨Nat.le_of_ble_eq_true rfl, Nat.le_of_ble_eq_true rfl⟩ [1, 2, 3, 4, 5, 6, 7, 8, 9, 10] [0] rfl rfl (by decide) (by decide) (by decide) 0 rfl rfl rfl (Nat.le_of_ble_eq_true rfl) dL_slice_3 (fun n9 w9 hx => ?_) (fun r9 w9 hp => ?_)
  · skip
    obtain rfl := hpx _ _ hx
    refine kxx_catch C ht [] ⟨0, 8, 11, 22⟩ [] rfl (fun z hz => by cases hz) (by decide) (by decide) k_cl22 k_ca22 (fun q => ?_)
    show kx E (rk 11 1) G 3 _ _ _ _ 11 _
    refine kx_astore_n (lv2 := [(2, .ref (q)), (0, .ref (K 0)), (1, .ref (ob))]) C dL_slice_11 rfl (by decide) rfl ?_
    refine kx_iconst (v := nI 1) C dL_slice_12 (by decide +kernel) ?_
    exact hE (Nat.le_of_ble_eq_true rfl) (Nat.le_of_ble_eq_true rfl) dL_slice_13 (Or.inr ⟨rfl, w9, hx, rfl⟩)
  refine kx_i2l (v := (r9).toInt64) C dL_slice_6 rfl ?_
  refine kx_lastO (x := (r9).toInt64) (ws2 := kOu E ob (vp_updL f0 0 ((r9).toInt64)) :: w9) C 0 rfl rfl dL_slice_7 ?_
  refine kx_goto (tgt := 14) C dL_slice_8 (by decide) ?_
  refine kx_iconst (v := nI 0) C dL_slice_14 (by decide +kernel) ?_
  exact hE (Nat.le_of_ble_eq_true rfl) (Nat.le_of_ble_eq_true rfl) dL_slice_15 (Or.inl ⟨rfl, r9, w9, _, hp, pk_uLs, rfl⟩)

set_option maxRecDepth 100000 in
theorem cw_note : Cond.codeWith yL_note cL_note 6 (some .int) [(0, 12, 15, 13), (0, 12, 19, 22)] ∈ kTb := kTb_in (List.mem_append_right _ (List.mem_of_getElem? (i := 280) rfl)) rfl
set_option maxHeartbeats 4000000 in
set_option maxRecDepth 100000 in
theorem l_note (E : KE) (K : Nat → Nat) (b y o n ls bc tk hk : Nat) (P Wt Tu Sc Ta Wa He Fk Pk : Nat → Nat) (ob : Nat) (f0 : Nat → Int64) (x0 : Int32) (x1 : Int32) (x2 : Int32) {post : Int32 → va_W → Prop} {px : String → va_W → Prop} (hM : kTi E yX0_note cX0_note 6 (rk 10 1) [.ref (K 0), .int (x0), .int (x1), .int (x2)] (kwW E K b y o n ls bc tk hk P Wt Tu Sc Ta Wa He Fk Pk) post px) (hpx : ∀ n9 w, px n9 w → n9 = kIAE ∨ n9 = kISE) : kHi E yL_note cL_note 6 [(0, 12, 15, 13), (0, 12, 19, 22)] (rk 11 1) [.ref (K 0), .int (x0), .int (x1), .int (x2), .ref (ob)] (kOu E ob f0 :: (kwW E K b y o n ls bc tk hk P Wt Tu Sc Ta Wa He Fk Pk)) (kH2 E ob f0 kIAE kISE post px) := by
  refine kHi_of (cc := cL_note) (maxL := 6) (by decide) (Nat.le_of_ble_eq_true rfl) ?_
  intro G C ht hHP hE
  refine kx_aload C dL_note_0 4 rfl ?_
  refine kx_iconst (v := nI 0) C dL_note_2 (by decide +kernel) ?_
  refine kx_aload_n C dL_note_3 rfl 0 rfl ?_
  refine kx_iload_n C dL_note_4 rfl 1 rfl ?_
  refine kx_iload_n C dL_note_5 rfl 2 rfl ?_
  refine kx_iload_n C dL_note_6 rfl 3 rfl ?_
  refine kx_callViT (rest := [.int (nI 0), .ref ob]) (wr := [kOu E ob f0]) C hM gL_24 3 rfl (by decide +kernel) ⟨Nat.le_of_ble_eq_true rfl, Nat.le_of_ble_eq_true rfl⟩ ⟨Nat.le_of_ble_eq_true rfl, Nat.le_of_ble_eq_true rfl⟩ [1, 2, 3, 4, 5, 6, 7, 8, 9, 10] [0] rfl rfl (by decide) (by decide) (by decide) 0 rfl rfl rfl (Nat.le_of_ble_eq_true rfl) dL_note_7 (fun n9 w9 hx => ?_) (fun r9 w9 hp => ?_)
  · skip
    rcases hpx _ _ hx with rfl | rfl
    · skip
      refine kxx_catch C ht [] ⟨0, 12, 15, 13⟩ [⟨0, 12, 19, 22⟩] rfl (fun z hz => by cases hz) (by decide) (by decide) k_cl13 k_ca13 (fun q => ?_)
      show kx E (rk 11 1) G 6 _ _ _ _ 15 _
      refine kx_astore (lv2 := [(5, .ref (q)), (0, .ref (K 0)), (1, .int (x0)), (2, .int (x1)), (3, .int (x2)), (4, .ref (ob))]) C dL_note_15 (by decide) rfl ?_
      refine kx_iconst (v := nI 1) C dL_note_17 (by decide +kernel) ?_
      exact hE (Nat.le_of_ble_eq_true rfl) (Nat.le_of_ble_eq_true rfl) dL_note_18 (Or.inr (Or.inl ⟨rfl, w9, hx, rfl⟩))
    · skip
      refine kxx_catch C ht [⟨0, 12, 15, 13⟩] ⟨0, 12, 19, 22⟩ [] rfl (fun z hz => by obtain rfl := List.mem_singleton.mp hz; exact Or.inr ⟨by decide, kIAE, k_cl13, hHP.1⟩) (by decide) (by decide) k_cl22 k_ca22 (fun q => ?_)
      show kx E (rk 11 1) G 6 _ _ _ _ 19 _
      refine kx_astore (lv2 := [(5, .ref (q)), (0, .ref (K 0)), (1, .int (x0)), (2, .int (x1)), (3, .int (x2)), (4, .ref (ob))]) C dL_note_19 (by decide) rfl ?_
      refine kx_iconst (v := nI 2) C dL_note_21 (by decide +kernel) ?_
      exact hE (Nat.le_of_ble_eq_true rfl) (Nat.le_of_ble_eq_true rfl) dL_note_22 (Or.inr (Or.inr ⟨rfl, w9, hx, rfl⟩))
  refine kx_i2l (v := (r9).toInt64) C dL_note_10 rfl ?_
  refine kx_lastO (x := (r9).toInt64) (ws2 := kOu E ob (vp_updL f0 0 ((r9).toInt64)) :: w9) C 0 rfl rfl dL_note_11 ?_
  refine kx_goto (tgt := 23) C dL_note_12 (by decide) ?_
  refine kx_iconst (v := nI 0) C dL_note_23 (by decide +kernel) ?_
  exact hE (Nat.le_of_ble_eq_true rfl) (Nat.le_of_ble_eq_true rfl) dL_note_24 (Or.inl ⟨rfl, r9, w9, _, hp, pk_uLs, rfl⟩)

set_option maxRecDepth 100000 in
theorem cw_drop : Cond.codeWith yL_drop cL_drop 3 (some .int) [(0, 8, 11, 22)] ∈ kTb := kTb_in (List.mem_append_right _ (List.mem_of_getElem? (i := 292) rfl)) rfl
set_option maxHeartbeats 4000000 in
set_option maxRecDepth 100000 in
theorem l_drop (E : KE) (K : Nat → Nat) (b y o n ls bc tk hk : Nat) (P Wt Tu Sc Ta Wa He Fk Pk : Nat → Nat) (ob : Nat) (f0 : Nat → Int64) {post : Int32 → va_W → Prop} {px : String → va_W → Prop} (hM : kTi E yX0_drop cX0_drop 1 (rk 10 1) [.ref (K 0)] (kwW E K b y o n ls bc tk hk P Wt Tu Sc Ta Wa He Fk Pk) post px) (hpx : ∀ n9 w, px n9 w → n9 = kISE) : kHi E yL_drop cL_drop 3 [(0, 8, 11, 22)] (rk 11 1) [.ref (K 0), .ref (ob)] (kOu E ob f0 :: (kwW E K b y o n ls bc tk hk P Wt Tu Sc Ta Wa He Fk Pk)) (kH1 E ob f0 kISE Int32.toInt64 post px) := by
  refine kHi_of (cc := cL_drop) (maxL := 3) (by decide) (Nat.le_of_ble_eq_true rfl) ?_
  intro G C ht hHP hE
  refine kx_aload_n C dL_drop_0 rfl 1 rfl ?_
  refine kx_iconst (v := nI 0) C dL_drop_1 (by decide +kernel) ?_
  refine kx_aload_n C dL_drop_2 rfl 0 rfl ?_
  refine kx_callViT (rest := [.int (nI 0), .ref ob]) (wr := [kOu E ob f0]) C hM gL_27 0 rfl (by decide +kernel) ⟨Nat.le_of_ble_eq_true rfl, Nat.le_of_ble_eq_true rfl⟩ ⟨Nat.le_of_ble_eq_true rfl, Nat.le_of_ble_eq_true rfl⟩ [1, 2, 3, 4, 5, 6, 7, 8, 9, 10] [0] rfl rfl (by decide) (by decide) (by decide) 0 rfl rfl rfl (Nat.le_of_ble_eq_true rfl) dL_drop_3 (fun n9 w9 hx => ?_) (fun r9 w9 hp => ?_)
  · skip
    obtain rfl := hpx _ _ hx
    refine kxx_catch C ht [] ⟨0, 8, 11, 22⟩ [] rfl (fun z hz => by cases hz) (by decide) (by decide) k_cl22 k_ca22 (fun q => ?_)
    show kx E (rk 11 1) G 3 _ _ _ _ 11 _
    refine kx_astore_n (lv2 := [(2, .ref (q)), (0, .ref (K 0)), (1, .ref (ob))]) C dL_drop_11 rfl (by decide) rfl ?_
    refine kx_iconst (v := nI 1) C dL_drop_12 (by decide +kernel) ?_
    exact hE (Nat.le_of_ble_eq_true rfl) (Nat.le_of_ble_eq_true rfl) dL_drop_13 (Or.inr ⟨rfl, w9, hx, rfl⟩)
  refine kx_i2l (v := (r9).toInt64) C dL_drop_6 rfl ?_
  refine kx_lastO (x := (r9).toInt64) (ws2 := kOu E ob (vp_updL f0 0 ((r9).toInt64)) :: w9) C 0 rfl rfl dL_drop_7 ?_
  refine kx_goto (tgt := 14) C dL_drop_8 (by decide) ?_
  refine kx_iconst (v := nI 0) C dL_drop_14 (by decide +kernel) ?_
  exact hE (Nat.le_of_ble_eq_true rfl) (Nat.le_of_ble_eq_true rfl) dL_drop_15 (Or.inl ⟨rfl, r9, w9, _, hp, pk_uLs, rfl⟩)

set_option maxRecDepth 100000 in
theorem cw_fit : Cond.codeWith yL_fit cL_fit 5 (some .int) [(0, 10, 13, 13)] ∈ kTb := kTb_in (List.mem_append_right _ (List.mem_of_getElem? (i := 300) rfl)) rfl
set_option maxHeartbeats 4000000 in
set_option maxRecDepth 100000 in
theorem l_fit (E : KE) (K : Nat → Nat) (b y o n ls bc tk hk : Nat) (P Wt Tu Sc Ta Wa He Fk Pk : Nat → Nat) (ob : Nat) (f0 : Nat → Int64) (x0 : Int32) (x1 : Int32) {post : Int32 → va_W → Prop} {px : String → va_W → Prop} (hM : kTi E yX0_fit cX0_fit 3 (rk 10 1) [.ref (K 0), .int (x0), .int (x1)] (kwW E K b y o n ls bc tk hk P Wt Tu Sc Ta Wa He Fk Pk) post px) (hpx : ∀ n9 w, px n9 w → n9 = kIAE) : kHi E yL_fit cL_fit 5 [(0, 10, 13, 13)] (rk 11 1) [.ref (K 0), .int (x0), .int (x1), .ref (ob)] (kOu E ob f0 :: (kwW E K b y o n ls bc tk hk P Wt Tu Sc Ta Wa He Fk Pk)) (kH1 E ob f0 kIAE Int32.toInt64 post px) := by
  refine kHi_of (cc := cL_fit) (maxL := 5) (by decide) (Nat.le_of_ble_eq_true rfl) ?_
  intro G C ht hHP hE
  refine kx_aload_n C dL_fit_0 rfl 3 rfl ?_
  refine kx_iconst (v := nI 0) C dL_fit_1 (by decide +kernel) ?_
  refine kx_aload_n C dL_fit_2 rfl 0 rfl ?_
  refine kx_iload_n C dL_fit_3 rfl 1 rfl ?_
  refine kx_iload_n C dL_fit_4 rfl 2 rfl ?_
  refine kx_callViT (rest := [.int (nI 0), .ref ob]) (wr := [kOu E ob f0]) C hM gL_30 2 rfl (by decide +kernel) ⟨Nat.le_of_ble_eq_true rfl, Nat.le_of_ble_eq_true rfl⟩ ⟨Nat.le_of_ble_eq_true rfl, Nat.le_of_ble_eq_true rfl⟩ [1, 2, 3, 4, 5, 6, 7, 8, 9, 10] [0] rfl rfl (by decide) (by decide) (by decide) 0 rfl rfl rfl (Nat.le_of_ble_eq_true rfl) dL_fit_5 (fun n9 w9 hx => ?_) (fun r9 w9 hp => ?_)
  · skip
    obtain rfl := hpx _ _ hx
    refine kxx_catch C ht [] ⟨0, 10, 13, 13⟩ [] rfl (fun z hz => by cases hz) (by decide) (by decide) k_cl13 k_ca13 (fun q => ?_)
    show kx E (rk 11 1) G 5 _ _ _ _ 13 _
    refine kx_astore (lv2 := [(4, .ref (q)), (0, .ref (K 0)), (1, .int (x0)), (2, .int (x1)), (3, .ref (ob))]) C dL_fit_13 (by decide) rfl ?_
    refine kx_iconst (v := nI 1) C dL_fit_15 (by decide +kernel) ?_
    exact hE (Nat.le_of_ble_eq_true rfl) (Nat.le_of_ble_eq_true rfl) dL_fit_16 (Or.inr ⟨rfl, w9, hx, rfl⟩)
  refine kx_i2l (v := (r9).toInt64) C dL_fit_8 rfl ?_
  refine kx_lastO (x := (r9).toInt64) (ws2 := kOu E ob (vp_updL f0 0 ((r9).toInt64)) :: w9) C 0 rfl rfl dL_fit_9 ?_
  refine kx_goto (tgt := 17) C dL_fit_10 (by decide) ?_
  refine kx_iconst (v := nI 0) C dL_fit_17 (by decide +kernel) ?_
  exact hE (Nat.le_of_ble_eq_true rfl) (Nat.le_of_ble_eq_true rfl) dL_fit_18 (Or.inl ⟨rfl, r9, w9, _, hp, pk_uLs, rfl⟩)

set_option maxRecDepth 100000 in
theorem cw_cost : Cond.codeWith yL_cost cL_cost 5 (some .int) [(0, 10, 13, 13)] ∈ kTb := kTb_in (List.mem_append_right _ (List.mem_of_getElem? (i := 310) rfl)) rfl
set_option maxHeartbeats 4000000 in
set_option maxRecDepth 100000 in
theorem l_cost (E : KE) (K : Nat → Nat) (b y o n ls bc tk hk : Nat) (P Wt Tu Sc Ta Wa He Fk Pk : Nat → Nat) (ob : Nat) (f0 : Nat → Int64) (x0 : Int32) (x1 : Int32) {post : Int32 → va_W → Prop} {px : String → va_W → Prop} (hM : kTi E yX0_cost cX0_cost 3 (rk 10 1) [.ref (K 0), .int (x0), .int (x1)] (kwW E K b y o n ls bc tk hk P Wt Tu Sc Ta Wa He Fk Pk) post px) (hpx : ∀ n9 w, px n9 w → n9 = kIAE) : kHi E yL_cost cL_cost 5 [(0, 10, 13, 13)] (rk 11 1) [.ref (K 0), .int (x0), .int (x1), .ref (ob)] (kOu E ob f0 :: (kwW E K b y o n ls bc tk hk P Wt Tu Sc Ta Wa He Fk Pk)) (kH1 E ob f0 kIAE Int32.toInt64 post px) := by
  refine kHi_of (cc := cL_cost) (maxL := 5) (by decide) (Nat.le_of_ble_eq_true rfl) ?_
  intro G C ht hHP hE
  refine kx_aload_n C dL_cost_0 rfl 3 rfl ?_
  refine kx_iconst (v := nI 0) C dL_cost_1 (by decide +kernel) ?_
  refine kx_aload_n C dL_cost_2 rfl 0 rfl ?_
  refine kx_iload_n C dL_cost_3 rfl 1 rfl ?_
  refine kx_iload_n C dL_cost_4 rfl 2 rfl ?_
  refine kx_callViT (rest := [.int (nI 0), .ref ob]) (wr := [kOu E ob f0]) C hM gL_34 2 rfl (by decide +kernel) ⟨Nat.le_of_ble_eq_true rfl, Nat.le_of_ble_eq_true rfl⟩ ⟨Nat.le_of_ble_eq_true rfl, Nat.le_of_ble_eq_true rfl⟩ [1, 2, 3, 4, 5, 6, 7, 8, 9, 10] [0] rfl rfl (by decide) (by decide) (by decide) 0 rfl rfl rfl (Nat.le_of_ble_eq_true rfl) dL_cost_5 (fun n9 w9 hx => ?_) (fun r9 w9 hp => ?_)
  · skip
    obtain rfl := hpx _ _ hx
    refine kxx_catch C ht [] ⟨0, 10, 13, 13⟩ [] rfl (fun z hz => by cases hz) (by decide) (by decide) k_cl13 k_ca13 (fun q => ?_)
    show kx E (rk 11 1) G 5 _ _ _ _ 13 _
    refine kx_astore (lv2 := [(4, .ref (q)), (0, .ref (K 0)), (1, .int (x0)), (2, .int (x1)), (3, .ref (ob))]) C dL_cost_13 (by decide) rfl ?_
    refine kx_iconst (v := nI 1) C dL_cost_15 (by decide +kernel) ?_
    exact hE (Nat.le_of_ble_eq_true rfl) (Nat.le_of_ble_eq_true rfl) dL_cost_16 (Or.inr ⟨rfl, w9, hx, rfl⟩)
  refine kx_i2l (v := (r9).toInt64) C dL_cost_8 rfl ?_
  refine kx_lastO (x := (r9).toInt64) (ws2 := kOu E ob (vp_updL f0 0 ((r9).toInt64)) :: w9) C 0 rfl rfl dL_cost_9 ?_
  refine kx_goto (tgt := 17) C dL_cost_10 (by decide) ?_
  refine kx_iconst (v := nI 0) C dL_cost_17 (by decide +kernel) ?_
  exact hE (Nat.le_of_ble_eq_true rfl) (Nat.le_of_ble_eq_true rfl) dL_cost_18 (Or.inl ⟨rfl, r9, w9, _, hp, pk_uLs, rfl⟩)

set_option maxRecDepth 100000 in
theorem cw_turn : Cond.codeWith yL_turn cL_turn 5 (some .int) [(0, 10, 13, 13)] ∈ kTb := kTb_in (List.mem_append_right _ (List.mem_of_getElem? (i := 321) rfl)) rfl
set_option maxHeartbeats 4000000 in
set_option maxRecDepth 100000 in
theorem l_turn (E : KE) (K : Nat → Nat) (b y o n ls bc tk hk : Nat) (P Wt Tu Sc Ta Wa He Fk Pk : Nat → Nat) (ob : Nat) (f0 : Nat → Int64) (x0 : Int32) (x1 : Int32) {post : Int32 → va_W → Prop} {px : String → va_W → Prop} (hM : kTi E yX0_turn cX0_turn 3 (rk 10 1) [.ref (K 0), .int (x0), .int (x1)] (kwW E K b y o n ls bc tk hk P Wt Tu Sc Ta Wa He Fk Pk) post px) (hpx : ∀ n9 w, px n9 w → n9 = kIAE) : kHi E yL_turn cL_turn 5 [(0, 10, 13, 13)] (rk 11 1) [.ref (K 0), .int (x0), .int (x1), .ref (ob)] (kOu E ob f0 :: (kwW E K b y o n ls bc tk hk P Wt Tu Sc Ta Wa He Fk Pk)) (kH1 E ob f0 kIAE Int32.toInt64 post px) := by
  refine kHi_of (cc := cL_turn) (maxL := 5) (by decide) (Nat.le_of_ble_eq_true rfl) ?_
  intro G C ht hHP hE
  refine kx_aload_n C dL_turn_0 rfl 3 rfl ?_
  refine kx_iconst (v := nI 0) C dL_turn_1 (by decide +kernel) ?_
  refine kx_aload_n C dL_turn_2 rfl 0 rfl ?_
  refine kx_iload_n C dL_turn_3 rfl 1 rfl ?_
  refine kx_iload_n C dL_turn_4 rfl 2 rfl ?_
  refine kx_callViT (rest := [.int (nI 0), .ref ob]) (wr := [kOu E ob f0]) C hM gL_37 2 rfl (by decide +kernel) ⟨Nat.le_of_ble_eq_true rfl, Nat.le_of_ble_eq_true rfl⟩ ⟨Nat.le_of_ble_eq_true rfl, Nat.le_of_ble_eq_true rfl⟩ [1, 2, 3, 4, 5, 6, 7, 8, 9, 10] [0] rfl rfl (by decide) (by decide) (by decide) 0 rfl rfl rfl (Nat.le_of_ble_eq_true rfl) dL_turn_5 (fun n9 w9 hx => ?_) (fun r9 w9 hp => ?_)
  · skip
    obtain rfl := hpx _ _ hx
    refine kxx_catch C ht [] ⟨0, 10, 13, 13⟩ [] rfl (fun z hz => by cases hz) (by decide) (by decide) k_cl13 k_ca13 (fun q => ?_)
    show kx E (rk 11 1) G 5 _ _ _ _ 13 _
    refine kx_astore (lv2 := [(4, .ref (q)), (0, .ref (K 0)), (1, .int (x0)), (2, .int (x1)), (3, .ref (ob))]) C dL_turn_13 (by decide) rfl ?_
    refine kx_iconst (v := nI 1) C dL_turn_15 (by decide +kernel) ?_
    exact hE (Nat.le_of_ble_eq_true rfl) (Nat.le_of_ble_eq_true rfl) dL_turn_16 (Or.inr ⟨rfl, w9, hx, rfl⟩)
  refine kx_i2l (v := (r9).toInt64) C dL_turn_8 rfl ?_
  refine kx_lastO (x := (r9).toInt64) (ws2 := kOu E ob (vp_updL f0 0 ((r9).toInt64)) :: w9) C 0 rfl rfl dL_turn_9 ?_
  refine kx_goto (tgt := 17) C dL_turn_10 (by decide) ?_
  refine kx_iconst (v := nI 0) C dL_turn_17 (by decide +kernel) ?_
  exact hE (Nat.le_of_ble_eq_true rfl) (Nat.le_of_ble_eq_true rfl) dL_turn_18 (Or.inl ⟨rfl, r9, w9, _, hp, pk_uLs, rfl⟩)

set_option maxRecDepth 100000 in
theorem cw_key : Cond.codeWith yL_key cL_key 4 (some .int) [(0, 9, 12, 13)] ∈ kTb := kTb_in (List.mem_append_right _ (List.mem_of_getElem? (i := 328) rfl)) rfl
set_option maxHeartbeats 4000000 in
set_option maxRecDepth 100000 in
theorem l_key (E : KE) (K : Nat → Nat) (b y o n ls bc tk hk : Nat) (P Wt Tu Sc Ta Wa He Fk Pk : Nat → Nat) (ob : Nat) (f0 : Nat → Int64) (x0 : Int32) {post : Int32 → va_W → Prop} {px : String → va_W → Prop} (hM : kTi E yX0_key cX0_key 2 (rk 10 1) [.ref (K 0), .int (x0)] (kwW E K b y o n ls bc tk hk P Wt Tu Sc Ta Wa He Fk Pk) post px) (hpx : ∀ n9 w, px n9 w → n9 = kIAE) : kHi E yL_key cL_key 4 [(0, 9, 12, 13)] (rk 11 1) [.ref (K 0), .int (x0), .ref (ob)] (kOu E ob f0 :: (kwW E K b y o n ls bc tk hk P Wt Tu Sc Ta Wa He Fk Pk)) (kH1 E ob f0 kIAE Int32.toInt64 post px) := by
  refine kHi_of (cc := cL_key) (maxL := 4) (by decide) (Nat.le_of_ble_eq_true rfl) ?_
  intro G C ht hHP hE
  refine kx_aload_n C dL_key_0 rfl 2 rfl ?_
  refine kx_iconst (v := nI 0) C dL_key_1 (by decide +kernel) ?_
  refine kx_aload_n C dL_key_2 rfl 0 rfl ?_
  refine kx_iload_n C dL_key_3 rfl 1 rfl ?_
  refine kx_callViT (rest := [.int (nI 0), .ref ob]) (wr := [kOu E ob f0]) C hM gL_40 1 rfl (by decide +kernel) ⟨Nat.le_of_ble_eq_true rfl, Nat.le_of_ble_eq_true rfl⟩ ⟨Nat.le_of_ble_eq_true rfl, Nat.le_of_ble_eq_true rfl⟩ [1, 2, 3, 4, 5, 6, 7, 8, 9, 10] [0] rfl rfl (by decide) (by decide) (by decide) 0 rfl rfl rfl (Nat.le_of_ble_eq_true rfl) dL_key_4 (fun n9 w9 hx => ?_) (fun r9 w9 hp => ?_)
  · skip
    obtain rfl := hpx _ _ hx
    refine kxx_catch C ht [] ⟨0, 9, 12, 13⟩ [] rfl (fun z hz => by cases hz) (by decide) (by decide) k_cl13 k_ca13 (fun q => ?_)
    show kx E (rk 11 1) G 4 _ _ _ _ 12 _
    refine kx_astore_n (lv2 := [(3, .ref (q)), (0, .ref (K 0)), (1, .int (x0)), (2, .ref (ob))]) C dL_key_12 rfl (by decide) rfl ?_
    refine kx_iconst (v := nI 1) C dL_key_13 (by decide +kernel) ?_
    exact hE (Nat.le_of_ble_eq_true rfl) (Nat.le_of_ble_eq_true rfl) dL_key_14 (Or.inr ⟨rfl, w9, hx, rfl⟩)
  refine kx_i2l (v := (r9).toInt64) C dL_key_7 rfl ?_
  refine kx_lastO (x := (r9).toInt64) (ws2 := kOu E ob (vp_updL f0 0 ((r9).toInt64)) :: w9) C 0 rfl rfl dL_key_8 ?_
  refine kx_goto (tgt := 15) C dL_key_9 (by decide) ?_
  refine kx_iconst (v := nI 0) C dL_key_15 (by decide +kernel) ?_
  exact hE (Nat.le_of_ble_eq_true rfl) (Nat.le_of_ble_eq_true rfl) dL_key_16 (Or.inl ⟨rfl, r9, w9, _, hp, pk_uLs, rfl⟩)

set_option maxRecDepth 100000 in
theorem cw_pick : Cond.codeWith yL_pick cL_pick 6 (some .int) [(0, 11, 14, 13)] ∈ kTb := kTb_in (List.mem_append_right _ (List.mem_of_getElem? (i := 335) rfl)) rfl
set_option maxHeartbeats 4000000 in
set_option maxRecDepth 100000 in
theorem l_pick (E : KE) (K : Nat → Nat) (b y o n ls bc tk hk : Nat) (P Wt Tu Sc Ta Wa He Fk Pk : Nat → Nat) (ob : Nat) (f0 : Nat → Int64) (x0 : Int64) (x1 : Int32) {post : Int32 → va_W → Prop} {px : String → va_W → Prop} (hM : kTi E yX0_pick cX0_pick 4 (rk 10 1) [.ref (K 0), .long (x0), .int (x1)] (kwW E K b y o n ls bc tk hk P Wt Tu Sc Ta Wa He Fk Pk) post px) (hpx : ∀ n9 w, px n9 w → n9 = kIAE) : kHi E yL_pick cL_pick 6 [(0, 11, 14, 13)] (rk 11 1) [.ref (K 0), .long (x0), .int (x1), .ref (ob)] (kOu E ob f0 :: (kwW E K b y o n ls bc tk hk P Wt Tu Sc Ta Wa He Fk Pk)) (kH1 E ob f0 kIAE Int32.toInt64 post px) := by
  refine kHi_of (cc := cL_pick) (maxL := 6) (by decide) (Nat.le_of_ble_eq_true rfl) ?_
  intro G C ht hHP hE
  refine kx_aload C dL_pick_0 3 rfl ?_
  refine kx_iconst (v := nI 0) C dL_pick_2 (by decide +kernel) ?_
  refine kx_aload_n C dL_pick_3 rfl 0 rfl ?_
  refine kx_lload_n C dL_pick_4 rfl 1 rfl ?_
  refine kx_iload_n C dL_pick_5 rfl 2 rfl ?_
  refine kx_callViT (rest := [.int (nI 0), .ref ob]) (wr := [kOu E ob f0]) C hM gL_44 2 rfl (by decide +kernel) ⟨Nat.le_of_ble_eq_true rfl, Nat.le_of_ble_eq_true rfl⟩ ⟨Nat.le_of_ble_eq_true rfl, Nat.le_of_ble_eq_true rfl⟩ [1, 2, 3, 4, 5, 6, 7, 8, 9, 10] [0] rfl rfl (by decide) (by decide) (by decide) 0 rfl rfl rfl (Nat.le_of_ble_eq_true rfl) dL_pick_6 (fun n9 w9 hx => ?_) (fun r9 w9 hp => ?_)
  · skip
    obtain rfl := hpx _ _ hx
    refine kxx_catch C ht [] ⟨0, 11, 14, 13⟩ [] rfl (fun z hz => by cases hz) (by decide) (by decide) k_cl13 k_ca13 (fun q => ?_)
    show kx E (rk 11 1) G 6 _ _ _ _ 14 _
    refine kx_astore (lv2 := [(5, .ref (q)), (0, .ref (K 0)), (1, .long (x0)), (3, .int (x1)), (4, .ref (ob))]) C dL_pick_14 (by decide) rfl ?_
    refine kx_iconst (v := nI 1) C dL_pick_16 (by decide +kernel) ?_
    exact hE (Nat.le_of_ble_eq_true rfl) (Nat.le_of_ble_eq_true rfl) dL_pick_17 (Or.inr ⟨rfl, w9, hx, rfl⟩)
  refine kx_i2l (v := (r9).toInt64) C dL_pick_9 rfl ?_
  refine kx_lastO (x := (r9).toInt64) (ws2 := kOu E ob (vp_updL f0 0 ((r9).toInt64)) :: w9) C 0 rfl rfl dL_pick_10 ?_
  refine kx_goto (tgt := 18) C dL_pick_11 (by decide) ?_
  refine kx_iconst (v := nI 0) C dL_pick_18 (by decide +kernel) ?_
  exact hE (Nat.le_of_ble_eq_true rfl) (Nat.le_of_ble_eq_true rfl) dL_pick_19 (Or.inl ⟨rfl, r9, w9, _, hp, pk_uLs, rfl⟩)

set_option maxRecDepth 100000 in
theorem cw_through : Cond.codeWith yL_through cL_through 5 (some .int) [(0, 10, 13, 13)] ∈ kTb := kTb_in (List.mem_append_right _ (List.mem_of_getElem? (i := 343) rfl)) rfl
set_option maxHeartbeats 4000000 in
set_option maxRecDepth 100000 in
theorem l_through (E : KE) (K : Nat → Nat) (b y o n ls bc tk hk : Nat) (P Wt Tu Sc Ta Wa He Fk Pk : Nat → Nat) (ob : Nat) (f0 : Nat → Int64) (x0 : Int32) (x1 : Int32) {post : Int32 → va_W → Prop} {px : String → va_W → Prop} (hM : kTi E yX0_through cX0_through 3 (rk 10 1) [.ref (K 0), .int (x0), .int (x1)] (kwW E K b y o n ls bc tk hk P Wt Tu Sc Ta Wa He Fk Pk) post px) (hpx : ∀ n9 w, px n9 w → n9 = kIAE) : kHi E yL_through cL_through 5 [(0, 10, 13, 13)] (rk 11 1) [.ref (K 0), .int (x0), .int (x1), .ref (ob)] (kOu E ob f0 :: (kwW E K b y o n ls bc tk hk P Wt Tu Sc Ta Wa He Fk Pk)) (kH1 E ob f0 kIAE Int32.toInt64 post px) := by
  refine kHi_of (cc := cL_through) (maxL := 5) (by decide) (Nat.le_of_ble_eq_true rfl) ?_
  intro G C ht hHP hE
  refine kx_aload_n C dL_through_0 rfl 3 rfl ?_
  refine kx_iconst (v := nI 0) C dL_through_1 (by decide +kernel) ?_
  refine kx_aload_n C dL_through_2 rfl 0 rfl ?_
  refine kx_iload_n C dL_through_3 rfl 1 rfl ?_
  refine kx_iload_n C dL_through_4 rfl 2 rfl ?_
  refine kx_callViT (rest := [.int (nI 0), .ref ob]) (wr := [kOu E ob f0]) C hM gL_48 2 rfl (by decide +kernel) ⟨Nat.le_of_ble_eq_true rfl, Nat.le_of_ble_eq_true rfl⟩ ⟨Nat.le_of_ble_eq_true rfl, Nat.le_of_ble_eq_true rfl⟩ [1, 2, 3, 4, 5, 6, 7, 8, 9, 10] [0] rfl rfl (by decide) (by decide) (by decide) 0 rfl rfl rfl (Nat.le_of_ble_eq_true rfl) dL_through_5 (fun n9 w9 hx => ?_) (fun r9 w9 hp => ?_)
  · skip
    obtain rfl := hpx _ _ hx
    refine kxx_catch C ht [] ⟨0, 10, 13, 13⟩ [] rfl (fun z hz => by cases hz) (by decide) (by decide) k_cl13 k_ca13 (fun q => ?_)
    show kx E (rk 11 1) G 5 _ _ _ _ 13 _
    refine kx_astore (lv2 := [(4, .ref (q)), (0, .ref (K 0)), (1, .int (x0)), (2, .int (x1)), (3, .ref (ob))]) C dL_through_13 (by decide) rfl ?_
    refine kx_iconst (v := nI 1) C dL_through_15 (by decide +kernel) ?_
    exact hE (Nat.le_of_ble_eq_true rfl) (Nat.le_of_ble_eq_true rfl) dL_through_16 (Or.inr ⟨rfl, w9, hx, rfl⟩)
  refine kx_i2l (v := (r9).toInt64) C dL_through_8 rfl ?_
  refine kx_lastO (x := (r9).toInt64) (ws2 := kOu E ob (vp_updL f0 0 ((r9).toInt64)) :: w9) C 0 rfl rfl dL_through_9 ?_
  refine kx_goto (tgt := 17) C dL_through_10 (by decide) ?_
  refine kx_iconst (v := nI 0) C dL_through_17 (by decide +kernel) ?_
  exact hE (Nat.le_of_ble_eq_true rfl) (Nat.le_of_ble_eq_true rfl) dL_through_18 (Or.inl ⟨rfl, r9, w9, _, hp, pk_uLs, rfl⟩)

set_option maxRecDepth 100000 in
theorem cw_near : Cond.codeWith yL_near cL_near 5 (some .int) [(0, 10, 13, 13)] ∈ kTb := kTb_in (List.mem_append_right _ (List.mem_of_getElem? (i := 362) rfl)) rfl
set_option maxHeartbeats 4000000 in
set_option maxRecDepth 100000 in
theorem l_near (E : KE) (K : Nat → Nat) (b y o n ls bc tk hk : Nat) (P Wt Tu Sc Ta Wa He Fk Pk : Nat → Nat) (ob : Nat) (f0 : Nat → Int64) (x0 : Int32) (x1 : Int32) {post : Int32 → va_W → Prop} {px : String → va_W → Prop} (hM : kTi E yX0_near cX0_near 5 (rk 10 1) [.ref (K 0), .int (x0), .int (x1)] (kwW E K b y o n ls bc tk hk P Wt Tu Sc Ta Wa He Fk Pk) post px) (hpx : ∀ n9 w, px n9 w → n9 = kIAE) : kHi E yL_near cL_near 5 [(0, 10, 13, 13)] (rk 11 1) [.ref (K 0), .int (x0), .int (x1), .ref (ob)] (kOu E ob f0 :: (kwW E K b y o n ls bc tk hk P Wt Tu Sc Ta Wa He Fk Pk)) (kH1 E ob f0 kIAE Int32.toInt64 post px) := by
  refine kHi_of (cc := cL_near) (maxL := 5) (by decide) (Nat.le_of_ble_eq_true rfl) ?_
  intro G C ht hHP hE
  refine kx_aload_n C dL_near_0 rfl 3 rfl ?_
  refine kx_iconst (v := nI 0) C dL_near_1 (by decide +kernel) ?_
  refine kx_aload_n C dL_near_2 rfl 0 rfl ?_
  refine kx_iload_n C dL_near_3 rfl 1 rfl ?_
  refine kx_iload_n C dL_near_4 rfl 2 rfl ?_
  refine kx_callViT (rest := [.int (nI 0), .ref ob]) (wr := [kOu E ob f0]) C hM gL_51 2 rfl (by decide +kernel) ⟨Nat.le_of_ble_eq_true rfl, Nat.le_of_ble_eq_true rfl⟩ ⟨Nat.le_of_ble_eq_true rfl, Nat.le_of_ble_eq_true rfl⟩ [1, 2, 3, 4, 5, 6, 7, 8, 9, 10] [0] rfl rfl (by decide) (by decide) (by decide) 0 rfl rfl rfl (Nat.le_of_ble_eq_true rfl) dL_near_5 (fun n9 w9 hx => ?_) (fun r9 w9 hp => ?_)
  · skip
    obtain rfl := hpx _ _ hx
    refine kxx_catch C ht [] ⟨0, 10, 13, 13⟩ [] rfl (fun z hz => by cases hz) (by decide) (by decide) k_cl13 k_ca13 (fun q => ?_)
    show kx E (rk 11 1) G 5 _ _ _ _ 13 _
    refine kx_astore (lv2 := [(4, .ref (q)), (0, .ref (K 0)), (1, .int (x0)), (2, .int (x1)), (3, .ref (ob))]) C dL_near_13 (by decide) rfl ?_
    refine kx_iconst (v := nI 1) C dL_near_15 (by decide +kernel) ?_
    exact hE (Nat.le_of_ble_eq_true rfl) (Nat.le_of_ble_eq_true rfl) dL_near_16 (Or.inr ⟨rfl, w9, hx, rfl⟩)
  refine kx_i2l (v := (r9).toInt64) C dL_near_8 rfl ?_
  refine kx_lastO (x := (r9).toInt64) (ws2 := kOu E ob (vp_updL f0 0 ((r9).toInt64)) :: w9) C 0 rfl rfl dL_near_9 ?_
  refine kx_goto (tgt := 17) C dL_near_10 (by decide) ?_
  refine kx_iconst (v := nI 0) C dL_near_17 (by decide +kernel) ?_
  exact hE (Nat.le_of_ble_eq_true rfl) (Nat.le_of_ble_eq_true rfl) dL_near_18 (Or.inl ⟨rfl, r9, w9, _, hp, pk_uLs, rfl⟩)

set_option maxRecDepth 100000 in
theorem cw_sure : Cond.codeWith yL_sure cL_sure 4 (some .int) [(0, 9, 12, 13), (0, 9, 15, 57)] ∈ kTb := kTb_in (List.mem_append_right _ (List.mem_of_getElem? (i := 370) rfl)) rfl
set_option maxHeartbeats 4000000 in
set_option maxRecDepth 100000 in
theorem l_sure (E : KE) (K : Nat → Nat) (b y o n ls bc tk hk : Nat) (P Wt Tu Sc Ta Wa He Fk Pk : Nat → Nat) (ob : Nat) (f0 : Nat → Int64) (x0 : Int32) {post : Int32 → va_W → Prop} {px : String → va_W → Prop} (hM : kTi E yX0_sure cX0_sure 3 (rk 10 1) [.ref (K 0), .int (x0)] (kwW E K b y o n ls bc tk hk P Wt Tu Sc Ta Wa He Fk Pk) post px) (hpx : ∀ n9 w, px n9 w → n9 = kIAE ∨ n9 = kARE) : kHi E yL_sure cL_sure 4 [(0, 9, 12, 13), (0, 9, 15, 57)] (rk 11 1) [.ref (K 0), .int (x0), .ref (ob)] (kOu E ob f0 :: (kwW E K b y o n ls bc tk hk P Wt Tu Sc Ta Wa He Fk Pk)) (kH2 E ob f0 kIAE kARE post px) := by
  refine kHi_of (cc := cL_sure) (maxL := 4) (by decide) (Nat.le_of_ble_eq_true rfl) ?_
  intro G C ht hHP hE
  refine kx_aload_n C dL_sure_0 rfl 2 rfl ?_
  refine kx_iconst (v := nI 0) C dL_sure_1 (by decide +kernel) ?_
  refine kx_aload_n C dL_sure_2 rfl 0 rfl ?_
  refine kx_iload_n C dL_sure_3 rfl 1 rfl ?_
  refine kx_callViT (rest := [.int (nI 0), .ref ob]) (wr := [kOu E ob f0]) C hM gL_54 1 rfl (by decide +kernel) ⟨Nat.le_of_ble_eq_true rfl, Nat.le_of_ble_eq_true rfl⟩ ⟨Nat.le_of_ble_eq_true rfl, Nat.le_of_ble_eq_true rfl⟩ [1, 2, 3, 4, 5, 6, 7, 8, 9, 10] [0] rfl rfl (by decide) (by decide) (by decide) 0 rfl rfl rfl (Nat.le_of_ble_eq_true rfl) dL_sure_4 (fun n9 w9 hx => ?_) (fun r9 w9 hp => ?_)
  · skip
    rcases hpx _ _ hx with rfl | rfl
    · skip
      refine kxx_catch C ht [] ⟨0, 9, 12, 13⟩ [⟨0, 9, 15, 57⟩] rfl (fun z hz => by cases hz) (by decide) (by decide) k_cl13 k_ca13 (fun q => ?_)
      show kx E (rk 11 1) G 4 _ _ _ _ 12 _
      refine kx_astore_n (lv2 := [(3, .ref (q)), (0, .ref (K 0)), (1, .int (x0)), (2, .ref (ob))]) C dL_sure_12 rfl (by decide) rfl ?_
      refine kx_iconst (v := nI 1) C dL_sure_13 (by decide +kernel) ?_
      exact hE (Nat.le_of_ble_eq_true rfl) (Nat.le_of_ble_eq_true rfl) dL_sure_14 (Or.inr (Or.inl ⟨rfl, w9, hx, rfl⟩))
    · skip
      refine kxx_catch C ht [⟨0, 9, 12, 13⟩] ⟨0, 9, 15, 57⟩ [] rfl (fun z hz => by obtain rfl := List.mem_singleton.mp hz; exact Or.inr ⟨by decide, kIAE, k_cl13, hHP.2⟩) (by decide) (by decide) k_cl57 k_ca57 (fun q => ?_)
      show kx E (rk 11 1) G 4 _ _ _ _ 15 _
      refine kx_astore_n (lv2 := [(3, .ref (q)), (0, .ref (K 0)), (1, .int (x0)), (2, .ref (ob))]) C dL_sure_15 rfl (by decide) rfl ?_
      refine kx_iconst (v := nI 2) C dL_sure_16 (by decide +kernel) ?_
      exact hE (Nat.le_of_ble_eq_true rfl) (Nat.le_of_ble_eq_true rfl) dL_sure_17 (Or.inr (Or.inr ⟨rfl, w9, hx, rfl⟩))
  refine kx_i2l (v := (r9).toInt64) C dL_sure_7 rfl ?_
  refine kx_lastO (x := (r9).toInt64) (ws2 := kOu E ob (vp_updL f0 0 ((r9).toInt64)) :: w9) C 0 rfl rfl dL_sure_8 ?_
  refine kx_goto (tgt := 18) C dL_sure_9 (by decide) ?_
  refine kx_iconst (v := nI 0) C dL_sure_18 (by decide +kernel) ?_
  exact hE (Nat.le_of_ble_eq_true rfl) (Nat.le_of_ble_eq_true rfl) dL_sure_19 (Or.inl ⟨rfl, r9, w9, _, hp, pk_uLs, rfl⟩)

set_option maxRecDepth 100000 in
theorem cw_change : Cond.codeWith yL_change cL_change 4 (some .int) [(0, 9, 12, 13)] ∈ kTb := kTb_in (List.mem_append_right _ (List.mem_of_getElem? (i := 398) rfl)) rfl
set_option maxHeartbeats 4000000 in
set_option maxRecDepth 100000 in
theorem l_change (E : KE) (K : Nat → Nat) (b y o n ls bc tk hk : Nat) (P Wt Tu Sc Ta Wa He Fk Pk : Nat → Nat) (ob : Nat) (f0 : Nat → Int64) (x0 : Int32) {post : Int32 → va_W → Prop} {px : String → va_W → Prop} (hM : kTi E yX0_change cX0_change 4 (rk 10 1) [.ref (K 0), .int (x0)] (kwW E K b y o n ls bc tk hk P Wt Tu Sc Ta Wa He Fk Pk) post px) (hpx : ∀ n9 w, px n9 w → n9 = kIAE) : kHi E yL_change cL_change 4 [(0, 9, 12, 13)] (rk 11 1) [.ref (K 0), .int (x0), .ref (ob)] (kOu E ob f0 :: (kwW E K b y o n ls bc tk hk P Wt Tu Sc Ta Wa He Fk Pk)) (kH1 E ob f0 kIAE Int32.toInt64 post px) := by
  refine kHi_of (cc := cL_change) (maxL := 4) (by decide) (Nat.le_of_ble_eq_true rfl) ?_
  intro G C ht hHP hE
  refine kx_aload_n C dL_change_0 rfl 2 rfl ?_
  refine kx_iconst (v := nI 0) C dL_change_1 (by decide +kernel) ?_
  refine kx_aload_n C dL_change_2 rfl 0 rfl ?_
  refine kx_iload_n C dL_change_3 rfl 1 rfl ?_
  refine kx_callViT (rest := [.int (nI 0), .ref ob]) (wr := [kOu E ob f0]) C hM gL_59 1 rfl (by decide +kernel) ⟨Nat.le_of_ble_eq_true rfl, Nat.le_of_ble_eq_true rfl⟩ ⟨Nat.le_of_ble_eq_true rfl, Nat.le_of_ble_eq_true rfl⟩ [1, 2, 3, 4, 5, 6, 7, 8, 9, 10] [0] rfl rfl (by decide) (by decide) (by decide) 0 rfl rfl rfl (Nat.le_of_ble_eq_true rfl) dL_change_4 (fun n9 w9 hx => ?_) (fun r9 w9 hp => ?_)
  · skip
    obtain rfl := hpx _ _ hx
    refine kxx_catch C ht [] ⟨0, 9, 12, 13⟩ [] rfl (fun z hz => by cases hz) (by decide) (by decide) k_cl13 k_ca13 (fun q => ?_)
    show kx E (rk 11 1) G 4 _ _ _ _ 12 _
    refine kx_astore_n (lv2 := [(3, .ref (q)), (0, .ref (K 0)), (1, .int (x0)), (2, .ref (ob))]) C dL_change_12 rfl (by decide) rfl ?_
    refine kx_iconst (v := nI 1) C dL_change_13 (by decide +kernel) ?_
    exact hE (Nat.le_of_ble_eq_true rfl) (Nat.le_of_ble_eq_true rfl) dL_change_14 (Or.inr ⟨rfl, w9, hx, rfl⟩)
  refine kx_i2l (v := (r9).toInt64) C dL_change_7 rfl ?_
  refine kx_lastO (x := (r9).toInt64) (ws2 := kOu E ob (vp_updL f0 0 ((r9).toInt64)) :: w9) C 0 rfl rfl dL_change_8 ?_
  refine kx_goto (tgt := 15) C dL_change_9 (by decide) ?_
  refine kx_iconst (v := nI 0) C dL_change_15 (by decide +kernel) ?_
  exact hE (Nat.le_of_ble_eq_true rfl) (Nat.le_of_ble_eq_true rfl) dL_change_16 (Or.inl ⟨rfl, r9, w9, _, hp, pk_uLs, rfl⟩)

set_option maxRecDepth 100000 in
theorem cw_pivot : Cond.codeWith yL_pivot cL_pivot 6 (some .int) [(0, 19, 22, 13)] ∈ kTb := kTb_in (List.mem_append_right _ (List.mem_of_getElem? (i := 410) rfl)) rfl
set_option maxHeartbeats 4000000 in
set_option maxRecDepth 100000 in
theorem l_pivot (E : KE) (K : Nat → Nat) (b y o n ls bc tk hk : Nat) (P Wt Tu Sc Ta Wa He Fk Pk : Nat → Nat) (ob : Nat) (f0 : Nat → Int64) (x0 : Int32) (x1 : Int32) (x2 : Int32) {post : Int32 → va_W → Prop} {px : String → va_W → Prop} (hM : kTz E yX0_pivot cX0_pivot 6 (rk 10 1) [.ref (K 0), .int (x0), .int (x1), .int (x2)] (kwW E K b y o n ls bc tk hk P Wt Tu Sc Ta Wa He Fk Pk) post px) (hpx : ∀ n9 w, px n9 w → n9 = kIAE) : kHi E yL_pivot cL_pivot 6 [(0, 19, 22, 13)] (rk 11 1) [.ref (K 0), .int (x0), .int (x1), .int (x2), .ref (ob)] (kOu E ob f0 :: (kwW E K b y o n ls bc tk hk P Wt Tu Sc Ta Wa He Fk Pk)) (kH1 E ob f0 kIAE kZl post px) := by
  refine kHi_of (cc := cL_pivot) (maxL := 6) (by decide) (Nat.le_of_ble_eq_true rfl) ?_
  intro G C ht hHP hE
  refine kx_aload C dL_pivot_0 4 rfl ?_
  refine kx_iconst (v := nI 0) C dL_pivot_2 (by decide +kernel) ?_
  refine kx_aload_n C dL_pivot_3 rfl 0 rfl ?_
  refine kx_iload_n C dL_pivot_4 rfl 1 rfl ?_
  refine kx_iload_n C dL_pivot_5 rfl 2 rfl ?_
  refine kx_iload_n C dL_pivot_6 rfl 3 rfl ?_
  refine kx_callVzT (rest := [.int (nI 0), .ref ob]) (wr := [kOu E ob f0]) C hM gL_62 3 rfl (by decide +kernel) ⟨Nat.le_of_ble_eq_true rfl, Nat.le_of_ble_eq_true rfl⟩ ⟨Nat.le_of_ble_eq_true rfl, Nat.le_of_ble_eq_true rfl⟩ [1, 2, 3, 4, 5, 6, 7, 8, 9, 10] [0] rfl rfl (by decide) (by decide) (by decide) 0 rfl rfl rfl (Nat.le_of_ble_eq_true rfl) dL_pivot_7 (fun n9 w9 hx => ?_) (fun r9 w9 hp => ?_)
  · skip
    obtain rfl := hpx _ _ hx
    refine kxx_catch C ht [] ⟨0, 19, 22, 13⟩ [] rfl (fun z hz => by cases hz) (by decide) (by decide) k_cl13 k_ca13 (fun q => ?_)
    show kx E (rk 11 1) G 6 _ _ _ _ 22 _
    refine kx_astore (lv2 := [(5, .ref (q)), (0, .ref (K 0)), (1, .int (x0)), (2, .int (x1)), (3, .int (x2)), (4, .ref (ob))]) C dL_pivot_22 (by decide) rfl ?_
    refine kx_iconst (v := nI 1) C dL_pivot_24 (by decide +kernel) ?_
    exact hE (Nat.le_of_ble_eq_true rfl) (Nat.le_of_ble_eq_true rfl) dL_pivot_25 (Or.inr ⟨rfl, w9, hx, rfl⟩)
  refine kx_if_eqR (tgt := 17) C dL_pivot_10 (by decide) (fun c1 => ?_) (fun c1 => ?_)
  · skip
    refine kx_lconst (v := lN 0) C dL_pivot_17 (by decide +kernel) ?_
    refine kx_lastO (x := lN 0) (ws2 := kOu E ob (vp_updL f0 0 (lN 0)) :: w9) C 0 rfl rfl dL_pivot_18 ?_
    refine kx_goto (tgt := 26) C dL_pivot_19 (by decide) ?_
    refine kx_iconst (v := nI 0) C dL_pivot_26 (by decide +kernel) ?_
    exact hE (Nat.le_of_ble_eq_true rfl) (Nat.le_of_ble_eq_true rfl) dL_pivot_27 (Or.inl ⟨rfl, r9, w9, _, hp, (pk_uLs.trans (if_pos c1).symm), rfl⟩)
  · skip
    refine kx_lconst (v := lN 1) C dL_pivot_13 (by decide +kernel) ?_
    refine kx_goto (tgt := 18) C dL_pivot_14 (by decide) ?_
    refine kx_lastO (x := lN 1) (ws2 := kOu E ob (vp_updL f0 0 (lN 1)) :: w9) C 0 rfl rfl dL_pivot_18 ?_
    refine kx_goto (tgt := 26) C dL_pivot_19 (by decide) ?_
    refine kx_iconst (v := nI 0) C dL_pivot_26 (by decide +kernel) ?_
    exact hE (Nat.le_of_ble_eq_true rfl) (Nat.le_of_ble_eq_true rfl) dL_pivot_27 (Or.inl ⟨rfl, r9, w9, _, hp, (pk_uLs.trans (if_neg c1).symm), rfl⟩)

set_option maxRecDepth 100000 in
theorem cw_whole : Cond.codeWith yL_whole cL_whole 5 (some .int) [(0, 10, 13, 13)] ∈ kTb := kTb_in (List.mem_append_right _ (List.mem_of_getElem? (i := 417) rfl)) rfl
set_option maxHeartbeats 4000000 in
set_option maxRecDepth 100000 in
theorem l_whole (E : KE) (K : Nat → Nat) (b y o n ls bc tk hk : Nat) (P Wt Tu Sc Ta Wa He Fk Pk : Nat → Nat) (ob : Nat) (f0 : Nat → Int64) (x0 : Int32) (x1 : Int32) {post : Int32 → va_W → Prop} {px : String → va_W → Prop} (hM : kTi E yX0_whole cX0_whole 7 (rk 10 1) [.ref (K 0), .int (x0), .int (x1)] (kwW E K b y o n ls bc tk hk P Wt Tu Sc Ta Wa He Fk Pk) post px) (hpx : ∀ n9 w, px n9 w → n9 = kIAE) : kHi E yL_whole cL_whole 5 [(0, 10, 13, 13)] (rk 11 1) [.ref (K 0), .int (x0), .int (x1), .ref (ob)] (kOu E ob f0 :: (kwW E K b y o n ls bc tk hk P Wt Tu Sc Ta Wa He Fk Pk)) (kH1 E ob f0 kIAE Int32.toInt64 post px) := by
  refine kHi_of (cc := cL_whole) (maxL := 5) (by decide) (Nat.le_of_ble_eq_true rfl) ?_
  intro G C ht hHP hE
  refine kx_aload_n C dL_whole_0 rfl 3 rfl ?_
  refine kx_iconst (v := nI 0) C dL_whole_1 (by decide +kernel) ?_
  refine kx_aload_n C dL_whole_2 rfl 0 rfl ?_
  refine kx_iload_n C dL_whole_3 rfl 1 rfl ?_
  refine kx_iload_n C dL_whole_4 rfl 2 rfl ?_
  refine kx_callViT (rest := [.int (nI 0), .ref ob]) (wr := [kOu E ob f0]) C hM gL_66 2 rfl (by decide +kernel) ⟨Nat.le_of_ble_eq_true rfl, Nat.le_of_ble_eq_true rfl⟩ ⟨Nat.le_of_ble_eq_true rfl, Nat.le_of_ble_eq_true rfl⟩ [1, 2, 3, 4, 5, 6, 7, 8, 9, 10] [0] rfl rfl (by decide) (by decide) (by decide) 0 rfl rfl rfl (Nat.le_of_ble_eq_true rfl) dL_whole_5 (fun n9 w9 hx => ?_) (fun r9 w9 hp => ?_)
  · skip
    obtain rfl := hpx _ _ hx
    refine kxx_catch C ht [] ⟨0, 10, 13, 13⟩ [] rfl (fun z hz => by cases hz) (by decide) (by decide) k_cl13 k_ca13 (fun q => ?_)
    show kx E (rk 11 1) G 5 _ _ _ _ 13 _
    refine kx_astore (lv2 := [(4, .ref (q)), (0, .ref (K 0)), (1, .int (x0)), (2, .int (x1)), (3, .ref (ob))]) C dL_whole_13 (by decide) rfl ?_
    refine kx_iconst (v := nI 1) C dL_whole_15 (by decide +kernel) ?_
    exact hE (Nat.le_of_ble_eq_true rfl) (Nat.le_of_ble_eq_true rfl) dL_whole_16 (Or.inr ⟨rfl, w9, hx, rfl⟩)
  refine kx_i2l (v := (r9).toInt64) C dL_whole_8 rfl ?_
  refine kx_lastO (x := (r9).toInt64) (ws2 := kOu E ob (vp_updL f0 0 ((r9).toInt64)) :: w9) C 0 rfl rfl dL_whole_9 ?_
  refine kx_goto (tgt := 17) C dL_whole_10 (by decide) ?_
  refine kx_iconst (v := nI 0) C dL_whole_17 (by decide +kernel) ?_
  exact hE (Nat.le_of_ble_eq_true rfl) (Nat.le_of_ble_eq_true rfl) dL_whole_18 (Or.inl ⟨rfl, r9, w9, _, hp, pk_uLs, rfl⟩)

set_option maxRecDepth 100000 in
theorem cw_of : Cond.codeWith yL_of cL_of 4 (some .int) [(0, 9, 12, 13)] ∈ kTb := kTb_in (List.mem_append_right _ (List.mem_of_getElem? (i := 429) rfl)) rfl
set_option maxHeartbeats 4000000 in
set_option maxRecDepth 100000 in
theorem l_of (E : KE) (K : Nat → Nat) (b y o n ls bc tk hk : Nat) (P Wt Tu Sc Ta Wa He Fk Pk : Nat → Nat) (ob : Nat) (f0 : Nat → Int64) (x0 : Int32) {post : Int32 → va_W → Prop} {px : String → va_W → Prop} (hM : kTi E yX0_of cX0_of 2 (rk 10 1) [.ref (K 0), .int (x0)] (kwW E K b y o n ls bc tk hk P Wt Tu Sc Ta Wa He Fk Pk) post px) (hpx : ∀ n9 w, px n9 w → n9 = kIAE) : kHi E yL_of cL_of 4 [(0, 9, 12, 13)] (rk 11 1) [.ref (K 0), .int (x0), .ref (ob)] (kOu E ob f0 :: (kwW E K b y o n ls bc tk hk P Wt Tu Sc Ta Wa He Fk Pk)) (kH1 E ob f0 kIAE Int32.toInt64 post px) := by
  refine kHi_of (cc := cL_of) (maxL := 4) (by decide) (Nat.le_of_ble_eq_true rfl) ?_
  intro G C ht hHP hE
  refine kx_aload_n C dL_of_0 rfl 2 rfl ?_
  refine kx_iconst (v := nI 0) C dL_of_1 (by decide +kernel) ?_
  refine kx_aload_n C dL_of_2 rfl 0 rfl ?_
  refine kx_iload_n C dL_of_3 rfl 1 rfl ?_
  refine kx_callViT (rest := [.int (nI 0), .ref ob]) (wr := [kOu E ob f0]) C hM gL_69 1 rfl (by decide +kernel) ⟨Nat.le_of_ble_eq_true rfl, Nat.le_of_ble_eq_true rfl⟩ ⟨Nat.le_of_ble_eq_true rfl, Nat.le_of_ble_eq_true rfl⟩ [1, 2, 3, 4, 5, 6, 7, 8, 9, 10] [0] rfl rfl (by decide) (by decide) (by decide) 0 rfl rfl rfl (Nat.le_of_ble_eq_true rfl) dL_of_4 (fun n9 w9 hx => ?_) (fun r9 w9 hp => ?_)
  · skip
    obtain rfl := hpx _ _ hx
    refine kxx_catch C ht [] ⟨0, 9, 12, 13⟩ [] rfl (fun z hz => by cases hz) (by decide) (by decide) k_cl13 k_ca13 (fun q => ?_)
    show kx E (rk 11 1) G 4 _ _ _ _ 12 _
    refine kx_astore_n (lv2 := [(3, .ref (q)), (0, .ref (K 0)), (1, .int (x0)), (2, .ref (ob))]) C dL_of_12 rfl (by decide) rfl ?_
    refine kx_iconst (v := nI 1) C dL_of_13 (by decide +kernel) ?_
    exact hE (Nat.le_of_ble_eq_true rfl) (Nat.le_of_ble_eq_true rfl) dL_of_14 (Or.inr ⟨rfl, w9, hx, rfl⟩)
  refine kx_i2l (v := (r9).toInt64) C dL_of_7 rfl ?_
  refine kx_lastO (x := (r9).toInt64) (ws2 := kOu E ob (vp_updL f0 0 ((r9).toInt64)) :: w9) C 0 rfl rfl dL_of_8 ?_
  refine kx_goto (tgt := 15) C dL_of_9 (by decide) ?_
  refine kx_iconst (v := nI 0) C dL_of_15 (by decide +kernel) ?_
  exact hE (Nat.le_of_ble_eq_true rfl) (Nat.le_of_ble_eq_true rfl) dL_of_16 (Or.inl ⟨rfl, r9, w9, _, hp, pk_uLs, rfl⟩)
