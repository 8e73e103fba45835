/-! printed by wip/whole/gen.py -/
/-! TinselRiver$Row.addBehind(LTinselRiver$Row;)V -/
def fX2_addBehind_c6 : Nat → mM → Nat → Nat → Int32 → Option mM
  | 0, _, _, _, _ => none
  | n + 1, M, v0, v1, v2 =>
    (gI M v1 2 1).bind fun x1 =>
    if x1 ≤ v2 then
      (some M)
    else
      ((gR M v1 2 0).bind fun a3 =>
      (aI M false a3 v2).bind fun x4 =>
      (fX2_add M v0 x4).bind fun M6 =>
      fX2_addBehind_c6 n M6 v0 v1 (v2 + 1))
set_option maxRecDepth 20000 in
set_option maxHeartbeats 4000000 in
theorem rX2_addBehind_c6 {E : mE} {Mf : mM} : ∀ (n : Nat) (M : mM) (v0 : Nat) (v1 : Nat) (v2 : Int32), fX2_addBehind_c6 n M v0 v1 v2 = some Mf → Ev mX2_addBehind E 2 0 0 none Mf 6 [some (.ref v0), some (.ref v1), some (.int v2)] [] M 0 0 := by
  intro n
  induction n with
  | zero => intro M v0 v1 v2 h; rw [fX2_addBehind_c6.eq_1] at h; cases h
  | succ n ih =>
    intro M v0 v1 v2 h
    rw [fX2_addBehind_c6.eq_2] at h
    refine Ev_iload_n (x := v2) rfl dX2_addBehind_6 ?_
    refine Ev_aload_n (x := v1) rfl dX2_addBehind_7 ?_
    obtain ⟨x1, g1, h⟩ := bsome h
    refine Ev_getI flX2_21 dX2_addBehind_8 g1 ?_
    refine Ev_icmp_ge (tgt := 30) dX2_addBehind_11 (by decide) (fun q2 => ?_) (fun q2 => ?_)
    · rw [if_pos q2] at h
      cases h
      exact Ev_vret rfl dX2_addBehind_30 ⟨rfl, rfl⟩
    · rw [if_neg q2] at h
      refine Ev_aload_n (x := v0) rfl dX2_addBehind_14 ?_
      refine Ev_aload_n (x := v1) rfl dX2_addBehind_15 ?_
      obtain ⟨a3, g3, h⟩ := bsome h
      refine Ev_getR flX2_15 dX2_addBehind_16 g3 ?_
      refine Ev_iload_n (x := v2) rfl dX2_addBehind_19 ?_
      obtain ⟨x4, g4, h⟩ := bsome h
      refine Ev_iald dX2_addBehind_20 g4 ?_
      obtain ⟨M6, g5, h⟩ := bsome h
      refine Ev_callVv (np := 1) (vs := [.int x4]) (rest := []) mdX2_add lkX2_38 ⟨_, rfl, rfl⟩ (oX2_add g5) (rX2_add g5) rfl rfl (Nat.le_of_ble_eq_true rfl) (Nat.le_of_ble_eq_true rfl) dX2_addBehind_21 ?_
      refine Ev_iinc (x := v2) (v := (v2 + 1)) (loc2 := [some (.ref v0), some (.ref v1), some (.int (v2 + 1))]) rfl (congrArg (v2 + ·) ic_1) (Nat.le_of_ble_eq_true rfl) rfl rfl dX2_addBehind_24 ?_
      refine Ev_goto (tgt := 6) dX2_addBehind_27 (by decide) ?_
      exact ih M6 v0 v1 (v2 + 1) h
def fX2_addBehind (M : mM) (v0 : Nat) (v1 : Nat) : Option mM :=
    if isO M v0 2 = true then
      (fX2_overlapWith M v0 v1).bind fun x2 =>
      fX2_addBehind_c6 FUEL M v0 v1 x2
    else none
theorem oX2_addBehind {M : mM} {v0 : Nat} {v1 : Nat} {y : mM} (h : fX2_addBehind M v0 v1 = some y) : isO M v0 2 = true := by
  unfold fX2_addBehind at h
  exact (gsome h).1
set_option maxRecDepth 20000 in
set_option maxHeartbeats 4000000 in
theorem rX2_addBehind {E : mE} {M : mM} {v0 : Nat} {v1 : Nat} {Mf : mM} (h : fX2_addBehind M v0 v1 = some Mf) : EvC mX2_addBehind E 2 0 0 [.ref v0, .ref v1] M none Mf := by
  unfold fX2_addBehind at h
  replace h := (gsome h).2
  refine EvC.of [some (.ref v0), some (.ref v1), none] pnX2_addBehind rfl (Nat.le_of_ble_eq_true rfl) ?_
  refine Ev_aload_n (x := v0) rfl dX2_addBehind_0 ?_
  refine Ev_aload_n (x := v1) rfl dX2_addBehind_1 ?_
  obtain ⟨x2, g1, h⟩ := bsome h
  refine Ev_callVi (np := 1) (vs := [.ref v1]) (rest := []) mdX2_overlapWith lkX2_34 ⟨_, rfl, rfl⟩ (oX2_overlapWith g1) (rX2_overlapWith g1) rfl rfl (Nat.le_of_ble_eq_true rfl) (Nat.le_of_ble_eq_true rfl) dX2_addBehind_2 ?_
  refine Ev_istore_n (loc2 := [some (.ref v0), some (.ref v1), some (.int x2)]) (Nat.le_of_ble_eq_true rfl) rfl rfl dX2_addBehind_5 ?_
  exact rX2_addBehind_c6 FUEL M v0 v1 x2 h
/-! TinselRiver$Row.firstPlaceOf(LTinselRiver$Row;)I -/
def fX2_firstPlaceOf_c2 (M : mM) : Nat → Nat → Nat → Int32 → Option Int32
  | 0, _, _, _ => none
  | n + 1, v0, v1, v2 =>
    (gI M v0 2 1).bind fun x1 =>
    if x1 ≤ v2 then
      (some (-9))
    else
      ((fX2_bearsAt M v0 v2 v1).bind fun x4 =>
      if x4 = 0 then
        (fX2_firstPlaceOf_c2 M n v0 v1 (v2 + 1))
      else
        (some v2))
set_option maxRecDepth 20000 in
set_option maxHeartbeats 4000000 in
theorem rX2_firstPlaceOf_c2 {E : mE} {M : mM} {x : Int32} : ∀ (n : Nat) (v0 : Nat) (v1 : Nat) (v2 : Int32), fX2_firstPlaceOf_c2 M n v0 v1 v2 = some x → Ev mX2_firstPlaceOf E 1 0 0 (some (.int x)) M 2 [some (.ref v0), some (.ref v1), some (.int v2)] [] M 0 0 := by
  intro n
  induction n with
  | zero => intro v0 v1 v2 h; rw [fX2_firstPlaceOf_c2.eq_1] at h; cases h
  | succ n ih =>
    intro v0 v1 v2 h
    rw [fX2_firstPlaceOf_c2.eq_2] at h
    refine Ev_iload_n (x := v2) rfl dX2_firstPlaceOf_2 ?_
    refine Ev_aload_n (x := v0) rfl dX2_firstPlaceOf_3 ?_
    obtain ⟨x1, g1, h⟩ := bsome h
    refine Ev_getI flX2_21 dX2_firstPlaceOf_4 g1 ?_
    refine Ev_icmp_ge (tgt := 27) dX2_firstPlaceOf_7 (by decide) (fun q2 => ?_) (fun q2 => ?_)
    · rw [if_pos q2] at h
      refine Ev_bipush bp_m9 dX2_firstPlaceOf_27 ?_
      cases h
      exact Ev_iret rfl rfl dX2_firstPlaceOf_29 ⟨rfl, rfl⟩
    · rw [if_neg q2] at h
      refine Ev_aload_n (x := v0) rfl dX2_firstPlaceOf_10 ?_
      refine Ev_iload_n (x := v2) rfl dX2_firstPlaceOf_11 ?_
      refine Ev_aload_n (x := v1) rfl dX2_firstPlaceOf_12 ?_
      obtain ⟨x4, g3, h⟩ := bsome h
      refine Ev_callVi (np := 2) (vs := [.int v2, .ref v1]) (rest := []) mdX2_bearsAt lkX2_42 ⟨_, rfl, rfl⟩ (oX2_bearsAt g3) (rX2_bearsAt g3) rfl rfl (Nat.le_of_ble_eq_true rfl) (Nat.le_of_ble_eq_true rfl) dX2_firstPlaceOf_13 ?_
      refine Ev_if_eq (tgt := 21) dX2_firstPlaceOf_16 (by decide) (fun q5 => ?_) (fun q5 => ?_)
      · rw [if_pos q5] at h
        refine Ev_iinc (x := v2) (v := (v2 + 1)) (loc2 := [some (.ref v0), some (.ref v1), some (.int (v2 + 1))]) rfl (congrArg (v2 + ·) ic_1) (Nat.le_of_ble_eq_true rfl) rfl rfl dX2_firstPlaceOf_21 ?_
        refine Ev_goto (tgt := 2) dX2_firstPlaceOf_24 (by decide) ?_
        exact ih v0 v1 (v2 + 1) h
      · rw [if_neg q5] at h
        refine Ev_iload_n (x := v2) rfl dX2_firstPlaceOf_19 ?_
        cases h
        exact Ev_iret rfl rfl dX2_firstPlaceOf_20 ⟨rfl, rfl⟩
def fX2_firstPlaceOf (M : mM) (v0 : Nat) (v1 : Nat) : Option Int32 :=
    if isO M v0 2 = true then
      fX2_firstPlaceOf_c2 M FUEL v0 v1 0
    else none
theorem oX2_firstPlaceOf {M : mM} {v0 : Nat} {v1 : Nat} {y : Int32} (h : fX2_firstPlaceOf M v0 v1 = some y) : isO M v0 2 = true := by
  unfold fX2_firstPlaceOf at h
  exact (gsome h).1
set_option maxRecDepth 20000 in
set_option maxHeartbeats 4000000 in
theorem rX2_firstPlaceOf {E : mE} {M : mM} {v0 : Nat} {v1 : Nat} {x : Int32} (h : fX2_firstPlaceOf M v0 v1 = some x) : EvC mX2_firstPlaceOf E 1 0 0 [.ref v0, .ref v1] M (some (.int x)) M := by
  unfold fX2_firstPlaceOf at h
  replace h := (gsome h).2
  refine EvC.of [some (.ref v0), some (.ref v1), none] pnX2_firstPlaceOf rfl (Nat.le_of_ble_eq_true rfl) ?_
  refine Ev_iconst ic_0 dX2_firstPlaceOf_0 ?_
  refine Ev_istore_n (loc2 := [some (.ref v0), some (.ref v1), some (.int 0)]) (Nat.le_of_ble_eq_true rfl) rfl rfl dX2_firstPlaceOf_1 ?_
  exact rX2_firstPlaceOf_c2 FUEL v0 v1 0 h
/-! TinselRiver$Row.bitsAt(I)I -/
def fX2_bitsAt (M : mM) (v0 : Nat) (v1 : Int32) : Option Int32 :=
    if isO M v0 2 = true then
      (gI M v0 2 1).bind fun x1 =>
      some (((1 <<< (x1 &&& 31)) - 1) <<< (v1 &&& 31))
    else none
theorem oX2_bitsAt {M : mM} {v0 : Nat} {v1 : Int32} {y : Int32} (h : fX2_bitsAt M v0 v1 = some y) : isO M v0 2 = true := by
  unfold fX2_bitsAt at h
  exact (gsome h).1
set_option maxRecDepth 20000 in
set_option maxHeartbeats 4000000 in
theorem rX2_bitsAt {E : mE} {M : mM} {v0 : Nat} {v1 : Int32} {x : Int32} (h : fX2_bitsAt M v0 v1 = some x) : EvC mX2_bitsAt E 0 0 0 [.ref v0, .int v1] M (some (.int x)) M := by
  unfold fX2_bitsAt at h
  replace h := (gsome h).2
  refine EvC.of [some (.ref v0), some (.int v1)] pnX2_bitsAt rfl (Nat.le_of_ble_eq_true rfl) ?_
  refine Ev_iconst ic_1 dX2_bitsAt_0 ?_
  refine Ev_aload_n (x := v0) rfl dX2_bitsAt_1 ?_
  obtain ⟨x1, g1, h⟩ := bsome h
  refine Ev_getI flX2_21 dX2_bitsAt_2 g1 ?_
  refine Ev_ishl dX2_bitsAt_5 ?_
  refine Ev_iconst ic_1 dX2_bitsAt_6 ?_
  refine Ev_isub dX2_bitsAt_7 ?_
  refine Ev_iload_n (x := v1) rfl dX2_bitsAt_8 ?_
  refine Ev_ishl dX2_bitsAt_9 ?_
  cases h
  exact Ev_iret rfl rfl dX2_bitsAt_10 ⟨rfl, rfl⟩
/-! TinselRiver$Row.placesUnder(LTinselRiver$Row;)I -/
def fX2_placesUnder_c4 (M : mM) : Nat → Nat → Nat → Int32 → Int32 → Option Int32
  | 0, _, _, _, _ => none
  | n + 1, v0, v1, v2, v3 =>
    (gI M v0 2 1).bind fun x1 =>
    if x1 ≤ v3 then
      (some v2)
    else
      ((fX2_bearsAt M v0 v3 v1).bind fun x4 =>
      if x4 = 0 then
        (fX2_placesUnder_c4 M n v0 v1 v2 (v3 + 1))
      else
        ((fX2_bitsAt M v1 v3).bind fun x7 =>
        fX2_placesUnder_c4 M n v0 v1 (v2 ||| x7) (v3 + 1)))
set_option maxRecDepth 20000 in
set_option maxHeartbeats 4000000 in
theorem rX2_placesUnder_c4 {E : mE} {M : mM} {x : Int32} : ∀ (n : Nat) (v0 : Nat) (v1 : Nat) (v2 : Int32) (v3 : Int32), fX2_placesUnder_c4 M n v0 v1 v2 v3 = some x → Ev mX2_placesUnder E 1 0 0 (some (.int x)) M 4 [some (.ref v0), some (.ref v1), some (.int v2), some (.int v3)] [] M 0 0 := by
  intro n
  induction n with
  | zero => intro v0 v1 v2 v3 h; rw [fX2_placesUnder_c4.eq_1] at h; cases h
  | succ n ih =>
    intro v0 v1 v2 v3 h
    rw [fX2_placesUnder_c4.eq_2] at h
    refine Ev_iload_n (x := v3) rfl dX2_placesUnder_4 ?_
    refine Ev_aload_n (x := v0) rfl dX2_placesUnder_5 ?_
    obtain ⟨x1, g1, h⟩ := bsome h
    refine Ev_getI flX2_21 dX2_placesUnder_6 g1 ?_
    refine Ev_icmp_ge (tgt := 35) dX2_placesUnder_9 (by decide) (fun q2 => ?_) (fun q2 => ?_)
    · rw [if_pos q2] at h
      refine Ev_iload_n (x := v2) rfl dX2_placesUnder_35 ?_
      cases h
      exact Ev_iret rfl rfl dX2_placesUnder_36 ⟨rfl, rfl⟩
    · rw [if_neg q2] at h
      refine Ev_aload_n (x := v0) rfl dX2_placesUnder_12 ?_
      refine Ev_iload_n (x := v3) rfl dX2_placesUnder_13 ?_
      refine Ev_aload_n (x := v1) rfl dX2_placesUnder_14 ?_
      obtain ⟨x4, g3, h⟩ := bsome h
      refine Ev_callVi (np := 2) (vs := [.int v3, .ref v1]) (rest := []) mdX2_bearsAt lkX2_42 ⟨_, rfl, rfl⟩ (oX2_bearsAt g3) (rX2_bearsAt g3) rfl rfl (Nat.le_of_ble_eq_true rfl) (Nat.le_of_ble_eq_true rfl) dX2_placesUnder_15 ?_
      refine Ev_if_eq (tgt := 29) dX2_placesUnder_18 (by decide) (fun q5 => ?_) (fun q5 => ?_)
      · rw [if_pos q5] at h
        refine Ev_iinc (x := v3) (v := (v3 + 1)) (loc2 := [some (.ref v0), some (.ref v1), some (.int v2), some (.int (v3 + 1))]) rfl (congrArg (v3 + ·) ic_1) (Nat.le_of_ble_eq_true rfl) rfl rfl dX2_placesUnder_29 ?_
        refine Ev_goto (tgt := 4) dX2_placesUnder_32 (by decide) ?_
        exact ih v0 v1 v2 (v3 + 1) h
      · rw [if_neg q5] at h
        refine Ev_iload_n (x := v2) rfl dX2_placesUnder_21 ?_
        refine Ev_aload_n (x := v1) rfl dX2_placesUnder_22 ?_
        refine Ev_iload_n (x := v3) rfl dX2_placesUnder_23 ?_
        obtain ⟨x7, g6, h⟩ := bsome h
        refine Ev_callVi (np := 1) (vs := [.int v3]) (rest := [.int v2]) mdX2_bitsAt lkX2_46 ⟨_, rfl, rfl⟩ (oX2_bitsAt g6) (rX2_bitsAt g6) rfl rfl (Nat.le_of_ble_eq_true rfl) (Nat.le_of_ble_eq_true rfl) dX2_placesUnder_24 ?_
        refine Ev_ior dX2_placesUnder_27 ?_
        refine Ev_istore_n (loc2 := [some (.ref v0), some (.ref v1), some (.int (v2 ||| x7)), some (.int v3)]) (Nat.le_of_ble_eq_true rfl) rfl rfl dX2_placesUnder_28 ?_
        refine Ev_iinc (x := v3) (v := (v3 + 1)) (loc2 := [some (.ref v0), some (.ref v1), some (.int (v2 ||| x7)), some (.int (v3 + 1))]) rfl (congrArg (v3 + ·) ic_1) (Nat.le_of_ble_eq_true rfl) rfl rfl dX2_placesUnder_29 ?_
        refine Ev_goto (tgt := 4) dX2_placesUnder_32 (by decide) ?_
        exact ih v0 v1 (v2 ||| x7) (v3 + 1) h
def fX2_placesUnder (M : mM) (v0 : Nat) (v1 : Nat) : Option Int32 :=
    if isO M v0 2 = true then
      fX2_placesUnder_c4 M FUEL v0 v1 0 0
    else none
theorem oX2_placesUnder {M : mM} {v0 : Nat} {v1 : Nat} {y : Int32} (h : fX2_placesUnder M v0 v1 = some y) : isO M v0 2 = true := by
  unfold fX2_placesUnder at h
  exact (gsome h).1
set_option maxRecDepth 20000 in
set_option maxHeartbeats 4000000 in
theorem rX2_placesUnder {E : mE} {M : mM} {v0 : Nat} {v1 : Nat} {x : Int32} (h : fX2_placesUnder M v0 v1 = some x) : EvC mX2_placesUnder E 1 0 0 [.ref v0, .ref v1] M (some (.int x)) M := by
  unfold fX2_placesUnder at h
  replace h := (gsome h).2
  refine EvC.of [some (.ref v0), some (.ref v1), none, none] pnX2_placesUnder rfl (Nat.le_of_ble_eq_true rfl) ?_
  refine Ev_iconst ic_0 dX2_placesUnder_0 ?_
  refine Ev_istore_n (loc2 := [some (.ref v0), some (.ref v1), some (.int 0), none]) (Nat.le_of_ble_eq_true rfl) rfl rfl dX2_placesUnder_1 ?_
  refine Ev_iconst ic_0 dX2_placesUnder_2 ?_
  refine Ev_istore_n (loc2 := [some (.ref v0), some (.ref v1), some (.int 0), some (.int 0)]) (Nat.le_of_ble_eq_true rfl) rfl rfl dX2_placesUnder_3 ?_
  exact rX2_placesUnder_c4 FUEL v0 v1 0 0 h
