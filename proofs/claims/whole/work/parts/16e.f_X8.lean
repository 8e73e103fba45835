/-! printed by wip/whole/gen.py -/
/-! TinselRiverModel.liesAt(III)Z -/
def fX8_liesAt_c36 (M : mM) : Nat → Nat → Int32 → Int32 → Int32 → Int32 → Int32 → Int32 → Option Int32
  | 0, _, _, _, _, _, _, _ => none
  | n + 1, v0, v1, v2, v3, v4, v5, v6 =>
    if v4 ≤ v6 then
      (if v5 = 0 ∨ v5 = 1 then some v5 else none)
    else
      (if v5 = 0 then
        (if v5 = 0 ∨ v5 = 1 then some v5 else none)
      else
        ((gR M v0 8 12).bind fun a5 =>
        (aI M false a5 (v3 + v6)).bind fun x6 =>
        (fX8_bendAt M v0 v1 v2 v6).bind fun x8 =>
        if x6 = x8 then
          (fX8_liesAt_c36 M n v0 v1 v2 v3 v4 1 (v6 + 1))
        else
          (fX8_liesAt_c36 M n v0 v1 v2 v3 v4 0 (v6 + 1))))
set_option maxRecDepth 20000 in
set_option maxHeartbeats 4000000 in
theorem rX8_liesAt_c36 {E : mE} {M : mM} {x : Int32} : ∀ (n : Nat) (v0 : Nat) (v1 : Int32) (v2 : Int32) (v3 : Int32) (v4 : Int32) (v5 : Int32) (v6 : Int32), fX8_liesAt_c36 M n v0 v1 v2 v3 v4 v5 v6 = some x → Ev mX8_liesAt E 1 0 0 (some (.int x)) M 36 [some (.ref v0), some (.int v1), some (.int v2), some (.int v3), some (.int v4), some (.int v5), some (.int v6)] [] M 0 0 := by
  intro n
  induction n with
  | zero => intro v0 v1 v2 v3 v4 v5 v6 h; rw [fX8_liesAt_c36.eq_1] at h; cases h
  | succ n ih =>
    intro v0 v1 v2 v3 v4 v5 v6 h
    rw [fX8_liesAt_c36.eq_2] at h
    refine Ev_iload (x := v6) rfl dX8_liesAt_36 ?_
    refine Ev_iload (x := v4) rfl dX8_liesAt_38 ?_
    refine Ev_icmp_ge (tgt := 81) dX8_liesAt_40 (by decide) (fun q1 => ?_) (fun q1 => ?_)
    · rw [if_pos q1] at h
      refine Ev_iload (x := v5) rfl dX8_liesAt_81 ?_
      obtain ⟨b2, h⟩ := gsome h
      cases h
      exact Ev_iret rfl (mb01 b2) dX8_liesAt_83 ⟨rfl, rfl⟩
    · rw [if_neg q1] at h
      refine Ev_iload (x := v5) rfl dX8_liesAt_43 ?_
      refine Ev_if_eq (tgt := 81) dX8_liesAt_45 (by decide) (fun q3 => ?_) (fun q3 => ?_)
      · rw [if_pos q3] at h
        refine Ev_iload (x := v5) rfl dX8_liesAt_81 ?_
        obtain ⟨b4, h⟩ := gsome h
        cases h
        exact Ev_iret rfl (mb01 b4) dX8_liesAt_83 ⟨rfl, rfl⟩
      · rw [if_neg q3] at h
        refine Ev_aload_n (x := v0) rfl dX8_liesAt_48 ?_
        obtain ⟨a5, g5, h⟩ := bsome h
        refine Ev_getR flX8_28 dX8_liesAt_49 g5 ?_
        refine Ev_iload_n (x := v3) rfl dX8_liesAt_52 ?_
        refine Ev_iload (x := v6) rfl dX8_liesAt_53 ?_
        refine Ev_iadd dX8_liesAt_55 ?_
        obtain ⟨x6, g6, h⟩ := bsome h
        refine Ev_iald dX8_liesAt_56 g6 ?_
        refine Ev_aload_n (x := v0) rfl dX8_liesAt_57 ?_
        refine Ev_iload_n (x := v1) rfl dX8_liesAt_58 ?_
        refine Ev_iload_n (x := v2) rfl dX8_liesAt_59 ?_
        refine Ev_iload (x := v6) rfl dX8_liesAt_60 ?_
        obtain ⟨x8, g7, h⟩ := bsome h
        refine Ev_callVi (np := 3) (vs := [.int v1, .int v2, .int v6]) (rest := [.int x6]) mdX8_bendAt lkX8_122 ⟨_, rfl, rfl⟩ (oX8_bendAt g7) (rX8_bendAt g7) rfl rfl (Nat.le_of_ble_eq_true rfl) (Nat.le_of_ble_eq_true rfl) dX8_liesAt_62 ?_
        refine Ev_icmp_ne (tgt := 72) dX8_liesAt_65 (by decide) (fun q9 => ?_) (fun q9 => ?_)
        · rw [if_neg q9] at h
          refine Ev_iconst ic_0 dX8_liesAt_72 ?_
          refine Ev_istore (loc2 := [some (.ref v0), some (.int v1), some (.int v2), some (.int v3), some (.int v4), some (.int 0), some (.int v6)]) (Nat.le_of_ble_eq_true rfl) rfl rfl dX8_liesAt_73 ?_
          refine Ev_iinc (x := v6) (v := (v6 + 1)) (loc2 := [some (.ref v0), some (.int v1), some (.int v2), some (.int v3), some (.int v4), some (.int 0), some (.int (v6 + 1))]) rfl (congrArg (v6 + ·) ic_1) (Nat.le_of_ble_eq_true rfl) rfl rfl dX8_liesAt_75 ?_
          refine Ev_goto (tgt := 36) dX8_liesAt_78 (by decide) ?_
          exact ih v0 v1 v2 v3 v4 0 (v6 + 1) h
        · rw [if_pos q9] at h
          refine Ev_iconst ic_1 dX8_liesAt_68 ?_
          refine Ev_goto (tgt := 73) dX8_liesAt_69 (by decide) ?_
          refine Ev_istore (loc2 := [some (.ref v0), some (.int v1), some (.int v2), some (.int v3), some (.int v4), some (.int 1), some (.int v6)]) (Nat.le_of_ble_eq_true rfl) rfl rfl dX8_liesAt_73 ?_
          refine Ev_iinc (x := v6) (v := (v6 + 1)) (loc2 := [some (.ref v0), some (.int v1), some (.int v2), some (.int v3), some (.int v4), some (.int 1), some (.int (v6 + 1))]) rfl (congrArg (v6 + ·) ic_1) (Nat.le_of_ble_eq_true rfl) rfl rfl dX8_liesAt_75 ?_
          refine Ev_goto (tgt := 36) dX8_liesAt_78 (by decide) ?_
          exact ih v0 v1 v2 v3 v4 1 (v6 + 1) h
def fX8_liesAt (M : mM) (v0 : Nat) (v1 : Int32) (v2 : Int32) (v3 : Int32) : Option Int32 :=
    if isO M v0 8 = true then
      (gR M v0 8 2).bind fun a1 =>
      (aI M false a1 (((57 * v1) + 4) + v2)).bind fun x2 =>
      (gI M v0 8 11).bind fun x3 =>
      if x3 < (v3 + x2) then
        (fX8_liesAt_c36 M FUEL v0 v1 v2 v3 x2 0 0)
      else
        (fX8_liesAt_c36 M FUEL v0 v1 v2 v3 x2 1 0)
    else none
theorem oX8_liesAt {M : mM} {v0 : Nat} {v1 : Int32} {v2 : Int32} {v3 : Int32} {y : Int32} (h : fX8_liesAt M v0 v1 v2 v3 = some y) : isO M v0 8 = true := by
  unfold fX8_liesAt at h
  exact (gsome h).1
set_option maxRecDepth 20000 in
set_option maxHeartbeats 4000000 in
theorem rX8_liesAt {E : mE} {M : mM} {v0 : Nat} {v1 : Int32} {v2 : Int32} {v3 : Int32} {x : Int32} (h : fX8_liesAt M v0 v1 v2 v3 = some x) : EvC mX8_liesAt E 1 0 0 [.ref v0, .int v1, .int v2, .int v3] M (some (.int x)) M := by
  unfold fX8_liesAt at h
  replace h := (gsome h).2
  refine EvC.of [some (.ref v0), some (.int v1), some (.int v2), some (.int v3), none, none, none] pnX8_liesAt rfl (Nat.le_of_ble_eq_true rfl) ?_
  refine Ev_aload_n (x := v0) rfl dX8_liesAt_0 ?_
  obtain ⟨a1, g1, h⟩ := bsome h
  refine Ev_getR flX8_13 dX8_liesAt_1 g1 ?_
  refine Ev_bipush bp_57 dX8_liesAt_4 ?_
  refine Ev_iload_n (x := v1) rfl dX8_liesAt_6 ?_
  refine Ev_imul dX8_liesAt_7 ?_
  refine Ev_iconst ic_4 dX8_liesAt_8 ?_
  refine Ev_iadd dX8_liesAt_9 ?_
  refine Ev_iload_n (x := v2) rfl dX8_liesAt_10 ?_
  refine Ev_iadd dX8_liesAt_11 ?_
  obtain ⟨x2, g2, h⟩ := bsome h
  refine Ev_iald dX8_liesAt_12 g2 ?_
  refine Ev_istore (loc2 := [some (.ref v0), some (.int v1), some (.int v2), some (.int v3), some (.int x2), none, none]) (Nat.le_of_ble_eq_true rfl) rfl rfl dX8_liesAt_13 ?_
  refine Ev_iload_n (x := v3) rfl dX8_liesAt_15 ?_
  refine Ev_iload (x := x2) rfl dX8_liesAt_16 ?_
  refine Ev_iadd dX8_liesAt_18 ?_
  refine Ev_aload_n (x := v0) rfl dX8_liesAt_19 ?_
  obtain ⟨x3, g3, h⟩ := bsome h
  refine Ev_getI flX8_146 dX8_liesAt_20 g3 ?_
  refine Ev_icmp_gt (tgt := 30) dX8_liesAt_23 (by decide) (fun q4 => ?_) (fun q4 => ?_)
  · rw [if_pos q4] at h
    refine Ev_iconst ic_0 dX8_liesAt_30 ?_
    refine Ev_istore (loc2 := [some (.ref v0), some (.int v1), some (.int v2), some (.int v3), some (.int x2), some (.int 0), none]) (Nat.le_of_ble_eq_true rfl) rfl rfl dX8_liesAt_31 ?_
    refine Ev_iconst ic_0 dX8_liesAt_33 ?_
    refine Ev_istore (loc2 := [some (.ref v0), some (.int v1), some (.int v2), some (.int v3), some (.int x2), some (.int 0), some (.int 0)]) (Nat.le_of_ble_eq_true rfl) rfl rfl dX8_liesAt_34 ?_
    exact rX8_liesAt_c36 FUEL v0 v1 v2 v3 x2 0 0 h
  · rw [if_neg q4] at h
    refine Ev_iconst ic_1 dX8_liesAt_26 ?_
    refine Ev_goto (tgt := 31) dX8_liesAt_27 (by decide) ?_
    refine Ev_istore (loc2 := [some (.ref v0), some (.int v1), some (.int v2), some (.int v3), some (.int x2), some (.int 1), none]) (Nat.le_of_ble_eq_true rfl) rfl rfl dX8_liesAt_31 ?_
    refine Ev_iconst ic_0 dX8_liesAt_33 ?_
    refine Ev_istore (loc2 := [some (.ref v0), some (.int v1), some (.int v2), some (.int v3), some (.int x2), some (.int 1), some (.int 0)]) (Nat.le_of_ble_eq_true rfl) rfl rfl dX8_liesAt_34 ?_
    exact rX8_liesAt_c36 FUEL v0 v1 v2 v3 x2 1 0 h
/-! TinselRiverModel.firstPlace(II)I -/
def fX8_firstPlace_c2 (M : mM) : Nat → Nat → Int32 → Int32 → Int32 → Option Int32
  | 0, _, _, _, _ => none
  | n + 1, v0, v1, v2, v3 =>
    (gI M v0 8 11).bind fun x1 =>
    if x1 ≤ v3 then
      (some (-9))
    else
      ((fX8_liesAt M v0 v1 v2 v3).bind fun x4 =>
      if x4 = 0 then
        (fX8_firstPlace_c2 M n v0 v1 v2 (v3 + 1))
      else
        (some v3))
set_option maxRecDepth 20000 in
set_option maxHeartbeats 4000000 in
theorem rX8_firstPlace_c2 {E : mE} {M : mM} {x : Int32} : ∀ (n : Nat) (v0 : Nat) (v1 : Int32) (v2 : Int32) (v3 : Int32), fX8_firstPlace_c2 M n v0 v1 v2 v3 = some x → Ev mX8_firstPlace E 2 0 0 (some (.int x)) M 2 [some (.ref v0), some (.int v1), some (.int v2), some (.int v3)] [] M 0 0 := by
  intro n
  induction n with
  | zero => intro v0 v1 v2 v3 h; rw [fX8_firstPlace_c2.eq_1] at h; cases h
  | succ n ih =>
    intro v0 v1 v2 v3 h
    rw [fX8_firstPlace_c2.eq_2] at h
    refine Ev_iload_n (x := v3) rfl dX8_firstPlace_2 ?_
    refine Ev_aload_n (x := v0) rfl dX8_firstPlace_3 ?_
    obtain ⟨x1, g1, h⟩ := bsome h
    refine Ev_getI flX8_146 dX8_firstPlace_4 g1 ?_
    refine Ev_icmp_ge (tgt := 28) dX8_firstPlace_7 (by decide) (fun q2 => ?_) (fun q2 => ?_)
    · rw [if_pos q2] at h
      refine Ev_bipush bp_m9 dX8_firstPlace_28 ?_
      cases h
      exact Ev_iret rfl rfl dX8_firstPlace_30 ⟨rfl, rfl⟩
    · rw [if_neg q2] at h
      refine Ev_aload_n (x := v0) rfl dX8_firstPlace_10 ?_
      refine Ev_iload_n (x := v1) rfl dX8_firstPlace_11 ?_
      refine Ev_iload_n (x := v2) rfl dX8_firstPlace_12 ?_
      refine Ev_iload_n (x := v3) rfl dX8_firstPlace_13 ?_
      obtain ⟨x4, g3, h⟩ := bsome h
      refine Ev_callVi (np := 3) (vs := [.int v1, .int v2, .int v3]) (rest := []) mdX8_liesAt lkX8_149 ⟨_, rfl, rfl⟩ (oX8_liesAt g3) (rX8_liesAt g3) rfl rfl (Nat.le_of_ble_eq_true rfl) (Nat.le_of_ble_eq_true rfl) dX8_firstPlace_14 ?_
      refine Ev_if_eq (tgt := 22) dX8_firstPlace_17 (by decide) (fun q5 => ?_) (fun q5 => ?_)
      · rw [if_pos q5] at h
        refine Ev_iinc (x := v3) (v := (v3 + 1)) (loc2 := [some (.ref v0), some (.int v1), some (.int v2), some (.int (v3 + 1))]) rfl (congrArg (v3 + ·) ic_1) (Nat.le_of_ble_eq_true rfl) rfl rfl dX8_firstPlace_22 ?_
        refine Ev_goto (tgt := 2) dX8_firstPlace_25 (by decide) ?_
        exact ih v0 v1 v2 (v3 + 1) h
      · rw [if_neg q5] at h
        refine Ev_iload_n (x := v3) rfl dX8_firstPlace_20 ?_
        cases h
        exact Ev_iret rfl rfl dX8_firstPlace_21 ⟨rfl, rfl⟩
def fX8_firstPlace (M : mM) (v0 : Nat) (v1 : Int32) (v2 : Int32) : Option Int32 :=
    if isO M v0 8 = true then
      fX8_firstPlace_c2 M FUEL v0 v1 v2 0
    else none
theorem oX8_firstPlace {M : mM} {v0 : Nat} {v1 : Int32} {v2 : Int32} {y : Int32} (h : fX8_firstPlace M v0 v1 v2 = some y) : isO M v0 8 = true := by
  unfold fX8_firstPlace at h
  exact (gsome h).1
set_option maxRecDepth 20000 in
set_option maxHeartbeats 4000000 in
theorem rX8_firstPlace {E : mE} {M : mM} {v0 : Nat} {v1 : Int32} {v2 : Int32} {x : Int32} (h : fX8_firstPlace M v0 v1 v2 = some x) : EvC mX8_firstPlace E 2 0 0 [.ref v0, .int v1, .int v2] M (some (.int x)) M := by
  unfold fX8_firstPlace at h
  replace h := (gsome h).2
  refine EvC.of [some (.ref v0), some (.int v1), some (.int v2), none] pnX8_firstPlace rfl (Nat.le_of_ble_eq_true rfl) ?_
  refine Ev_iconst ic_0 dX8_firstPlace_0 ?_
  refine Ev_istore_n (loc2 := [some (.ref v0), some (.int v1), some (.int v2), some (.int 0)]) (Nat.le_of_ble_eq_true rfl) rfl rfl dX8_firstPlace_1 ?_
  exact rX8_firstPlace_c2 FUEL v0 v1 v2 0 h
/-! TinselRiverModel.coverOf(I)I -/
def fX8_coverOf_c15 (M : mM) (k4 : Nat → Int32 → Int32 → Int32 → Option Int32) : Nat → Nat → Int32 → Int32 → Int32 → Int32 → Option Int32
  | 0, _, _, _, _, _ => none
  | n + 1, v0, v1, v2, v3, v4 =>
    (gI M v0 8 11).bind fun x1 =>
    if x1 ≤ v4 then
      (k4 v0 v1 v2 (v3 + 1))
    else
      ((fX8_has M v1 v3).bind fun x4 =>
      if x4 = 0 then
        (k4 v0 v1 v2 (v3 + 1))
      else
        ((fX8_liesAt M v0 0 v3 v4).bind fun x7 =>
        if x7 = 0 then
          (fX8_coverOf_c15 M k4 n v0 v1 (v2 ||| 0) v3 (v4 + 1))
        else
          ((gR M v0 8 2).bind fun a9 =>
          (aI M false a9 (4 + v3)).bind fun x10 =>
          fX8_coverOf_c15 M k4 n v0 v1 (v2 ||| (((1 <<< (x10 &&& 31)) - 1) <<< (v4 &&& 31))) v3 (v4 + 1))))
set_option maxRecDepth 20000 in
set_option maxHeartbeats 4000000 in
theorem rX8_coverOf_c15 {E : mE} {M : mM} {x : Int32} {k4 : Nat → Int32 → Int32 → Int32 → Option Int32} (hk4 : ∀ (w0 : Nat) (w1 : Int32) (w2 : Int32) (w3 : Int32), k4 w0 w1 w2 w3 = some x → Ev mX8_coverOf E 2 0 0 (some (.int x)) M 4 [some (.ref w0), some (.int w1), some (.int w2), some (.int w3), none] [] M 0 0) : ∀ (n : Nat) (v0 : Nat) (v1 : Int32) (v2 : Int32) (v3 : Int32) (v4 : Int32), fX8_coverOf_c15 M k4 n v0 v1 v2 v3 v4 = some x → Ev mX8_coverOf E 2 0 0 (some (.int x)) M 15 [some (.ref v0), some (.int v1), some (.int v2), some (.int v3), some (.int v4)] [] M 0 0 := by
  intro n
  induction n with
  | zero => intro v0 v1 v2 v3 v4 h; rw [fX8_coverOf_c15.eq_1] at h; cases h
  | succ n ih =>
    intro v0 v1 v2 v3 v4 h
    rw [fX8_coverOf_c15.eq_2] at h
    refine Ev_iload (x := v4) rfl dX8_coverOf_15 ?_
    refine Ev_aload_n (x := v0) rfl dX8_coverOf_17 ?_
    obtain ⟨x1, g1, h⟩ := bsome h
    refine Ev_getI flX8_146 dX8_coverOf_18 g1 ?_
    refine Ev_icmp_ge (tgt := 71) dX8_coverOf_21 (by decide) (fun q2 => ?_) (fun q2 => ?_)
    · rw [if_pos q2] at h
      refine Ev_iinc (x := v3) (v := (v3 + 1)) (loc2 := [some (.ref v0), some (.int v1), some (.int v2), some (.int (v3 + 1)), some (.int v4)]) rfl (congrArg (v3 + ·) ic_1) (Nat.le_of_ble_eq_true rfl) rfl rfl dX8_coverOf_71 ?_
      refine Ev_goto (tgt := 4) dX8_coverOf_74 (by decide) ?_
      refine Ev_drop 4 (loc2 := [some (.ref v0), some (.int v1), some (.int v2), some (.int (v3 + 1)), none]) rfl ?_
      exact hk4 v0 v1 v2 (v3 + 1) h
    · rw [if_neg q2] at h
      refine Ev_iload_n (x := v1) rfl dX8_coverOf_24 ?_
      refine Ev_iload_n (x := v3) rfl dX8_coverOf_25 ?_
      obtain ⟨x4, g3, h⟩ := bsome h
      refine Ev_callSi (np := 2) (vs := [.int v1, .int v3]) (rest := []) mdX8_has lkX8_106 (rX8_has g3) rfl rfl (Nat.le_of_ble_eq_true rfl) (Nat.le_of_ble_eq_true rfl) dX8_coverOf_26 ?_
      refine Ev_if_eq (tgt := 71) dX8_coverOf_29 (by decide) (fun q5 => ?_) (fun q5 => ?_)
      · rw [if_pos q5] at h
        refine Ev_iinc (x := v3) (v := (v3 + 1)) (loc2 := [some (.ref v0), some (.int v1), some (.int v2), some (.int (v3 + 1)), some (.int v4)]) rfl (congrArg (v3 + ·) ic_1) (Nat.le_of_ble_eq_true rfl) rfl rfl dX8_coverOf_71 ?_
        refine Ev_goto (tgt := 4) dX8_coverOf_74 (by decide) ?_
        refine Ev_drop 4 (loc2 := [some (.ref v0), some (.int v1), some (.int v2), some (.int (v3 + 1)), none]) rfl ?_
        exact hk4 v0 v1 v2 (v3 + 1) h
      · rw [if_neg q5] at h
        refine Ev_iload_n (x := v2) rfl dX8_coverOf_32 ?_
        refine Ev_aload_n (x := v0) rfl dX8_coverOf_33 ?_
        refine Ev_iconst ic_0 dX8_coverOf_34 ?_
        refine Ev_iload_n (x := v3) rfl dX8_coverOf_35 ?_
        refine Ev_iload (x := v4) rfl dX8_coverOf_36 ?_
        obtain ⟨x7, g6, h⟩ := bsome h
        refine Ev_callVi (np := 3) (vs := [.int 0, .int v3, .int v4]) (rest := [.int v2]) mdX8_liesAt lkX8_149 ⟨_, rfl, rfl⟩ (oX8_liesAt g6) (rX8_liesAt g6) rfl rfl (Nat.le_of_ble_eq_true rfl) (Nat.le_of_ble_eq_true rfl) dX8_coverOf_38 ?_
        refine Ev_if_eq (tgt := 62) dX8_coverOf_41 (by decide) (fun q8 => ?_) (fun q8 => ?_)
        · rw [if_pos q8] at h
          refine Ev_iconst ic_0 dX8_coverOf_62 ?_
          refine Ev_ior dX8_coverOf_63 ?_
          refine Ev_istore_n (loc2 := [some (.ref v0), some (.int v1), some (.int (v2 ||| 0)), some (.int v3), some (.int v4)]) (Nat.le_of_ble_eq_true rfl) rfl rfl dX8_coverOf_64 ?_
          refine Ev_iinc (x := v4) (v := (v4 + 1)) (loc2 := [some (.ref v0), some (.int v1), some (.int (v2 ||| 0)), some (.int v3), some (.int (v4 + 1))]) rfl (congrArg (v4 + ·) ic_1) (Nat.le_of_ble_eq_true rfl) rfl rfl dX8_coverOf_65 ?_
          refine Ev_goto (tgt := 15) dX8_coverOf_68 (by decide) ?_
          exact ih v0 v1 (v2 ||| 0) v3 (v4 + 1) h
        · rw [if_neg q8] at h
          refine Ev_iconst ic_1 dX8_coverOf_44 ?_
          refine Ev_aload_n (x := v0) rfl dX8_coverOf_45 ?_
          obtain ⟨a9, g9, h⟩ := bsome h
          refine Ev_getR flX8_13 dX8_coverOf_46 g9 ?_
          refine Ev_iconst ic_4 dX8_coverOf_49 ?_
          refine Ev_iload_n (x := v3) rfl dX8_coverOf_50 ?_
          refine Ev_iadd dX8_coverOf_51 ?_
          obtain ⟨x10, g10, h⟩ := bsome h
          refine Ev_iald dX8_coverOf_52 g10 ?_
          refine Ev_ishl dX8_coverOf_53 ?_
          refine Ev_iconst ic_1 dX8_coverOf_54 ?_
          refine Ev_isub dX8_coverOf_55 ?_
          refine Ev_iload (x := v4) rfl dX8_coverOf_56 ?_
          refine Ev_ishl dX8_coverOf_58 ?_
          refine Ev_goto (tgt := 63) dX8_coverOf_59 (by decide) ?_
          refine Ev_ior dX8_coverOf_63 ?_
          refine Ev_istore_n (loc2 := [some (.ref v0), some (.int v1), some (.int (v2 ||| (((1 <<< (x10 &&& 31)) - 1) <<< (v4 &&& 31)))), some (.int v3), some (.int v4)]) (Nat.le_of_ble_eq_true rfl) rfl rfl dX8_coverOf_64 ?_
          refine Ev_iinc (x := v4) (v := (v4 + 1)) (loc2 := [some (.ref v0), some (.int v1), some (.int (v2 ||| (((1 <<< (x10 &&& 31)) - 1) <<< (v4 &&& 31)))), some (.int v3), some (.int (v4 + 1))]) rfl (congrArg (v4 + ·) ic_1) (Nat.le_of_ble_eq_true rfl) rfl rfl dX8_coverOf_65 ?_
          refine Ev_goto (tgt := 15) dX8_coverOf_68 (by decide) ?_
          exact ih v0 v1 (v2 ||| (((1 <<< (x10 &&& 31)) - 1) <<< (v4 &&& 31))) v3 (v4 + 1) h
def fX8_coverOf_c4 (M : mM) : Nat → Nat → Int32 → Int32 → Int32 → Option Int32
  | 0, _, _, _, _ => none
  | n + 1, v0, v1, v2, v3 =>
    (gI M v0 8 0).bind fun x1 =>
    if x1 ≤ v3 then
      (some v2)
    else
      (fX8_coverOf_c15 M (fun w0 w1 w2 w3 => fX8_coverOf_c4 M n w0 w1 w2 w3) FUEL v0 v1 v2 v3 0)
set_option maxRecDepth 20000 in
set_option maxHeartbeats 4000000 in
theorem rX8_coverOf_c4 {E : mE} {M : mM} {x : Int32} : ∀ (n : Nat) (v0 : Nat) (v1 : Int32) (v2 : Int32) (v3 : Int32), fX8_coverOf_c4 M n v0 v1 v2 v3 = some x → Ev mX8_coverOf E 2 0 0 (some (.int x)) M 4 [some (.ref v0), some (.int v1), some (.int v2), some (.int v3), none] [] M 0 0 := by
  intro n
  induction n with
  | zero => intro v0 v1 v2 v3 h; rw [fX8_coverOf_c4.eq_1] at h; cases h
  | succ n ih =>
    intro v0 v1 v2 v3 h
    rw [fX8_coverOf_c4.eq_2] at h
    refine Ev_iload_n (x := v3) rfl dX8_coverOf_4 ?_
    refine Ev_aload_n (x := v0) rfl dX8_coverOf_5 ?_
    obtain ⟨x1, g1, h⟩ := bsome h
    refine Ev_getI flX8_89 dX8_coverOf_6 g1 ?_
    refine Ev_icmp_ge (tgt := 77) dX8_coverOf_9 (by decide) (fun q2 => ?_) (fun q2 => ?_)
    · rw [if_pos q2] at h
      refine Ev_iload_n (x := v2) rfl dX8_coverOf_77 ?_
      cases h
      exact Ev_iret rfl rfl dX8_coverOf_78 ⟨rfl, rfl⟩
    · rw [if_neg q2] at h
      refine Ev_iconst ic_0 dX8_coverOf_12 ?_
      refine Ev_istore (loc2 := [some (.ref v0), some (.int v1), some (.int v2), some (.int v3), some (.int 0)]) (Nat.le_of_ble_eq_true rfl) rfl rfl dX8_coverOf_13 ?_
      exact rX8_coverOf_c15 (hk4 := fun w0 w1 w2 w3 h => ih w0 w1 w2 w3 h) FUEL v0 v1 v2 v3 0 h
def fX8_coverOf (M : mM) (v0 : Nat) (v1 : Int32) : Option Int32 :=
    if isO M v0 8 = true then
      fX8_coverOf_c4 M FUEL v0 v1 0 0
    else none
theorem oX8_coverOf {M : mM} {v0 : Nat} {v1 : Int32} {y : Int32} (h : fX8_coverOf M v0 v1 = some y) : isO M v0 8 = true := by
  unfold fX8_coverOf at h
  exact (gsome h).1
set_option maxRecDepth 20000 in
set_option maxHeartbeats 4000000 in
theorem rX8_coverOf {E : mE} {M : mM} {v0 : Nat} {v1 : Int32} {x : Int32} (h : fX8_coverOf M v0 v1 = some x) : EvC mX8_coverOf E 2 0 0 [.ref v0, .int v1] M (some (.int x)) M := by
  unfold fX8_coverOf at h
  replace h := (gsome h).2
  refine EvC.of [some (.ref v0), some (.int v1), none, none, none] pnX8_coverOf rfl (Nat.le_of_ble_eq_true rfl) ?_
  refine Ev_iconst ic_0 dX8_coverOf_0 ?_
  refine Ev_istore_n (loc2 := [some (.ref v0), some (.int v1), some (.int 0), none, none]) (Nat.le_of_ble_eq_true rfl) rfl rfl dX8_coverOf_1 ?_
  refine Ev_iconst ic_0 dX8_coverOf_2 ?_
  refine Ev_istore_n (loc2 := [some (.ref v0), some (.int v1), some (.int 0), some (.int 0), none]) (Nat.le_of_ble_eq_true rfl) rfl rfl dX8_coverOf_3 ?_
  exact rX8_coverOf_c4 FUEL v0 v1 0 0 h
/-! TinselRiverModel.strand(II)I -/
def fX8_strand (M : mM) (v0 : Nat) (v1 : Int32) (v2 : Int32) : Option Int32 :=
    if isO M v0 8 = true then
      (fX8_isThere M v0 0 v1).bind fun x2 =>
      if x2 = 0 then
        (some (-1))
      else
        (if v2 = 0 then
          ((gR M v0 8 2).bind fun a4 =>
          (aI M false a4 v1).bind fun x5 =>
          some x5)
        else
          (if v2 = 1 then
            ((gR M v0 8 1).bind fun a6 =>
            (aI M false a6 v1).bind fun x7 =>
            some x7)
          else
            (if v2 = 2 then
              ((gR M v0 8 2).bind fun a8 =>
              (aI M false a8 (4 + v1)).bind fun x9 =>
              some x9)
            else
              (if v2 = 3 then
                ((fX8_firstPlace M v0 0 v1).bind fun x11 =>
                some x11)
              else
                (some (-2))))))
    else none
theorem oX8_strand {M : mM} {v0 : Nat} {v1 : Int32} {v2 : Int32} {y : Int32} (h : fX8_strand M v0 v1 v2 = some y) : isO M v0 8 = true := by
  unfold fX8_strand at h
  exact (gsome h).1
set_option maxRecDepth 20000 in
set_option maxHeartbeats 4000000 in
theorem rX8_strand {E : mE} {M : mM} {v0 : Nat} {v1 : Int32} {v2 : Int32} {x : Int32} (h : fX8_strand M v0 v1 v2 = some x) : EvC mX8_strand E 3 0 0 [.ref v0, .int v1, .int v2] M (some (.int x)) M := by
  unfold fX8_strand at h
  replace h := (gsome h).2
  refine EvC.of [some (.ref v0), some (.int v1), some (.int v2)] pnX8_strand rfl (Nat.le_of_ble_eq_true rfl) ?_
  refine Ev_aload_n (x := v0) rfl dX8_strand_0 ?_
  refine Ev_iconst ic_0 dX8_strand_1 ?_
  refine Ev_iload_n (x := v1) rfl dX8_strand_2 ?_
  obtain ⟨x2, g1, h⟩ := bsome h
  refine Ev_callVi (np := 2) (vs := [.int 0, .int v1]) (rest := []) mdX8_isThere lkX8_99 ⟨_, rfl, rfl⟩ (oX8_isThere g1) (rX8_isThere g1) rfl rfl (Nat.le_of_ble_eq_true rfl) (Nat.le_of_ble_eq_true rfl) dX8_strand_3 ?_
  refine Ev_if_ne (tgt := 11) dX8_strand_6 (by decide) (fun q3 => ?_) (fun q3 => ?_)
  · rw [if_neg q3] at h
    refine Ev_iload_n (x := v2) rfl dX8_strand_11 ?_
    by_cases q12 : v2 = 0
    · rw [if_pos q12] at h
      refine Ev_tswIn (tgt := 44) dX8_strand_12 (by rw [q12]; decide) (by rw [q12]; decide) (by rw [q12]; rfl) (by decide) ?_
      refine Ev_aload_n (x := v0) rfl dX8_strand_44 ?_
      obtain ⟨a4, g4, h⟩ := bsome h
      refine Ev_getR flX8_13 dX8_strand_45 g4 ?_
      refine Ev_iload_n (x := v1) rfl dX8_strand_48 ?_
      obtain ⟨x5, g5, h⟩ := bsome h
      refine Ev_iald dX8_strand_49 g5 ?_
      cases h
      exact Ev_iret rfl rfl dX8_strand_50 ⟨rfl, rfl⟩
    · rw [if_neg q12] at h
      by_cases q13 : v2 = 1
      · rw [if_pos q13] at h
        refine Ev_tswIn (tgt := 51) dX8_strand_12 (by rw [q13]; decide) (by rw [q13]; decide) (by rw [q13]; rfl) (by decide) ?_
        refine Ev_aload_n (x := v0) rfl dX8_strand_51 ?_
        obtain ⟨a6, g6, h⟩ := bsome h
        refine Ev_getR flX8_7 dX8_strand_52 g6 ?_
        refine Ev_iload_n (x := v1) rfl dX8_strand_55 ?_
        obtain ⟨x7, g7, h⟩ := bsome h
        refine Ev_iald dX8_strand_56 g7 ?_
        cases h
        exact Ev_iret rfl rfl dX8_strand_57 ⟨rfl, rfl⟩
      · rw [if_neg q13] at h
        by_cases q14 : v2 = 2
        · rw [if_pos q14] at h
          refine Ev_tswIn (tgt := 58) dX8_strand_12 (by rw [q14]; decide) (by rw [q14]; decide) (by rw [q14]; rfl) (by decide) ?_
          refine Ev_aload_n (x := v0) rfl dX8_strand_58 ?_
          obtain ⟨a8, g8, h⟩ := bsome h
          refine Ev_getR flX8_13 dX8_strand_59 g8 ?_
          refine Ev_iconst ic_4 dX8_strand_62 ?_
          refine Ev_iload_n (x := v1) rfl dX8_strand_63 ?_
          refine Ev_iadd dX8_strand_64 ?_
          obtain ⟨x9, g9, h⟩ := bsome h
          refine Ev_iald dX8_strand_65 g9 ?_
          cases h
          exact Ev_iret rfl rfl dX8_strand_66 ⟨rfl, rfl⟩
        · rw [if_neg q14] at h
          by_cases q15 : v2 = 3
          · rw [if_pos q15] at h
            refine Ev_tswIn (tgt := 67) dX8_strand_12 (by rw [q15]; decide) (by rw [q15]; decide) (by rw [q15]; rfl) (by decide) ?_
            refine Ev_aload_n (x := v0) rfl dX8_strand_67 ?_
            refine Ev_iconst ic_0 dX8_strand_68 ?_
            refine Ev_iload_n (x := v1) rfl dX8_strand_69 ?_
            obtain ⟨x11, g10, h⟩ := bsome h
            refine Ev_callVi (np := 2) (vs := [.int 0, .int v1]) (rest := []) mdX8_firstPlace lkX8_152 ⟨_, rfl, rfl⟩ (oX8_firstPlace g10) (rX8_firstPlace g10) rfl rfl (Nat.le_of_ble_eq_true rfl) (Nat.le_of_ble_eq_true rfl) dX8_strand_70 ?_
            cases h
            exact Ev_iret rfl rfl dX8_strand_73 ⟨rfl, rfl⟩
          · rw [if_neg q15] at h
            refine Ev_tswOut (tgt := 74) dX8_strand_12 (sw_out4 q12 q13 q14 q15) (by decide) ?_
            refine Ev_bipush bp_m2 dX8_strand_74 ?_
            cases h
            exact Ev_iret rfl rfl dX8_strand_76 ⟨rfl, rfl⟩
  · rw [if_pos q3] at h
    refine Ev_iconst ic_m1 dX8_strand_9 ?_
    cases h
    exact Ev_iret rfl rfl dX8_strand_10 ⟨rfl, rfl⟩
/-! TinselRiverModel.bends(I)J -/
def fX8_bends_c18 (M : mM) : Nat → Nat → Int32 → Int64 → Int32 → Option Int64
  | 0, _, _, _, _ => none
  | n + 1, v0, v1, v2, v4 =>
    (gR M v0 8 2).bind fun a1 =>
    (aI M false a1 (4 + v1)).bind fun x2 =>
    if x2 ≤ v4 then
      (some v2)
    else
      ((fX8_bendAt M v0 0 v1 v4).bind fun x5 =>
      fX8_bends_c18 M n v0 v1 (((10 : Int64) * v2) + (Int32.toInt64 x5)) (v4 + 1))
set_option maxRecDepth 20000 in
set_option maxHeartbeats 4000000 in
theorem rX8_bends_c18 {E : mE} {M : mM} {x : Int64} : ∀ (n : Nat) (v0 : Nat) (v1 : Int32) (v2 : Int64) (v4 : Int32), fX8_bends_c18 M n v0 v1 v2 v4 = some x → Ev mX8_bends E 2 0 0 (some (.long x)) M 18 [some (.ref v0), some (.int v1), some (.long v2), none, some (.int v4)] [] M 0 0 := by
  intro n
  induction n with
  | zero => intro v0 v1 v2 v4 h; rw [fX8_bends_c18.eq_1] at h; cases h
  | succ n ih =>
    intro v0 v1 v2 v4 h
    rw [fX8_bends_c18.eq_2] at h
    refine Ev_iload (x := v4) rfl dX8_bends_18 ?_
    refine Ev_aload_n (x := v0) rfl dX8_bends_20 ?_
    obtain ⟨a1, g1, h⟩ := bsome h
    refine Ev_getR flX8_13 dX8_bends_21 g1 ?_
    refine Ev_iconst ic_4 dX8_bends_24 ?_
    refine Ev_iload_n (x := v1) rfl dX8_bends_25 ?_
    refine Ev_iadd dX8_bends_26 ?_
    obtain ⟨x2, g2, h⟩ := bsome h
    refine Ev_iald dX8_bends_27 g2 ?_
    refine Ev_icmp_ge (tgt := 53) dX8_bends_28 (by decide) (fun q3 => ?_) (fun q3 => ?_)
    · rw [if_pos q3] at h
      refine Ev_lload_n (x := v2) rfl dX8_bends_53 ?_
      cases h
      exact Ev_lret rfl dX8_bends_54 ⟨rfl, rfl⟩
    · rw [if_neg q3] at h
      refine Ev_ldc2 csX8_136 dX8_bends_31 ?_
      refine Ev_lload_n (x := v2) rfl dX8_bends_34 ?_
      refine Ev_lmul dX8_bends_35 ?_
      refine Ev_aload_n (x := v0) rfl dX8_bends_36 ?_
      refine Ev_iconst ic_0 dX8_bends_37 ?_
      refine Ev_iload_n (x := v1) rfl dX8_bends_38 ?_
      refine Ev_iload (x := v4) rfl dX8_bends_39 ?_
      obtain ⟨x5, g4, h⟩ := bsome h
      refine Ev_callVi (np := 3) (vs := [.int 0, .int v1, .int v4]) (rest := [.long ((10 : Int64) * v2)]) mdX8_bendAt lkX8_122 ⟨_, rfl, rfl⟩ (oX8_bendAt g4) (rX8_bendAt g4) rfl rfl (Nat.le_of_ble_eq_true rfl) (Nat.le_of_ble_eq_true rfl) dX8_bends_41 ?_
      refine Ev_i2l dX8_bends_44 ?_
      refine Ev_ladd dX8_bends_45 ?_
      refine Ev_lstore_n (loc2 := [some (.ref v0), some (.int v1), some (.long (((10 : Int64) * v2) + (Int32.toInt64 x5))), none, some (.int v4)]) (Nat.le_of_ble_eq_true rfl) rfl rfl dX8_bends_46 ?_
      refine Ev_iinc (x := v4) (v := (v4 + 1)) (loc2 := [some (.ref v0), some (.int v1), some (.long (((10 : Int64) * v2) + (Int32.toInt64 x5))), none, some (.int (v4 + 1))]) rfl (congrArg (v4 + ·) ic_1) (Nat.le_of_ble_eq_true rfl) rfl rfl dX8_bends_47 ?_
      refine Ev_goto (tgt := 18) dX8_bends_50 (by decide) ?_
      exact ih v0 v1 (((10 : Int64) * v2) + (Int32.toInt64 x5)) (v4 + 1) h
def fX8_bends (M : mM) (v0 : Nat) (v1 : Int32) : Option Int64 :=
    if isO M v0 8 = true then
      (fX8_isThere M v0 0 v1).bind fun x2 =>
      if x2 = 0 then
        (some (-1 : Int64))
      else
        (fX8_bends_c18 M FUEL v0 v1 (0 : Int64) 0)
    else none
theorem oX8_bends {M : mM} {v0 : Nat} {v1 : Int32} {y : Int64} (h : fX8_bends M v0 v1 = some y) : isO M v0 8 = true := by
  unfold fX8_bends at h
  exact (gsome h).1
set_option maxRecDepth 20000 in
set_option maxHeartbeats 4000000 in
theorem rX8_bends {E : mE} {M : mM} {v0 : Nat} {v1 : Int32} {x : Int64} (h : fX8_bends M v0 v1 = some x) : EvC mX8_bends E 2 0 0 [.ref v0, .int v1] M (some (.long x)) M := by
  unfold fX8_bends at h
  replace h := (gsome h).2
  refine EvC.of [some (.ref v0), some (.int v1), none, none, none] pnX8_bends rfl (Nat.le_of_ble_eq_true rfl) ?_
  refine Ev_aload_n (x := v0) rfl dX8_bends_0 ?_
  refine Ev_iconst ic_0 dX8_bends_1 ?_
  refine Ev_iload_n (x := v1) rfl dX8_bends_2 ?_
  obtain ⟨x2, g1, h⟩ := bsome h
  refine Ev_callVi (np := 2) (vs := [.int 0, .int v1]) (rest := []) mdX8_isThere lkX8_99 ⟨_, rfl, rfl⟩ (oX8_isThere g1) (rX8_isThere g1) rfl rfl (Nat.le_of_ble_eq_true rfl) (Nat.le_of_ble_eq_true rfl) dX8_bends_3 ?_
  refine Ev_if_ne (tgt := 13) dX8_bends_6 (by decide) (fun q3 => ?_) (fun q3 => ?_)
  · rw [if_neg q3] at h
    refine Ev_lconst (v := 0) (by decide) dX8_bends_13 ?_
    refine Ev_lstore_n (loc2 := [some (.ref v0), some (.int v1), some (.long (0 : Int64)), none, none]) (Nat.le_of_ble_eq_true rfl) rfl rfl dX8_bends_14 ?_
    refine Ev_iconst ic_0 dX8_bends_15 ?_
    refine Ev_istore (loc2 := [some (.ref v0), some (.int v1), some (.long (0 : Int64)), none, some (.int 0)]) (Nat.le_of_ble_eq_true rfl) rfl rfl dX8_bends_16 ?_
    exact rX8_bends_c18 FUEL v0 v1 (0 : Int64) 0 h
  · rw [if_pos q3] at h
    refine Ev_ldc2 csX8_155 dX8_bends_9 ?_
    cases h
    exact Ev_lret rfl dX8_bends_12 ⟨rfl, rfl⟩
/-! TinselRiverModel.keepAct()V -/
def fX8_keepAct_c2 : Nat → mM → Nat → Int32 → Option mM
  | 0, _, _, _ => none
  | n + 1, M, v0, v1 =>
    if 57 ≤ v1 then
      ((gI M v0 8 14).bind fun x2 =>
      (sV M v0 8 14 (.int ((x2 + 1) - (x2 + 1) / 14 * 14))).bind fun M3 =>
      (gI M3 v0 8 13).bind fun x4 =>
      if 14 ≤ x4 then
        ((sV M3 v0 8 13 (.int 14)).bind fun M6 =>
        some M6)
      else
        ((gI M3 v0 8 13).bind fun x7 =>
        (sV M3 v0 8 13 (.int (x7 + 1))).bind fun M8 =>
        some M8))
    else
      ((gR M v0 8 15).bind fun a9 =>
      (gI M v0 8 14).bind fun x10 =>
      (gR M v0 8 2).bind fun a11 =>
      (aI M false a11 v1).bind fun x12 =>
      (aS M false a9 ((57 * x10) + v1) x12).bind fun M13 =>
      fX8_keepAct_c2 n M13 v0 (v1 + 1))
set_option maxRecDepth 20000 in
set_option maxHeartbeats 4000000 in
theorem rX8_keepAct_c2 {E : mE} {Mf : mM} : ∀ (n : Nat) (M : mM) (v0 : Nat) (v1 : Int32), fX8_keepAct_c2 n M v0 v1 = some Mf → Ev mX8_keepAct E 0 0 0 none Mf 2 [some (.ref v0), some (.int v1)] [] M 0 0 := by
  intro n
  induction n with
  | zero => intro M v0 v1 h; rw [fX8_keepAct_c2.eq_1] at h; cases h
  | succ n ih =>
    intro M v0 v1 h
    rw [fX8_keepAct_c2.eq_2] at h
    refine Ev_iload_n (x := v1) rfl dX8_keepAct_2 ?_
    refine Ev_bipush bp_57 dX8_keepAct_3 ?_
    refine Ev_icmp_ge (tgt := 34) dX8_keepAct_5 (by decide) (fun q1 => ?_) (fun q1 => ?_)
    · rw [if_pos q1] at h
      refine Ev_aload_n (x := v0) rfl dX8_keepAct_34 ?_
      refine Ev_aload_n (x := v0) rfl dX8_keepAct_35 ?_
      obtain ⟨x2, g2, h⟩ := bsome h
      refine Ev_getI flX8_157 dX8_keepAct_36 g2 ?_
      refine Ev_iconst ic_1 dX8_keepAct_39 ?_
      refine Ev_iadd dX8_keepAct_40 ?_
      refine Ev_bipush bp_14 dX8_keepAct_41 ?_
      refine Ev_irem (by decide) dX8_keepAct_43 ?_
      obtain ⟨M3, g3, h⟩ := bsome h
      refine Ev_put (v := .int ((x2 + 1) - (x2 + 1) / 14 * 14)) flX8_157 ⟨rfl, rfl⟩ (fun q hq => by cases hq; exact Or.inl rfl) dX8_keepAct_44 g3 ?_
      refine Ev_aload_n (x := v0) rfl dX8_keepAct_47 ?_
      refine Ev_aload_n (x := v0) rfl dX8_keepAct_48 ?_
      obtain ⟨x4, g4, h⟩ := bsome h
      refine Ev_getI flX8_92 dX8_keepAct_49 g4 ?_
      refine Ev_bipush bp_14 dX8_keepAct_52 ?_
      refine Ev_icmp_ge (tgt := 66) dX8_keepAct_54 (by decide) (fun q5 => ?_) (fun q5 => ?_)
      · rw [if_pos q5] at h
        refine Ev_bipush bp_14 dX8_keepAct_66 ?_
        obtain ⟨M6, g6, h⟩ := bsome h
        refine Ev_put (v := .int 14) flX8_92 ⟨rfl, rfl⟩ (fun q hq => by cases hq; exact Or.inl rfl) dX8_keepAct_68 g6 ?_
        cases h
        exact Ev_vret rfl dX8_keepAct_71 ⟨rfl, rfl⟩
      · rw [if_neg q5] at h
        refine Ev_aload_n (x := v0) rfl dX8_keepAct_57 ?_
        obtain ⟨x7, g7, h⟩ := bsome h
        refine Ev_getI flX8_92 dX8_keepAct_58 g7 ?_
        refine Ev_iconst ic_1 dX8_keepAct_61 ?_
        refine Ev_iadd dX8_keepAct_62 ?_
        refine Ev_goto (tgt := 68) dX8_keepAct_63 (by decide) ?_
        obtain ⟨M8, g8, h⟩ := bsome h
        refine Ev_put (v := .int (x7 + 1)) flX8_92 ⟨rfl, rfl⟩ (fun q hq => by cases hq; exact Or.inl rfl) dX8_keepAct_68 g8 ?_
        cases h
        exact Ev_vret rfl dX8_keepAct_71 ⟨rfl, rfl⟩
    · rw [if_neg q1] at h
      refine Ev_aload_n (x := v0) rfl dX8_keepAct_8 ?_
      obtain ⟨a9, g9, h⟩ := bsome h
      refine Ev_getR flX8_31 dX8_keepAct_9 g9 ?_
      refine Ev_bipush bp_57 dX8_keepAct_12 ?_
      refine Ev_aload_n (x := v0) rfl dX8_keepAct_14 ?_
      obtain ⟨x10, g10, h⟩ := bsome h
      refine Ev_getI flX8_157 dX8_keepAct_15 g10 ?_
      refine Ev_imul dX8_keepAct_18 ?_
      refine Ev_iload_n (x := v1) rfl dX8_keepAct_19 ?_
      refine Ev_iadd dX8_keepAct_20 ?_
      refine Ev_aload_n (x := v0) rfl dX8_keepAct_21 ?_
      obtain ⟨a11, g11, h⟩ := bsome h
      refine Ev_getR flX8_13 dX8_keepAct_22 g11 ?_
      refine Ev_iload_n (x := v1) rfl dX8_keepAct_25 ?_
      obtain ⟨x12, g12, h⟩ := bsome h
      refine Ev_iald dX8_keepAct_26 g12 ?_
      obtain ⟨M13, g13, h⟩ := bsome h
      refine Ev_iast dX8_keepAct_27 g13 ?_
      refine Ev_iinc (x := v1) (v := (v1 + 1)) (loc2 := [some (.ref v0), some (.int (v1 + 1))]) rfl (congrArg (v1 + ·) ic_1) (Nat.le_of_ble_eq_true rfl) rfl rfl dX8_keepAct_28 ?_
      refine Ev_goto (tgt := 2) dX8_keepAct_31 (by decide) ?_
      exact ih M13 v0 (v1 + 1) h
def fX8_keepAct (M : mM) (v0 : Nat) : Option mM :=
    if isO M v0 8 = true then
      fX8_keepAct_c2 FUEL M v0 0
    else none
theorem oX8_keepAct {M : mM} {v0 : Nat} {y : mM} (h : fX8_keepAct M v0 = some y) : isO M v0 8 = true := by
  unfold fX8_keepAct at h
  exact (gsome h).1
set_option maxRecDepth 20000 in
set_option maxHeartbeats 4000000 in
theorem rX8_keepAct {E : mE} {M : mM} {v0 : Nat} {Mf : mM} (h : fX8_keepAct M v0 = some Mf) : EvC mX8_keepAct E 0 0 0 [.ref v0] M none Mf := by
  unfold fX8_keepAct at h
  replace h := (gsome h).2
  refine EvC.of [some (.ref v0), none] pnX8_keepAct rfl (Nat.le_of_ble_eq_true rfl) ?_
  refine Ev_iconst ic_0 dX8_keepAct_0 ?_
  refine Ev_istore_n (loc2 := [some (.ref v0), some (.int 0)]) (Nat.le_of_ble_eq_true rfl) rfl rfl dX8_keepAct_1 ?_
  exact rX8_keepAct_c2 FUEL M v0 0 h
/-! TinselRiverModel.winter()I -/
def fX8_winter (M : mM) (v0 : Nat) : Option (Int32 × mM) :=
    if isO M v0 8 = true then
      (fX8_keepAct M v0).bind fun M2 =>
      (fX8_passOn M2 v0 0).bind fun p4 =>
      some (p4.1, p4.2)
    else none
theorem oX8_winter {M : mM} {v0 : Nat} {y : (Int32 × mM)} (h : fX8_winter M v0 = some y) : isO M v0 8 = true := by
  unfold fX8_winter at h
  exact (gsome h).1
set_option maxRecDepth 20000 in
set_option maxHeartbeats 4000000 in
theorem rX8_winter {E : mE} {M : mM} {v0 : Nat} {x : Int32} {Mf : mM} (h : fX8_winter M v0 = some (x, Mf)) : EvC mX8_winter E 5 0 0 [.ref v0] M (some (.int x)) Mf := by
  unfold fX8_winter at h
  replace h := (gsome h).2
  refine EvC.of [some (.ref v0)] pnX8_winter rfl (Nat.le_of_ble_eq_true rfl) ?_
  refine Ev_aload_n (x := v0) rfl dX8_winter_0 ?_
  obtain ⟨M2, g1, h⟩ := bsome h
  refine Ev_callVv (np := 0) (vs := []) (rest := []) mdX8_keepAct lkX8_160 ⟨_, rfl, rfl⟩ (oX8_keepAct g1) (rX8_keepAct g1) rfl rfl (Nat.le_of_ble_eq_true rfl) (Nat.le_of_ble_eq_true rfl) dX8_winter_1 ?_
  refine Ev_aload_n (x := v0) rfl dX8_winter_4 ?_
  refine Ev_iconst ic_0 dX8_winter_5 ?_
  obtain ⟨p4, g3, h⟩ := bsome h
  refine Ev_callVi (np := 1) (vs := [.int 0]) (rest := []) mdX8_passOn lkX8_163 ⟨_, rfl, rfl⟩ (oX8_passOn g3) (rX8_passOn g3) rfl rfl (Nat.le_of_ble_eq_true rfl) (Nat.le_of_ble_eq_true rfl) dX8_winter_6 ?_
  cases h
  exact Ev_iret rfl rfl dX8_winter_9 ⟨rfl, rfl⟩
/-! TinselRiverModel.hang(II)I -/
def fX8_hang (M : mM) (v0 : Nat) (v1 : Int32) (v2 : Int32) : Option (Int32 × mM) :=
    if isO M v0 8 = true then
      (fX8_isThere M v0 0 v1).bind fun x2 =>
      if x2 = 0 then
        (some ((-1), M))
      else
        ((fX8_in M (Int32.toInt64 v2) (0 : Int64) (3 : Int64)).bind fun x5 =>
        if x5 = 0 then
          (some ((-1), M))
        else
          ((gR M v0 8 2).bind fun a7 =>
          (aI M false a7 v1).bind fun x8 =>
          if x8 = v2 then
            (some ((-3), M))
          else
            ((fX8_keepAct M v0).bind fun M11 =>
            (gR M11 v0 8 2).bind fun a12 =>
            (aS M11 false a12 v1 v2).bind fun M13 =>
            (fX8_inHouse M13 v0 0 v2).bind fun x15 =>
            (fX8_ones M13 x15).bind fun x17 =>
            some (x17, M13))))
    else none
theorem oX8_hang {M : mM} {v0 : Nat} {v1 : Int32} {v2 : Int32} {y : (Int32 × mM)} (h : fX8_hang M v0 v1 v2 = some y) : isO M v0 8 = true := by
  unfold fX8_hang at h
  exact (gsome h).1
set_option maxRecDepth 20000 in
set_option maxHeartbeats 4000000 in
theorem rX8_hang {E : mE} {M : mM} {v0 : Nat} {v1 : Int32} {v2 : Int32} {x : Int32} {Mf : mM} (h : fX8_hang M v0 v1 v2 = some (x, Mf)) : EvC mX8_hang E 3 0 0 [.ref v0, .int v1, .int v2] M (some (.int x)) Mf := by
  unfold fX8_hang at h
  replace h := (gsome h).2
  refine EvC.of [some (.ref v0), some (.int v1), some (.int v2)] pnX8_hang rfl (Nat.le_of_ble_eq_true rfl) ?_
  refine Ev_aload_n (x := v0) rfl dX8_hang_0 ?_
  refine Ev_iconst ic_0 dX8_hang_1 ?_
  refine Ev_iload_n (x := v1) rfl dX8_hang_2 ?_
  obtain ⟨x2, g1, h⟩ := bsome h
  refine Ev_callVi (np := 2) (vs := [.int 0, .int v1]) (rest := []) mdX8_isThere lkX8_99 ⟨_, rfl, rfl⟩ (oX8_isThere g1) (rX8_isThere g1) rfl rfl (Nat.le_of_ble_eq_true rfl) (Nat.le_of_ble_eq_true rfl) dX8_hang_3 ?_
  refine Ev_if_eq (tgt := 21) dX8_hang_6 (by decide) (fun q3 => ?_) (fun q3 => ?_)
  · rw [if_pos q3] at h
    refine Ev_iconst ic_m1 dX8_hang_21 ?_
    cases h
    exact Ev_iret rfl rfl dX8_hang_22 ⟨rfl, rfl⟩
  · rw [if_neg q3] at h
    refine Ev_iload_n (x := v2) rfl dX8_hang_9 ?_
    refine Ev_i2l dX8_hang_10 ?_
    refine Ev_lconst (v := 0) (by decide) dX8_hang_11 ?_
    refine Ev_ldc2 csX8_166 dX8_hang_12 ?_
    obtain ⟨x5, g4, h⟩ := bsome h
    refine Ev_callSi (np := 3) (vs := [.long (Int32.toInt64 v2), .long (0 : Int64), .long (3 : Int64)]) (rest := []) mdX8_in lkX8_52 (rX8_in g4) rfl rfl (Nat.le_of_ble_eq_true rfl) (Nat.le_of_ble_eq_true rfl) dX8_hang_15 ?_
    refine Ev_if_ne (tgt := 23) dX8_hang_18 (by decide) (fun q6 => ?_) (fun q6 => ?_)
    · rw [if_neg q6] at h
      refine Ev_aload_n (x := v0) rfl dX8_hang_23 ?_
      obtain ⟨a7, g7, h⟩ := bsome h
      refine Ev_getR flX8_13 dX8_hang_24 g7 ?_
      refine Ev_iload_n (x := v1) rfl dX8_hang_27 ?_
      obtain ⟨x8, g8, h⟩ := bsome h
      refine Ev_iald dX8_hang_28 g8 ?_
      refine Ev_iload_n (x := v2) rfl dX8_hang_29 ?_
      refine Ev_icmp_ne (tgt := 36) dX8_hang_30 (by decide) (fun q9 => ?_) (fun q9 => ?_)
      · rw [if_neg q9] at h
        refine Ev_aload_n (x := v0) rfl dX8_hang_36 ?_
        obtain ⟨M11, g10, h⟩ := bsome h
        refine Ev_callVv (np := 0) (vs := []) (rest := []) mdX8_keepAct lkX8_160 ⟨_, rfl, rfl⟩ (oX8_keepAct g10) (rX8_keepAct g10) rfl rfl (Nat.le_of_ble_eq_true rfl) (Nat.le_of_ble_eq_true rfl) dX8_hang_37 ?_
        refine Ev_aload_n (x := v0) rfl dX8_hang_40 ?_
        obtain ⟨a12, g12, h⟩ := bsome h
        refine Ev_getR flX8_13 dX8_hang_41 g12 ?_
        refine Ev_iload_n (x := v1) rfl dX8_hang_44 ?_
        refine Ev_iload_n (x := v2) rfl dX8_hang_45 ?_
        obtain ⟨M13, g13, h⟩ := bsome h
        refine Ev_iast dX8_hang_46 g13 ?_
        refine Ev_aload_n (x := v0) rfl dX8_hang_47 ?_
        refine Ev_iconst ic_0 dX8_hang_48 ?_
        refine Ev_iload_n (x := v2) rfl dX8_hang_49 ?_
        obtain ⟨x15, g14, h⟩ := bsome h
        refine Ev_callVi (np := 2) (vs := [.int 0, .int v2]) (rest := []) mdX8_inHouse lkX8_103 ⟨_, rfl, rfl⟩ (oX8_inHouse g14) (rX8_inHouse g14) rfl rfl (Nat.le_of_ble_eq_true rfl) (Nat.le_of_ble_eq_true rfl) dX8_hang_50 ?_
        obtain ⟨x17, g16, h⟩ := bsome h
        refine Ev_callSi (np := 1) (vs := [.int x15]) (rest := []) mdX8_ones lkX8_112 (rX8_ones g16) rfl rfl (Nat.le_of_ble_eq_true rfl) (Nat.le_of_ble_eq_true rfl) dX8_hang_53 ?_
        cases h
        exact Ev_iret rfl rfl dX8_hang_56 ⟨rfl, rfl⟩
      · rw [if_pos q9] at h
        refine Ev_bipush bp_m3 dX8_hang_33 ?_
        cases h
        exact Ev_iret rfl rfl dX8_hang_35 ⟨rfl, rfl⟩
    · rw [if_pos q6] at h
      refine Ev_iconst ic_m1 dX8_hang_21 ?_
      cases h
      exact Ev_iret rfl rfl dX8_hang_22 ⟨rfl, rfl⟩
/-! TinselRiverModel.turn(I)I -/
def fX8_turn (M : mM) (v0 : Nat) (v1 : Int32) : Option (Int32 × mM) :=
    if isO M v0 8 = true then
      (fX8_isThere M v0 0 v1).bind fun x2 =>
      if x2 = 0 then
        (some ((-1), M))
      else
        ((fX8_keepAct M v0).bind fun M5 =>
        (fX8_turnOn M5 v0 0 v1).bind fun M7 =>
        (fX8_bendAt M7 v0 0 v1 0).bind fun x9 =>
        some (x9, M7))
    else none
theorem oX8_turn {M : mM} {v0 : Nat} {v1 : Int32} {y : (Int32 × mM)} (h : fX8_turn M v0 v1 = some y) : isO M v0 8 = true := by
  unfold fX8_turn at h
  exact (gsome h).1
set_option maxRecDepth 20000 in
set_option maxHeartbeats 4000000 in
theorem rX8_turn {E : mE} {M : mM} {v0 : Nat} {v1 : Int32} {x : Int32} {Mf : mM} (h : fX8_turn M v0 v1 = some (x, Mf)) : EvC mX8_turn E 2 0 0 [.ref v0, .int v1] M (some (.int x)) Mf := by
  unfold fX8_turn at h
  replace h := (gsome h).2
  refine EvC.of [some (.ref v0), some (.int v1)] pnX8_turn rfl (Nat.le_of_ble_eq_true rfl) ?_
  refine Ev_aload_n (x := v0) rfl dX8_turn_0 ?_
  refine Ev_iconst ic_0 dX8_turn_1 ?_
  refine Ev_iload_n (x := v1) rfl dX8_turn_2 ?_
  obtain ⟨x2, g1, h⟩ := bsome h
  refine Ev_callVi (np := 2) (vs := [.int 0, .int v1]) (rest := []) mdX8_isThere lkX8_99 ⟨_, rfl, rfl⟩ (oX8_isThere g1) (rX8_isThere g1) rfl rfl (Nat.le_of_ble_eq_true rfl) (Nat.le_of_ble_eq_true rfl) dX8_turn_3 ?_
  refine Ev_if_ne (tgt := 11) dX8_turn_6 (by decide) (fun q3 => ?_) (fun q3 => ?_)
  · rw [if_neg q3] at h
    refine Ev_aload_n (x := v0) rfl dX8_turn_11 ?_
    obtain ⟨M5, g4, h⟩ := bsome h
    refine Ev_callVv (np := 0) (vs := []) (rest := []) mdX8_keepAct lkX8_160 ⟨_, rfl, rfl⟩ (oX8_keepAct g4) (rX8_keepAct g4) rfl rfl (Nat.le_of_ble_eq_true rfl) (Nat.le_of_ble_eq_true rfl) dX8_turn_12 ?_
    refine Ev_aload_n (x := v0) rfl dX8_turn_15 ?_
    refine Ev_iconst ic_0 dX8_turn_16 ?_
    refine Ev_iload_n (x := v1) rfl dX8_turn_17 ?_
    obtain ⟨M7, g6, h⟩ := bsome h
    refine Ev_callVv (np := 2) (vs := [.int 0, .int v1]) (rest := []) mdX8_turnOn lkX8_168 ⟨_, rfl, rfl⟩ (oX8_turnOn g6) (rX8_turnOn g6) rfl rfl (Nat.le_of_ble_eq_true rfl) (Nat.le_of_ble_eq_true rfl) dX8_turn_18 ?_
    refine Ev_aload_n (x := v0) rfl dX8_turn_21 ?_
    refine Ev_iconst ic_0 dX8_turn_22 ?_
    refine Ev_iload_n (x := v1) rfl dX8_turn_23 ?_
    refine Ev_iconst ic_0 dX8_turn_24 ?_
    obtain ⟨x9, g8, h⟩ := bsome h
    refine Ev_callVi (np := 3) (vs := [.int 0, .int v1, .int 0]) (rest := []) mdX8_bendAt lkX8_122 ⟨_, rfl, rfl⟩ (oX8_bendAt g8) (rX8_bendAt g8) rfl rfl (Nat.le_of_ble_eq_true rfl) (Nat.le_of_ble_eq_true rfl) dX8_turn_25 ?_
    cases h
    exact Ev_iret rfl rfl dX8_turn_28 ⟨rfl, rfl⟩
  · rw [if_pos q3] at h
    refine Ev_iconst ic_m1 dX8_turn_9 ?_
    cases h
    exact Ev_iret rfl rfl dX8_turn_10 ⟨rfl, rfl⟩
