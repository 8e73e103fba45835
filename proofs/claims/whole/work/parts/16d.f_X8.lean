/-! printed by wip/whole/gen.py -/
/-! TinselRiverModel.overlapOf(III)I -/
def fX8_overlapOf_c57 (M : mM) (k46 : Nat → Int32 → Int32 → Int32 → Int32 → Int32 → Option Int32) : Nat → Nat → Int32 → Int32 → Int32 → Int32 → Int32 → Int32 → Int32 → Option Int32
  | 0, _, _, _, _, _, _, _, _ => none
  | n + 1, v0, v1, v2, v3, v4, v6, v7, v8 =>
    if v6 ≤ v8 then
      (if v7 = 0 then
        (k46 v0 v1 v2 v3 v4 (v6 + (-1)))
      else
        (some v6))
    else
      (if v7 = 0 then
        (fX8_overlapOf_c57 M k46 n v0 v1 v2 v3 v4 v6 0 (v8 + 1))
      else
        ((fX8_bendAt M v0 v1 v2 ((v4 - v6) + v8)).bind fun x5 =>
        (fX8_bendAt M v0 v1 v3 v8).bind fun x7 =>
        if x5 = x7 then
          (fX8_overlapOf_c57 M k46 n v0 v1 v2 v3 v4 v6 1 (v8 + 1))
        else
          (fX8_overlapOf_c57 M k46 n v0 v1 v2 v3 v4 v6 0 (v8 + 1))))
set_option maxRecDepth 20000 in
set_option maxHeartbeats 4000000 in
theorem rX8_overlapOf_c57 {E : mE} {M : mM} {x : Int32} {k46 : Nat → Int32 → Int32 → Int32 → Int32 → Int32 → Option Int32} (hk46 : ∀ (w0 : Nat) (w1 : Int32) (w2 : Int32) (w3 : Int32) (w4 : Int32) (w6 : Int32), k46 w0 w1 w2 w3 w4 w6 = some x → Ev mX8_overlapOf E 1 0 0 (some (.int x)) M 46 [some (.ref w0), some (.int w1), some (.int w2), some (.int w3), some (.int w4), none, some (.int w6), none, none] [] M 0 0) : ∀ (n : Nat) (v0 : Nat) (v1 : Int32) (v2 : Int32) (v3 : Int32) (v4 : Int32) (v6 : Int32) (v7 : Int32) (v8 : Int32), fX8_overlapOf_c57 M k46 n v0 v1 v2 v3 v4 v6 v7 v8 = some x → Ev mX8_overlapOf E 1 0 0 (some (.int x)) M 57 [some (.ref v0), some (.int v1), some (.int v2), some (.int v3), some (.int v4), none, some (.int v6), some (.int v7), some (.int v8)] [] M 0 0 := by
  intro n
  induction n with
  | zero => intro v0 v1 v2 v3 v4 v6 v7 v8 h; rw [fX8_overlapOf_c57.eq_1] at h; cases h
  | succ n ih =>
    intro v0 v1 v2 v3 v4 v6 v7 v8 h
    rw [fX8_overlapOf_c57.eq_2] at h
    refine Ev_iload (x := v8) rfl dX8_overlapOf_57 ?_
    refine Ev_iload (x := v6) rfl dX8_overlapOf_59 ?_
    refine Ev_icmp_ge (tgt := 107) dX8_overlapOf_61 (by decide) (fun q1 => ?_) (fun q1 => ?_)
    · rw [if_pos q1] at h
      refine Ev_iload (x := v7) rfl dX8_overlapOf_107 ?_
      refine Ev_if_eq (tgt := 115) dX8_overlapOf_109 (by decide) (fun q2 => ?_) (fun q2 => ?_)
      · rw [if_pos q2] at h
        refine Ev_iinc (x := v6) (v := (v6 + (-1))) (loc2 := [some (.ref v0), some (.int v1), some (.int v2), some (.int v3), some (.int v4), none, some (.int (v6 + (-1))), some (.int v7), some (.int v8)]) rfl (congrArg (v6 + ·) ic_m1) (Nat.le_of_ble_eq_true rfl) rfl rfl dX8_overlapOf_115 ?_
        refine Ev_goto (tgt := 46) dX8_overlapOf_118 (by decide) ?_
        refine Ev_drop 7 (loc2 := [some (.ref v0), some (.int v1), some (.int v2), some (.int v3), some (.int v4), none, some (.int (v6 + (-1))), none, some (.int v8)]) rfl ?_
        refine Ev_drop 8 (loc2 := [some (.ref v0), some (.int v1), some (.int v2), some (.int v3), some (.int v4), none, some (.int (v6 + (-1))), none, none]) rfl ?_
        exact hk46 v0 v1 v2 v3 v4 (v6 + (-1)) h
      · rw [if_neg q2] at h
        refine Ev_iload (x := v6) rfl dX8_overlapOf_112 ?_
        cases h
        exact Ev_iret rfl rfl dX8_overlapOf_114 ⟨rfl, rfl⟩
    · rw [if_neg q1] at h
      refine Ev_iload (x := v7) rfl dX8_overlapOf_64 ?_
      refine Ev_if_eq (tgt := 98) dX8_overlapOf_66 (by decide) (fun q3 => ?_) (fun q3 => ?_)
      · rw [if_pos q3] at h
        refine Ev_iconst ic_0 dX8_overlapOf_98 ?_
        refine Ev_istore (loc2 := [some (.ref v0), some (.int v1), some (.int v2), some (.int v3), some (.int v4), none, some (.int v6), some (.int 0), some (.int v8)]) (Nat.le_of_ble_eq_true rfl) rfl rfl dX8_overlapOf_99 ?_
        refine Ev_iinc (x := v8) (v := (v8 + 1)) (loc2 := [some (.ref v0), some (.int v1), some (.int v2), some (.int v3), some (.int v4), none, some (.int v6), some (.int 0), some (.int (v8 + 1))]) rfl (congrArg (v8 + ·) ic_1) (Nat.le_of_ble_eq_true rfl) rfl rfl dX8_overlapOf_101 ?_
        refine Ev_goto (tgt := 57) dX8_overlapOf_104 (by decide) ?_
        exact ih v0 v1 v2 v3 v4 v6 0 (v8 + 1) h
      · rw [if_neg q3] at h
        refine Ev_aload_n (x := v0) rfl dX8_overlapOf_69 ?_
        refine Ev_iload_n (x := v1) rfl dX8_overlapOf_70 ?_
        refine Ev_iload_n (x := v2) rfl dX8_overlapOf_71 ?_
        refine Ev_iload (x := v4) rfl dX8_overlapOf_72 ?_
        refine Ev_iload (x := v6) rfl dX8_overlapOf_74 ?_
        refine Ev_isub dX8_overlapOf_76 ?_
        refine Ev_iload (x := v8) rfl dX8_overlapOf_77 ?_
        refine Ev_iadd dX8_overlapOf_79 ?_
        obtain ⟨x5, g4, h⟩ := bsome h
        refine Ev_callVi (np := 3) (vs := [.int v1, .int v2, .int ((v4 - v6) + v8)]) (rest := []) mdX8_bendAt lkX8_122 ⟨_, rfl, rfl⟩ (oX8_bendAt g4) (rX8_bendAt g4) rfl rfl (Nat.le_of_ble_eq_true rfl) (Nat.le_of_ble_eq_true rfl) dX8_overlapOf_80 ?_
        refine Ev_aload_n (x := v0) rfl dX8_overlapOf_83 ?_
        refine Ev_iload_n (x := v1) rfl dX8_overlapOf_84 ?_
        refine Ev_iload_n (x := v3) rfl dX8_overlapOf_85 ?_
        refine Ev_iload (x := v8) rfl dX8_overlapOf_86 ?_
        obtain ⟨x7, g6, h⟩ := bsome h
        refine Ev_callVi (np := 3) (vs := [.int v1, .int v3, .int v8]) (rest := [.int x5]) mdX8_bendAt lkX8_122 ⟨_, rfl, rfl⟩ (oX8_bendAt g6) (rX8_bendAt g6) rfl rfl (Nat.le_of_ble_eq_true rfl) (Nat.le_of_ble_eq_true rfl) dX8_overlapOf_88 ?_
        refine Ev_icmp_ne (tgt := 98) dX8_overlapOf_91 (by decide) (fun q8 => ?_) (fun q8 => ?_)
        · rw [if_neg q8] at h
          refine Ev_iconst ic_0 dX8_overlapOf_98 ?_
          refine Ev_istore (loc2 := [some (.ref v0), some (.int v1), some (.int v2), some (.int v3), some (.int v4), none, some (.int v6), some (.int 0), some (.int v8)]) (Nat.le_of_ble_eq_true rfl) rfl rfl dX8_overlapOf_99 ?_
          refine Ev_iinc (x := v8) (v := (v8 + 1)) (loc2 := [some (.ref v0), some (.int v1), some (.int v2), some (.int v3), some (.int v4), none, some (.int v6), some (.int 0), some (.int (v8 + 1))]) rfl (congrArg (v8 + ·) ic_1) (Nat.le_of_ble_eq_true rfl) rfl rfl dX8_overlapOf_101 ?_
          refine Ev_goto (tgt := 57) dX8_overlapOf_104 (by decide) ?_
          exact ih v0 v1 v2 v3 v4 v6 0 (v8 + 1) h
        · rw [if_pos q8] at h
          refine Ev_iconst ic_1 dX8_overlapOf_94 ?_
          refine Ev_goto (tgt := 99) dX8_overlapOf_95 (by decide) ?_
          refine Ev_istore (loc2 := [some (.ref v0), some (.int v1), some (.int v2), some (.int v3), some (.int v4), none, some (.int v6), some (.int 1), some (.int v8)]) (Nat.le_of_ble_eq_true rfl) rfl rfl dX8_overlapOf_99 ?_
          refine Ev_iinc (x := v8) (v := (v8 + 1)) (loc2 := [some (.ref v0), some (.int v1), some (.int v2), some (.int v3), some (.int v4), none, some (.int v6), some (.int 1), some (.int (v8 + 1))]) rfl (congrArg (v8 + ·) ic_1) (Nat.le_of_ble_eq_true rfl) rfl rfl dX8_overlapOf_101 ?_
          refine Ev_goto (tgt := 57) dX8_overlapOf_104 (by decide) ?_
          exact ih v0 v1 v2 v3 v4 v6 1 (v8 + 1) h
def fX8_overlapOf_c46 (M : mM) : Nat → Nat → Int32 → Int32 → Int32 → Int32 → Int32 → Option Int32
  | 0, _, _, _, _, _, _ => none
  | n + 1, v0, v1, v2, v3, v4, v6 =>
    if v6 ≤ 0 then
      (some 0)
    else
      (fX8_overlapOf_c57 M (fun w0 w1 w2 w3 w4 w6 => fX8_overlapOf_c46 M n w0 w1 w2 w3 w4 w6) FUEL v0 v1 v2 v3 v4 v6 1 0)
set_option maxRecDepth 20000 in
set_option maxHeartbeats 4000000 in
theorem rX8_overlapOf_c46 {E : mE} {M : mM} {x : Int32} : ∀ (n : Nat) (v0 : Nat) (v1 : Int32) (v2 : Int32) (v3 : Int32) (v4 : Int32) (v6 : Int32), fX8_overlapOf_c46 M n v0 v1 v2 v3 v4 v6 = some x → Ev mX8_overlapOf E 1 0 0 (some (.int x)) M 46 [some (.ref v0), some (.int v1), some (.int v2), some (.int v3), some (.int v4), none, some (.int v6), none, none] [] M 0 0 := by
  intro n
  induction n with
  | zero => intro v0 v1 v2 v3 v4 v6 h; rw [fX8_overlapOf_c46.eq_1] at h; cases h
  | succ n ih =>
    intro v0 v1 v2 v3 v4 v6 h
    rw [fX8_overlapOf_c46.eq_2] at h
    refine Ev_iload (x := v6) rfl dX8_overlapOf_46 ?_
    refine Ev_if_le (tgt := 121) dX8_overlapOf_48 (by decide) (fun q1 => ?_) (fun q1 => ?_)
    · rw [if_pos q1] at h
      refine Ev_iconst ic_0 dX8_overlapOf_121 ?_
      cases h
      exact Ev_iret rfl rfl dX8_overlapOf_122 ⟨rfl, rfl⟩
    · rw [if_neg q1] at h
      refine Ev_iconst ic_1 dX8_overlapOf_51 ?_
      refine Ev_istore (loc2 := [some (.ref v0), some (.int v1), some (.int v2), some (.int v3), some (.int v4), none, some (.int v6), some (.int 1), none]) (Nat.le_of_ble_eq_true rfl) rfl rfl dX8_overlapOf_52 ?_
      refine Ev_iconst ic_0 dX8_overlapOf_54 ?_
      refine Ev_istore (loc2 := [some (.ref v0), some (.int v1), some (.int v2), some (.int v3), some (.int v4), none, some (.int v6), some (.int 1), some (.int 0)]) (Nat.le_of_ble_eq_true rfl) rfl rfl dX8_overlapOf_55 ?_
      exact rX8_overlapOf_c57 (hk46 := fun w0 w1 w2 w3 w4 w6 h => ih w0 w1 w2 w3 w4 w6 h) FUEL v0 v1 v2 v3 v4 v6 1 0 h
def fX8_overlapOf (M : mM) (v0 : Nat) (v1 : Int32) (v2 : Int32) (v3 : Int32) : Option Int32 :=
    if isO M v0 8 = true then
      (gR M v0 8 2).bind fun a1 =>
      (aI M false a1 (((57 * v1) + 4) + v2)).bind fun x2 =>
      (gR M v0 8 2).bind fun a3 =>
      (aI M false a3 (((57 * v1) + 4) + v3)).bind fun x4 =>
      if x4 ≤ x2 then
        (fX8_overlapOf_c46 M FUEL v0 v1 v2 v3 x2 x4)
      else
        (fX8_overlapOf_c46 M FUEL v0 v1 v2 v3 x2 x2)
    else none
theorem oX8_overlapOf {M : mM} {v0 : Nat} {v1 : Int32} {v2 : Int32} {v3 : Int32} {y : Int32} (h : fX8_overlapOf M v0 v1 v2 v3 = some y) : isO M v0 8 = true := by
  unfold fX8_overlapOf at h
  exact (gsome h).1
set_option maxRecDepth 20000 in
set_option maxHeartbeats 4000000 in
theorem rX8_overlapOf {E : mE} {M : mM} {v0 : Nat} {v1 : Int32} {v2 : Int32} {v3 : Int32} {x : Int32} (h : fX8_overlapOf M v0 v1 v2 v3 = some x) : EvC mX8_overlapOf E 1 0 0 [.ref v0, .int v1, .int v2, .int v3] M (some (.int x)) M := by
  unfold fX8_overlapOf at h
  replace h := (gsome h).2
  refine EvC.of [some (.ref v0), some (.int v1), some (.int v2), some (.int v3), none, none, none, none, none] pnX8_overlapOf rfl (Nat.le_of_ble_eq_true rfl) ?_
  refine Ev_aload_n (x := v0) rfl dX8_overlapOf_0 ?_
  obtain ⟨a1, g1, h⟩ := bsome h
  refine Ev_getR flX8_13 dX8_overlapOf_1 g1 ?_
  refine Ev_bipush bp_57 dX8_overlapOf_4 ?_
  refine Ev_iload_n (x := v1) rfl dX8_overlapOf_6 ?_
  refine Ev_imul dX8_overlapOf_7 ?_
  refine Ev_iconst ic_4 dX8_overlapOf_8 ?_
  refine Ev_iadd dX8_overlapOf_9 ?_
  refine Ev_iload_n (x := v2) rfl dX8_overlapOf_10 ?_
  refine Ev_iadd dX8_overlapOf_11 ?_
  obtain ⟨x2, g2, h⟩ := bsome h
  refine Ev_iald dX8_overlapOf_12 g2 ?_
  refine Ev_istore (loc2 := [some (.ref v0), some (.int v1), some (.int v2), some (.int v3), some (.int x2), none, none, none, none]) (Nat.le_of_ble_eq_true rfl) rfl rfl dX8_overlapOf_13 ?_
  refine Ev_aload_n (x := v0) rfl dX8_overlapOf_15 ?_
  obtain ⟨a3, g3, h⟩ := bsome h
  refine Ev_getR flX8_13 dX8_overlapOf_16 g3 ?_
  refine Ev_bipush bp_57 dX8_overlapOf_19 ?_
  refine Ev_iload_n (x := v1) rfl dX8_overlapOf_21 ?_
  refine Ev_imul dX8_overlapOf_22 ?_
  refine Ev_iconst ic_4 dX8_overlapOf_23 ?_
  refine Ev_iadd dX8_overlapOf_24 ?_
  refine Ev_iload_n (x := v3) rfl dX8_overlapOf_25 ?_
  refine Ev_iadd dX8_overlapOf_26 ?_
  obtain ⟨x4, g4, h⟩ := bsome h
  refine Ev_iald dX8_overlapOf_27 g4 ?_
  refine Ev_istore (loc2 := [some (.ref v0), some (.int v1), some (.int v2), some (.int v3), some (.int x2), some (.int x4), none, none, none]) (Nat.le_of_ble_eq_true rfl) rfl rfl dX8_overlapOf_28 ?_
  refine Ev_iload (x := x2) rfl dX8_overlapOf_30 ?_
  refine Ev_iload (x := x4) rfl dX8_overlapOf_32 ?_
  refine Ev_icmp_ge (tgt := 42) dX8_overlapOf_34 (by decide) (fun q5 => ?_) (fun q5 => ?_)
  · rw [if_pos q5] at h
    refine Ev_iload (x := x4) rfl dX8_overlapOf_42 ?_
    refine Ev_istore (loc2 := [some (.ref v0), some (.int v1), some (.int v2), some (.int v3), some (.int x2), some (.int x4), some (.int x4), none, none]) (Nat.le_of_ble_eq_true rfl) rfl rfl dX8_overlapOf_44 ?_
    refine Ev_drop 5 (loc2 := [some (.ref v0), some (.int v1), some (.int v2), some (.int v3), some (.int x2), none, some (.int x4), none, none]) rfl ?_
    exact rX8_overlapOf_c46 FUEL v0 v1 v2 v3 x2 x4 h
  · rw [if_neg q5] at h
    refine Ev_iload (x := x2) rfl dX8_overlapOf_37 ?_
    refine Ev_goto (tgt := 44) dX8_overlapOf_39 (by decide) ?_
    refine Ev_istore (loc2 := [some (.ref v0), some (.int v1), some (.int v2), some (.int v3), some (.int x2), some (.int x4), some (.int x2), none, none]) (Nat.le_of_ble_eq_true rfl) rfl rfl dX8_overlapOf_44 ?_
    refine Ev_drop 5 (loc2 := [some (.ref v0), some (.int v1), some (.int v2), some (.int v3), some (.int x2), none, some (.int x2), none, none]) rfl ?_
    exact rX8_overlapOf_c46 FUEL v0 v1 v2 v3 x2 x2 h
/-! TinselRiverModel.joinedMany(III)I -/
def fX8_joinedMany (M : mM) (v0 : Nat) (v1 : Int32) (v2 : Int32) (v3 : Int32) : Option Int32 :=
    if isO M v0 8 = true then
      (gR M v0 8 2).bind fun a1 =>
      (aI M false a1 (((57 * v1) + 4) + v2)).bind fun x2 =>
      (gR M v0 8 2).bind fun a3 =>
      (aI M false a3 (((57 * v1) + 4) + v3)).bind fun x4 =>
      (fX8_overlapOf M v0 v1 v2 v3).bind fun x6 =>
      some ((x2 + x4) - x6)
    else none
theorem oX8_joinedMany {M : mM} {v0 : Nat} {v1 : Int32} {v2 : Int32} {v3 : Int32} {y : Int32} (h : fX8_joinedMany M v0 v1 v2 v3 = some y) : isO M v0 8 = true := by
  unfold fX8_joinedMany at h
  exact (gsome h).1
set_option maxRecDepth 20000 in
set_option maxHeartbeats 4000000 in
theorem rX8_joinedMany {E : mE} {M : mM} {v0 : Nat} {v1 : Int32} {v2 : Int32} {v3 : Int32} {x : Int32} (h : fX8_joinedMany M v0 v1 v2 v3 = some x) : EvC mX8_joinedMany E 2 0 0 [.ref v0, .int v1, .int v2, .int v3] M (some (.int x)) M := by
  unfold fX8_joinedMany at h
  replace h := (gsome h).2
  refine EvC.of [some (.ref v0), some (.int v1), some (.int v2), some (.int v3)] pnX8_joinedMany rfl (Nat.le_of_ble_eq_true rfl) ?_
  refine Ev_aload_n (x := v0) rfl dX8_joinedMany_0 ?_
  obtain ⟨a1, g1, h⟩ := bsome h
  refine Ev_getR flX8_13 dX8_joinedMany_1 g1 ?_
  refine Ev_bipush bp_57 dX8_joinedMany_4 ?_
  refine Ev_iload_n (x := v1) rfl dX8_joinedMany_6 ?_
  refine Ev_imul dX8_joinedMany_7 ?_
  refine Ev_iconst ic_4 dX8_joinedMany_8 ?_
  refine Ev_iadd dX8_joinedMany_9 ?_
  refine Ev_iload_n (x := v2) rfl dX8_joinedMany_10 ?_
  refine Ev_iadd dX8_joinedMany_11 ?_
  obtain ⟨x2, g2, h⟩ := bsome h
  refine Ev_iald dX8_joinedMany_12 g2 ?_
  refine Ev_aload_n (x := v0) rfl dX8_joinedMany_13 ?_
  obtain ⟨a3, g3, h⟩ := bsome h
  refine Ev_getR flX8_13 dX8_joinedMany_14 g3 ?_
  refine Ev_bipush bp_57 dX8_joinedMany_17 ?_
  refine Ev_iload_n (x := v1) rfl dX8_joinedMany_19 ?_
  refine Ev_imul dX8_joinedMany_20 ?_
  refine Ev_iconst ic_4 dX8_joinedMany_21 ?_
  refine Ev_iadd dX8_joinedMany_22 ?_
  refine Ev_iload_n (x := v3) rfl dX8_joinedMany_23 ?_
  refine Ev_iadd dX8_joinedMany_24 ?_
  obtain ⟨x4, g4, h⟩ := bsome h
  refine Ev_iald dX8_joinedMany_25 g4 ?_
  refine Ev_iadd dX8_joinedMany_26 ?_
  refine Ev_aload_n (x := v0) rfl dX8_joinedMany_27 ?_
  refine Ev_iload_n (x := v1) rfl dX8_joinedMany_28 ?_
  refine Ev_iload_n (x := v2) rfl dX8_joinedMany_29 ?_
  refine Ev_iload_n (x := v3) rfl dX8_joinedMany_30 ?_
  obtain ⟨x6, g5, h⟩ := bsome h
  refine Ev_callVi (np := 3) (vs := [.int v1, .int v2, .int v3]) (rest := [.int (x2 + x4)]) mdX8_overlapOf lkX8_126 ⟨_, rfl, rfl⟩ (oX8_overlapOf g5) (rX8_overlapOf g5) rfl rfl (Nat.le_of_ble_eq_true rfl) (Nat.le_of_ble_eq_true rfl) dX8_joinedMany_31 ?_
  refine Ev_isub dX8_joinedMany_34 ?_
  cases h
  exact Ev_iret rfl rfl dX8_joinedMany_35 ⟨rfl, rfl⟩
/-! TinselRiverModel.isOneHouse(III)Z -/
def fX8_isOneHouse (M : mM) (v0 : Nat) (v1 : Int32) (v2 : Int32) (v3 : Int32) : Option Int32 :=
    if isO M v0 8 = true then
      (gR M v0 8 2).bind fun a1 =>
      (aI M false a1 ((57 * v1) + v2)).bind fun x2 =>
      (gR M v0 8 2).bind fun a3 =>
      (aI M false a3 ((57 * v1) + v3)).bind fun x4 =>
      if x2 = x4 then
        (some 1)
      else
        (some 0)
    else none
theorem oX8_isOneHouse {M : mM} {v0 : Nat} {v1 : Int32} {v2 : Int32} {v3 : Int32} {y : Int32} (h : fX8_isOneHouse M v0 v1 v2 v3 = some y) : isO M v0 8 = true := by
  unfold fX8_isOneHouse at h
  exact (gsome h).1
set_option maxRecDepth 20000 in
set_option maxHeartbeats 4000000 in
theorem rX8_isOneHouse {E : mE} {M : mM} {v0 : Nat} {v1 : Int32} {v2 : Int32} {v3 : Int32} {x : Int32} (h : fX8_isOneHouse M v0 v1 v2 v3 = some x) : EvC mX8_isOneHouse E 0 0 0 [.ref v0, .int v1, .int v2, .int v3] M (some (.int x)) M := by
  unfold fX8_isOneHouse at h
  replace h := (gsome h).2
  refine EvC.of [some (.ref v0), some (.int v1), some (.int v2), some (.int v3)] pnX8_isOneHouse rfl (Nat.le_of_ble_eq_true rfl) ?_
  refine Ev_aload_n (x := v0) rfl dX8_isOneHouse_0 ?_
  obtain ⟨a1, g1, h⟩ := bsome h
  refine Ev_getR flX8_13 dX8_isOneHouse_1 g1 ?_
  refine Ev_bipush bp_57 dX8_isOneHouse_4 ?_
  refine Ev_iload_n (x := v1) rfl dX8_isOneHouse_6 ?_
  refine Ev_imul dX8_isOneHouse_7 ?_
  refine Ev_iload_n (x := v2) rfl dX8_isOneHouse_8 ?_
  refine Ev_iadd dX8_isOneHouse_9 ?_
  obtain ⟨x2, g2, h⟩ := bsome h
  refine Ev_iald dX8_isOneHouse_10 g2 ?_
  refine Ev_aload_n (x := v0) rfl dX8_isOneHouse_11 ?_
  obtain ⟨a3, g3, h⟩ := bsome h
  refine Ev_getR flX8_13 dX8_isOneHouse_12 g3 ?_
  refine Ev_bipush bp_57 dX8_isOneHouse_15 ?_
  refine Ev_iload_n (x := v1) rfl dX8_isOneHouse_17 ?_
  refine Ev_imul dX8_isOneHouse_18 ?_
  refine Ev_iload_n (x := v3) rfl dX8_isOneHouse_19 ?_
  refine Ev_iadd dX8_isOneHouse_20 ?_
  obtain ⟨x4, g4, h⟩ := bsome h
  refine Ev_iald dX8_isOneHouse_21 g4 ?_
  refine Ev_icmp_ne (tgt := 29) dX8_isOneHouse_22 (by decide) (fun q5 => ?_) (fun q5 => ?_)
  · rw [if_neg q5] at h
    refine Ev_iconst ic_0 dX8_isOneHouse_29 ?_
    cases h
    exact Ev_iret rfl rfl dX8_isOneHouse_30 ⟨rfl, rfl⟩
  · rw [if_pos q5] at h
    refine Ev_iconst ic_1 dX8_isOneHouse_25 ?_
    refine Ev_goto (tgt := 30) dX8_isOneHouse_26 (by decide) ?_
    cases h
    exact Ev_iret rfl rfl dX8_isOneHouse_30 ⟨rfl, rfl⟩
/-! TinselRiverModel.canJoin(III)Z -/
def fX8_canJoin (M : mM) (v0 : Nat) (v1 : Int32) (v2 : Int32) (v3 : Int32) : Option Int32 :=
    if isO M v0 8 = true then
      (fX8_isThere M v0 v1 v2).bind fun x2 =>
      if x2 = 0 then
        (some 0)
      else
        ((fX8_isThere M v0 v1 v3).bind fun x5 =>
        if x5 = 0 then
          (some 0)
        else
          (if v2 = v3 then
            (some 0)
          else
            ((fX8_isOneHouse M v0 v1 v2 v3).bind fun x9 =>
            if x9 = 0 then
              (some 0)
            else
              ((fX8_joinedMany M v0 v1 v2 v3).bind fun x12 =>
              if 12 < x12 then
                (some 0)
              else
                (some 1)))))
    else none
theorem oX8_canJoin {M : mM} {v0 : Nat} {v1 : Int32} {v2 : Int32} {v3 : Int32} {y : Int32} (h : fX8_canJoin M v0 v1 v2 v3 = some y) : isO M v0 8 = true := by
  unfold fX8_canJoin at h
  exact (gsome h).1
set_option maxRecDepth 20000 in
set_option maxHeartbeats 4000000 in
theorem rX8_canJoin {E : mE} {M : mM} {v0 : Nat} {v1 : Int32} {v2 : Int32} {v3 : Int32} {x : Int32} (h : fX8_canJoin M v0 v1 v2 v3 = some x) : EvC mX8_canJoin E 3 0 0 [.ref v0, .int v1, .int v2, .int v3] M (some (.int x)) M := by
  unfold fX8_canJoin at h
  replace h := (gsome h).2
  refine EvC.of [some (.ref v0), some (.int v1), some (.int v2), some (.int v3)] pnX8_canJoin rfl (Nat.le_of_ble_eq_true rfl) ?_
  refine Ev_aload_n (x := v0) rfl dX8_canJoin_0 ?_
  refine Ev_iload_n (x := v1) rfl dX8_canJoin_1 ?_
  refine Ev_iload_n (x := v2) rfl dX8_canJoin_2 ?_
  obtain ⟨x2, g1, h⟩ := bsome h
  refine Ev_callVi (np := 2) (vs := [.int v1, .int v2]) (rest := []) mdX8_isThere lkX8_99 ⟨_, rfl, rfl⟩ (oX8_isThere g1) (rX8_isThere g1) rfl rfl (Nat.le_of_ble_eq_true rfl) (Nat.le_of_ble_eq_true rfl) dX8_canJoin_3 ?_
  refine Ev_if_eq (tgt := 49) dX8_canJoin_6 (by decide) (fun q3 => ?_) (fun q3 => ?_)
  · rw [if_pos q3] at h
    refine Ev_iconst ic_0 dX8_canJoin_49 ?_
    cases h
    exact Ev_iret rfl rfl dX8_canJoin_50 ⟨rfl, rfl⟩
  · rw [if_neg q3] at h
    refine Ev_aload_n (x := v0) rfl dX8_canJoin_9 ?_
    refine Ev_iload_n (x := v1) rfl dX8_canJoin_10 ?_
    refine Ev_iload_n (x := v3) rfl dX8_canJoin_11 ?_
    obtain ⟨x5, g4, h⟩ := bsome h
    refine Ev_callVi (np := 2) (vs := [.int v1, .int v3]) (rest := []) mdX8_isThere lkX8_99 ⟨_, rfl, rfl⟩ (oX8_isThere g4) (rX8_isThere g4) rfl rfl (Nat.le_of_ble_eq_true rfl) (Nat.le_of_ble_eq_true rfl) dX8_canJoin_12 ?_
    refine Ev_if_eq (tgt := 49) dX8_canJoin_15 (by decide) (fun q6 => ?_) (fun q6 => ?_)
    · rw [if_pos q6] at h
      refine Ev_iconst ic_0 dX8_canJoin_49 ?_
      cases h
      exact Ev_iret rfl rfl dX8_canJoin_50 ⟨rfl, rfl⟩
    · rw [if_neg q6] at h
      refine Ev_iload_n (x := v2) rfl dX8_canJoin_18 ?_
      refine Ev_iload_n (x := v3) rfl dX8_canJoin_19 ?_
      refine Ev_icmp_eq (tgt := 49) dX8_canJoin_20 (by decide) (fun q7 => ?_) (fun q7 => ?_)
      · rw [if_pos q7] at h
        refine Ev_iconst ic_0 dX8_canJoin_49 ?_
        cases h
        exact Ev_iret rfl rfl dX8_canJoin_50 ⟨rfl, rfl⟩
      · rw [if_neg q7] at h
        refine Ev_aload_n (x := v0) rfl dX8_canJoin_23 ?_
        refine Ev_iload_n (x := v1) rfl dX8_canJoin_24 ?_
        refine Ev_iload_n (x := v2) rfl dX8_canJoin_25 ?_
        refine Ev_iload_n (x := v3) rfl dX8_canJoin_26 ?_
        obtain ⟨x9, g8, h⟩ := bsome h
        refine Ev_callVi (np := 3) (vs := [.int v1, .int v2, .int v3]) (rest := []) mdX8_isOneHouse lkX8_129 ⟨_, rfl, rfl⟩ (oX8_isOneHouse g8) (rX8_isOneHouse g8) rfl rfl (Nat.le_of_ble_eq_true rfl) (Nat.le_of_ble_eq_true rfl) dX8_canJoin_27 ?_
        refine Ev_if_eq (tgt := 49) dX8_canJoin_30 (by decide) (fun q10 => ?_) (fun q10 => ?_)
        · rw [if_pos q10] at h
          refine Ev_iconst ic_0 dX8_canJoin_49 ?_
          cases h
          exact Ev_iret rfl rfl dX8_canJoin_50 ⟨rfl, rfl⟩
        · rw [if_neg q10] at h
          refine Ev_aload_n (x := v0) rfl dX8_canJoin_33 ?_
          refine Ev_iload_n (x := v1) rfl dX8_canJoin_34 ?_
          refine Ev_iload_n (x := v2) rfl dX8_canJoin_35 ?_
          refine Ev_iload_n (x := v3) rfl dX8_canJoin_36 ?_
          obtain ⟨x12, g11, h⟩ := bsome h
          refine Ev_callVi (np := 3) (vs := [.int v1, .int v2, .int v3]) (rest := []) mdX8_joinedMany lkX8_133 ⟨_, rfl, rfl⟩ (oX8_joinedMany g11) (rX8_joinedMany g11) rfl rfl (Nat.le_of_ble_eq_true rfl) (Nat.le_of_ble_eq_true rfl) dX8_canJoin_37 ?_
          refine Ev_bipush bp_12 dX8_canJoin_40 ?_
          refine Ev_icmp_gt (tgt := 49) dX8_canJoin_42 (by decide) (fun q13 => ?_) (fun q13 => ?_)
          · rw [if_pos q13] at h
            refine Ev_iconst ic_0 dX8_canJoin_49 ?_
            cases h
            exact Ev_iret rfl rfl dX8_canJoin_50 ⟨rfl, rfl⟩
          · rw [if_neg q13] at h
            refine Ev_iconst ic_1 dX8_canJoin_45 ?_
            refine Ev_goto (tgt := 50) dX8_canJoin_46 (by decide) ?_
            cases h
            exact Ev_iret rfl rfl dX8_canJoin_50 ⟨rfl, rfl⟩
/-! TinselRiverModel.joinOn(III)V -/
def fX8_joinOn_c43 : Nat → mM → Nat → Int32 → Int32 → Int32 → Int32 → Int32 → Int32 → Int32 → Option mM
  | 0, _, _, _, _, _, _, _, _, _ => none
  | n + 1, M, v0, v1, v2, v3, v4, v5, v6, v7 =>
    if v6 ≤ v7 then
      ((gR M v0 8 2).bind fun a2 =>
      (aS M false a2 (((57 * v1) + 4) + v2) ((v5 + v6) - v4)).bind fun M3 =>
      (gR M3 v0 8 2).bind fun a4 =>
      (aS M3 false a4 (((57 * v1) + 4) + v3) 0).bind fun M5 =>
      some M5)
    else
      ((gR M v0 8 2).bind fun a6 =>
      (fX8_bendAt M v0 v1 v3 v7).bind fun x8 =>
      (aS M false a6 ((((((57 * v1) + 8) + (12 * v2)) + v5) + v7) - v4) x8).bind fun M9 =>
      fX8_joinOn_c43 n M9 v0 v1 v2 v3 v4 v5 v6 (v7 + 1))
set_option maxRecDepth 20000 in
set_option maxHeartbeats 4000000 in
theorem rX8_joinOn_c43 {E : mE} {Mf : mM} : ∀ (n : Nat) (M : mM) (v0 : Nat) (v1 : Int32) (v2 : Int32) (v3 : Int32) (v4 : Int32) (v5 : Int32) (v6 : Int32) (v7 : Int32), fX8_joinOn_c43 n M v0 v1 v2 v3 v4 v5 v6 v7 = some Mf → Ev mX8_joinOn E 2 0 0 none Mf 43 [some (.ref v0), some (.int v1), some (.int v2), some (.int v3), some (.int v4), some (.int v5), some (.int v6), some (.int v7)] [] M 0 0 := by
  intro n
  induction n with
  | zero => intro M v0 v1 v2 v3 v4 v5 v6 v7 h; rw [fX8_joinOn_c43.eq_1] at h; cases h
  | succ n ih =>
    intro M v0 v1 v2 v3 v4 v5 v6 v7 h
    rw [fX8_joinOn_c43.eq_2] at h
    refine Ev_iload (x := v7) rfl dX8_joinOn_43 ?_
    refine Ev_iload (x := v6) rfl dX8_joinOn_45 ?_
    refine Ev_icmp_ge (tgt := 90) dX8_joinOn_47 (by decide) (fun q1 => ?_) (fun q1 => ?_)
    · rw [if_pos q1] at h
      refine Ev_aload_n (x := v0) rfl dX8_joinOn_90 ?_
      obtain ⟨a2, g2, h⟩ := bsome h
      refine Ev_getR flX8_13 dX8_joinOn_91 g2 ?_
      refine Ev_bipush bp_57 dX8_joinOn_94 ?_
      refine Ev_iload_n (x := v1) rfl dX8_joinOn_96 ?_
      refine Ev_imul dX8_joinOn_97 ?_
      refine Ev_iconst ic_4 dX8_joinOn_98 ?_
      refine Ev_iadd dX8_joinOn_99 ?_
      refine Ev_iload_n (x := v2) rfl dX8_joinOn_100 ?_
      refine Ev_iadd dX8_joinOn_101 ?_
      refine Ev_iload (x := v5) rfl dX8_joinOn_102 ?_
      refine Ev_iload (x := v6) rfl dX8_joinOn_104 ?_
      refine Ev_iadd dX8_joinOn_106 ?_
      refine Ev_iload (x := v4) rfl dX8_joinOn_107 ?_
      refine Ev_isub dX8_joinOn_109 ?_
      obtain ⟨M3, g3, h⟩ := bsome h
      refine Ev_iast dX8_joinOn_110 g3 ?_
      refine Ev_aload_n (x := v0) rfl dX8_joinOn_111 ?_
      obtain ⟨a4, g4, h⟩ := bsome h
      refine Ev_getR flX8_13 dX8_joinOn_112 g4 ?_
      refine Ev_bipush bp_57 dX8_joinOn_115 ?_
      refine Ev_iload_n (x := v1) rfl dX8_joinOn_117 ?_
      refine Ev_imul dX8_joinOn_118 ?_
      refine Ev_iconst ic_4 dX8_joinOn_119 ?_
      refine Ev_iadd dX8_joinOn_120 ?_
      refine Ev_iload_n (x := v3) rfl dX8_joinOn_121 ?_
      refine Ev_iadd dX8_joinOn_122 ?_
      refine Ev_iconst ic_0 dX8_joinOn_123 ?_
      obtain ⟨M5, g5, h⟩ := bsome h
      refine Ev_iast dX8_joinOn_124 g5 ?_
      cases h
      exact Ev_vret rfl dX8_joinOn_125 ⟨rfl, rfl⟩
    · rw [if_neg q1] at h
      refine Ev_aload_n (x := v0) rfl dX8_joinOn_50 ?_
      obtain ⟨a6, g6, h⟩ := bsome h
      refine Ev_getR flX8_13 dX8_joinOn_51 g6 ?_
      refine Ev_bipush bp_57 dX8_joinOn_54 ?_
      refine Ev_iload_n (x := v1) rfl dX8_joinOn_56 ?_
      refine Ev_imul dX8_joinOn_57 ?_
      refine Ev_bipush bp_8 dX8_joinOn_58 ?_
      refine Ev_iadd dX8_joinOn_60 ?_
      refine Ev_bipush bp_12 dX8_joinOn_61 ?_
      refine Ev_iload_n (x := v2) rfl dX8_joinOn_63 ?_
      refine Ev_imul dX8_joinOn_64 ?_
      refine Ev_iadd dX8_joinOn_65 ?_
      refine Ev_iload (x := v5) rfl dX8_joinOn_66 ?_
      refine Ev_iadd dX8_joinOn_68 ?_
      refine Ev_iload (x := v7) rfl dX8_joinOn_69 ?_
      refine Ev_iadd dX8_joinOn_71 ?_
      refine Ev_iload (x := v4) rfl dX8_joinOn_72 ?_
      refine Ev_isub dX8_joinOn_74 ?_
      refine Ev_aload_n (x := v0) rfl dX8_joinOn_75 ?_
      refine Ev_iload_n (x := v1) rfl dX8_joinOn_76 ?_
      refine Ev_iload_n (x := v3) rfl dX8_joinOn_77 ?_
      refine Ev_iload (x := v7) rfl dX8_joinOn_78 ?_
      obtain ⟨x8, g7, h⟩ := bsome h
      refine Ev_callVi (np := 3) (vs := [.int v1, .int v3, .int v7]) (rest := [.int ((((((57 * v1) + 8) + (12 * v2)) + v5) + v7) - v4), .ref a6]) mdX8_bendAt lkX8_122 ⟨_, rfl, rfl⟩ (oX8_bendAt g7) (rX8_bendAt g7) rfl rfl (Nat.le_of_ble_eq_true rfl) (Nat.le_of_ble_eq_true rfl) dX8_joinOn_80 ?_
      obtain ⟨M9, g9, h⟩ := bsome h
      refine Ev_iast dX8_joinOn_83 g9 ?_
      refine Ev_iinc (x := v7) (v := (v7 + 1)) (loc2 := [some (.ref v0), some (.int v1), some (.int v2), some (.int v3), some (.int v4), some (.int v5), some (.int v6), some (.int (v7 + 1))]) rfl (congrArg (v7 + ·) ic_1) (Nat.le_of_ble_eq_true rfl) rfl rfl dX8_joinOn_84 ?_
      refine Ev_goto (tgt := 43) dX8_joinOn_87 (by decide) ?_
      exact ih M9 v0 v1 v2 v3 v4 v5 v6 (v7 + 1) h
def fX8_joinOn (M : mM) (v0 : Nat) (v1 : Int32) (v2 : Int32) (v3 : Int32) : Option mM :=
    if isO M v0 8 = true then
      (fX8_overlapOf M v0 v1 v2 v3).bind fun x2 =>
      (gR M v0 8 2).bind fun a3 =>
      (aI M false a3 (((57 * v1) + 4) + v2)).bind fun x4 =>
      (gR M v0 8 2).bind fun a5 =>
      (aI M false a5 (((57 * v1) + 4) + v3)).bind fun x6 =>
      fX8_joinOn_c43 FUEL M v0 v1 v2 v3 x2 x4 x6 x2
    else none
theorem oX8_joinOn {M : mM} {v0 : Nat} {v1 : Int32} {v2 : Int32} {v3 : Int32} {y : mM} (h : fX8_joinOn M v0 v1 v2 v3 = some y) : isO M v0 8 = true := by
  unfold fX8_joinOn at h
  exact (gsome h).1
set_option maxRecDepth 20000 in
set_option maxHeartbeats 4000000 in
theorem rX8_joinOn {E : mE} {M : mM} {v0 : Nat} {v1 : Int32} {v2 : Int32} {v3 : Int32} {Mf : mM} (h : fX8_joinOn M v0 v1 v2 v3 = some Mf) : EvC mX8_joinOn E 2 0 0 [.ref v0, .int v1, .int v2, .int v3] M none Mf := by
  unfold fX8_joinOn at h
  replace h := (gsome h).2
  refine EvC.of [some (.ref v0), some (.int v1), some (.int v2), some (.int v3), none, none, none, none] pnX8_joinOn rfl (Nat.le_of_ble_eq_true rfl) ?_
  refine Ev_aload_n (x := v0) rfl dX8_joinOn_0 ?_
  refine Ev_iload_n (x := v1) rfl dX8_joinOn_1 ?_
  refine Ev_iload_n (x := v2) rfl dX8_joinOn_2 ?_
  refine Ev_iload_n (x := v3) rfl dX8_joinOn_3 ?_
  obtain ⟨x2, g1, h⟩ := bsome h
  refine Ev_callVi (np := 3) (vs := [.int v1, .int v2, .int v3]) (rest := []) mdX8_overlapOf lkX8_126 ⟨_, rfl, rfl⟩ (oX8_overlapOf g1) (rX8_overlapOf g1) rfl rfl (Nat.le_of_ble_eq_true rfl) (Nat.le_of_ble_eq_true rfl) dX8_joinOn_4 ?_
  refine Ev_istore (loc2 := [some (.ref v0), some (.int v1), some (.int v2), some (.int v3), some (.int x2), none, none, none]) (Nat.le_of_ble_eq_true rfl) rfl rfl dX8_joinOn_7 ?_
  refine Ev_aload_n (x := v0) rfl dX8_joinOn_9 ?_
  obtain ⟨a3, g3, h⟩ := bsome h
  refine Ev_getR flX8_13 dX8_joinOn_10 g3 ?_
  refine Ev_bipush bp_57 dX8_joinOn_13 ?_
  refine Ev_iload_n (x := v1) rfl dX8_joinOn_15 ?_
  refine Ev_imul dX8_joinOn_16 ?_
  refine Ev_iconst ic_4 dX8_joinOn_17 ?_
  refine Ev_iadd dX8_joinOn_18 ?_
  refine Ev_iload_n (x := v2) rfl dX8_joinOn_19 ?_
  refine Ev_iadd dX8_joinOn_20 ?_
  obtain ⟨x4, g4, h⟩ := bsome h
  refine Ev_iald dX8_joinOn_21 g4 ?_
  refine Ev_istore (loc2 := [some (.ref v0), some (.int v1), some (.int v2), some (.int v3), some (.int x2), some (.int x4), none, none]) (Nat.le_of_ble_eq_true rfl) rfl rfl dX8_joinOn_22 ?_
  refine Ev_aload_n (x := v0) rfl dX8_joinOn_24 ?_
  obtain ⟨a5, g5, h⟩ := bsome h
  refine Ev_getR flX8_13 dX8_joinOn_25 g5 ?_
  refine Ev_bipush bp_57 dX8_joinOn_28 ?_
  refine Ev_iload_n (x := v1) rfl dX8_joinOn_30 ?_
  refine Ev_imul dX8_joinOn_31 ?_
  refine Ev_iconst ic_4 dX8_joinOn_32 ?_
  refine Ev_iadd dX8_joinOn_33 ?_
  refine Ev_iload_n (x := v3) rfl dX8_joinOn_34 ?_
  refine Ev_iadd dX8_joinOn_35 ?_
  obtain ⟨x6, g6, h⟩ := bsome h
  refine Ev_iald dX8_joinOn_36 g6 ?_
  refine Ev_istore (loc2 := [some (.ref v0), some (.int v1), some (.int v2), some (.int v3), some (.int x2), some (.int x4), some (.int x6), none]) (Nat.le_of_ble_eq_true rfl) rfl rfl dX8_joinOn_37 ?_
  refine Ev_iload (x := x2) rfl dX8_joinOn_39 ?_
  refine Ev_istore (loc2 := [some (.ref v0), some (.int v1), some (.int v2), some (.int v3), some (.int x2), some (.int x4), some (.int x6), some (.int x2)]) (Nat.le_of_ble_eq_true rfl) rfl rfl dX8_joinOn_41 ?_
  exact rX8_joinOn_c43 FUEL M v0 v1 v2 v3 x2 x4 x6 x2 h
/-! TinselRiverModel.tenTo(I)J -/
def fX8_tenTo_c4 (M : mM) : Nat → Int32 → Int64 → Int32 → Option Int64
  | 0, _, _, _ => none
  | n + 1, v0, v1, v3 =>
    if v0 ≤ v3 then
      (some v1)
    else
      (fX8_tenTo_c4 M n v0 (v1 * (10 : Int64)) (v3 + 1))
set_option maxRecDepth 20000 in
set_option maxHeartbeats 4000000 in
theorem rX8_tenTo_c4 {E : mE} {M : mM} {x : Int64} : ∀ (n : Nat) (v0 : Int32) (v1 : Int64) (v3 : Int32), fX8_tenTo_c4 M n v0 v1 v3 = some x → Ev mX8_tenTo E 0 0 0 (some (.long x)) M 4 [some (.int v0), some (.long v1), none, some (.int v3)] [] M 0 0 := by
  intro n
  induction n with
  | zero => intro v0 v1 v3 h; rw [fX8_tenTo_c4.eq_1] at h; cases h
  | succ n ih =>
    intro v0 v1 v3 h
    rw [fX8_tenTo_c4.eq_2] at h
    refine Ev_iload_n (x := v3) rfl dX8_tenTo_4 ?_
    refine Ev_iload_n (x := v0) rfl dX8_tenTo_5 ?_
    refine Ev_icmp_ge (tgt := 21) dX8_tenTo_6 (by decide) (fun q1 => ?_) (fun q1 => ?_)
    · rw [if_pos q1] at h
      refine Ev_lload_n (x := v1) rfl dX8_tenTo_21 ?_
      cases h
      exact Ev_lret rfl dX8_tenTo_22 ⟨rfl, rfl⟩
    · rw [if_neg q1] at h
      refine Ev_lload_n (x := v1) rfl dX8_tenTo_9 ?_
      refine Ev_ldc2 csX8_136 dX8_tenTo_10 ?_
      refine Ev_lmul dX8_tenTo_13 ?_
      refine Ev_lstore_n (loc2 := [some (.int v0), some (.long (v1 * (10 : Int64))), none, some (.int v3)]) (Nat.le_of_ble_eq_true rfl) rfl rfl dX8_tenTo_14 ?_
      refine Ev_iinc (x := v3) (v := (v3 + 1)) (loc2 := [some (.int v0), some (.long (v1 * (10 : Int64))), none, some (.int (v3 + 1))]) rfl (congrArg (v3 + ·) ic_1) (Nat.le_of_ble_eq_true rfl) rfl rfl dX8_tenTo_15 ?_
      refine Ev_goto (tgt := 4) dX8_tenTo_18 (by decide) ?_
      exact ih v0 (v1 * (10 : Int64)) (v3 + 1) h
def fX8_tenTo (M : mM) (v0 : Int32) : Option Int64 :=
    fX8_tenTo_c4 M FUEL v0 (1 : Int64) 0
set_option maxRecDepth 20000 in
set_option maxHeartbeats 4000000 in
theorem rX8_tenTo {E : mE} {M : mM} {v0 : Int32} {x : Int64} (h : fX8_tenTo M v0 = some x) : EvC mX8_tenTo E 0 0 0 [.int v0] M (some (.long x)) M := by
  unfold fX8_tenTo at h
  refine EvC.of [some (.int v0), none, none, none] pnX8_tenTo rfl (Nat.le_of_ble_eq_true rfl) ?_
  refine Ev_lconst (v := 1) (by decide) dX8_tenTo_0 ?_
  refine Ev_lstore_n (loc2 := [some (.int v0), some (.long (1 : Int64)), none, none]) (Nat.le_of_ble_eq_true rfl) rfl rfl dX8_tenTo_1 ?_
  refine Ev_iconst ic_0 dX8_tenTo_2 ?_
  refine Ev_istore_n (loc2 := [some (.int v0), some (.long (1 : Int64)), none, some (.int 0)]) (Nat.le_of_ble_eq_true rfl) rfl rfl dX8_tenTo_3 ?_
  exact rX8_tenTo_c4 FUEL v0 (1 : Int64) 0 h
/-! TinselRiverModel.bed(IJ)I -/
def fX8_bed_c86 : Nat → mM → Nat → Int32 → Int64 → Int32 → Int32 → Option (Int32 × mM)
  | 0, _, _, _, _, _, _ => none
  | n + 1, M, v0, v1, v2, v4, v5 =>
    if v1 ≤ v5 then
      (some (v4, M))
    else
      ((gR M v0 8 12).bind fun a2 =>
      (fX8_tenTo M ((v1 - 1) - v5)).bind fun x4 =>
      if x4 = 0 then none else
      (aS M false a2 v5 (Int64.toInt32 ((v2 / x4) - (v2 / x4) / (10 : Int64) * (10 : Int64)))).bind fun M6 =>
      fX8_bed_c86 n M6 v0 v1 v2 v4 (v5 + 1))
set_option maxRecDepth 20000 in
set_option maxHeartbeats 4000000 in
theorem rX8_bed_c86 {E : mE} {x : Int32} {Mf : mM} : ∀ (n : Nat) (M : mM) (v0 : Nat) (v1 : Int32) (v2 : Int64) (v4 : Int32) (v5 : Int32), fX8_bed_c86 n M v0 v1 v2 v4 v5 = some (x, Mf) → Ev mX8_bed E 1 0 0 (some (.int x)) Mf 86 [some (.ref v0), some (.int v1), some (.long v2), none, some (.int v4), some (.int v5)] [] M 0 0 := by
  intro n
  induction n with
  | zero => intro M v0 v1 v2 v4 v5 h; rw [fX8_bed_c86.eq_1] at h; cases h
  | succ n ih =>
    intro M v0 v1 v2 v4 v5 h
    rw [fX8_bed_c86.eq_2] at h
    refine Ev_iload (x := v5) rfl dX8_bed_86 ?_
    refine Ev_iload_n (x := v1) rfl dX8_bed_88 ?_
    refine Ev_icmp_ge (tgt := 121) dX8_bed_89 (by decide) (fun q1 => ?_) (fun q1 => ?_)
    · rw [if_pos q1] at h
      refine Ev_iload (x := v4) rfl dX8_bed_121 ?_
      cases h
      exact Ev_iret rfl rfl dX8_bed_123 ⟨rfl, rfl⟩
    · rw [if_neg q1] at h
      refine Ev_aload_n (x := v0) rfl dX8_bed_92 ?_
      obtain ⟨a2, g2, h⟩ := bsome h
      refine Ev_getR flX8_28 dX8_bed_93 g2 ?_
      refine Ev_iload (x := v5) rfl dX8_bed_96 ?_
      refine Ev_lload_n (x := v2) rfl dX8_bed_98 ?_
      refine Ev_iload_n (x := v1) rfl dX8_bed_99 ?_
      refine Ev_iconst ic_1 dX8_bed_100 ?_
      refine Ev_isub dX8_bed_101 ?_
      refine Ev_iload (x := v5) rfl dX8_bed_102 ?_
      refine Ev_isub dX8_bed_104 ?_
      obtain ⟨x4, g3, h⟩ := bsome h
      refine Ev_callSl (np := 1) (vs := [.int ((v1 - 1) - v5)]) (rest := [.long v2, .int v5, .ref a2]) mdX8_tenTo lkX8_140 (rX8_tenTo g3) rfl rfl (Nat.le_of_ble_eq_true rfl) (Nat.le_of_ble_eq_true rfl) dX8_bed_105 ?_
      obtain ⟨z5, h⟩ := nsome h
      refine Ev_ldiv z5 dX8_bed_108 ?_
      refine Ev_ldc2 csX8_136 dX8_bed_109 ?_
      refine Ev_lrem (by decide) dX8_bed_112 ?_
      refine Ev_l2i dX8_bed_113 ?_
      obtain ⟨M6, g6, h⟩ := bsome h
      refine Ev_iast dX8_bed_114 g6 ?_
      refine Ev_iinc (x := v5) (v := (v5 + 1)) (loc2 := [some (.ref v0), some (.int v1), some (.long v2), none, some (.int v4), some (.int (v5 + 1))]) rfl (congrArg (v5 + ·) ic_1) (Nat.le_of_ble_eq_true rfl) rfl rfl dX8_bed_115 ?_
      refine Ev_goto (tgt := 86) dX8_bed_118 (by decide) ?_
      exact ih M6 v0 v1 v2 v4 (v5 + 1) h
def fX8_bed_c32 : Nat → mM → Nat → Int32 → Int64 → Int32 → Option (Int32 × mM)
  | 0, _, _, _, _, _ => none
  | n + 1, M, v0, v1, v2, v4 =>
    if v1 ≤ v4 then
      ((gI M v0 8 11).bind fun x2 =>
      (sV M v0 8 11 (.int v1)).bind fun M3 =>
      fX8_bed_c86 FUEL M3 v0 v1 v2 x2 0)
    else
      ((fX8_tenTo M ((v1 - 1) - v4)).bind fun x5 =>
      if x5 = 0 then none else
      (fX8_in M ((v2 / x5) - (v2 / x5) / (10 : Int64) * (10 : Int64)) (1 : Int64) (4 : Int64)).bind fun x8 =>
      if x8 = 0 then
        (some ((-2), M))
      else
        (fX8_bed_c32 n M v0 v1 v2 (v4 + 1)))
set_option maxRecDepth 20000 in
set_option maxHeartbeats 4000000 in
theorem rX8_bed_c32 {E : mE} {x : Int32} {Mf : mM} : ∀ (n : Nat) (M : mM) (v0 : Nat) (v1 : Int32) (v2 : Int64) (v4 : Int32), fX8_bed_c32 n M v0 v1 v2 v4 = some (x, Mf) → Ev mX8_bed E 1 0 0 (some (.int x)) Mf 32 [some (.ref v0), some (.int v1), some (.long v2), none, some (.int v4), none] [] M 0 0 := by
  intro n
  induction n with
  | zero => intro M v0 v1 v2 v4 h; rw [fX8_bed_c32.eq_1] at h; cases h
  | succ n ih =>
    intro M v0 v1 v2 v4 h
    rw [fX8_bed_c32.eq_2] at h
    refine Ev_iload (x := v4) rfl dX8_bed_32 ?_
    refine Ev_iload_n (x := v1) rfl dX8_bed_34 ?_
    refine Ev_icmp_ge (tgt := 72) dX8_bed_35 (by decide) (fun q1 => ?_) (fun q1 => ?_)
    · rw [if_pos q1] at h
      refine Ev_aload_n (x := v0) rfl dX8_bed_72 ?_
      obtain ⟨x2, g2, h⟩ := bsome h
      refine Ev_getI flX8_146 dX8_bed_73 g2 ?_
      refine Ev_istore (loc2 := [some (.ref v0), some (.int v1), some (.long v2), none, some (.int x2), none]) (Nat.le_of_ble_eq_true rfl) rfl rfl dX8_bed_76 ?_
      refine Ev_aload_n (x := v0) rfl dX8_bed_78 ?_
      refine Ev_iload_n (x := v1) rfl dX8_bed_79 ?_
      obtain ⟨M3, g3, h⟩ := bsome h
      refine Ev_put (v := .int v1) flX8_146 ⟨rfl, rfl⟩ (fun q hq => by cases hq; exact Or.inl rfl) dX8_bed_80 g3 ?_
      refine Ev_iconst ic_0 dX8_bed_83 ?_
      refine Ev_istore (loc2 := [some (.ref v0), some (.int v1), some (.long v2), none, some (.int x2), some (.int 0)]) (Nat.le_of_ble_eq_true rfl) rfl rfl dX8_bed_84 ?_
      exact rX8_bed_c86 FUEL M3 v0 v1 v2 x2 0 h
    · rw [if_neg q1] at h
      refine Ev_lload_n (x := v2) rfl dX8_bed_38 ?_
      refine Ev_iload_n (x := v1) rfl dX8_bed_39 ?_
      refine Ev_iconst ic_1 dX8_bed_40 ?_
      refine Ev_isub dX8_bed_41 ?_
      refine Ev_iload (x := v4) rfl dX8_bed_42 ?_
      refine Ev_isub dX8_bed_44 ?_
      obtain ⟨x5, g4, h⟩ := bsome h
      refine Ev_callSl (np := 1) (vs := [.int ((v1 - 1) - v4)]) (rest := [.long v2]) mdX8_tenTo lkX8_140 (rX8_tenTo g4) rfl rfl (Nat.le_of_ble_eq_true rfl) (Nat.le_of_ble_eq_true rfl) dX8_bed_45 ?_
      obtain ⟨z6, h⟩ := nsome h
      refine Ev_ldiv z6 dX8_bed_48 ?_
      refine Ev_ldc2 csX8_136 dX8_bed_49 ?_
      refine Ev_lrem (by decide) dX8_bed_52 ?_
      refine Ev_lconst (v := 1) (by decide) dX8_bed_53 ?_
      refine Ev_ldc2 csX8_144 dX8_bed_54 ?_
      obtain ⟨x8, g7, h⟩ := bsome h
      refine Ev_callSi (np := 3) (vs := [.long ((v2 / x5) - (v2 / x5) / (10 : Int64) * (10 : Int64)), .long (1 : Int64), .long (4 : Int64)]) (rest := []) mdX8_in lkX8_52 (rX8_in g7) rfl rfl (Nat.le_of_ble_eq_true rfl) (Nat.le_of_ble_eq_true rfl) dX8_bed_57 ?_
      refine Ev_if_ne (tgt := 66) dX8_bed_60 (by decide) (fun q9 => ?_) (fun q9 => ?_)
      · rw [if_neg q9] at h
        refine Ev_iinc (x := v4) (v := (v4 + 1)) (loc2 := [some (.ref v0), some (.int v1), some (.long v2), none, some (.int (v4 + 1)), none]) rfl (congrArg (v4 + ·) ic_1) (Nat.le_of_ble_eq_true rfl) rfl rfl dX8_bed_66 ?_
        refine Ev_goto (tgt := 32) dX8_bed_69 (by decide) ?_
        exact ih M v0 v1 v2 (v4 + 1) h
      · rw [if_pos q9] at h
        refine Ev_bipush bp_m2 dX8_bed_63 ?_
        cases h
        exact Ev_iret rfl rfl dX8_bed_65 ⟨rfl, rfl⟩
def fX8_bed (M : mM) (v0 : Nat) (v1 : Int32) (v2 : Int64) : Option (Int32 × mM) :=
    if isO M v0 8 = true then
      (fX8_in M (Int32.toInt64 v1) (0 : Int64) (12 : Int64)).bind fun x2 =>
      if x2 = 0 then
        (some ((-2), M))
      else
        ((fX8_tenTo M v1).bind fun x5 =>
        (fX8_in M v2 (0 : Int64) (x5 - (1 : Int64))).bind fun x7 =>
        if x7 = 0 then
          (some ((-2), M))
        else
          (fX8_bed_c32 FUEL M v0 v1 v2 0))
    else none
theorem oX8_bed {M : mM} {v0 : Nat} {v1 : Int32} {v2 : Int64} {y : (Int32 × mM)} (h : fX8_bed M v0 v1 v2 = some y) : isO M v0 8 = true := by
  unfold fX8_bed at h
  exact (gsome h).1
set_option maxRecDepth 20000 in
set_option maxHeartbeats 4000000 in
theorem rX8_bed {E : mE} {M : mM} {v0 : Nat} {v1 : Int32} {v2 : Int64} {x : Int32} {Mf : mM} (h : fX8_bed M v0 v1 v2 = some (x, Mf)) : EvC mX8_bed E 1 0 0 [.ref v0, .int v1, .long v2] M (some (.int x)) Mf := by
  unfold fX8_bed at h
  replace h := (gsome h).2
  refine EvC.of [some (.ref v0), some (.int v1), some (.long v2), none, none, none] pnX8_bed rfl (Nat.le_of_ble_eq_true rfl) ?_
  refine Ev_iload_n (x := v1) rfl dX8_bed_0 ?_
  refine Ev_i2l dX8_bed_1 ?_
  refine Ev_lconst (v := 0) (by decide) dX8_bed_2 ?_
  refine Ev_ldc2 csX8_138 dX8_bed_3 ?_
  obtain ⟨x2, g1, h⟩ := bsome h
  refine Ev_callSi (np := 3) (vs := [.long (Int32.toInt64 v1), .long (0 : Int64), .long (12 : Int64)]) (rest := []) mdX8_in lkX8_52 (rX8_in g1) rfl rfl (Nat.le_of_ble_eq_true rfl) (Nat.le_of_ble_eq_true rfl) dX8_bed_6 ?_
  refine Ev_if_eq (tgt := 26) dX8_bed_9 (by decide) (fun q3 => ?_) (fun q3 => ?_)
  · rw [if_pos q3] at h
    refine Ev_bipush bp_m2 dX8_bed_26 ?_
    cases h
    exact Ev_iret rfl rfl dX8_bed_28 ⟨rfl, rfl⟩
  · rw [if_neg q3] at h
    refine Ev_lload_n (x := v2) rfl dX8_bed_12 ?_
    refine Ev_lconst (v := 0) (by decide) dX8_bed_13 ?_
    refine Ev_iload_n (x := v1) rfl dX8_bed_14 ?_
    obtain ⟨x5, g4, h⟩ := bsome h
    refine Ev_callSl (np := 1) (vs := [.int v1]) (rest := [.long (0 : Int64), .long v2]) mdX8_tenTo lkX8_140 (rX8_tenTo g4) rfl rfl (Nat.le_of_ble_eq_true rfl) (Nat.le_of_ble_eq_true rfl) dX8_bed_15 ?_
    refine Ev_lconst (v := 1) (by decide) dX8_bed_18 ?_
    refine Ev_lsub dX8_bed_19 ?_
    obtain ⟨x7, g6, h⟩ := bsome h
    refine Ev_callSi (np := 3) (vs := [.long v2, .long (0 : Int64), .long (x5 - (1 : Int64))]) (rest := []) mdX8_in lkX8_52 (rX8_in g6) rfl rfl (Nat.le_of_ble_eq_true rfl) (Nat.le_of_ble_eq_true rfl) dX8_bed_20 ?_
    refine Ev_if_ne (tgt := 29) dX8_bed_23 (by decide) (fun q8 => ?_) (fun q8 => ?_)
    · rw [if_neg q8] at h
      refine Ev_iconst ic_0 dX8_bed_29 ?_
      refine Ev_istore (loc2 := [some (.ref v0), some (.int v1), some (.long v2), none, some (.int 0), none]) (Nat.le_of_ble_eq_true rfl) rfl rfl dX8_bed_30 ?_
      exact rX8_bed_c32 FUEL M v0 v1 v2 0 h
    · rw [if_pos q8] at h
      refine Ev_bipush bp_m2 dX8_bed_26 ?_
      cases h
      exact Ev_iret rfl rfl dX8_bed_28 ⟨rfl, rfl⟩
