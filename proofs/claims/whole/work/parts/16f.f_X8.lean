/-! printed by wip/whole/gen.py -/
/-! TinselRiverModel.snip(I)I -/
def fX8_snip (M : mM) (v0 : Nat) (v1 : Int32) : Option (Int32 × mM) :=
    if isO M v0 8 = true then
      (fX8_isThere M v0 0 v1).bind fun x2 =>
      if x2 = 0 then
        (some ((-1), M))
      else
        ((gR M v0 8 2).bind fun a4 =>
        (aI M false a4 (4 + v1)).bind fun x5 =>
        if x5 = 1 then
          (some ((-3), M))
        else
          ((fX8_keepAct M v0).bind fun M8 =>
          (fX8_loseLast M8 v0 0 v1).bind fun M10 =>
          (gR M10 v0 8 2).bind fun a11 =>
          (aI M10 false a11 (4 + v1)).bind fun x12 =>
          (fX8_bendAt M10 v0 0 v1 x12).bind fun x14 =>
          some (x14, M10)))
    else none
theorem oX8_snip {M : mM} {v0 : Nat} {v1 : Int32} {y : (Int32 × mM)} (h : fX8_snip M v0 v1 = some y) : isO M v0 8 = true := by
  unfold fX8_snip at h
  exact (gsome h).1
set_option maxRecDepth 20000 in
set_option maxHeartbeats 4000000 in
theorem rX8_snip {E : mE} {M : mM} {v0 : Nat} {v1 : Int32} {x : Int32} {Mf : mM} (h : fX8_snip M v0 v1 = some (x, Mf)) : EvC mX8_snip E 2 0 0 [.ref v0, .int v1] M (some (.int x)) Mf := by
  unfold fX8_snip at h
  replace h := (gsome h).2
  refine EvC.of [some (.ref v0), some (.int v1)] pnX8_snip rfl (Nat.le_of_ble_eq_true rfl) ?_
  refine Ev_aload_n (x := v0) rfl dX8_snip_0 ?_
  refine Ev_iconst ic_0 dX8_snip_1 ?_
  refine Ev_iload_n (x := v1) rfl dX8_snip_2 ?_
  obtain ⟨x2, g1, h⟩ := bsome h
  refine Ev_callVi (np := 2) (vs := [.int 0, .int v1]) (rest := []) mdX8_isThere lkX8_99 ⟨_, rfl, rfl⟩ (oX8_isThere g1) (rX8_isThere g1) rfl rfl (Nat.le_of_ble_eq_true rfl) (Nat.le_of_ble_eq_true rfl) dX8_snip_3 ?_
  refine Ev_if_ne (tgt := 11) dX8_snip_6 (by decide) (fun q3 => ?_) (fun q3 => ?_)
  · rw [if_neg q3] at h
    refine Ev_aload_n (x := v0) rfl dX8_snip_11 ?_
    obtain ⟨a4, g4, h⟩ := bsome h
    refine Ev_getR flX8_13 dX8_snip_12 g4 ?_
    refine Ev_iconst ic_4 dX8_snip_15 ?_
    refine Ev_iload_n (x := v1) rfl dX8_snip_16 ?_
    refine Ev_iadd dX8_snip_17 ?_
    obtain ⟨x5, g5, h⟩ := bsome h
    refine Ev_iald dX8_snip_18 g5 ?_
    refine Ev_iconst ic_1 dX8_snip_19 ?_
    refine Ev_icmp_ne (tgt := 26) dX8_snip_20 (by decide) (fun q6 => ?_) (fun q6 => ?_)
    · rw [if_neg q6] at h
      refine Ev_aload_n (x := v0) rfl dX8_snip_26 ?_
      obtain ⟨M8, g7, h⟩ := bsome h
      refine Ev_callVv (np := 0) (vs := []) (rest := []) mdX8_keepAct lkX8_160 ⟨_, rfl, rfl⟩ (oX8_keepAct g7) (rX8_keepAct g7) rfl rfl (Nat.le_of_ble_eq_true rfl) (Nat.le_of_ble_eq_true rfl) dX8_snip_27 ?_
      refine Ev_aload_n (x := v0) rfl dX8_snip_30 ?_
      refine Ev_iconst ic_0 dX8_snip_31 ?_
      refine Ev_iload_n (x := v1) rfl dX8_snip_32 ?_
      obtain ⟨M10, g9, h⟩ := bsome h
      refine Ev_callVv (np := 2) (vs := [.int 0, .int v1]) (rest := []) mdX8_loseLast lkX8_95 ⟨_, rfl, rfl⟩ (oX8_loseLast g9) (rX8_loseLast g9) rfl rfl (Nat.le_of_ble_eq_true rfl) (Nat.le_of_ble_eq_true rfl) dX8_snip_33 ?_
      refine Ev_aload_n (x := v0) rfl dX8_snip_36 ?_
      refine Ev_iconst ic_0 dX8_snip_37 ?_
      refine Ev_iload_n (x := v1) rfl dX8_snip_38 ?_
      refine Ev_aload_n (x := v0) rfl dX8_snip_39 ?_
      obtain ⟨a11, g11, h⟩ := bsome h
      refine Ev_getR flX8_13 dX8_snip_40 g11 ?_
      refine Ev_iconst ic_4 dX8_snip_43 ?_
      refine Ev_iload_n (x := v1) rfl dX8_snip_44 ?_
      refine Ev_iadd dX8_snip_45 ?_
      obtain ⟨x12, g12, h⟩ := bsome h
      refine Ev_iald dX8_snip_46 g12 ?_
      obtain ⟨x14, g13, h⟩ := bsome h
      refine Ev_callVi (np := 3) (vs := [.int 0, .int v1, .int x12]) (rest := []) mdX8_bendAt lkX8_122 ⟨_, rfl, rfl⟩ (oX8_bendAt g13) (rX8_bendAt g13) rfl rfl (Nat.le_of_ble_eq_true rfl) (Nat.le_of_ble_eq_true rfl) dX8_snip_47 ?_
      cases h
      exact Ev_iret rfl rfl dX8_snip_50 ⟨rfl, rfl⟩
    · rw [if_pos q6] at h
      refine Ev_bipush bp_m3 dX8_snip_23 ?_
      cases h
      exact Ev_iret rfl rfl dX8_snip_25 ⟨rfl, rfl⟩
  · rw [if_pos q3] at h
    refine Ev_iconst ic_m1 dX8_snip_9 ?_
    cases h
    exact Ev_iret rfl rfl dX8_snip_10 ⟨rfl, rfl⟩
/-! TinselRiverModel.join(II)I -/
def fX8_join (M : mM) (v0 : Nat) (v1 : Int32) (v2 : Int32) : Option (Int32 × mM) :=
    if isO M v0 8 = true then
      (fX8_isThere M v0 0 v1).bind fun x2 =>
      if x2 = 0 then
        (some ((-1), M))
      else
        ((fX8_isThere M v0 0 v2).bind fun x5 =>
        if x5 = 0 then
          (some ((-1), M))
        else
          (if v1 = v2 then
            (some ((-2), M))
          else
            ((fX8_isOneHouse M v0 0 v1 v2).bind fun x9 =>
            if x9 = 0 then
              (some ((-3), M))
            else
              ((fX8_canJoin M v0 0 v1 v2).bind fun x12 =>
              if x12 = 0 then
                (some ((-4), M))
              else
                ((fX8_keepAct M v0).bind fun M15 =>
                (fX8_joinOn M15 v0 0 v1 v2).bind fun M17 =>
                (gR M17 v0 8 2).bind fun a18 =>
                (aI M17 false a18 (4 + v1)).bind fun x19 =>
                some (x19, M17))))))
    else none
theorem oX8_join {M : mM} {v0 : Nat} {v1 : Int32} {v2 : Int32} {y : (Int32 × mM)} (h : fX8_join M v0 v1 v2 = some y) : isO M v0 8 = true := by
  unfold fX8_join at h
  exact (gsome h).1
set_option maxRecDepth 20000 in
set_option maxHeartbeats 4000000 in
theorem rX8_join {E : mE} {M : mM} {v0 : Nat} {v1 : Int32} {v2 : Int32} {x : Int32} {Mf : mM} (h : fX8_join M v0 v1 v2 = some (x, Mf)) : EvC mX8_join E 4 0 0 [.ref v0, .int v1, .int v2] M (some (.int x)) Mf := by
  unfold fX8_join at h
  replace h := (gsome h).2
  refine EvC.of [some (.ref v0), some (.int v1), some (.int v2)] pnX8_join rfl (Nat.le_of_ble_eq_true rfl) ?_
  refine Ev_aload_n (x := v0) rfl dX8_join_0 ?_
  refine Ev_iconst ic_0 dX8_join_1 ?_
  refine Ev_iload_n (x := v1) rfl dX8_join_2 ?_
  obtain ⟨x2, g1, h⟩ := bsome h
  refine Ev_callVi (np := 2) (vs := [.int 0, .int v1]) (rest := []) mdX8_isThere lkX8_99 ⟨_, rfl, rfl⟩ (oX8_isThere g1) (rX8_isThere g1) rfl rfl (Nat.le_of_ble_eq_true rfl) (Nat.le_of_ble_eq_true rfl) dX8_join_3 ?_
  refine Ev_if_eq (tgt := 18) dX8_join_6 (by decide) (fun q3 => ?_) (fun q3 => ?_)
  · rw [if_pos q3] at h
    refine Ev_iconst ic_m1 dX8_join_18 ?_
    cases h
    exact Ev_iret rfl rfl dX8_join_19 ⟨rfl, rfl⟩
  · rw [if_neg q3] at h
    refine Ev_aload_n (x := v0) rfl dX8_join_9 ?_
    refine Ev_iconst ic_0 dX8_join_10 ?_
    refine Ev_iload_n (x := v2) rfl dX8_join_11 ?_
    obtain ⟨x5, g4, h⟩ := bsome h
    refine Ev_callVi (np := 2) (vs := [.int 0, .int v2]) (rest := []) mdX8_isThere lkX8_99 ⟨_, rfl, rfl⟩ (oX8_isThere g4) (rX8_isThere g4) rfl rfl (Nat.le_of_ble_eq_true rfl) (Nat.le_of_ble_eq_true rfl) dX8_join_12 ?_
    refine Ev_if_ne (tgt := 20) dX8_join_15 (by decide) (fun q6 => ?_) (fun q6 => ?_)
    · rw [if_neg q6] at h
      refine Ev_iload_n (x := v1) rfl dX8_join_20 ?_
      refine Ev_iload_n (x := v2) rfl dX8_join_21 ?_
      refine Ev_icmp_ne (tgt := 28) dX8_join_22 (by decide) (fun q7 => ?_) (fun q7 => ?_)
      · rw [if_neg q7] at h
        refine Ev_aload_n (x := v0) rfl dX8_join_28 ?_
        refine Ev_iconst ic_0 dX8_join_29 ?_
        refine Ev_iload_n (x := v1) rfl dX8_join_30 ?_
        refine Ev_iload_n (x := v2) rfl dX8_join_31 ?_
        obtain ⟨x9, g8, h⟩ := bsome h
        refine Ev_callVi (np := 3) (vs := [.int 0, .int v1, .int v2]) (rest := []) mdX8_isOneHouse lkX8_129 ⟨_, rfl, rfl⟩ (oX8_isOneHouse g8) (rX8_isOneHouse g8) rfl rfl (Nat.le_of_ble_eq_true rfl) (Nat.le_of_ble_eq_true rfl) dX8_join_32 ?_
        refine Ev_if_ne (tgt := 41) dX8_join_35 (by decide) (fun q10 => ?_) (fun q10 => ?_)
        · rw [if_neg q10] at h
          refine Ev_aload_n (x := v0) rfl dX8_join_41 ?_
          refine Ev_iconst ic_0 dX8_join_42 ?_
          refine Ev_iload_n (x := v1) rfl dX8_join_43 ?_
          refine Ev_iload_n (x := v2) rfl dX8_join_44 ?_
          obtain ⟨x12, g11, h⟩ := bsome h
          refine Ev_callVi (np := 3) (vs := [.int 0, .int v1, .int v2]) (rest := []) mdX8_canJoin lkX8_171 ⟨_, rfl, rfl⟩ (oX8_canJoin g11) (rX8_canJoin g11) rfl rfl (Nat.le_of_ble_eq_true rfl) (Nat.le_of_ble_eq_true rfl) dX8_join_45 ?_
          refine Ev_if_ne (tgt := 54) dX8_join_48 (by decide) (fun q13 => ?_) (fun q13 => ?_)
          · rw [if_neg q13] at h
            refine Ev_aload_n (x := v0) rfl dX8_join_54 ?_
            obtain ⟨M15, g14, h⟩ := bsome h
            refine Ev_callVv (np := 0) (vs := []) (rest := []) mdX8_keepAct lkX8_160 ⟨_, rfl, rfl⟩ (oX8_keepAct g14) (rX8_keepAct g14) rfl rfl (Nat.le_of_ble_eq_true rfl) (Nat.le_of_ble_eq_true rfl) dX8_join_55 ?_
            refine Ev_aload_n (x := v0) rfl dX8_join_58 ?_
            refine Ev_iconst ic_0 dX8_join_59 ?_
            refine Ev_iload_n (x := v1) rfl dX8_join_60 ?_
            refine Ev_iload_n (x := v2) rfl dX8_join_61 ?_
            obtain ⟨M17, g16, h⟩ := bsome h
            refine Ev_callVv (np := 3) (vs := [.int 0, .int v1, .int v2]) (rest := []) mdX8_joinOn lkX8_174 ⟨_, rfl, rfl⟩ (oX8_joinOn g16) (rX8_joinOn g16) rfl rfl (Nat.le_of_ble_eq_true rfl) (Nat.le_of_ble_eq_true rfl) dX8_join_62 ?_
            refine Ev_aload_n (x := v0) rfl dX8_join_65 ?_
            obtain ⟨a18, g18, h⟩ := bsome h
            refine Ev_getR flX8_13 dX8_join_66 g18 ?_
            refine Ev_iconst ic_4 dX8_join_69 ?_
            refine Ev_iload_n (x := v1) rfl dX8_join_70 ?_
            refine Ev_iadd dX8_join_71 ?_
            obtain ⟨x19, g19, h⟩ := bsome h
            refine Ev_iald dX8_join_72 g19 ?_
            cases h
            exact Ev_iret rfl rfl dX8_join_73 ⟨rfl, rfl⟩
          · rw [if_pos q13] at h
            refine Ev_bipush bp_m4 dX8_join_51 ?_
            cases h
            exact Ev_iret rfl rfl dX8_join_53 ⟨rfl, rfl⟩
        · rw [if_pos q10] at h
          refine Ev_bipush bp_m3 dX8_join_38 ?_
          cases h
          exact Ev_iret rfl rfl dX8_join_40 ⟨rfl, rfl⟩
      · rw [if_pos q7] at h
        refine Ev_bipush bp_m2 dX8_join_25 ?_
        cases h
        exact Ev_iret rfl rfl dX8_join_27 ⟨rfl, rfl⟩
    · rw [if_pos q6] at h
      refine Ev_iconst ic_m1 dX8_join_18 ?_
      cases h
      exact Ev_iret rfl rfl dX8_join_19 ⟨rfl, rfl⟩
/-! TinselRiverModel.undo()I -/
def fX8_undo_c36 : Nat → mM → Nat → Int32 → Option (Int32 × mM)
  | 0, _, _, _ => none
  | n + 1, M, v0, v1 =>
    if 57 ≤ v1 then
      ((gI M v0 8 13).bind fun x2 =>
      some (x2, M))
    else
      ((gR M v0 8 2).bind fun a3 =>
      (gR M v0 8 15).bind fun a4 =>
      (gI M v0 8 14).bind fun x5 =>
      (aI M false a4 ((57 * x5) + v1)).bind fun x6 =>
      (aS M false a3 v1 x6).bind fun M7 =>
      fX8_undo_c36 n M7 v0 (v1 + 1))
set_option maxRecDepth 20000 in
set_option maxHeartbeats 4000000 in
theorem rX8_undo_c36 {E : mE} {x : Int32} {Mf : mM} : ∀ (n : Nat) (M : mM) (v0 : Nat) (v1 : Int32), fX8_undo_c36 n M v0 v1 = some (x, Mf) → Ev mX8_undo E 0 0 0 (some (.int x)) Mf 36 [some (.ref v0), some (.int v1)] [] M 0 0 := by
  intro n
  induction n with
  | zero => intro M v0 v1 h; rw [fX8_undo_c36.eq_1] at h; cases h
  | succ n ih =>
    intro M v0 v1 h
    rw [fX8_undo_c36.eq_2] at h
    refine Ev_iload_n (x := v1) rfl dX8_undo_36 ?_
    refine Ev_bipush bp_57 dX8_undo_37 ?_
    refine Ev_icmp_ge (tgt := 68) dX8_undo_39 (by decide) (fun q1 => ?_) (fun q1 => ?_)
    · rw [if_pos q1] at h
      refine Ev_aload_n (x := v0) rfl dX8_undo_68 ?_
      obtain ⟨x2, g2, h⟩ := bsome h
      refine Ev_getI flX8_92 dX8_undo_69 g2 ?_
      cases h
      exact Ev_iret rfl rfl dX8_undo_72 ⟨rfl, rfl⟩
    · rw [if_neg q1] at h
      refine Ev_aload_n (x := v0) rfl dX8_undo_42 ?_
      obtain ⟨a3, g3, h⟩ := bsome h
      refine Ev_getR flX8_13 dX8_undo_43 g3 ?_
      refine Ev_iload_n (x := v1) rfl dX8_undo_46 ?_
      refine Ev_aload_n (x := v0) rfl dX8_undo_47 ?_
      obtain ⟨a4, g4, h⟩ := bsome h
      refine Ev_getR flX8_31 dX8_undo_48 g4 ?_
      refine Ev_bipush bp_57 dX8_undo_51 ?_
      refine Ev_aload_n (x := v0) rfl dX8_undo_53 ?_
      obtain ⟨x5, g5, h⟩ := bsome h
      refine Ev_getI flX8_157 dX8_undo_54 g5 ?_
      refine Ev_imul dX8_undo_57 ?_
      refine Ev_iload_n (x := v1) rfl dX8_undo_58 ?_
      refine Ev_iadd dX8_undo_59 ?_
      obtain ⟨x6, g6, h⟩ := bsome h
      refine Ev_iald dX8_undo_60 g6 ?_
      obtain ⟨M7, g7, h⟩ := bsome h
      refine Ev_iast dX8_undo_61 g7 ?_
      refine Ev_iinc (x := v1) (v := (v1 + 1)) (loc2 := [some (.ref v0), some (.int (v1 + 1))]) rfl (congrArg (v1 + ·) ic_1) (Nat.le_of_ble_eq_true rfl) rfl rfl dX8_undo_62 ?_
      refine Ev_goto (tgt := 36) dX8_undo_65 (by decide) ?_
      exact ih M7 v0 (v1 + 1) h
def fX8_undo (M : mM) (v0 : Nat) : Option (Int32 × mM) :=
    if isO M v0 8 = true then
      (gI M v0 8 13).bind fun x1 =>
      if x1 = 0 then
        (some ((-3), M))
      else
        ((gI M v0 8 13).bind fun x3 =>
        (sV M v0 8 13 (.int (x3 - 1))).bind fun M4 =>
        (gI M4 v0 8 14).bind fun x5 =>
        (sV M4 v0 8 14 (.int ((x5 + 13) - (x5 + 13) / 14 * 14))).bind fun M6 =>
        fX8_undo_c36 FUEL M6 v0 0)
    else none
theorem oX8_undo {M : mM} {v0 : Nat} {y : (Int32 × mM)} (h : fX8_undo M v0 = some y) : isO M v0 8 = true := by
  unfold fX8_undo at h
  exact (gsome h).1
set_option maxRecDepth 20000 in
set_option maxHeartbeats 4000000 in
theorem rX8_undo {E : mE} {M : mM} {v0 : Nat} {x : Int32} {Mf : mM} (h : fX8_undo M v0 = some (x, Mf)) : EvC mX8_undo E 0 0 0 [.ref v0] M (some (.int x)) Mf := by
  unfold fX8_undo at h
  replace h := (gsome h).2
  refine EvC.of [some (.ref v0), none] pnX8_undo rfl (Nat.le_of_ble_eq_true rfl) ?_
  refine Ev_aload_n (x := v0) rfl dX8_undo_0 ?_
  obtain ⟨x1, g1, h⟩ := bsome h
  refine Ev_getI flX8_92 dX8_undo_1 g1 ?_
  refine Ev_if_ne (tgt := 10) dX8_undo_4 (by decide) (fun q2 => ?_) (fun q2 => ?_)
  · rw [if_neg q2] at h
    refine Ev_aload_n (x := v0) rfl dX8_undo_10 ?_
    refine Ev_dup rfl dX8_undo_11 ?_
    obtain ⟨x3, g3, h⟩ := bsome h
    refine Ev_getI flX8_92 dX8_undo_12 g3 ?_
    refine Ev_iconst ic_1 dX8_undo_15 ?_
    refine Ev_isub dX8_undo_16 ?_
    obtain ⟨M4, g4, h⟩ := bsome h
    refine Ev_put (v := .int (x3 - 1)) flX8_92 ⟨rfl, rfl⟩ (fun q hq => by cases hq; exact Or.inl rfl) dX8_undo_17 g4 ?_
    refine Ev_aload_n (x := v0) rfl dX8_undo_20 ?_
    refine Ev_aload_n (x := v0) rfl dX8_undo_21 ?_
    obtain ⟨x5, g5, h⟩ := bsome h
    refine Ev_getI flX8_157 dX8_undo_22 g5 ?_
    refine Ev_bipush bp_13 dX8_undo_25 ?_
    refine Ev_iadd dX8_undo_27 ?_
    refine Ev_bipush bp_14 dX8_undo_28 ?_
    refine Ev_irem (by decide) dX8_undo_30 ?_
    obtain ⟨M6, g6, h⟩ := bsome h
    refine Ev_put (v := .int ((x5 + 13) - (x5 + 13) / 14 * 14)) flX8_157 ⟨rfl, rfl⟩ (fun q hq => by cases hq; exact Or.inl rfl) dX8_undo_31 g6 ?_
    refine Ev_iconst ic_0 dX8_undo_34 ?_
    refine Ev_istore_n (loc2 := [some (.ref v0), some (.int 0)]) (Nat.le_of_ble_eq_true rfl) rfl rfl dX8_undo_35 ?_
    exact rX8_undo_c36 FUEL M6 v0 0 h
  · rw [if_pos q2] at h
    refine Ev_bipush bp_m3 dX8_undo_7 ?_
    cases h
    exact Ev_iret rfl rfl dX8_undo_9 ⟨rfl, rfl⟩
/-! TinselRiverModel.layTrial()V -/
def fX8_layTrial_c2 : Nat → mM → Nat → Int32 → Option mM
  | 0, _, _, _ => none
  | n + 1, M, v0, v1 =>
    if 57 ≤ v1 then
      (some M)
    else
      ((gR M v0 8 2).bind fun a2 =>
      (gR M v0 8 2).bind fun a3 =>
      (aI M false a3 v1).bind fun x4 =>
      (aS M false a2 (57 + v1) x4).bind fun M5 =>
      fX8_layTrial_c2 n M5 v0 (v1 + 1))
set_option maxRecDepth 20000 in
set_option maxHeartbeats 4000000 in
theorem rX8_layTrial_c2 {E : mE} {Mf : mM} : ∀ (n : Nat) (M : mM) (v0 : Nat) (v1 : Int32), fX8_layTrial_c2 n M v0 v1 = some Mf → Ev mX8_layTrial E 0 0 0 none Mf 2 [some (.ref v0), some (.int v1)] [] M 0 0 := by
  intro n
  induction n with
  | zero => intro M v0 v1 h; rw [fX8_layTrial_c2.eq_1] at h; cases h
  | succ n ih =>
    intro M v0 v1 h
    rw [fX8_layTrial_c2.eq_2] at h
    refine Ev_iload_n (x := v1) rfl dX8_layTrial_2 ?_
    refine Ev_bipush bp_57 dX8_layTrial_3 ?_
    refine Ev_icmp_ge (tgt := 29) dX8_layTrial_5 (by decide) (fun q1 => ?_) (fun q1 => ?_)
    · rw [if_pos q1] at h
      cases h
      exact Ev_vret rfl dX8_layTrial_29 ⟨rfl, rfl⟩
    · rw [if_neg q1] at h
      refine Ev_aload_n (x := v0) rfl dX8_layTrial_8 ?_
      obtain ⟨a2, g2, h⟩ := bsome h
      refine Ev_getR flX8_13 dX8_layTrial_9 g2 ?_
      refine Ev_bipush bp_57 dX8_layTrial_12 ?_
      refine Ev_iload_n (x := v1) rfl dX8_layTrial_14 ?_
      refine Ev_iadd dX8_layTrial_15 ?_
      refine Ev_aload_n (x := v0) rfl dX8_layTrial_16 ?_
      obtain ⟨a3, g3, h⟩ := bsome h
      refine Ev_getR flX8_13 dX8_layTrial_17 g3 ?_
      refine Ev_iload_n (x := v1) rfl dX8_layTrial_20 ?_
      obtain ⟨x4, g4, h⟩ := bsome h
      refine Ev_iald dX8_layTrial_21 g4 ?_
      obtain ⟨M5, g5, h⟩ := bsome h
      refine Ev_iast dX8_layTrial_22 g5 ?_
      refine Ev_iinc (x := v1) (v := (v1 + 1)) (loc2 := [some (.ref v0), some (.int (v1 + 1))]) rfl (congrArg (v1 + ·) ic_1) (Nat.le_of_ble_eq_true rfl) rfl rfl dX8_layTrial_23 ?_
      refine Ev_goto (tgt := 2) dX8_layTrial_26 (by decide) ?_
      exact ih M5 v0 (v1 + 1) h
def fX8_layTrial (M : mM) (v0 : Nat) : Option mM :=
    if isO M v0 8 = true then
      fX8_layTrial_c2 FUEL M v0 0
    else none
theorem oX8_layTrial {M : mM} {v0 : Nat} {y : mM} (h : fX8_layTrial M v0 = some y) : isO M v0 8 = true := by
  unfold fX8_layTrial at h
  exact (gsome h).1
set_option maxRecDepth 20000 in
set_option maxHeartbeats 4000000 in
theorem rX8_layTrial {E : mE} {M : mM} {v0 : Nat} {Mf : mM} (h : fX8_layTrial M v0 = some Mf) : EvC mX8_layTrial E 0 0 0 [.ref v0] M none Mf := by
  unfold fX8_layTrial at h
  replace h := (gsome h).2
  refine EvC.of [some (.ref v0), none] pnX8_layTrial rfl (Nat.le_of_ble_eq_true rfl) ?_
  refine Ev_iconst ic_0 dX8_layTrial_0 ?_
  refine Ev_istore_n (loc2 := [some (.ref v0), some (.int 0)]) (Nat.le_of_ble_eq_true rfl) rfl rfl dX8_layTrial_1 ?_
  exact rX8_layTrial_c2 FUEL M v0 0 h
/-! TinselRiverModel.later(II)I -/
def fX8_later_c32 : Nat → mM → Nat → Int32 → Int32 → Int32 → Option (Int32 × mM)
  | 0, _, _, _, _, _ => none
  | n + 1, M, v0, v1, v2, v3 =>
    if v2 ≤ v3 then
      ((gR M v0 8 2).bind fun a2 =>
      (aI M false a2 (61 + v1)).bind fun x3 =>
      some (x3, M))
    else
      ((fX8_passOn M v0 1).bind fun p5 =>
      fX8_later_c32 n p5.2 v0 v1 v2 (v3 + 1))
set_option maxRecDepth 20000 in
set_option maxHeartbeats 4000000 in
theorem rX8_later_c32 {E : mE} {x : Int32} {Mf : mM} : ∀ (n : Nat) (M : mM) (v0 : Nat) (v1 : Int32) (v2 : Int32) (v3 : Int32), fX8_later_c32 n M v0 v1 v2 v3 = some (x, Mf) → Ev mX8_later E 5 0 0 (some (.int x)) Mf 32 [some (.ref v0), some (.int v1), some (.int v2), some (.int v3)] [] M 0 0 := by
  intro n
  induction n with
  | zero => intro M v0 v1 v2 v3 h; rw [fX8_later_c32.eq_1] at h; cases h
  | succ n ih =>
    intro M v0 v1 v2 v3 h
    rw [fX8_later_c32.eq_2] at h
    refine Ev_iload_n (x := v3) rfl dX8_later_32 ?_
    refine Ev_iload_n (x := v2) rfl dX8_later_33 ?_
    refine Ev_icmp_ge (tgt := 49) dX8_later_34 (by decide) (fun q1 => ?_) (fun q1 => ?_)
    · rw [if_pos q1] at h
      refine Ev_aload_n (x := v0) rfl dX8_later_49 ?_
      obtain ⟨a2, g2, h⟩ := bsome h
      refine Ev_getR flX8_13 dX8_later_50 g2 ?_
      refine Ev_bipush bp_61 dX8_later_53 ?_
      refine Ev_iload_n (x := v1) rfl dX8_later_55 ?_
      refine Ev_iadd dX8_later_56 ?_
      obtain ⟨x3, g3, h⟩ := bsome h
      refine Ev_iald dX8_later_57 g3 ?_
      cases h
      exact Ev_iret rfl rfl dX8_later_58 ⟨rfl, rfl⟩
    · rw [if_neg q1] at h
      refine Ev_aload_n (x := v0) rfl dX8_later_37 ?_
      refine Ev_iconst ic_1 dX8_later_38 ?_
      obtain ⟨p5, g4, h⟩ := bsome h
      refine Ev_callVi (np := 1) (vs := [.int 1]) (rest := []) mdX8_passOn lkX8_163 ⟨_, rfl, rfl⟩ (oX8_passOn g4) (rX8_passOn g4) rfl rfl (Nat.le_of_ble_eq_true rfl) (Nat.le_of_ble_eq_true rfl) dX8_later_39 ?_
      refine Ev_pop rfl dX8_later_42 ?_
      refine Ev_iinc (x := v3) (v := (v3 + 1)) (loc2 := [some (.ref v0), some (.int v1), some (.int v2), some (.int (v3 + 1))]) rfl (congrArg (v3 + ·) ic_1) (Nat.le_of_ble_eq_true rfl) rfl rfl dX8_later_43 ?_
      refine Ev_goto (tgt := 32) dX8_later_46 (by decide) ?_
      exact ih p5.2 v0 v1 v2 (v3 + 1) h
def fX8_later (M : mM) (v0 : Nat) (v1 : Int32) (v2 : Int32) : Option (Int32 × mM) :=
    if isO M v0 8 = true then
      (fX8_isThere M v0 0 v1).bind fun x2 =>
      if x2 = 0 then
        (some ((-1), M))
      else
        ((fX8_in M (Int32.toInt64 v2) (0 : Int64) (20 : Int64)).bind fun x5 =>
        if x5 = 0 then
          (some ((-2), M))
        else
          ((fX8_layTrial M v0).bind fun M8 =>
          fX8_later_c32 FUEL M8 v0 v1 v2 0))
    else none
theorem oX8_later {M : mM} {v0 : Nat} {v1 : Int32} {v2 : Int32} {y : (Int32 × mM)} (h : fX8_later M v0 v1 v2 = some y) : isO M v0 8 = true := by
  unfold fX8_later at h
  exact (gsome h).1
set_option maxRecDepth 20000 in
set_option maxHeartbeats 4000000 in
theorem rX8_later {E : mE} {M : mM} {v0 : Nat} {v1 : Int32} {v2 : Int32} {x : Int32} {Mf : mM} (h : fX8_later M v0 v1 v2 = some (x, Mf)) : EvC mX8_later E 5 0 0 [.ref v0, .int v1, .int v2] M (some (.int x)) Mf := by
  unfold fX8_later at h
  replace h := (gsome h).2
  refine EvC.of [some (.ref v0), some (.int v1), some (.int v2), none] pnX8_later rfl (Nat.le_of_ble_eq_true rfl) ?_
  refine Ev_aload_n (x := v0) rfl dX8_later_0 ?_
  refine Ev_iconst ic_0 dX8_later_1 ?_
  refine Ev_iload_n (x := v1) rfl dX8_later_2 ?_
  obtain ⟨x2, g1, h⟩ := bsome h
  refine Ev_callVi (np := 2) (vs := [.int 0, .int v1]) (rest := []) mdX8_isThere lkX8_99 ⟨_, rfl, rfl⟩ (oX8_isThere g1) (rX8_isThere g1) rfl rfl (Nat.le_of_ble_eq_true rfl) (Nat.le_of_ble_eq_true rfl) dX8_later_3 ?_
  refine Ev_if_ne (tgt := 11) dX8_later_6 (by decide) (fun q3 => ?_) (fun q3 => ?_)
  · rw [if_neg q3] at h
    refine Ev_iload_n (x := v2) rfl dX8_later_11 ?_
    refine Ev_i2l dX8_later_12 ?_
    refine Ev_lconst (v := 0) (by decide) dX8_later_13 ?_
    refine Ev_ldc2 csX8_178 dX8_later_14 ?_
    obtain ⟨x5, g4, h⟩ := bsome h
    refine Ev_callSi (np := 3) (vs := [.long (Int32.toInt64 v2), .long (0 : Int64), .long (20 : Int64)]) (rest := []) mdX8_in lkX8_52 (rX8_in g4) rfl rfl (Nat.le_of_ble_eq_true rfl) (Nat.le_of_ble_eq_true rfl) dX8_later_17 ?_
    refine Ev_if_ne (tgt := 26) dX8_later_20 (by decide) (fun q6 => ?_) (fun q6 => ?_)
    · rw [if_neg q6] at h
      refine Ev_aload_n (x := v0) rfl dX8_later_26 ?_
      obtain ⟨M8, g7, h⟩ := bsome h
      refine Ev_callVv (np := 0) (vs := []) (rest := []) mdX8_layTrial lkX8_180 ⟨_, rfl, rfl⟩ (oX8_layTrial g7) (rX8_layTrial g7) rfl rfl (Nat.le_of_ble_eq_true rfl) (Nat.le_of_ble_eq_true rfl) dX8_later_27 ?_
      refine Ev_iconst ic_0 dX8_later_30 ?_
      refine Ev_istore_n (loc2 := [some (.ref v0), some (.int v1), some (.int v2), some (.int 0)]) (Nat.le_of_ble_eq_true rfl) rfl rfl dX8_later_31 ?_
      exact rX8_later_c32 FUEL M8 v0 v1 v2 0 h
    · rw [if_pos q6] at h
      refine Ev_bipush bp_m2 dX8_later_23 ?_
      cases h
      exact Ev_iret rfl rfl dX8_later_25 ⟨rfl, rfl⟩
  · rw [if_pos q3] at h
    refine Ev_iconst ic_m1 dX8_later_9 ?_
    cases h
    exact Ev_iret rfl rfl dX8_later_10 ⟨rfl, rfl⟩
/-! TinselRiverModel.lasts(I)I -/
def fX8_lasts_c17 : Nat → mM → Nat → Int32 → Int32 → Option (Int32 × mM)
  | 0, _, _, _, _ => none
  | n + 1, M, v0, v1, v2 =>
    if 21 ≤ v2 then
      (some ((-9), M))
    else
      ((fX8_passOn M v0 1).bind fun p3 =>
      (fX8_isThere p3.2 v0 1 v1).bind fun x5 =>
      if x5 = 0 then
        (some (v2, p3.2))
      else
        (fX8_lasts_c17 n p3.2 v0 v1 (v2 + 1)))
set_option maxRecDepth 20000 in
set_option maxHeartbeats 4000000 in
theorem rX8_lasts_c17 {E : mE} {x : Int32} {Mf : mM} : ∀ (n : Nat) (M : mM) (v0 : Nat) (v1 : Int32) (v2 : Int32), fX8_lasts_c17 n M v0 v1 v2 = some (x, Mf) → Ev mX8_lasts E 5 0 0 (some (.int x)) Mf 17 [some (.ref v0), some (.int v1), some (.int v2)] [] M 0 0 := by
  intro n
  induction n with
  | zero => intro M v0 v1 v2 h; rw [fX8_lasts_c17.eq_1] at h; cases h
  | succ n ih =>
    intro M v0 v1 v2 h
    rw [fX8_lasts_c17.eq_2] at h
    refine Ev_iload_n (x := v2) rfl dX8_lasts_17 ?_
    refine Ev_bipush bp_21 dX8_lasts_18 ?_
    refine Ev_icmp_ge (tgt := 46) dX8_lasts_20 (by decide) (fun q1 => ?_) (fun q1 => ?_)
    · rw [if_pos q1] at h
      refine Ev_bipush bp_m9 dX8_lasts_46 ?_
      cases h
      exact Ev_iret rfl rfl dX8_lasts_48 ⟨rfl, rfl⟩
    · rw [if_neg q1] at h
      refine Ev_aload_n (x := v0) rfl dX8_lasts_23 ?_
      refine Ev_iconst ic_1 dX8_lasts_24 ?_
      obtain ⟨p3, g2, h⟩ := bsome h
      refine Ev_callVi (np := 1) (vs := [.int 1]) (rest := []) mdX8_passOn lkX8_163 ⟨_, rfl, rfl⟩ (oX8_passOn g2) (rX8_passOn g2) rfl rfl (Nat.le_of_ble_eq_true rfl) (Nat.le_of_ble_eq_true rfl) dX8_lasts_25 ?_
      refine Ev_pop rfl dX8_lasts_28 ?_
      refine Ev_aload_n (x := v0) rfl dX8_lasts_29 ?_
      refine Ev_iconst ic_1 dX8_lasts_30 ?_
      refine Ev_iload_n (x := v1) rfl dX8_lasts_31 ?_
      obtain ⟨x5, g4, h⟩ := bsome h
      refine Ev_callVi (np := 2) (vs := [.int 1, .int v1]) (rest := []) mdX8_isThere lkX8_99 ⟨_, rfl, rfl⟩ (oX8_isThere g4) (rX8_isThere g4) rfl rfl (Nat.le_of_ble_eq_true rfl) (Nat.le_of_ble_eq_true rfl) dX8_lasts_32 ?_
      refine Ev_if_ne (tgt := 40) dX8_lasts_35 (by decide) (fun q6 => ?_) (fun q6 => ?_)
      · rw [if_neg q6] at h
        refine Ev_iinc (x := v2) (v := (v2 + 1)) (loc2 := [some (.ref v0), some (.int v1), some (.int (v2 + 1))]) rfl (congrArg (v2 + ·) ic_1) (Nat.le_of_ble_eq_true rfl) rfl rfl dX8_lasts_40 ?_
        refine Ev_goto (tgt := 17) dX8_lasts_43 (by decide) ?_
        exact ih p3.2 v0 v1 (v2 + 1) h
      · rw [if_pos q6] at h
        refine Ev_iload_n (x := v2) rfl dX8_lasts_38 ?_
        cases h
        exact Ev_iret rfl rfl dX8_lasts_39 ⟨rfl, rfl⟩
def fX8_lasts (M : mM) (v0 : Nat) (v1 : Int32) : Option (Int32 × mM) :=
    if isO M v0 8 = true then
      (fX8_isThere M v0 0 v1).bind fun x2 =>
      if x2 = 0 then
        (some ((-1), M))
      else
        ((fX8_layTrial M v0).bind fun M5 =>
        fX8_lasts_c17 FUEL M5 v0 v1 1)
    else none
theorem oX8_lasts {M : mM} {v0 : Nat} {v1 : Int32} {y : (Int32 × mM)} (h : fX8_lasts M v0 v1 = some y) : isO M v0 8 = true := by
  unfold fX8_lasts at h
  exact (gsome h).1
set_option maxRecDepth 20000 in
set_option maxHeartbeats 4000000 in
theorem rX8_lasts {E : mE} {M : mM} {v0 : Nat} {v1 : Int32} {x : Int32} {Mf : mM} (h : fX8_lasts M v0 v1 = some (x, Mf)) : EvC mX8_lasts E 5 0 0 [.ref v0, .int v1] M (some (.int x)) Mf := by
  unfold fX8_lasts at h
  replace h := (gsome h).2
  refine EvC.of [some (.ref v0), some (.int v1), none] pnX8_lasts rfl (Nat.le_of_ble_eq_true rfl) ?_
  refine Ev_aload_n (x := v0) rfl dX8_lasts_0 ?_
  refine Ev_iconst ic_0 dX8_lasts_1 ?_
  refine Ev_iload_n (x := v1) rfl dX8_lasts_2 ?_
  obtain ⟨x2, g1, h⟩ := bsome h
  refine Ev_callVi (np := 2) (vs := [.int 0, .int v1]) (rest := []) mdX8_isThere lkX8_99 ⟨_, rfl, rfl⟩ (oX8_isThere g1) (rX8_isThere g1) rfl rfl (Nat.le_of_ble_eq_true rfl) (Nat.le_of_ble_eq_true rfl) dX8_lasts_3 ?_
  refine Ev_if_ne (tgt := 11) dX8_lasts_6 (by decide) (fun q3 => ?_) (fun q3 => ?_)
  · rw [if_neg q3] at h
    refine Ev_aload_n (x := v0) rfl dX8_lasts_11 ?_
    obtain ⟨M5, g4, h⟩ := bsome h
    refine Ev_callVv (np := 0) (vs := []) (rest := []) mdX8_layTrial lkX8_180 ⟨_, rfl, rfl⟩ (oX8_layTrial g4) (rX8_layTrial g4) rfl rfl (Nat.le_of_ble_eq_true rfl) (Nat.le_of_ble_eq_true rfl) dX8_lasts_12 ?_
    refine Ev_iconst ic_1 dX8_lasts_15 ?_
    refine Ev_istore_n (loc2 := [some (.ref v0), some (.int v1), some (.int 1)]) (Nat.le_of_ble_eq_true rfl) rfl rfl dX8_lasts_16 ?_
    exact rX8_lasts_c17 FUEL M5 v0 v1 1 h
  · rw [if_pos q3] at h
    refine Ev_iconst ic_m1 dX8_lasts_9 ?_
    cases h
    exact Ev_iret rfl rfl dX8_lasts_10 ⟨rfl, rfl⟩
/-! TinselRiverModel.overlap(II)I -/
def fX8_overlap (M : mM) (v0 : Nat) (v1 : Int32) (v2 : Int32) : Option Int32 :=
    if isO M v0 8 = true then
      (fX8_isThere M v0 0 v1).bind fun x2 =>
      if x2 = 0 then
        (some (-1))
      else
        ((fX8_isThere M v0 0 v2).bind fun x5 =>
        if x5 = 0 then
          (some (-1))
        else
          (if v1 = v2 then
            (some (-2))
          else
            ((fX8_overlapOf M v0 0 v1 v2).bind fun x9 =>
            some x9)))
    else none
theorem oX8_overlap {M : mM} {v0 : Nat} {v1 : Int32} {v2 : Int32} {y : Int32} (h : fX8_overlap M v0 v1 v2 = some y) : isO M v0 8 = true := by
  unfold fX8_overlap at h
  exact (gsome h).1
set_option maxRecDepth 20000 in
set_option maxHeartbeats 4000000 in
theorem rX8_overlap {E : mE} {M : mM} {v0 : Nat} {v1 : Int32} {v2 : Int32} {x : Int32} (h : fX8_overlap M v0 v1 v2 = some x) : EvC mX8_overlap E 2 0 0 [.ref v0, .int v1, .int v2] M (some (.int x)) M := by
  unfold fX8_overlap at h
  replace h := (gsome h).2
  refine EvC.of [some (.ref v0), some (.int v1), some (.int v2)] pnX8_overlap rfl (Nat.le_of_ble_eq_true rfl) ?_
  refine Ev_aload_n (x := v0) rfl dX8_overlap_0 ?_
  refine Ev_iconst ic_0 dX8_overlap_1 ?_
  refine Ev_iload_n (x := v1) rfl dX8_overlap_2 ?_
  obtain ⟨x2, g1, h⟩ := bsome h
  refine Ev_callVi (np := 2) (vs := [.int 0, .int v1]) (rest := []) mdX8_isThere lkX8_99 ⟨_, rfl, rfl⟩ (oX8_isThere g1) (rX8_isThere g1) rfl rfl (Nat.le_of_ble_eq_true rfl) (Nat.le_of_ble_eq_true rfl) dX8_overlap_3 ?_
  refine Ev_if_eq (tgt := 18) dX8_overlap_6 (by decide) (fun q3 => ?_) (fun q3 => ?_)
  · rw [if_pos q3] at h
    refine Ev_iconst ic_m1 dX8_overlap_18 ?_
    cases h
    exact Ev_iret rfl rfl dX8_overlap_19 ⟨rfl, rfl⟩
  · rw [if_neg q3] at h
    refine Ev_aload_n (x := v0) rfl dX8_overlap_9 ?_
    refine Ev_iconst ic_0 dX8_overlap_10 ?_
    refine Ev_iload_n (x := v2) rfl dX8_overlap_11 ?_
    obtain ⟨x5, g4, h⟩ := bsome h
    refine Ev_callVi (np := 2) (vs := [.int 0, .int v2]) (rest := []) mdX8_isThere lkX8_99 ⟨_, rfl, rfl⟩ (oX8_isThere g4) (rX8_isThere g4) rfl rfl (Nat.le_of_ble_eq_true rfl) (Nat.le_of_ble_eq_true rfl) dX8_overlap_12 ?_
    refine Ev_if_ne (tgt := 20) dX8_overlap_15 (by decide) (fun q6 => ?_) (fun q6 => ?_)
    · rw [if_neg q6] at h
      refine Ev_iload_n (x := v1) rfl dX8_overlap_20 ?_
      refine Ev_iload_n (x := v2) rfl dX8_overlap_21 ?_
      refine Ev_icmp_ne (tgt := 30) dX8_overlap_22 (by decide) (fun q7 => ?_) (fun q7 => ?_)
      · rw [if_neg q7] at h
        refine Ev_aload_n (x := v0) rfl dX8_overlap_30 ?_
        refine Ev_iconst ic_0 dX8_overlap_31 ?_
        refine Ev_iload_n (x := v1) rfl dX8_overlap_32 ?_
        refine Ev_iload_n (x := v2) rfl dX8_overlap_33 ?_
        obtain ⟨x9, g8, h⟩ := bsome h
        refine Ev_callVi (np := 3) (vs := [.int 0, .int v1, .int v2]) (rest := []) mdX8_overlapOf lkX8_126 ⟨_, rfl, rfl⟩ (oX8_overlapOf g8) (rX8_overlapOf g8) rfl rfl (Nat.le_of_ble_eq_true rfl) (Nat.le_of_ble_eq_true rfl) dX8_overlap_34 ?_
        cases h
        exact Ev_iret rfl rfl dX8_overlap_37 ⟨rfl, rfl⟩
      · rw [if_pos q7] at h
        refine Ev_bipush bp_m2 dX8_overlap_25 ?_
        refine Ev_goto (tgt := 37) dX8_overlap_27 (by decide) ?_
        cases h
        exact Ev_iret rfl rfl dX8_overlap_37 ⟨rfl, rfl⟩
    · rw [if_pos q6] at h
      refine Ev_iconst ic_m1 dX8_overlap_18 ?_
      cases h
      exact Ev_iret rfl rfl dX8_overlap_19 ⟨rfl, rfl⟩
/-! TinselRiverModel.goesOn(II)Z -/
def fX8_goesOn_c5 (M : mM) : Nat → Nat → Int32 → Int32 → Int32 → Int32 → Option Int32
  | 0, _, _, _, _, _ => none
  | n + 1, v0, v1, v2, v3, v4 =>
    if v2 ≤ v4 then
      (if v3 = 0 ∨ v3 = 1 then some v3 else none)
    else
      (if v3 = 0 then
        (fX8_goesOn_c5 M n v0 v1 v2 0 (v4 + 1))
      else
        ((gR M v0 8 16).bind fun a4 =>
        (gI M v0 8 17).bind fun x5 =>
        (aI M false a4 ((x5 - v2) + v4)).bind fun x6 =>
        (fX8_bendAt M v0 0 v1 v4).bind fun x8 =>
        if x6 = x8 then
          (fX8_goesOn_c5 M n v0 v1 v2 1 (v4 + 1))
        else
          (fX8_goesOn_c5 M n v0 v1 v2 0 (v4 + 1))))
set_option maxRecDepth 20000 in
set_option maxHeartbeats 4000000 in
theorem rX8_goesOn_c5 {E : mE} {M : mM} {x : Int32} : ∀ (n : Nat) (v0 : Nat) (v1 : Int32) (v2 : Int32) (v3 : Int32) (v4 : Int32), fX8_goesOn_c5 M n v0 v1 v2 v3 v4 = some x → Ev mX8_goesOn E 1 0 0 (some (.int x)) M 5 [some (.ref v0), some (.int v1), some (.int v2), some (.int v3), some (.int v4)] [] M 0 0 := by
  intro n
  induction n with
  | zero => intro v0 v1 v2 v3 v4 h; rw [fX8_goesOn_c5.eq_1] at h; cases h
  | succ n ih =>
    intro v0 v1 v2 v3 v4 h
    rw [fX8_goesOn_c5.eq_2] at h
    refine Ev_iload (x := v4) rfl dX8_goesOn_5 ?_
    refine Ev_iload_n (x := v2) rfl dX8_goesOn_7 ?_
    refine Ev_icmp_ge (tgt := 52) dX8_goesOn_8 (by decide) (fun q1 => ?_) (fun q1 => ?_)
    · rw [if_pos q1] at h
      refine Ev_iload_n (x := v3) rfl dX8_goesOn_52 ?_
      obtain ⟨b2, h⟩ := gsome h
      cases h
      exact Ev_iret rfl (mb01 b2) dX8_goesOn_53 ⟨rfl, rfl⟩
    · rw [if_neg q1] at h
      refine Ev_iload_n (x := v3) rfl dX8_goesOn_11 ?_
      refine Ev_if_eq (tgt := 44) dX8_goesOn_12 (by decide) (fun q3 => ?_) (fun q3 => ?_)
      · rw [if_pos q3] at h
        refine Ev_iconst ic_0 dX8_goesOn_44 ?_
        refine Ev_istore_n (loc2 := [some (.ref v0), some (.int v1), some (.int v2), some (.int 0), some (.int v4)]) (Nat.le_of_ble_eq_true rfl) rfl rfl dX8_goesOn_45 ?_
        refine Ev_iinc (x := v4) (v := (v4 + 1)) (loc2 := [some (.ref v0), some (.int v1), some (.int v2), some (.int 0), some (.int (v4 + 1))]) rfl (congrArg (v4 + ·) ic_1) (Nat.le_of_ble_eq_true rfl) rfl rfl dX8_goesOn_46 ?_
        refine Ev_goto (tgt := 5) dX8_goesOn_49 (by decide) ?_
        exact ih v0 v1 v2 0 (v4 + 1) h
      · rw [if_neg q3] at h
        refine Ev_aload_n (x := v0) rfl dX8_goesOn_15 ?_
        obtain ⟨a4, g4, h⟩ := bsome h
        refine Ev_getR flX8_34 dX8_goesOn_16 g4 ?_
        refine Ev_aload_n (x := v0) rfl dX8_goesOn_19 ?_
        obtain ⟨x5, g5, h⟩ := bsome h
        refine Ev_getI flX8_183 dX8_goesOn_20 g5 ?_
        refine Ev_iload_n (x := v2) rfl dX8_goesOn_23 ?_
        refine Ev_isub dX8_goesOn_24 ?_
        refine Ev_iload (x := v4) rfl dX8_goesOn_25 ?_
        refine Ev_iadd dX8_goesOn_27 ?_
        obtain ⟨x6, g6, h⟩ := bsome h
        refine Ev_iald dX8_goesOn_28 g6 ?_
        refine Ev_aload_n (x := v0) rfl dX8_goesOn_29 ?_
        refine Ev_iconst ic_0 dX8_goesOn_30 ?_
        refine Ev_iload_n (x := v1) rfl dX8_goesOn_31 ?_
        refine Ev_iload (x := v4) rfl dX8_goesOn_32 ?_
        obtain ⟨x8, g7, h⟩ := bsome h
        refine Ev_callVi (np := 3) (vs := [.int 0, .int v1, .int v4]) (rest := [.int x6]) mdX8_bendAt lkX8_122 ⟨_, rfl, rfl⟩ (oX8_bendAt g7) (rX8_bendAt g7) rfl rfl (Nat.le_of_ble_eq_true rfl) (Nat.le_of_ble_eq_true rfl) dX8_goesOn_34 ?_
        refine Ev_icmp_ne (tgt := 44) dX8_goesOn_37 (by decide) (fun q9 => ?_) (fun q9 => ?_)
        · rw [if_neg q9] at h
          refine Ev_iconst ic_0 dX8_goesOn_44 ?_
          refine Ev_istore_n (loc2 := [some (.ref v0), some (.int v1), some (.int v2), some (.int 0), some (.int v4)]) (Nat.le_of_ble_eq_true rfl) rfl rfl dX8_goesOn_45 ?_
          refine Ev_iinc (x := v4) (v := (v4 + 1)) (loc2 := [some (.ref v0), some (.int v1), some (.int v2), some (.int 0), some (.int (v4 + 1))]) rfl (congrArg (v4 + ·) ic_1) (Nat.le_of_ble_eq_true rfl) rfl rfl dX8_goesOn_46 ?_
          refine Ev_goto (tgt := 5) dX8_goesOn_49 (by decide) ?_
          exact ih v0 v1 v2 0 (v4 + 1) h
        · rw [if_pos q9] at h
          refine Ev_iconst ic_1 dX8_goesOn_40 ?_
          refine Ev_goto (tgt := 45) dX8_goesOn_41 (by decide) ?_
          refine Ev_istore_n (loc2 := [some (.ref v0), some (.int v1), some (.int v2), some (.int 1), some (.int v4)]) (Nat.le_of_ble_eq_true rfl) rfl rfl dX8_goesOn_45 ?_
          refine Ev_iinc (x := v4) (v := (v4 + 1)) (loc2 := [some (.ref v0), some (.int v1), some (.int v2), some (.int 1), some (.int (v4 + 1))]) rfl (congrArg (v4 + ·) ic_1) (Nat.le_of_ble_eq_true rfl) rfl rfl dX8_goesOn_46 ?_
          refine Ev_goto (tgt := 5) dX8_goesOn_49 (by decide) ?_
          exact ih v0 v1 v2 1 (v4 + 1) h
def fX8_goesOn (M : mM) (v0 : Nat) (v1 : Int32) (v2 : Int32) : Option Int32 :=
    if isO M v0 8 = true then
      fX8_goesOn_c5 M FUEL v0 v1 v2 1 0
    else none
theorem oX8_goesOn {M : mM} {v0 : Nat} {v1 : Int32} {v2 : Int32} {y : Int32} (h : fX8_goesOn M v0 v1 v2 = some y) : isO M v0 8 = true := by
  unfold fX8_goesOn at h
  exact (gsome h).1
set_option maxRecDepth 20000 in
set_option maxHeartbeats 4000000 in
theorem rX8_goesOn {E : mE} {M : mM} {v0 : Nat} {v1 : Int32} {v2 : Int32} {x : Int32} (h : fX8_goesOn M v0 v1 v2 = some x) : EvC mX8_goesOn E 1 0 0 [.ref v0, .int v1, .int v2] M (some (.int x)) M := by
  unfold fX8_goesOn at h
  replace h := (gsome h).2
  refine EvC.of [some (.ref v0), some (.int v1), some (.int v2), none, none] pnX8_goesOn rfl (Nat.le_of_ble_eq_true rfl) ?_
  refine Ev_iconst ic_1 dX8_goesOn_0 ?_
  refine Ev_istore_n (loc2 := [some (.ref v0), some (.int v1), some (.int v2), some (.int 1), none]) (Nat.le_of_ble_eq_true rfl) rfl rfl dX8_goesOn_1 ?_
  refine Ev_iconst ic_0 dX8_goesOn_2 ?_
  refine Ev_istore (loc2 := [some (.ref v0), some (.int v1), some (.int v2), some (.int 1), some (.int 0)]) (Nat.le_of_ble_eq_true rfl) rfl rfl dX8_goesOn_3 ?_
  exact rX8_goesOn_c5 FUEL v0 v1 v2 1 0 h
