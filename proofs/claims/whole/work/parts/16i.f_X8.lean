/-! printed by wip/whole/gen.py -/
/-! TinselRiverModel.judge(IJ)I -/
def fX8_judge_c36 : Nat → mM → Nat → Int32 → Int64 → Int32 → Option (Int32 × mM)
  | 0, _, _, _, _, _ => none
  | n + 1, M, v0, v1, v2, v4 =>
    if v1 ≤ v4 then
      (some ((-9), M))
    else
      ((fX8_thousandTo M ((v1 - 1) - v4)).bind fun x3 =>
      if x3 = 0 then none else
      (some (Int64.toInt32 ((v2 / x3) - (v2 / x3) / (1000 : Int64) * (1000 : Int64)))).bind fun x5 =>
      (fX8_tryThing M v0 (x5 / 100) ((x5 / 10) - (x5 / 10) / 10 * 10) (x5 - x5 / 10 * 10)).bind fun p7 =>
      if p7.1 = 0 then
        (some (v4, p7.2))
      else
        (fX8_judge_c36 n p7.2 v0 v1 v2 (v4 + 1)))
set_option maxRecDepth 20000 in
set_option maxHeartbeats 4000000 in
theorem rX8_judge_c36 {E : mE} {x : Int32} {Mf : mM} : ∀ (n : Nat) (M : mM) (v0 : Nat) (v1 : Int32) (v2 : Int64) (v4 : Int32), fX8_judge_c36 n M v0 v1 v2 v4 = some (x, Mf) → Ev mX8_judge E 6 0 0 (some (.int x)) Mf 36 [some (.ref v0), some (.int v1), some (.long v2), none, some (.int v4), none] [] M 0 0 := by
  intro n
  induction n with
  | zero => intro M v0 v1 v2 v4 h; rw [fX8_judge_c36.eq_1] at h; cases h
  | succ n ih =>
    intro M v0 v1 v2 v4 h
    rw [fX8_judge_c36.eq_2] at h
    refine Ev_iload (x := v4) rfl dX8_judge_36 ?_
    refine Ev_iload_n (x := v1) rfl dX8_judge_38 ?_
    refine Ev_icmp_ge (tgt := 94) dX8_judge_39 (by decide) (fun q1 => ?_) (fun q1 => ?_)
    · rw [if_pos q1] at h
      refine Ev_bipush bp_m9 dX8_judge_94 ?_
      cases h
      exact Ev_iret rfl rfl dX8_judge_96 ⟨rfl, rfl⟩
    · rw [if_neg q1] at h
      refine Ev_lload_n (x := v2) rfl dX8_judge_42 ?_
      refine Ev_iload_n (x := v1) rfl dX8_judge_43 ?_
      refine Ev_iconst ic_1 dX8_judge_44 ?_
      refine Ev_isub dX8_judge_45 ?_
      refine Ev_iload (x := v4) rfl dX8_judge_46 ?_
      refine Ev_isub dX8_judge_48 ?_
      obtain ⟨x3, g2, h⟩ := bsome h
      refine Ev_callSl (np := 1) (vs := [.int ((v1 - 1) - v4)]) (rest := [.long v2]) mdX8_thousandTo lkX8_202 (rX8_thousandTo g2) rfl rfl (Nat.le_of_ble_eq_true rfl) (Nat.le_of_ble_eq_true rfl) dX8_judge_49 ?_
      obtain ⟨z4, h⟩ := nsome h
      refine Ev_ldiv z4 dX8_judge_52 ?_
      refine Ev_ldc2 csX8_205 dX8_judge_53 ?_
      refine Ev_lrem (by decide) dX8_judge_56 ?_
      refine Ev_l2i dX8_judge_57 ?_
      obtain ⟨x5, g5, h⟩ := bsome h
      refine Ev_istore (loc2 := [some (.ref v0), some (.int v1), some (.long v2), none, some (.int v4), some (.int x5)]) (Nat.le_of_ble_eq_true rfl) rfl (by cases g5; rfl) dX8_judge_58 ?_
      refine Ev_aload_n (x := v0) rfl dX8_judge_60 ?_
      refine Ev_iload (x := x5) rfl dX8_judge_61 ?_
      refine Ev_bipush bp_100 dX8_judge_63 ?_
      refine Ev_idiv (by decide) dX8_judge_65 ?_
      refine Ev_iload (x := x5) rfl dX8_judge_66 ?_
      refine Ev_bipush bp_10 dX8_judge_68 ?_
      refine Ev_idiv (by decide) dX8_judge_70 ?_
      refine Ev_bipush bp_10 dX8_judge_71 ?_
      refine Ev_irem (by decide) dX8_judge_73 ?_
      refine Ev_iload (x := x5) rfl dX8_judge_74 ?_
      refine Ev_bipush bp_10 dX8_judge_76 ?_
      refine Ev_irem (by decide) dX8_judge_78 ?_
      obtain ⟨p7, g6, h⟩ := bsome h
      refine Ev_callVi (np := 3) (vs := [.int (x5 / 100), .int ((x5 / 10) - (x5 / 10) / 10 * 10), .int (x5 - x5 / 10 * 10)]) (rest := []) mdX8_tryThing lkX8_207 ⟨_, rfl, rfl⟩ (oX8_tryThing g6) (rX8_tryThing g6) rfl rfl (Nat.le_of_ble_eq_true rfl) (Nat.le_of_ble_eq_true rfl) dX8_judge_79 ?_
      refine Ev_if_ne (tgt := 88) dX8_judge_82 (by decide) (fun q8 => ?_) (fun q8 => ?_)
      · rw [if_neg q8] at h
        refine Ev_iinc (x := v4) (v := (v4 + 1)) (loc2 := [some (.ref v0), some (.int v1), some (.long v2), none, some (.int (v4 + 1)), some (.int x5)]) rfl (congrArg (v4 + ·) ic_1) (Nat.le_of_ble_eq_true rfl) rfl rfl dX8_judge_88 ?_
        refine Ev_goto (tgt := 36) dX8_judge_91 (by decide) ?_
        refine Ev_drop 5 (loc2 := [some (.ref v0), some (.int v1), some (.long v2), none, some (.int (v4 + 1)), none]) rfl ?_
        exact ih p7.2 v0 v1 v2 (v4 + 1) h
      · rw [if_pos q8] at h
        refine Ev_iload (x := v4) rfl dX8_judge_85 ?_
        cases h
        exact Ev_iret rfl rfl dX8_judge_87 ⟨rfl, rfl⟩
def fX8_judge (M : mM) (v0 : Nat) (v1 : Int32) (v2 : Int64) : Option (Int32 × mM) :=
    if isO M v0 8 = true then
      (fX8_in M (Int32.toInt64 v1) (1 : Int64) (4 : Int64)).bind fun x2 =>
      if x2 = 0 then
        (some ((-2), M))
      else
        ((fX8_thousandTo M v1).bind fun x5 =>
        (fX8_in M v2 (0 : Int64) (x5 - (1 : Int64))).bind fun x7 =>
        if x7 = 0 then
          (some ((-2), M))
        else
          ((fX8_layTrial M v0).bind fun M10 =>
          fX8_judge_c36 FUEL M10 v0 v1 v2 0))
    else none
theorem oX8_judge {M : mM} {v0 : Nat} {v1 : Int32} {v2 : Int64} {y : (Int32 × mM)} (h : fX8_judge M v0 v1 v2 = some y) : isO M v0 8 = true := by
  unfold fX8_judge at h
  exact (gsome h).1
set_option maxRecDepth 20000 in
set_option maxHeartbeats 4000000 in
theorem rX8_judge {E : mE} {M : mM} {v0 : Nat} {v1 : Int32} {v2 : Int64} {x : Int32} {Mf : mM} (h : fX8_judge M v0 v1 v2 = some (x, Mf)) : EvC mX8_judge E 6 0 0 [.ref v0, .int v1, .long v2] M (some (.int x)) Mf := by
  unfold fX8_judge at h
  replace h := (gsome h).2
  refine EvC.of [some (.ref v0), some (.int v1), some (.long v2), none, none, none] pnX8_judge rfl (Nat.le_of_ble_eq_true rfl) ?_
  refine Ev_iload_n (x := v1) rfl dX8_judge_0 ?_
  refine Ev_i2l dX8_judge_1 ?_
  refine Ev_lconst (v := 1) (by decide) dX8_judge_2 ?_
  refine Ev_ldc2 csX8_144 dX8_judge_3 ?_
  obtain ⟨x2, g1, h⟩ := bsome h
  refine Ev_callSi (np := 3) (vs := [.long (Int32.toInt64 v1), .long (1 : Int64), .long (4 : Int64)]) (rest := []) mdX8_in lkX8_52 (rX8_in g1) rfl rfl (Nat.le_of_ble_eq_true rfl) (Nat.le_of_ble_eq_true rfl) dX8_judge_6 ?_
  refine Ev_if_eq (tgt := 26) dX8_judge_9 (by decide) (fun q3 => ?_) (fun q3 => ?_)
  · rw [if_pos q3] at h
    refine Ev_bipush bp_m2 dX8_judge_26 ?_
    cases h
    exact Ev_iret rfl rfl dX8_judge_28 ⟨rfl, rfl⟩
  · rw [if_neg q3] at h
    refine Ev_lload_n (x := v2) rfl dX8_judge_12 ?_
    refine Ev_lconst (v := 0) (by decide) dX8_judge_13 ?_
    refine Ev_iload_n (x := v1) rfl dX8_judge_14 ?_
    obtain ⟨x5, g4, h⟩ := bsome h
    refine Ev_callSl (np := 1) (vs := [.int v1]) (rest := [.long (0 : Int64), .long v2]) mdX8_thousandTo lkX8_202 (rX8_thousandTo g4) rfl rfl (Nat.le_of_ble_eq_true rfl) (Nat.le_of_ble_eq_true rfl) dX8_judge_15 ?_
    refine Ev_lconst (v := 1) (by decide) dX8_judge_18 ?_
    refine Ev_lsub dX8_judge_19 ?_
    obtain ⟨x7, g6, h⟩ := bsome h
    refine Ev_callSi (np := 3) (vs := [.long v2, .long (0 : Int64), .long (x5 - (1 : Int64))]) (rest := []) mdX8_in lkX8_52 (rX8_in g6) rfl rfl (Nat.le_of_ble_eq_true rfl) (Nat.le_of_ble_eq_true rfl) dX8_judge_20 ?_
    refine Ev_if_ne (tgt := 29) dX8_judge_23 (by decide) (fun q8 => ?_) (fun q8 => ?_)
    · rw [if_neg q8] at h
      refine Ev_aload_n (x := v0) rfl dX8_judge_29 ?_
      obtain ⟨M10, g9, h⟩ := bsome h
      refine Ev_callVv (np := 0) (vs := []) (rest := []) mdX8_layTrial lkX8_180 ⟨_, rfl, rfl⟩ (oX8_layTrial g9) (rX8_layTrial g9) rfl rfl (Nat.le_of_ble_eq_true rfl) (Nat.le_of_ble_eq_true rfl) dX8_judge_30 ?_
      refine Ev_iconst ic_0 dX8_judge_33 ?_
      refine Ev_istore (loc2 := [some (.ref v0), some (.int v1), some (.long v2), none, some (.int 0), none]) (Nat.le_of_ble_eq_true rfl) rfl rfl dX8_judge_34 ?_
      exact rX8_judge_c36 FUEL M10 v0 v1 v2 0 h
    · rw [if_pos q8] at h
      refine Ev_bipush bp_m2 dX8_judge_26 ?_
      cases h
      exact Ev_iret rfl rfl dX8_judge_28 ⟨rfl, rfl⟩
/-! TinselRiverModel.lay(II)I -/
def fX8_lay (M : mM) (v0 : Nat) (v1 : Int32) (v2 : Int32) : Option (Int32 × mM) :=
    if isO M v0 8 = true then
      (fX8_in M (Int32.toInt64 v1) (0 : Int64) (11 : Int64)).bind fun x2 =>
      if x2 = 0 then
        (some ((-2), M))
      else
        ((fX8_in M (Int32.toInt64 v2) (0 : Int64) (1 : Int64)).bind fun x5 =>
        if x5 = 0 then
          (some ((-2), M))
        else
          ((gI M v0 8 18).bind fun x7 =>
          if x7 = 6 then
            (some ((-4), M))
          else
            ((gR M v0 8 19).bind fun a9 =>
            (gI M v0 8 18).bind fun x10 =>
            (aS M false a9 x10 v1).bind fun M11 =>
            (gR M11 v0 8 20).bind fun a12 =>
            (gI M11 v0 8 18).bind fun x13 =>
            (aS M11 false a12 x13 v2).bind fun M14 =>
            (gI M14 v0 8 18).bind fun x15 =>
            (sV M14 v0 8 18 (.int (x15 + 1))).bind fun M16 =>
            (gI M16 v0 8 18).bind fun x17 =>
            some (x17, M16))))
    else none
theorem oX8_lay {M : mM} {v0 : Nat} {v1 : Int32} {v2 : Int32} {y : (Int32 × mM)} (h : fX8_lay M v0 v1 v2 = some y) : isO M v0 8 = true := by
  unfold fX8_lay at h
  exact (gsome h).1
set_option maxRecDepth 20000 in
set_option maxHeartbeats 4000000 in
theorem rX8_lay {E : mE} {M : mM} {v0 : Nat} {v1 : Int32} {v2 : Int32} {x : Int32} {Mf : mM} (h : fX8_lay M v0 v1 v2 = some (x, Mf)) : EvC mX8_lay E 1 0 0 [.ref v0, .int v1, .int v2] M (some (.int x)) Mf := by
  unfold fX8_lay at h
  replace h := (gsome h).2
  refine EvC.of [some (.ref v0), some (.int v1), some (.int v2)] pnX8_lay rfl (Nat.le_of_ble_eq_true rfl) ?_
  refine Ev_iload_n (x := v1) rfl dX8_lay_0 ?_
  refine Ev_i2l dX8_lay_1 ?_
  refine Ev_lconst (v := 0) (by decide) dX8_lay_2 ?_
  refine Ev_ldc2 csX8_210 dX8_lay_3 ?_
  obtain ⟨x2, g1, h⟩ := bsome h
  refine Ev_callSi (np := 3) (vs := [.long (Int32.toInt64 v1), .long (0 : Int64), .long (11 : Int64)]) (rest := []) mdX8_in lkX8_52 (rX8_in g1) rfl rfl (Nat.le_of_ble_eq_true rfl) (Nat.le_of_ble_eq_true rfl) dX8_lay_6 ?_
  refine Ev_if_eq (tgt := 22) dX8_lay_9 (by decide) (fun q3 => ?_) (fun q3 => ?_)
  · rw [if_pos q3] at h
    refine Ev_bipush bp_m2 dX8_lay_22 ?_
    cases h
    exact Ev_iret rfl rfl dX8_lay_24 ⟨rfl, rfl⟩
  · rw [if_neg q3] at h
    refine Ev_iload_n (x := v2) rfl dX8_lay_12 ?_
    refine Ev_i2l dX8_lay_13 ?_
    refine Ev_lconst (v := 0) (by decide) dX8_lay_14 ?_
    refine Ev_lconst (v := 1) (by decide) dX8_lay_15 ?_
    obtain ⟨x5, g4, h⟩ := bsome h
    refine Ev_callSi (np := 3) (vs := [.long (Int32.toInt64 v2), .long (0 : Int64), .long (1 : Int64)]) (rest := []) mdX8_in lkX8_52 (rX8_in g4) rfl rfl (Nat.le_of_ble_eq_true rfl) (Nat.le_of_ble_eq_true rfl) dX8_lay_16 ?_
    refine Ev_if_ne (tgt := 25) dX8_lay_19 (by decide) (fun q6 => ?_) (fun q6 => ?_)
    · rw [if_neg q6] at h
      refine Ev_aload_n (x := v0) rfl dX8_lay_25 ?_
      obtain ⟨x7, g7, h⟩ := bsome h
      refine Ev_getI flX8_212 dX8_lay_26 g7 ?_
      refine Ev_bipush bp_6 dX8_lay_29 ?_
      refine Ev_icmp_ne (tgt := 37) dX8_lay_31 (by decide) (fun q8 => ?_) (fun q8 => ?_)
      · rw [if_neg q8] at h
        refine Ev_aload_n (x := v0) rfl dX8_lay_37 ?_
        obtain ⟨a9, g9, h⟩ := bsome h
        refine Ev_getR flX8_37 dX8_lay_38 g9 ?_
        refine Ev_aload_n (x := v0) rfl dX8_lay_41 ?_
        obtain ⟨x10, g10, h⟩ := bsome h
        refine Ev_getI flX8_212 dX8_lay_42 g10 ?_
        refine Ev_iload_n (x := v1) rfl dX8_lay_45 ?_
        obtain ⟨M11, g11, h⟩ := bsome h
        refine Ev_iast dX8_lay_46 g11 ?_
        refine Ev_aload_n (x := v0) rfl dX8_lay_47 ?_
        obtain ⟨a12, g12, h⟩ := bsome h
        refine Ev_getR flX8_40 dX8_lay_48 g12 ?_
        refine Ev_aload_n (x := v0) rfl dX8_lay_51 ?_
        obtain ⟨x13, g13, h⟩ := bsome h
        refine Ev_getI flX8_212 dX8_lay_52 g13 ?_
        refine Ev_iload_n (x := v2) rfl dX8_lay_55 ?_
        obtain ⟨M14, g14, h⟩ := bsome h
        refine Ev_iast dX8_lay_56 g14 ?_
        refine Ev_aload_n (x := v0) rfl dX8_lay_57 ?_
        refine Ev_dup rfl dX8_lay_58 ?_
        obtain ⟨x15, g15, h⟩ := bsome h
        refine Ev_getI flX8_212 dX8_lay_59 g15 ?_
        refine Ev_iconst ic_1 dX8_lay_62 ?_
        refine Ev_iadd dX8_lay_63 ?_
        obtain ⟨M16, g16, h⟩ := bsome h
        refine Ev_put (v := .int (x15 + 1)) flX8_212 ⟨rfl, rfl⟩ (fun q hq => by cases hq; exact Or.inl rfl) dX8_lay_64 g16 ?_
        refine Ev_aload_n (x := v0) rfl dX8_lay_67 ?_
        obtain ⟨x17, g17, h⟩ := bsome h
        refine Ev_getI flX8_212 dX8_lay_68 g17 ?_
        cases h
        exact Ev_iret rfl rfl dX8_lay_71 ⟨rfl, rfl⟩
      · rw [if_pos q8] at h
        refine Ev_bipush bp_m4 dX8_lay_34 ?_
        cases h
        exact Ev_iret rfl rfl dX8_lay_36 ⟨rfl, rfl⟩
    · rw [if_pos q6] at h
      refine Ev_bipush bp_m2 dX8_lay_22 ?_
      cases h
      exact Ev_iret rfl rfl dX8_lay_24 ⟨rfl, rfl⟩
/-! TinselRiverModel.unlay()I -/
def fX8_unlay (M : mM) (v0 : Nat) : Option (Int32 × mM) :=
    if isO M v0 8 = true then
      (gI M v0 8 18).bind fun x1 =>
      (sV M v0 8 18 (.int 0)).bind fun M2 =>
      some (x1, M2)
    else none
theorem oX8_unlay {M : mM} {v0 : Nat} {y : (Int32 × mM)} (h : fX8_unlay M v0 = some y) : isO M v0 8 = true := by
  unfold fX8_unlay at h
  exact (gsome h).1
set_option maxRecDepth 20000 in
set_option maxHeartbeats 4000000 in
theorem rX8_unlay {E : mE} {M : mM} {v0 : Nat} {x : Int32} {Mf : mM} (h : fX8_unlay M v0 = some (x, Mf)) : EvC mX8_unlay E 0 0 0 [.ref v0] M (some (.int x)) Mf := by
  unfold fX8_unlay at h
  replace h := (gsome h).2
  refine EvC.of [some (.ref v0), none] pnX8_unlay rfl (Nat.le_of_ble_eq_true rfl) ?_
  refine Ev_aload_n (x := v0) rfl dX8_unlay_0 ?_
  obtain ⟨x1, g1, h⟩ := bsome h
  refine Ev_getI flX8_212 dX8_unlay_1 g1 ?_
  refine Ev_istore_n (loc2 := [some (.ref v0), some (.int x1)]) (Nat.le_of_ble_eq_true rfl) rfl rfl dX8_unlay_4 ?_
  refine Ev_aload_n (x := v0) rfl dX8_unlay_5 ?_
  refine Ev_iconst ic_0 dX8_unlay_6 ?_
  obtain ⟨M2, g2, h⟩ := bsome h
  refine Ev_put (v := .int 0) flX8_212 ⟨rfl, rfl⟩ (fun q hq => by cases hq; exact Or.inl rfl) dX8_unlay_7 g2 ?_
  refine Ev_iload_n (x := x1) rfl dX8_unlay_10 ?_
  cases h
  exact Ev_iret rfl rfl dX8_unlay_11 ⟨rfl, rfl⟩
/-! TinselRiverModel.fitsAt(III)Z -/
def fX8_fitsAt_c25 (M : mM) : Nat → Nat → Int32 → Int32 → Int32 → Int32 → Option Int32
  | 0, _, _, _, _, _ => none
  | n + 1, v0, v3, v4, v5, v6 =>
    if v6 < 0 then
      (if v4 = 0 ∨ v4 = 1 then some v4 else none)
    else
      (if v4 = 0 then
        (if v4 = 0 ∨ v4 = 1 then some v4 else none)
      else
        ((gR M v0 8 12).bind fun a5 =>
        (aI M false a5 (v3 + v6)).bind fun x6 =>
        if x6 = (v5 - v5 / 10 * 10) then
          (fX8_fitsAt_c25 M n v0 v3 1 (v5 / 10) (v6 + (-1)))
        else
          (fX8_fitsAt_c25 M n v0 v3 0 (v5 / 10) (v6 + (-1)))))
set_option maxRecDepth 20000 in
set_option maxHeartbeats 4000000 in
theorem rX8_fitsAt_c25 {E : mE} {M : mM} {x : Int32} : ∀ (n : Nat) (v0 : Nat) (v3 : Int32) (v4 : Int32) (v5 : Int32) (v6 : Int32), fX8_fitsAt_c25 M n v0 v3 v4 v5 v6 = some x → Ev mX8_fitsAt E 0 0 0 (some (.int x)) M 25 [some (.ref v0), none, none, some (.int v3), some (.int v4), some (.int v5), some (.int v6)] [] M 0 0 := by
  intro n
  induction n with
  | zero => intro v0 v3 v4 v5 v6 h; rw [fX8_fitsAt_c25.eq_1] at h; cases h
  | succ n ih =>
    intro v0 v3 v4 v5 v6 h
    rw [fX8_fitsAt_c25.eq_2] at h
    refine Ev_iload (x := v6) rfl dX8_fitsAt_25 ?_
    refine Ev_if_lt (tgt := 72) dX8_fitsAt_27 (by decide) (fun q1 => ?_) (fun q1 => ?_)
    · rw [if_pos q1] at h
      refine Ev_iload (x := v4) rfl dX8_fitsAt_72 ?_
      obtain ⟨b2, h⟩ := gsome h
      cases h
      exact Ev_iret rfl (mb01 b2) dX8_fitsAt_74 ⟨rfl, rfl⟩
    · rw [if_neg q1] at h
      refine Ev_iload (x := v4) rfl dX8_fitsAt_30 ?_
      refine Ev_if_eq (tgt := 72) dX8_fitsAt_32 (by decide) (fun q3 => ?_) (fun q3 => ?_)
      · rw [if_pos q3] at h
        refine Ev_iload (x := v4) rfl dX8_fitsAt_72 ?_
        obtain ⟨b4, h⟩ := gsome h
        cases h
        exact Ev_iret rfl (mb01 b4) dX8_fitsAt_74 ⟨rfl, rfl⟩
      · rw [if_neg q3] at h
        refine Ev_aload_n (x := v0) rfl dX8_fitsAt_35 ?_
        obtain ⟨a5, g5, h⟩ := bsome h
        refine Ev_getR flX8_28 dX8_fitsAt_36 g5 ?_
        refine Ev_iload_n (x := v3) rfl dX8_fitsAt_39 ?_
        refine Ev_iload (x := v6) rfl dX8_fitsAt_40 ?_
        refine Ev_iadd dX8_fitsAt_42 ?_
        obtain ⟨x6, g6, h⟩ := bsome h
        refine Ev_iald dX8_fitsAt_43 g6 ?_
        refine Ev_iload (x := v5) rfl dX8_fitsAt_44 ?_
        refine Ev_bipush bp_10 dX8_fitsAt_46 ?_
        refine Ev_irem (by decide) dX8_fitsAt_48 ?_
        refine Ev_icmp_ne (tgt := 56) dX8_fitsAt_49 (by decide) (fun q7 => ?_) (fun q7 => ?_)
        · rw [if_neg q7] at h
          refine Ev_iconst ic_0 dX8_fitsAt_56 ?_
          refine Ev_istore (loc2 := [some (.ref v0), none, none, some (.int v3), some (.int 0), some (.int v5), some (.int v6)]) (Nat.le_of_ble_eq_true rfl) rfl rfl dX8_fitsAt_57 ?_
          refine Ev_iload (x := v5) rfl dX8_fitsAt_59 ?_
          refine Ev_bipush bp_10 dX8_fitsAt_61 ?_
          refine Ev_idiv (by decide) dX8_fitsAt_63 ?_
          refine Ev_istore (loc2 := [some (.ref v0), none, none, some (.int v3), some (.int 0), some (.int (v5 / 10)), some (.int v6)]) (Nat.le_of_ble_eq_true rfl) rfl rfl dX8_fitsAt_64 ?_
          refine Ev_iinc (x := v6) (v := (v6 + (-1))) (loc2 := [some (.ref v0), none, none, some (.int v3), some (.int 0), some (.int (v5 / 10)), some (.int (v6 + (-1)))]) rfl (congrArg (v6 + ·) ic_m1) (Nat.le_of_ble_eq_true rfl) rfl rfl dX8_fitsAt_66 ?_
          refine Ev_goto (tgt := 25) dX8_fitsAt_69 (by decide) ?_
          exact ih v0 v3 0 (v5 / 10) (v6 + (-1)) h
        · rw [if_pos q7] at h
          refine Ev_iconst ic_1 dX8_fitsAt_52 ?_
          refine Ev_goto (tgt := 57) dX8_fitsAt_53 (by decide) ?_
          refine Ev_istore (loc2 := [some (.ref v0), none, none, some (.int v3), some (.int 1), some (.int v5), some (.int v6)]) (Nat.le_of_ble_eq_true rfl) rfl rfl dX8_fitsAt_57 ?_
          refine Ev_iload (x := v5) rfl dX8_fitsAt_59 ?_
          refine Ev_bipush bp_10 dX8_fitsAt_61 ?_
          refine Ev_idiv (by decide) dX8_fitsAt_63 ?_
          refine Ev_istore (loc2 := [some (.ref v0), none, none, some (.int v3), some (.int 1), some (.int (v5 / 10)), some (.int v6)]) (Nat.le_of_ble_eq_true rfl) rfl rfl dX8_fitsAt_64 ?_
          refine Ev_iinc (x := v6) (v := (v6 + (-1))) (loc2 := [some (.ref v0), none, none, some (.int v3), some (.int 1), some (.int (v5 / 10)), some (.int (v6 + (-1)))]) rfl (congrArg (v6 + ·) ic_m1) (Nat.le_of_ble_eq_true rfl) rfl rfl dX8_fitsAt_66 ?_
          refine Ev_goto (tgt := 25) dX8_fitsAt_69 (by decide) ?_
          exact ih v0 v3 1 (v5 / 10) (v6 + (-1)) h
def fX8_fitsAt (M : mM) (v0 : Nat) (v1 : Int32) (v2 : Int32) (v3 : Int32) : Option Int32 :=
    if isO M v0 8 = true then
      (gI M v0 8 11).bind fun x1 =>
      if x1 < (v3 + v2) then
        (fX8_fitsAt_c25 M FUEL v0 v3 0 v1 (v2 - 1))
      else
        (fX8_fitsAt_c25 M FUEL v0 v3 1 v1 (v2 - 1))
    else none
theorem oX8_fitsAt {M : mM} {v0 : Nat} {v1 : Int32} {v2 : Int32} {v3 : Int32} {y : Int32} (h : fX8_fitsAt M v0 v1 v2 v3 = some y) : isO M v0 8 = true := by
  unfold fX8_fitsAt at h
  exact (gsome h).1
set_option maxRecDepth 20000 in
set_option maxHeartbeats 4000000 in
theorem rX8_fitsAt {E : mE} {M : mM} {v0 : Nat} {v1 : Int32} {v2 : Int32} {v3 : Int32} {x : Int32} (h : fX8_fitsAt M v0 v1 v2 v3 = some x) : EvC mX8_fitsAt E 0 0 0 [.ref v0, .int v1, .int v2, .int v3] M (some (.int x)) M := by
  unfold fX8_fitsAt at h
  replace h := (gsome h).2
  refine EvC.of [some (.ref v0), some (.int v1), some (.int v2), some (.int v3), none, none, none] pnX8_fitsAt rfl (Nat.le_of_ble_eq_true rfl) ?_
  refine Ev_iload_n (x := v3) rfl dX8_fitsAt_0 ?_
  refine Ev_iload_n (x := v2) rfl dX8_fitsAt_1 ?_
  refine Ev_iadd dX8_fitsAt_2 ?_
  refine Ev_aload_n (x := v0) rfl dX8_fitsAt_3 ?_
  obtain ⟨x1, g1, h⟩ := bsome h
  refine Ev_getI flX8_146 dX8_fitsAt_4 g1 ?_
  refine Ev_icmp_gt (tgt := 14) dX8_fitsAt_7 (by decide) (fun q2 => ?_) (fun q2 => ?_)
  · rw [if_pos q2] at h
    refine Ev_iconst ic_0 dX8_fitsAt_14 ?_
    refine Ev_istore (loc2 := [some (.ref v0), some (.int v1), some (.int v2), some (.int v3), some (.int 0), none, none]) (Nat.le_of_ble_eq_true rfl) rfl rfl dX8_fitsAt_15 ?_
    refine Ev_iload_n (x := v1) rfl dX8_fitsAt_17 ?_
    refine Ev_istore (loc2 := [some (.ref v0), some (.int v1), some (.int v2), some (.int v3), some (.int 0), some (.int v1), none]) (Nat.le_of_ble_eq_true rfl) rfl rfl dX8_fitsAt_18 ?_
    refine Ev_iload_n (x := v2) rfl dX8_fitsAt_20 ?_
    refine Ev_iconst ic_1 dX8_fitsAt_21 ?_
    refine Ev_isub dX8_fitsAt_22 ?_
    refine Ev_istore (loc2 := [some (.ref v0), some (.int v1), some (.int v2), some (.int v3), some (.int 0), some (.int v1), some (.int (v2 - 1))]) (Nat.le_of_ble_eq_true rfl) rfl rfl dX8_fitsAt_23 ?_
    refine Ev_drop 1 (loc2 := [some (.ref v0), none, some (.int v2), some (.int v3), some (.int 0), some (.int v1), some (.int (v2 - 1))]) rfl ?_
    refine Ev_drop 2 (loc2 := [some (.ref v0), none, none, some (.int v3), some (.int 0), some (.int v1), some (.int (v2 - 1))]) rfl ?_
    exact rX8_fitsAt_c25 FUEL v0 v3 0 v1 (v2 - 1) h
  · rw [if_neg q2] at h
    refine Ev_iconst ic_1 dX8_fitsAt_10 ?_
    refine Ev_goto (tgt := 15) dX8_fitsAt_11 (by decide) ?_
    refine Ev_istore (loc2 := [some (.ref v0), some (.int v1), some (.int v2), some (.int v3), some (.int 1), none, none]) (Nat.le_of_ble_eq_true rfl) rfl rfl dX8_fitsAt_15 ?_
    refine Ev_iload_n (x := v1) rfl dX8_fitsAt_17 ?_
    refine Ev_istore (loc2 := [some (.ref v0), some (.int v1), some (.int v2), some (.int v3), some (.int 1), some (.int v1), none]) (Nat.le_of_ble_eq_true rfl) rfl rfl dX8_fitsAt_18 ?_
    refine Ev_iload_n (x := v2) rfl dX8_fitsAt_20 ?_
    refine Ev_iconst ic_1 dX8_fitsAt_21 ?_
    refine Ev_isub dX8_fitsAt_22 ?_
    refine Ev_istore (loc2 := [some (.ref v0), some (.int v1), some (.int v2), some (.int v3), some (.int 1), some (.int v1), some (.int (v2 - 1))]) (Nat.le_of_ble_eq_true rfl) rfl rfl dX8_fitsAt_23 ?_
    refine Ev_drop 1 (loc2 := [some (.ref v0), none, some (.int v2), some (.int v3), some (.int 1), some (.int v1), some (.int (v2 - 1))]) rfl ?_
    refine Ev_drop 2 (loc2 := [some (.ref v0), none, none, some (.int v3), some (.int 1), some (.int v1), some (.int (v2 - 1))]) rfl ?_
    exact rX8_fitsAt_c25 FUEL v0 v3 1 v1 (v2 - 1) h
/-! TinselRiverModel.mayBeLaid(II)Z -/
def fX8_mayBeLaid_c5 (M : mM) : Nat → Nat → Int32 → Int32 → Int32 → Int32 → Option Int32
  | 0, _, _, _, _, _ => none
  | n + 1, v0, v1, v2, v3, v4 =>
    (gI M v0 8 18).bind fun x1 =>
    if x1 ≤ v4 then
      (if v3 = 0 ∨ v3 = 1 then some v3 else none)
    else
      (if v3 = 0 then
        (fX8_mayBeLaid_c5 M n v0 v1 v2 0 (v4 + 1))
      else
        ((gR M v0 8 19).bind fun a5 =>
        (aI M false a5 v4).bind fun x6 =>
        (fX8_fitsAt M v0 v1 v2 x6).bind fun x8 =>
        (gR M v0 8 20).bind fun a9 =>
        (aI M false a9 v4).bind fun x10 =>
        if x10 = 1 then
          (if x8 = 1 then
            (fX8_mayBeLaid_c5 M n v0 v1 v2 1 (v4 + 1))
          else
            (fX8_mayBeLaid_c5 M n v0 v1 v2 0 (v4 + 1)))
        else
          (if x8 = 0 then
            (fX8_mayBeLaid_c5 M n v0 v1 v2 1 (v4 + 1))
          else
            (fX8_mayBeLaid_c5 M n v0 v1 v2 0 (v4 + 1)))))
set_option maxRecDepth 20000 in
set_option maxHeartbeats 4000000 in
theorem rX8_mayBeLaid_c5 {E : mE} {M : mM} {x : Int32} : ∀ (n : Nat) (v0 : Nat) (v1 : Int32) (v2 : Int32) (v3 : Int32) (v4 : Int32), fX8_mayBeLaid_c5 M n v0 v1 v2 v3 v4 = some x → Ev mX8_mayBeLaid E 1 0 0 (some (.int x)) M 5 [some (.ref v0), some (.int v1), some (.int v2), some (.int v3), some (.int v4)] [] M 0 0 := by
  intro n
  induction n with
  | zero => intro v0 v1 v2 v3 v4 h; rw [fX8_mayBeLaid_c5.eq_1] at h; cases h
  | succ n ih =>
    intro v0 v1 v2 v3 v4 h
    rw [fX8_mayBeLaid_c5.eq_2] at h
    refine Ev_iload (x := v4) rfl dX8_mayBeLaid_5 ?_
    refine Ev_aload_n (x := v0) rfl dX8_mayBeLaid_7 ?_
    obtain ⟨x1, g1, h⟩ := bsome h
    refine Ev_getI flX8_212 dX8_mayBeLaid_8 g1 ?_
    refine Ev_icmp_ge (tgt := 62) dX8_mayBeLaid_11 (by decide) (fun q2 => ?_) (fun q2 => ?_)
    · rw [if_pos q2] at h
      refine Ev_iload_n (x := v3) rfl dX8_mayBeLaid_62 ?_
      obtain ⟨b3, h⟩ := gsome h
      cases h
      exact Ev_iret rfl (mb01 b3) dX8_mayBeLaid_63 ⟨rfl, rfl⟩
    · rw [if_neg q2] at h
      refine Ev_iload_n (x := v3) rfl dX8_mayBeLaid_14 ?_
      refine Ev_if_eq (tgt := 54) dX8_mayBeLaid_15 (by decide) (fun q4 => ?_) (fun q4 => ?_)
      · rw [if_pos q4] at h
        refine Ev_iconst ic_0 dX8_mayBeLaid_54 ?_
        refine Ev_istore_n (loc2 := [some (.ref v0), some (.int v1), some (.int v2), some (.int 0), some (.int v4)]) (Nat.le_of_ble_eq_true rfl) rfl rfl dX8_mayBeLaid_55 ?_
        refine Ev_iinc (x := v4) (v := (v4 + 1)) (loc2 := [some (.ref v0), some (.int v1), some (.int v2), some (.int 0), some (.int (v4 + 1))]) rfl (congrArg (v4 + ·) ic_1) (Nat.le_of_ble_eq_true rfl) rfl rfl dX8_mayBeLaid_56 ?_
        refine Ev_goto (tgt := 5) dX8_mayBeLaid_59 (by decide) ?_
        exact ih v0 v1 v2 0 (v4 + 1) h
      · rw [if_neg q4] at h
        refine Ev_aload_n (x := v0) rfl dX8_mayBeLaid_18 ?_
        refine Ev_iload_n (x := v1) rfl dX8_mayBeLaid_19 ?_
        refine Ev_iload_n (x := v2) rfl dX8_mayBeLaid_20 ?_
        refine Ev_aload_n (x := v0) rfl dX8_mayBeLaid_21 ?_
        obtain ⟨a5, g5, h⟩ := bsome h
        refine Ev_getR flX8_37 dX8_mayBeLaid_22 g5 ?_
        refine Ev_iload (x := v4) rfl dX8_mayBeLaid_25 ?_
        obtain ⟨x6, g6, h⟩ := bsome h
        refine Ev_iald dX8_mayBeLaid_27 g6 ?_
        obtain ⟨x8, g7, h⟩ := bsome h
        refine Ev_callVi (np := 3) (vs := [.int v1, .int v2, .int x6]) (rest := []) mdX8_fitsAt lkX8_215 ⟨_, rfl, rfl⟩ (oX8_fitsAt g7) (rX8_fitsAt g7) rfl rfl (Nat.le_of_ble_eq_true rfl) (Nat.le_of_ble_eq_true rfl) dX8_mayBeLaid_28 ?_
        refine Ev_aload_n (x := v0) rfl dX8_mayBeLaid_31 ?_
        obtain ⟨a9, g9, h⟩ := bsome h
        refine Ev_getR flX8_40 dX8_mayBeLaid_32 g9 ?_
        refine Ev_iload (x := v4) rfl dX8_mayBeLaid_35 ?_
        obtain ⟨x10, g10, h⟩ := bsome h
        refine Ev_iald dX8_mayBeLaid_37 g10 ?_
        refine Ev_iconst ic_1 dX8_mayBeLaid_38 ?_
        refine Ev_icmp_ne (tgt := 46) dX8_mayBeLaid_39 (by decide) (fun q11 => ?_) (fun q11 => ?_)
        · rw [if_neg q11] at h
          refine Ev_iconst ic_0 dX8_mayBeLaid_46 ?_
          refine Ev_icmp_ne (tgt := 54) dX8_mayBeLaid_47 (by decide) (fun q12 => ?_) (fun q12 => ?_)
          · rw [if_neg q12] at h
            refine Ev_iconst ic_0 dX8_mayBeLaid_54 ?_
            refine Ev_istore_n (loc2 := [some (.ref v0), some (.int v1), some (.int v2), some (.int 0), some (.int v4)]) (Nat.le_of_ble_eq_true rfl) rfl rfl dX8_mayBeLaid_55 ?_
            refine Ev_iinc (x := v4) (v := (v4 + 1)) (loc2 := [some (.ref v0), some (.int v1), some (.int v2), some (.int 0), some (.int (v4 + 1))]) rfl (congrArg (v4 + ·) ic_1) (Nat.le_of_ble_eq_true rfl) rfl rfl dX8_mayBeLaid_56 ?_
            refine Ev_goto (tgt := 5) dX8_mayBeLaid_59 (by decide) ?_
            exact ih v0 v1 v2 0 (v4 + 1) h
          · rw [if_pos q12] at h
            refine Ev_iconst ic_1 dX8_mayBeLaid_50 ?_
            refine Ev_goto (tgt := 55) dX8_mayBeLaid_51 (by decide) ?_
            refine Ev_istore_n (loc2 := [some (.ref v0), some (.int v1), some (.int v2), some (.int 1), some (.int v4)]) (Nat.le_of_ble_eq_true rfl) rfl rfl dX8_mayBeLaid_55 ?_
            refine Ev_iinc (x := v4) (v := (v4 + 1)) (loc2 := [some (.ref v0), some (.int v1), some (.int v2), some (.int 1), some (.int (v4 + 1))]) rfl (congrArg (v4 + ·) ic_1) (Nat.le_of_ble_eq_true rfl) rfl rfl dX8_mayBeLaid_56 ?_
            refine Ev_goto (tgt := 5) dX8_mayBeLaid_59 (by decide) ?_
            exact ih v0 v1 v2 1 (v4 + 1) h
        · rw [if_pos q11] at h
          refine Ev_iconst ic_1 dX8_mayBeLaid_42 ?_
          refine Ev_goto (tgt := 47) dX8_mayBeLaid_43 (by decide) ?_
          refine Ev_icmp_ne (tgt := 54) dX8_mayBeLaid_47 (by decide) (fun q13 => ?_) (fun q13 => ?_)
          · rw [if_neg q13] at h
            refine Ev_iconst ic_0 dX8_mayBeLaid_54 ?_
            refine Ev_istore_n (loc2 := [some (.ref v0), some (.int v1), some (.int v2), some (.int 0), some (.int v4)]) (Nat.le_of_ble_eq_true rfl) rfl rfl dX8_mayBeLaid_55 ?_
            refine Ev_iinc (x := v4) (v := (v4 + 1)) (loc2 := [some (.ref v0), some (.int v1), some (.int v2), some (.int 0), some (.int (v4 + 1))]) rfl (congrArg (v4 + ·) ic_1) (Nat.le_of_ble_eq_true rfl) rfl rfl dX8_mayBeLaid_56 ?_
            refine Ev_goto (tgt := 5) dX8_mayBeLaid_59 (by decide) ?_
            exact ih v0 v1 v2 0 (v4 + 1) h
          · rw [if_pos q13] at h
            refine Ev_iconst ic_1 dX8_mayBeLaid_50 ?_
            refine Ev_goto (tgt := 55) dX8_mayBeLaid_51 (by decide) ?_
            refine Ev_istore_n (loc2 := [some (.ref v0), some (.int v1), some (.int v2), some (.int 1), some (.int v4)]) (Nat.le_of_ble_eq_true rfl) rfl rfl dX8_mayBeLaid_55 ?_
            refine Ev_iinc (x := v4) (v := (v4 + 1)) (loc2 := [some (.ref v0), some (.int v1), some (.int v2), some (.int 1), some (.int (v4 + 1))]) rfl (congrArg (v4 + ·) ic_1) (Nat.le_of_ble_eq_true rfl) rfl rfl dX8_mayBeLaid_56 ?_
            refine Ev_goto (tgt := 5) dX8_mayBeLaid_59 (by decide) ?_
            exact ih v0 v1 v2 1 (v4 + 1) h
def fX8_mayBeLaid (M : mM) (v0 : Nat) (v1 : Int32) (v2 : Int32) : Option Int32 :=
    if isO M v0 8 = true then
      fX8_mayBeLaid_c5 M FUEL v0 v1 v2 1 0
    else none
theorem oX8_mayBeLaid {M : mM} {v0 : Nat} {v1 : Int32} {v2 : Int32} {y : Int32} (h : fX8_mayBeLaid M v0 v1 v2 = some y) : isO M v0 8 = true := by
  unfold fX8_mayBeLaid at h
  exact (gsome h).1
set_option maxRecDepth 20000 in
set_option maxHeartbeats 4000000 in
theorem rX8_mayBeLaid {E : mE} {M : mM} {v0 : Nat} {v1 : Int32} {v2 : Int32} {x : Int32} (h : fX8_mayBeLaid M v0 v1 v2 = some x) : EvC mX8_mayBeLaid E 1 0 0 [.ref v0, .int v1, .int v2] M (some (.int x)) M := by
  unfold fX8_mayBeLaid at h
  replace h := (gsome h).2
  refine EvC.of [some (.ref v0), some (.int v1), some (.int v2), none, none] pnX8_mayBeLaid rfl (Nat.le_of_ble_eq_true rfl) ?_
  refine Ev_iconst ic_1 dX8_mayBeLaid_0 ?_
  refine Ev_istore_n (loc2 := [some (.ref v0), some (.int v1), some (.int v2), some (.int 1), none]) (Nat.le_of_ble_eq_true rfl) rfl rfl dX8_mayBeLaid_1 ?_
  refine Ev_iconst ic_0 dX8_mayBeLaid_2 ?_
  refine Ev_istore (loc2 := [some (.ref v0), some (.int v1), some (.int v2), some (.int 1), some (.int 0)]) (Nat.le_of_ble_eq_true rfl) rfl rfl dX8_mayBeLaid_3 ?_
  exact rX8_mayBeLaid_c5 FUEL v0 v1 v2 1 0 h
/-! TinselRiverModel.areBends(I)Z -/
def fX8_areBends_c4 (M : mM) : Nat → Int32 → Int32 → Option Int32
  | 0, _, _ => none
  | n + 1, v1, v2 =>
    if v2 ≤ 0 then
      (if v1 = 0 ∨ v1 = 1 then some v1 else none)
    else
      (if v1 = 0 then
        (fX8_areBends_c4 M n 0 (v2 / 10))
      else
        ((fX8_in M (Int32.toInt64 (v2 - v2 / 10 * 10)) (1 : Int64) (4 : Int64)).bind fun x5 =>
        if x5 = 0 then
          (fX8_areBends_c4 M n 0 (v2 / 10))
        else
          (fX8_areBends_c4 M n 1 (v2 / 10))))
set_option maxRecDepth 20000 in
set_option maxHeartbeats 4000000 in
theorem rX8_areBends_c4 {E : mE} {M : mM} {x : Int32} : ∀ (n : Nat) (v1 : Int32) (v2 : Int32), fX8_areBends_c4 M n v1 v2 = some x → Ev mX8_areBends E 1 0 0 (some (.int x)) M 4 [none, some (.int v1), some (.int v2)] [] M 0 0 := by
  intro n
  induction n with
  | zero => intro v1 v2 h; rw [fX8_areBends_c4.eq_1] at h; cases h
  | succ n ih =>
    intro v1 v2 h
    rw [fX8_areBends_c4.eq_2] at h
    refine Ev_iload_n (x := v2) rfl dX8_areBends_4 ?_
    refine Ev_if_le (tgt := 41) dX8_areBends_5 (by decide) (fun q1 => ?_) (fun q1 => ?_)
    · rw [if_pos q1] at h
      refine Ev_iload_n (x := v1) rfl dX8_areBends_41 ?_
      obtain ⟨b2, h⟩ := gsome h
      cases h
      exact Ev_iret rfl (mb01 b2) dX8_areBends_42 ⟨rfl, rfl⟩
    · rw [if_neg q1] at h
      refine Ev_iload_n (x := v1) rfl dX8_areBends_8 ?_
      refine Ev_if_eq (tgt := 31) dX8_areBends_9 (by decide) (fun q3 => ?_) (fun q3 => ?_)
      · rw [if_pos q3] at h
        refine Ev_iconst ic_0 dX8_areBends_31 ?_
        refine Ev_istore_n (loc2 := [none, some (.int 0), some (.int v2)]) (Nat.le_of_ble_eq_true rfl) rfl rfl dX8_areBends_32 ?_
        refine Ev_iload_n (x := v2) rfl dX8_areBends_33 ?_
        refine Ev_bipush bp_10 dX8_areBends_34 ?_
        refine Ev_idiv (by decide) dX8_areBends_36 ?_
        refine Ev_istore_n (loc2 := [none, some (.int 0), some (.int (v2 / 10))]) (Nat.le_of_ble_eq_true rfl) rfl rfl dX8_areBends_37 ?_
        refine Ev_goto (tgt := 4) dX8_areBends_38 (by decide) ?_
        exact ih 0 (v2 / 10) h
      · rw [if_neg q3] at h
        refine Ev_iload_n (x := v2) rfl dX8_areBends_12 ?_
        refine Ev_bipush bp_10 dX8_areBends_13 ?_
        refine Ev_irem (by decide) dX8_areBends_15 ?_
        refine Ev_i2l dX8_areBends_16 ?_
        refine Ev_lconst (v := 1) (by decide) dX8_areBends_17 ?_
        refine Ev_ldc2 csX8_144 dX8_areBends_18 ?_
        obtain ⟨x5, g4, h⟩ := bsome h
        refine Ev_callSi (np := 3) (vs := [.long (Int32.toInt64 (v2 - v2 / 10 * 10)), .long (1 : Int64), .long (4 : Int64)]) (rest := []) mdX8_in lkX8_52 (rX8_in g4) rfl rfl (Nat.le_of_ble_eq_true rfl) (Nat.le_of_ble_eq_true rfl) dX8_areBends_21 ?_
        refine Ev_if_eq (tgt := 31) dX8_areBends_24 (by decide) (fun q6 => ?_) (fun q6 => ?_)
        · rw [if_pos q6] at h
          refine Ev_iconst ic_0 dX8_areBends_31 ?_
          refine Ev_istore_n (loc2 := [none, some (.int 0), some (.int v2)]) (Nat.le_of_ble_eq_true rfl) rfl rfl dX8_areBends_32 ?_
          refine Ev_iload_n (x := v2) rfl dX8_areBends_33 ?_
          refine Ev_bipush bp_10 dX8_areBends_34 ?_
          refine Ev_idiv (by decide) dX8_areBends_36 ?_
          refine Ev_istore_n (loc2 := [none, some (.int 0), some (.int (v2 / 10))]) (Nat.le_of_ble_eq_true rfl) rfl rfl dX8_areBends_37 ?_
          refine Ev_goto (tgt := 4) dX8_areBends_38 (by decide) ?_
          exact ih 0 (v2 / 10) h
        · rw [if_neg q6] at h
          refine Ev_iconst ic_1 dX8_areBends_27 ?_
          refine Ev_goto (tgt := 32) dX8_areBends_28 (by decide) ?_
          refine Ev_istore_n (loc2 := [none, some (.int 1), some (.int v2)]) (Nat.le_of_ble_eq_true rfl) rfl rfl dX8_areBends_32 ?_
          refine Ev_iload_n (x := v2) rfl dX8_areBends_33 ?_
          refine Ev_bipush bp_10 dX8_areBends_34 ?_
          refine Ev_idiv (by decide) dX8_areBends_36 ?_
          refine Ev_istore_n (loc2 := [none, some (.int 1), some (.int (v2 / 10))]) (Nat.le_of_ble_eq_true rfl) rfl rfl dX8_areBends_37 ?_
          refine Ev_goto (tgt := 4) dX8_areBends_38 (by decide) ?_
          exact ih 1 (v2 / 10) h
def fX8_areBends (M : mM) (v0 : Int32) : Option Int32 :=
    fX8_areBends_c4 M FUEL 1 v0
set_option maxRecDepth 20000 in
set_option maxHeartbeats 4000000 in
theorem rX8_areBends {E : mE} {M : mM} {v0 : Int32} {x : Int32} (h : fX8_areBends M v0 = some x) : EvC mX8_areBends E 1 0 0 [.int v0] M (some (.int x)) M := by
  unfold fX8_areBends at h
  refine EvC.of [some (.int v0), none, none] pnX8_areBends rfl (Nat.le_of_ble_eq_true rfl) ?_
  refine Ev_iconst ic_1 dX8_areBends_0 ?_
  refine Ev_istore_n (loc2 := [some (.int v0), some (.int 1), none]) (Nat.le_of_ble_eq_true rfl) rfl rfl dX8_areBends_1 ?_
  refine Ev_iload_n (x := v0) rfl dX8_areBends_2 ?_
  refine Ev_istore_n (loc2 := [some (.int v0), some (.int 1), some (.int v0)]) (Nat.le_of_ble_eq_true rfl) rfl rfl dX8_areBends_3 ?_
  refine Ev_drop 0 (loc2 := [none, some (.int 1), some (.int v0)]) rfl ?_
  exact rX8_areBends_c4 FUEL 1 v0 h
