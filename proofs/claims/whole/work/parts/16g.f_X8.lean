/-! printed by wip/whole/gen.py -/
/-! TinselRiverModel.flowOn(I)V -/
def fX8_flowOn_c48 : Nat → mM → Nat → Int32 → Int32 → Int32 → Int32 → Option mM
  | 0, _, _, _, _, _, _ => none
  | n + 1, M, v0, v1, v2, v3, v4 =>
    if v2 ≤ v4 then
      ((gI M v0 8 17).bind fun x2 =>
      (sV M v0 8 17 (.int (x2 + (v2 - v3)))).bind fun M3 =>
      some M3)
    else
      ((gR M v0 8 16).bind fun a4 =>
      (gI M v0 8 17).bind fun x5 =>
      (fX8_bendAt M v0 0 v1 v4).bind fun x7 =>
      (aS M false a4 ((x5 + v4) - v3) x7).bind fun M8 =>
      fX8_flowOn_c48 n M8 v0 v1 v2 v3 (v4 + 1))
set_option maxRecDepth 20000 in
set_option maxHeartbeats 4000000 in
theorem rX8_flowOn_c48 {E : mE} {Mf : mM} : ∀ (n : Nat) (M : mM) (v0 : Nat) (v1 : Int32) (v2 : Int32) (v3 : Int32) (v4 : Int32), fX8_flowOn_c48 n M v0 v1 v2 v3 v4 = some Mf → Ev mX8_flowOn E 2 0 0 none Mf 48 [some (.ref v0), some (.int v1), some (.int v2), some (.int v3), some (.int v4)] [] M 0 0 := by
  intro n
  induction n with
  | zero => intro M v0 v1 v2 v3 v4 h; rw [fX8_flowOn_c48.eq_1] at h; cases h
  | succ n ih =>
    intro M v0 v1 v2 v3 v4 h
    rw [fX8_flowOn_c48.eq_2] at h
    refine Ev_iload (x := v4) rfl dX8_flowOn_48 ?_
    refine Ev_iload_n (x := v2) rfl dX8_flowOn_50 ?_
    refine Ev_icmp_ge (tgt := 82) dX8_flowOn_51 (by decide) (fun q1 => ?_) (fun q1 => ?_)
    · rw [if_pos q1] at h
      refine Ev_aload_n (x := v0) rfl dX8_flowOn_82 ?_
      refine Ev_dup rfl dX8_flowOn_83 ?_
      obtain ⟨x2, g2, h⟩ := bsome h
      refine Ev_getI flX8_183 dX8_flowOn_84 g2 ?_
      refine Ev_iload_n (x := v2) rfl dX8_flowOn_87 ?_
      refine Ev_iload_n (x := v3) rfl dX8_flowOn_88 ?_
      refine Ev_isub dX8_flowOn_89 ?_
      refine Ev_iadd dX8_flowOn_90 ?_
      obtain ⟨M3, g3, h⟩ := bsome h
      refine Ev_put (v := .int (x2 + (v2 - v3))) flX8_183 ⟨rfl, rfl⟩ (fun q hq => by cases hq; exact Or.inl rfl) dX8_flowOn_91 g3 ?_
      cases h
      exact Ev_vret rfl dX8_flowOn_94 ⟨rfl, rfl⟩
    · rw [if_neg q1] at h
      refine Ev_aload_n (x := v0) rfl dX8_flowOn_54 ?_
      obtain ⟨a4, g4, h⟩ := bsome h
      refine Ev_getR flX8_34 dX8_flowOn_55 g4 ?_
      refine Ev_aload_n (x := v0) rfl dX8_flowOn_58 ?_
      obtain ⟨x5, g5, h⟩ := bsome h
      refine Ev_getI flX8_183 dX8_flowOn_59 g5 ?_
      refine Ev_iload (x := v4) rfl dX8_flowOn_62 ?_
      refine Ev_iadd dX8_flowOn_64 ?_
      refine Ev_iload_n (x := v3) rfl dX8_flowOn_65 ?_
      refine Ev_isub dX8_flowOn_66 ?_
      refine Ev_aload_n (x := v0) rfl dX8_flowOn_67 ?_
      refine Ev_iconst ic_0 dX8_flowOn_68 ?_
      refine Ev_iload_n (x := v1) rfl dX8_flowOn_69 ?_
      refine Ev_iload (x := v4) rfl dX8_flowOn_70 ?_
      obtain ⟨x7, g6, h⟩ := bsome h
      refine Ev_callVi (np := 3) (vs := [.int 0, .int v1, .int v4]) (rest := [.int ((x5 + v4) - v3), .ref a4]) mdX8_bendAt lkX8_122 ⟨_, rfl, rfl⟩ (oX8_bendAt g6) (rX8_bendAt g6) rfl rfl (Nat.le_of_ble_eq_true rfl) (Nat.le_of_ble_eq_true rfl) dX8_flowOn_72 ?_
      obtain ⟨M8, g8, h⟩ := bsome h
      refine Ev_iast dX8_flowOn_75 g8 ?_
      refine Ev_iinc (x := v4) (v := (v4 + 1)) (loc2 := [some (.ref v0), some (.int v1), some (.int v2), some (.int v3), some (.int (v4 + 1))]) rfl (congrArg (v4 + ·) ic_1) (Nat.le_of_ble_eq_true rfl) rfl rfl dX8_flowOn_76 ?_
      refine Ev_goto (tgt := 48) dX8_flowOn_79 (by decide) ?_
      exact ih M8 v0 v1 v2 v3 (v4 + 1) h
def fX8_flowOn_c26 : Nat → mM → Nat → Int32 → Int32 → Int32 → Option mM
  | 0, _, _, _, _, _ => none
  | n + 1, M, v0, v1, v2, v3 =>
    if v3 ≤ 0 then
      (fX8_flowOn_c48 FUEL M v0 v1 v2 v3 v3)
    else
      ((fX8_goesOn M v0 v1 v3).bind fun x3 =>
      if x3 = 0 then
        (fX8_flowOn_c26 n M v0 v1 v2 (v3 + (-1)))
      else
        (fX8_flowOn_c48 FUEL M v0 v1 v2 v3 v3))
set_option maxRecDepth 20000 in
set_option maxHeartbeats 4000000 in
theorem rX8_flowOn_c26 {E : mE} {Mf : mM} : ∀ (n : Nat) (M : mM) (v0 : Nat) (v1 : Int32) (v2 : Int32) (v3 : Int32), fX8_flowOn_c26 n M v0 v1 v2 v3 = some Mf → Ev mX8_flowOn E 2 0 0 none Mf 26 [some (.ref v0), some (.int v1), some (.int v2), some (.int v3), none] [] M 0 0 := by
  intro n
  induction n with
  | zero => intro M v0 v1 v2 v3 h; rw [fX8_flowOn_c26.eq_1] at h; cases h
  | succ n ih =>
    intro M v0 v1 v2 v3 h
    rw [fX8_flowOn_c26.eq_2] at h
    refine Ev_iload_n (x := v3) rfl dX8_flowOn_26 ?_
    refine Ev_if_le (tgt := 45) dX8_flowOn_27 (by decide) (fun q1 => ?_) (fun q1 => ?_)
    · rw [if_pos q1] at h
      refine Ev_iload_n (x := v3) rfl dX8_flowOn_45 ?_
      refine Ev_istore (loc2 := [some (.ref v0), some (.int v1), some (.int v2), some (.int v3), some (.int v3)]) (Nat.le_of_ble_eq_true rfl) rfl rfl dX8_flowOn_46 ?_
      exact rX8_flowOn_c48 FUEL M v0 v1 v2 v3 v3 h
    · rw [if_neg q1] at h
      refine Ev_aload_n (x := v0) rfl dX8_flowOn_30 ?_
      refine Ev_iload_n (x := v1) rfl dX8_flowOn_31 ?_
      refine Ev_iload_n (x := v3) rfl dX8_flowOn_32 ?_
      obtain ⟨x3, g2, h⟩ := bsome h
      refine Ev_callVi (np := 2) (vs := [.int v1, .int v3]) (rest := []) mdX8_goesOn lkX8_186 ⟨_, rfl, rfl⟩ (oX8_goesOn g2) (rX8_goesOn g2) rfl rfl (Nat.le_of_ble_eq_true rfl) (Nat.le_of_ble_eq_true rfl) dX8_flowOn_33 ?_
      refine Ev_if_ne (tgt := 45) dX8_flowOn_36 (by decide) (fun q4 => ?_) (fun q4 => ?_)
      · rw [if_neg q4] at h
        refine Ev_iload_n (x := v3) rfl dX8_flowOn_45 ?_
        refine Ev_istore (loc2 := [some (.ref v0), some (.int v1), some (.int v2), some (.int v3), some (.int v3)]) (Nat.le_of_ble_eq_true rfl) rfl rfl dX8_flowOn_46 ?_
        exact rX8_flowOn_c48 FUEL M v0 v1 v2 v3 v3 h
      · rw [if_pos q4] at h
        refine Ev_iinc (x := v3) (v := (v3 + (-1))) (loc2 := [some (.ref v0), some (.int v1), some (.int v2), some (.int (v3 + (-1))), none]) rfl (congrArg (v3 + ·) ic_m1) (Nat.le_of_ble_eq_true rfl) rfl rfl dX8_flowOn_39 ?_
        refine Ev_goto (tgt := 26) dX8_flowOn_42 (by decide) ?_
        exact ih M v0 v1 v2 (v3 + (-1)) h
def fX8_flowOn (M : mM) (v0 : Nat) (v1 : Int32) : Option mM :=
    if isO M v0 8 = true then
      (gR M v0 8 2).bind fun a1 =>
      (aI M false a1 (4 + v1)).bind fun x2 =>
      (gI M v0 8 17).bind fun x3 =>
      if x2 ≤ x3 then
        (fX8_flowOn_c26 FUEL M v0 v1 x2 x2)
      else
        ((gI M v0 8 17).bind fun x5 =>
        fX8_flowOn_c26 FUEL M v0 v1 x2 x5)
    else none
theorem oX8_flowOn {M : mM} {v0 : Nat} {v1 : Int32} {y : mM} (h : fX8_flowOn M v0 v1 = some y) : isO M v0 8 = true := by
  unfold fX8_flowOn at h
  exact (gsome h).1
set_option maxRecDepth 20000 in
set_option maxHeartbeats 4000000 in
theorem rX8_flowOn {E : mE} {M : mM} {v0 : Nat} {v1 : Int32} {Mf : mM} (h : fX8_flowOn M v0 v1 = some Mf) : EvC mX8_flowOn E 2 0 0 [.ref v0, .int v1] M none Mf := by
  unfold fX8_flowOn at h
  replace h := (gsome h).2
  refine EvC.of [some (.ref v0), some (.int v1), none, none, none] pnX8_flowOn rfl (Nat.le_of_ble_eq_true rfl) ?_
  refine Ev_aload_n (x := v0) rfl dX8_flowOn_0 ?_
  obtain ⟨a1, g1, h⟩ := bsome h
  refine Ev_getR flX8_13 dX8_flowOn_1 g1 ?_
  refine Ev_iconst ic_4 dX8_flowOn_4 ?_
  refine Ev_iload_n (x := v1) rfl dX8_flowOn_5 ?_
  refine Ev_iadd dX8_flowOn_6 ?_
  obtain ⟨x2, g2, h⟩ := bsome h
  refine Ev_iald dX8_flowOn_7 g2 ?_
  refine Ev_istore_n (loc2 := [some (.ref v0), some (.int v1), some (.int x2), none, none]) (Nat.le_of_ble_eq_true rfl) rfl rfl dX8_flowOn_8 ?_
  refine Ev_aload_n (x := v0) rfl dX8_flowOn_9 ?_
  obtain ⟨x3, g3, h⟩ := bsome h
  refine Ev_getI flX8_183 dX8_flowOn_10 g3 ?_
  refine Ev_iload_n (x := x2) rfl dX8_flowOn_13 ?_
  refine Ev_icmp_ge (tgt := 24) dX8_flowOn_14 (by decide) (fun q4 => ?_) (fun q4 => ?_)
  · rw [if_pos q4] at h
    refine Ev_iload_n (x := x2) rfl dX8_flowOn_24 ?_
    refine Ev_istore_n (loc2 := [some (.ref v0), some (.int v1), some (.int x2), some (.int x2), none]) (Nat.le_of_ble_eq_true rfl) rfl rfl dX8_flowOn_25 ?_
    exact rX8_flowOn_c26 FUEL M v0 v1 x2 x2 h
  · rw [if_neg q4] at h
    refine Ev_aload_n (x := v0) rfl dX8_flowOn_17 ?_
    obtain ⟨x5, g5, h⟩ := bsome h
    refine Ev_getI flX8_183 dX8_flowOn_18 g5 ?_
    refine Ev_goto (tgt := 25) dX8_flowOn_21 (by decide) ?_
    refine Ev_istore_n (loc2 := [some (.ref v0), some (.int v1), some (.int x2), some (.int x5), none]) (Nat.le_of_ble_eq_true rfl) rfl rfl dX8_flowOn_25 ?_
    exact rX8_flowOn_c26 FUEL M v0 v1 x2 x5 h
/-! TinselRiverModel.riverBy(II)I -/
def fX8_riverBy_c35 : Nat → mM → Nat → Int32 → Int32 → Int32 → Int32 → Int32 → Option (Int32 × mM)
  | 0, _, _, _, _, _, _, _ => none
  | n + 1, M, v0, v1, v2, v3, v4, v5 =>
    if v2 ≤ v5 then
      ((gI M v0 8 17).bind fun x2 =>
      some (x2, M))
    else
      (if v4 = 0 then none else
      (fX8_isThere M v0 0 (((v1 / v4) - (v1 / v4) / 10 * 10) - 1)).bind fun x5 =>
      if x5 = 0 then
        (some ((-9), M))
      else
        ((fX8_has M v3 (((v1 / v4) - (v1 / v4) / 10 * 10) - 1)).bind fun x8 =>
        if x8 = 0 then
          ((some (v3 ||| (1 <<< ((((v1 / v4) - (v1 / v4) / 10 * 10) - 1) &&& 31)))).bind fun x10 =>
          (fX8_flowOn M v0 (((v1 / v4) - (v1 / v4) / 10 * 10) - 1)).bind fun M12 =>
          fX8_riverBy_c35 n M12 v0 v1 v2 x10 (v4 / 10) (v5 + 1))
        else
          (some ((-9), M))))
set_option maxRecDepth 20000 in
set_option maxHeartbeats 4000000 in
theorem rX8_riverBy_c35 {E : mE} {x : Int32} {Mf : mM} : ∀ (n : Nat) (M : mM) (v0 : Nat) (v1 : Int32) (v2 : Int32) (v3 : Int32) (v4 : Int32) (v5 : Int32), fX8_riverBy_c35 n M v0 v1 v2 v3 v4 v5 = some (x, Mf) → Ev mX8_riverBy E 3 0 0 (some (.int x)) Mf 35 [some (.ref v0), some (.int v1), some (.int v2), some (.int v3), some (.int v4), some (.int v5), none] [] M 0 0 := by
  intro n
  induction n with
  | zero => intro M v0 v1 v2 v3 v4 v5 h; rw [fX8_riverBy_c35.eq_1] at h; cases h
  | succ n ih =>
    intro M v0 v1 v2 v3 v4 v5 h
    rw [fX8_riverBy_c35.eq_2] at h
    refine Ev_iload (x := v5) rfl dX8_riverBy_35 ?_
    refine Ev_iload_n (x := v2) rfl dX8_riverBy_37 ?_
    refine Ev_icmp_ge (tgt := 100) dX8_riverBy_38 (by decide) (fun q1 => ?_) (fun q1 => ?_)
    · rw [if_pos q1] at h
      refine Ev_aload_n (x := v0) rfl dX8_riverBy_100 ?_
      obtain ⟨x2, g2, h⟩ := bsome h
      refine Ev_getI flX8_183 dX8_riverBy_101 g2 ?_
      cases h
      exact Ev_iret rfl rfl dX8_riverBy_104 ⟨rfl, rfl⟩
    · rw [if_neg q1] at h
      refine Ev_iload_n (x := v1) rfl dX8_riverBy_41 ?_
      refine Ev_iload (x := v4) rfl dX8_riverBy_42 ?_
      obtain ⟨z3, h⟩ := nsome h
      refine Ev_idiv z3 dX8_riverBy_44 ?_
      refine Ev_bipush bp_10 dX8_riverBy_45 ?_
      refine Ev_irem (by decide) dX8_riverBy_47 ?_
      refine Ev_iconst ic_1 dX8_riverBy_48 ?_
      refine Ev_isub dX8_riverBy_49 ?_
      refine Ev_istore (loc2 := [some (.ref v0), some (.int v1), some (.int v2), some (.int v3), some (.int v4), some (.int v5), some (.int (((v1 / v4) - (v1 / v4) / 10 * 10) - 1))]) (Nat.le_of_ble_eq_true rfl) rfl rfl dX8_riverBy_50 ?_
      refine Ev_iload (x := v4) rfl dX8_riverBy_52 ?_
      refine Ev_bipush bp_10 dX8_riverBy_54 ?_
      refine Ev_idiv (by decide) dX8_riverBy_56 ?_
      refine Ev_istore (loc2 := [some (.ref v0), some (.int v1), some (.int v2), some (.int v3), some (.int (v4 / 10)), some (.int v5), some (.int (((v1 / v4) - (v1 / v4) / 10 * 10) - 1))]) (Nat.le_of_ble_eq_true rfl) rfl rfl dX8_riverBy_57 ?_
      refine Ev_aload_n (x := v0) rfl dX8_riverBy_59 ?_
      refine Ev_iconst ic_0 dX8_riverBy_60 ?_
      refine Ev_iload (x := (((v1 / v4) - (v1 / v4) / 10 * 10) - 1)) rfl dX8_riverBy_61 ?_
      obtain ⟨x5, g4, h⟩ := bsome h
      refine Ev_callVi (np := 2) (vs := [.int 0, .int (((v1 / v4) - (v1 / v4) / 10 * 10) - 1)]) (rest := []) mdX8_isThere lkX8_99 ⟨_, rfl, rfl⟩ (oX8_isThere g4) (rX8_isThere g4) rfl rfl (Nat.le_of_ble_eq_true rfl) (Nat.le_of_ble_eq_true rfl) dX8_riverBy_63 ?_
      refine Ev_if_eq (tgt := 78) dX8_riverBy_66 (by decide) (fun q6 => ?_) (fun q6 => ?_)
      · rw [if_pos q6] at h
        refine Ev_bipush bp_m9 dX8_riverBy_78 ?_
        cases h
        exact Ev_iret rfl rfl dX8_riverBy_80 ⟨rfl, rfl⟩
      · rw [if_neg q6] at h
        refine Ev_iload_n (x := v3) rfl dX8_riverBy_69 ?_
        refine Ev_iload (x := (((v1 / v4) - (v1 / v4) / 10 * 10) - 1)) rfl dX8_riverBy_70 ?_
        obtain ⟨x8, g7, h⟩ := bsome h
        refine Ev_callSi (np := 2) (vs := [.int v3, .int (((v1 / v4) - (v1 / v4) / 10 * 10) - 1)]) (rest := []) mdX8_has lkX8_106 (rX8_has g7) rfl rfl (Nat.le_of_ble_eq_true rfl) (Nat.le_of_ble_eq_true rfl) dX8_riverBy_72 ?_
        refine Ev_if_eq (tgt := 81) dX8_riverBy_75 (by decide) (fun q9 => ?_) (fun q9 => ?_)
        · rw [if_pos q9] at h
          refine Ev_iload_n (x := v3) rfl dX8_riverBy_81 ?_
          refine Ev_iconst ic_1 dX8_riverBy_82 ?_
          refine Ev_iload (x := (((v1 / v4) - (v1 / v4) / 10 * 10) - 1)) rfl dX8_riverBy_83 ?_
          refine Ev_ishl dX8_riverBy_85 ?_
          refine Ev_ior dX8_riverBy_86 ?_
          obtain ⟨x10, g10, h⟩ := bsome h
          refine Ev_istore_n (loc2 := [some (.ref v0), some (.int v1), some (.int v2), some (.int x10), some (.int (v4 / 10)), some (.int v5), some (.int (((v1 / v4) - (v1 / v4) / 10 * 10) - 1))]) (Nat.le_of_ble_eq_true rfl) rfl (by cases g10; rfl) dX8_riverBy_87 ?_
          refine Ev_aload_n (x := v0) rfl dX8_riverBy_88 ?_
          refine Ev_iload (x := (((v1 / v4) - (v1 / v4) / 10 * 10) - 1)) rfl dX8_riverBy_89 ?_
          obtain ⟨M12, g11, h⟩ := bsome h
          refine Ev_callVv (np := 1) (vs := [.int (((v1 / v4) - (v1 / v4) / 10 * 10) - 1)]) (rest := []) mdX8_flowOn lkX8_189 ⟨_, rfl, rfl⟩ (oX8_flowOn g11) (rX8_flowOn g11) rfl rfl (Nat.le_of_ble_eq_true rfl) (Nat.le_of_ble_eq_true rfl) dX8_riverBy_91 ?_
          refine Ev_iinc (x := v5) (v := (v5 + 1)) (loc2 := [some (.ref v0), some (.int v1), some (.int v2), some (.int x10), some (.int (v4 / 10)), some (.int (v5 + 1)), some (.int (((v1 / v4) - (v1 / v4) / 10 * 10) - 1))]) rfl (congrArg (v5 + ·) ic_1) (Nat.le_of_ble_eq_true rfl) rfl rfl dX8_riverBy_94 ?_
          refine Ev_goto (tgt := 35) dX8_riverBy_97 (by decide) ?_
          refine Ev_drop 6 (loc2 := [some (.ref v0), some (.int v1), some (.int v2), some (.int x10), some (.int (v4 / 10)), some (.int (v5 + 1)), none]) rfl ?_
          exact ih M12 v0 v1 v2 x10 (v4 / 10) (v5 + 1) h
        · rw [if_neg q9] at h
          refine Ev_bipush bp_m9 dX8_riverBy_78 ?_
          cases h
          exact Ev_iret rfl rfl dX8_riverBy_80 ⟨rfl, rfl⟩
def fX8_riverBy_c8 : Nat → mM → Nat → Int32 → Int32 → Int32 → Int32 → Int32 → Option (Int32 × mM)
  | 0, _, _, _, _, _, _, _ => none
  | n + 1, M, v0, v1, v2, v3, v4, v5 =>
    if v2 ≤ v5 then
      ((sV M v0 8 17 (.int 0)).bind fun M2 =>
      fX8_riverBy_c35 FUEL M2 v0 v1 v2 v3 v4 0)
    else
      (fX8_riverBy_c8 n M v0 v1 v2 v3 (v4 * 10) (v5 + 1))
set_option maxRecDepth 20000 in
set_option maxHeartbeats 4000000 in
theorem rX8_riverBy_c8 {E : mE} {x : Int32} {Mf : mM} : ∀ (n : Nat) (M : mM) (v0 : Nat) (v1 : Int32) (v2 : Int32) (v3 : Int32) (v4 : Int32) (v5 : Int32), fX8_riverBy_c8 n M v0 v1 v2 v3 v4 v5 = some (x, Mf) → Ev mX8_riverBy E 3 0 0 (some (.int x)) Mf 8 [some (.ref v0), some (.int v1), some (.int v2), some (.int v3), some (.int v4), some (.int v5), none] [] M 0 0 := by
  intro n
  induction n with
  | zero => intro M v0 v1 v2 v3 v4 v5 h; rw [fX8_riverBy_c8.eq_1] at h; cases h
  | succ n ih =>
    intro M v0 v1 v2 v3 v4 v5 h
    rw [fX8_riverBy_c8.eq_2] at h
    refine Ev_iload (x := v5) rfl dX8_riverBy_8 ?_
    refine Ev_iload_n (x := v2) rfl dX8_riverBy_10 ?_
    refine Ev_icmp_ge (tgt := 27) dX8_riverBy_11 (by decide) (fun q1 => ?_) (fun q1 => ?_)
    · rw [if_pos q1] at h
      refine Ev_aload_n (x := v0) rfl dX8_riverBy_27 ?_
      refine Ev_iconst ic_0 dX8_riverBy_28 ?_
      obtain ⟨M2, g2, h⟩ := bsome h
      refine Ev_put (v := .int 0) flX8_183 ⟨rfl, rfl⟩ (fun q hq => by cases hq; exact Or.inl rfl) dX8_riverBy_29 g2 ?_
      refine Ev_iconst ic_0 dX8_riverBy_32 ?_
      refine Ev_istore (loc2 := [some (.ref v0), some (.int v1), some (.int v2), some (.int v3), some (.int v4), some (.int 0), none]) (Nat.le_of_ble_eq_true rfl) rfl rfl dX8_riverBy_33 ?_
      exact rX8_riverBy_c35 FUEL M2 v0 v1 v2 v3 v4 0 h
    · rw [if_neg q1] at h
      refine Ev_iload (x := v4) rfl dX8_riverBy_14 ?_
      refine Ev_bipush bp_10 dX8_riverBy_16 ?_
      refine Ev_imul dX8_riverBy_18 ?_
      refine Ev_istore (loc2 := [some (.ref v0), some (.int v1), some (.int v2), some (.int v3), some (.int (v4 * 10)), some (.int v5), none]) (Nat.le_of_ble_eq_true rfl) rfl rfl dX8_riverBy_19 ?_
      refine Ev_iinc (x := v5) (v := (v5 + 1)) (loc2 := [some (.ref v0), some (.int v1), some (.int v2), some (.int v3), some (.int (v4 * 10)), some (.int (v5 + 1)), none]) rfl (congrArg (v5 + ·) ic_1) (Nat.le_of_ble_eq_true rfl) rfl rfl dX8_riverBy_21 ?_
      refine Ev_goto (tgt := 8) dX8_riverBy_24 (by decide) ?_
      exact ih M v0 v1 v2 v3 (v4 * 10) (v5 + 1) h
def fX8_riverBy (M : mM) (v0 : Nat) (v1 : Int32) (v2 : Int32) : Option (Int32 × mM) :=
    if isO M v0 8 = true then
      fX8_riverBy_c8 FUEL M v0 v1 v2 0 1 1
    else none
theorem oX8_riverBy {M : mM} {v0 : Nat} {v1 : Int32} {v2 : Int32} {y : (Int32 × mM)} (h : fX8_riverBy M v0 v1 v2 = some y) : isO M v0 8 = true := by
  unfold fX8_riverBy at h
  exact (gsome h).1
set_option maxRecDepth 20000 in
set_option maxHeartbeats 4000000 in
theorem rX8_riverBy {E : mE} {M : mM} {v0 : Nat} {v1 : Int32} {v2 : Int32} {x : Int32} {Mf : mM} (h : fX8_riverBy M v0 v1 v2 = some (x, Mf)) : EvC mX8_riverBy E 3 0 0 [.ref v0, .int v1, .int v2] M (some (.int x)) Mf := by
  unfold fX8_riverBy at h
  replace h := (gsome h).2
  refine EvC.of [some (.ref v0), some (.int v1), some (.int v2), none, none, none, none] pnX8_riverBy rfl (Nat.le_of_ble_eq_true rfl) ?_
  refine Ev_iconst ic_0 dX8_riverBy_0 ?_
  refine Ev_istore_n (loc2 := [some (.ref v0), some (.int v1), some (.int v2), some (.int 0), none, none, none]) (Nat.le_of_ble_eq_true rfl) rfl rfl dX8_riverBy_1 ?_
  refine Ev_iconst ic_1 dX8_riverBy_2 ?_
  refine Ev_istore (loc2 := [some (.ref v0), some (.int v1), some (.int v2), some (.int 0), some (.int 1), none, none]) (Nat.le_of_ble_eq_true rfl) rfl rfl dX8_riverBy_3 ?_
  refine Ev_iconst ic_1 dX8_riverBy_5 ?_
  refine Ev_istore (loc2 := [some (.ref v0), some (.int v1), some (.int v2), some (.int 0), some (.int 1), some (.int 1), none]) (Nat.le_of_ble_eq_true rfl) rfl rfl dX8_riverBy_6 ?_
  exact rX8_riverBy_c8 FUEL M v0 v1 v2 0 1 1 h
/-! TinselRiverModel.river(I)I -/
def fX8_river_c76 : Nat → mM → Nat → Int32 → Int32 → Int32 → Int32 → Int32 → Int32 → Option (Int32 × mM)
  | 0, _, _, _, _, _, _, _, _ => none
  | n + 1, M, v0, v1, v2, v4, v5, v6, v7 =>
    if v4 < v7 then
      (if v1 = 0 then
        (some (v6, M))
      else
        (some (v5, M)))
    else
      (if v2 ≤ 0 then
        (if v1 = 0 then
          (some (v6, M))
        else
          (some (v5, M)))
      else
        ((fX8_riverBy M v0 v7 v2).bind fun p6 =>
        if p6.1 = (-9) then
          (fX8_river_c76 n p6.2 v0 v1 v2 v4 v5 v6 (v7 + 1))
        else
          (if v6 = (-9) then
            (fX8_river_c76 n p6.2 v0 v1 v2 v4 v7 p6.1 (v7 + 1))
          else
            (if v6 ≤ p6.1 then
              (fX8_river_c76 n p6.2 v0 v1 v2 v4 v5 v6 (v7 + 1))
            else
              (fX8_river_c76 n p6.2 v0 v1 v2 v4 v7 p6.1 (v7 + 1))))))
set_option maxRecDepth 20000 in
set_option maxHeartbeats 4000000 in
theorem rX8_river_c76 {E : mE} {x : Int32} {Mf : mM} : ∀ (n : Nat) (M : mM) (v0 : Nat) (v1 : Int32) (v2 : Int32) (v4 : Int32) (v5 : Int32) (v6 : Int32) (v7 : Int32), fX8_river_c76 n M v0 v1 v2 v4 v5 v6 v7 = some (x, Mf) → Ev mX8_river E 4 0 0 (some (.int x)) Mf 76 [some (.ref v0), some (.int v1), some (.int v2), none, some (.int v4), some (.int v5), some (.int v6), some (.int v7), none, none] [] M 0 0 := by
  intro n
  induction n with
  | zero => intro M v0 v1 v2 v4 v5 v6 v7 h; rw [fX8_river_c76.eq_1] at h; cases h
  | succ n ih =>
    intro M v0 v1 v2 v4 v5 v6 v7 h
    rw [fX8_river_c76.eq_2] at h
    refine Ev_iload (x := v7) rfl dX8_river_76 ?_
    refine Ev_iload (x := v4) rfl dX8_river_78 ?_
    refine Ev_icmp_gt (tgt := 158) dX8_river_80 (by decide) (fun q1 => ?_) (fun q1 => ?_)
    · rw [if_pos q1] at h
      refine Ev_iload_n (x := v1) rfl dX8_river_158 ?_
      refine Ev_if_ne (tgt := 167) dX8_river_159 (by decide) (fun q2 => ?_) (fun q2 => ?_)
      · rw [if_neg q2] at h
        refine Ev_iload (x := v5) rfl dX8_river_167 ?_
        cases h
        exact Ev_iret rfl rfl dX8_river_169 ⟨rfl, rfl⟩
      · rw [if_pos q2] at h
        refine Ev_iload (x := v6) rfl dX8_river_162 ?_
        refine Ev_goto (tgt := 169) dX8_river_164 (by decide) ?_
        cases h
        exact Ev_iret rfl rfl dX8_river_169 ⟨rfl, rfl⟩
    · rw [if_neg q1] at h
      refine Ev_iload_n (x := v2) rfl dX8_river_83 ?_
      refine Ev_if_le (tgt := 158) dX8_river_84 (by decide) (fun q3 => ?_) (fun q3 => ?_)
      · rw [if_pos q3] at h
        refine Ev_iload_n (x := v1) rfl dX8_river_158 ?_
        refine Ev_if_ne (tgt := 167) dX8_river_159 (by decide) (fun q4 => ?_) (fun q4 => ?_)
        · rw [if_neg q4] at h
          refine Ev_iload (x := v5) rfl dX8_river_167 ?_
          cases h
          exact Ev_iret rfl rfl dX8_river_169 ⟨rfl, rfl⟩
        · rw [if_pos q4] at h
          refine Ev_iload (x := v6) rfl dX8_river_162 ?_
          refine Ev_goto (tgt := 169) dX8_river_164 (by decide) ?_
          cases h
          exact Ev_iret rfl rfl dX8_river_169 ⟨rfl, rfl⟩
      · rw [if_neg q3] at h
        refine Ev_aload_n (x := v0) rfl dX8_river_87 ?_
        refine Ev_iload (x := v7) rfl dX8_river_88 ?_
        refine Ev_iload_n (x := v2) rfl dX8_river_90 ?_
        obtain ⟨p6, g5, h⟩ := bsome h
        refine Ev_callVi (np := 2) (vs := [.int v7, .int v2]) (rest := []) mdX8_riverBy lkX8_192 ⟨_, rfl, rfl⟩ (oX8_riverBy g5) (rX8_riverBy g5) rfl rfl (Nat.le_of_ble_eq_true rfl) (Nat.le_of_ble_eq_true rfl) dX8_river_91 ?_
        refine Ev_istore (loc2 := [some (.ref v0), some (.int v1), some (.int v2), none, some (.int v4), some (.int v5), some (.int v6), some (.int v7), some (.int p6.1), none]) (Nat.le_of_ble_eq_true rfl) rfl rfl dX8_river_94 ?_
        refine Ev_iload (x := p6.1) rfl dX8_river_96 ?_
        refine Ev_bipush bp_m9 dX8_river_98 ?_
        refine Ev_icmp_eq (tgt := 121) dX8_river_100 (by decide) (fun q7 => ?_) (fun q7 => ?_)
        · rw [if_pos q7] at h
          refine Ev_iconst ic_0 dX8_river_121 ?_
          refine Ev_istore (loc2 := [some (.ref v0), some (.int v1), some (.int v2), none, some (.int v4), some (.int v5), some (.int v6), some (.int v7), some (.int p6.1), some (.int 0)]) (Nat.le_of_ble_eq_true rfl) rfl rfl dX8_river_122 ?_
          refine Ev_iload (x := 0) rfl dX8_river_124 ?_
          refine Ev_if_eq (tgt := 134) dX8_river_126 (by decide) (fun _ => ?_) (fun q8 => absurd q8 (by decide))
          refine Ev_iload (x := v5) rfl dX8_river_134 ?_
          refine Ev_istore (loc2 := [some (.ref v0), some (.int v1), some (.int v2), none, some (.int v4), some (.int v5), some (.int v6), some (.int v7), some (.int p6.1), some (.int 0)]) (Nat.le_of_ble_eq_true rfl) rfl rfl dX8_river_136 ?_
          refine Ev_iload (x := 0) rfl dX8_river_138 ?_
          refine Ev_if_eq (tgt := 148) dX8_river_140 (by decide) (fun _ => ?_) (fun q9 => absurd q9 (by decide))
          refine Ev_iload (x := v6) rfl dX8_river_148 ?_
          refine Ev_istore (loc2 := [some (.ref v0), some (.int v1), some (.int v2), none, some (.int v4), some (.int v5), some (.int v6), some (.int v7), some (.int p6.1), some (.int 0)]) (Nat.le_of_ble_eq_true rfl) rfl rfl dX8_river_150 ?_
          refine Ev_iinc (x := v7) (v := (v7 + 1)) (loc2 := [some (.ref v0), some (.int v1), some (.int v2), none, some (.int v4), some (.int v5), some (.int v6), some (.int (v7 + 1)), some (.int p6.1), some (.int 0)]) rfl (congrArg (v7 + ·) ic_1) (Nat.le_of_ble_eq_true rfl) rfl rfl dX8_river_152 ?_
          refine Ev_goto (tgt := 76) dX8_river_155 (by decide) ?_
          refine Ev_drop 8 (loc2 := [some (.ref v0), some (.int v1), some (.int v2), none, some (.int v4), some (.int v5), some (.int v6), some (.int (v7 + 1)), none, some (.int 0)]) rfl ?_
          refine Ev_drop 9 (loc2 := [some (.ref v0), some (.int v1), some (.int v2), none, some (.int v4), some (.int v5), some (.int v6), some (.int (v7 + 1)), none, none]) rfl ?_
          exact ih p6.2 v0 v1 v2 v4 v5 v6 (v7 + 1) h
        · rw [if_neg q7] at h
          refine Ev_iload (x := v6) rfl dX8_river_103 ?_
          refine Ev_bipush bp_m9 dX8_river_105 ?_
          refine Ev_icmp_eq (tgt := 117) dX8_river_107 (by decide) (fun q10 => ?_) (fun q10 => ?_)
          · rw [if_pos q10] at h
            refine Ev_iconst ic_1 dX8_river_117 ?_
            refine Ev_goto (tgt := 122) dX8_river_118 (by decide) ?_
            refine Ev_istore (loc2 := [some (.ref v0), some (.int v1), some (.int v2), none, some (.int v4), some (.int v5), some (.int v6), some (.int v7), some (.int p6.1), some (.int 1)]) (Nat.le_of_ble_eq_true rfl) rfl rfl dX8_river_122 ?_
            refine Ev_iload (x := 1) rfl dX8_river_124 ?_
            refine Ev_if_eq (tgt := 134) dX8_river_126 (by decide) (fun q11 => absurd q11 (by decide)) (fun _ => ?_)
            refine Ev_iload (x := v7) rfl dX8_river_129 ?_
            refine Ev_goto (tgt := 136) dX8_river_131 (by decide) ?_
            refine Ev_istore (loc2 := [some (.ref v0), some (.int v1), some (.int v2), none, some (.int v4), some (.int v7), some (.int v6), some (.int v7), some (.int p6.1), some (.int 1)]) (Nat.le_of_ble_eq_true rfl) rfl rfl dX8_river_136 ?_
            refine Ev_iload (x := 1) rfl dX8_river_138 ?_
            refine Ev_if_eq (tgt := 148) dX8_river_140 (by decide) (fun q12 => absurd q12 (by decide)) (fun _ => ?_)
            refine Ev_iload (x := p6.1) rfl dX8_river_143 ?_
            refine Ev_goto (tgt := 150) dX8_river_145 (by decide) ?_
            refine Ev_istore (loc2 := [some (.ref v0), some (.int v1), some (.int v2), none, some (.int v4), some (.int v7), some (.int p6.1), some (.int v7), some (.int p6.1), some (.int 1)]) (Nat.le_of_ble_eq_true rfl) rfl rfl dX8_river_150 ?_
            refine Ev_iinc (x := v7) (v := (v7 + 1)) (loc2 := [some (.ref v0), some (.int v1), some (.int v2), none, some (.int v4), some (.int v7), some (.int p6.1), some (.int (v7 + 1)), some (.int p6.1), some (.int 1)]) rfl (congrArg (v7 + ·) ic_1) (Nat.le_of_ble_eq_true rfl) rfl rfl dX8_river_152 ?_
            refine Ev_goto (tgt := 76) dX8_river_155 (by decide) ?_
            refine Ev_drop 8 (loc2 := [some (.ref v0), some (.int v1), some (.int v2), none, some (.int v4), some (.int v7), some (.int p6.1), some (.int (v7 + 1)), none, some (.int 1)]) rfl ?_
            refine Ev_drop 9 (loc2 := [some (.ref v0), some (.int v1), some (.int v2), none, some (.int v4), some (.int v7), some (.int p6.1), some (.int (v7 + 1)), none, none]) rfl ?_
            exact ih p6.2 v0 v1 v2 v4 v7 p6.1 (v7 + 1) h
          · rw [if_neg q10] at h
            refine Ev_iload (x := p6.1) rfl dX8_river_110 ?_
            refine Ev_iload (x := v6) rfl dX8_river_112 ?_
            refine Ev_icmp_ge (tgt := 121) dX8_river_114 (by decide) (fun q13 => ?_) (fun q13 => ?_)
            · rw [if_pos q13] at h
              refine Ev_iconst ic_0 dX8_river_121 ?_
              refine Ev_istore (loc2 := [some (.ref v0), some (.int v1), some (.int v2), none, some (.int v4), some (.int v5), some (.int v6), some (.int v7), some (.int p6.1), some (.int 0)]) (Nat.le_of_ble_eq_true rfl) rfl rfl dX8_river_122 ?_
              refine Ev_iload (x := 0) rfl dX8_river_124 ?_
              refine Ev_if_eq (tgt := 134) dX8_river_126 (by decide) (fun _ => ?_) (fun q14 => absurd q14 (by decide))
              refine Ev_iload (x := v5) rfl dX8_river_134 ?_
              refine Ev_istore (loc2 := [some (.ref v0), some (.int v1), some (.int v2), none, some (.int v4), some (.int v5), some (.int v6), some (.int v7), some (.int p6.1), some (.int 0)]) (Nat.le_of_ble_eq_true rfl) rfl rfl dX8_river_136 ?_
              refine Ev_iload (x := 0) rfl dX8_river_138 ?_
              refine Ev_if_eq (tgt := 148) dX8_river_140 (by decide) (fun _ => ?_) (fun q15 => absurd q15 (by decide))
              refine Ev_iload (x := v6) rfl dX8_river_148 ?_
              refine Ev_istore (loc2 := [some (.ref v0), some (.int v1), some (.int v2), none, some (.int v4), some (.int v5), some (.int v6), some (.int v7), some (.int p6.1), some (.int 0)]) (Nat.le_of_ble_eq_true rfl) rfl rfl dX8_river_150 ?_
              refine Ev_iinc (x := v7) (v := (v7 + 1)) (loc2 := [some (.ref v0), some (.int v1), some (.int v2), none, some (.int v4), some (.int v5), some (.int v6), some (.int (v7 + 1)), some (.int p6.1), some (.int 0)]) rfl (congrArg (v7 + ·) ic_1) (Nat.le_of_ble_eq_true rfl) rfl rfl dX8_river_152 ?_
              refine Ev_goto (tgt := 76) dX8_river_155 (by decide) ?_
              refine Ev_drop 8 (loc2 := [some (.ref v0), some (.int v1), some (.int v2), none, some (.int v4), some (.int v5), some (.int v6), some (.int (v7 + 1)), none, some (.int 0)]) rfl ?_
              refine Ev_drop 9 (loc2 := [some (.ref v0), some (.int v1), some (.int v2), none, some (.int v4), some (.int v5), some (.int v6), some (.int (v7 + 1)), none, none]) rfl ?_
              exact ih p6.2 v0 v1 v2 v4 v5 v6 (v7 + 1) h
            · rw [if_neg q13] at h
              refine Ev_iconst ic_1 dX8_river_117 ?_
              refine Ev_goto (tgt := 122) dX8_river_118 (by decide) ?_
              refine Ev_istore (loc2 := [some (.ref v0), some (.int v1), some (.int v2), none, some (.int v4), some (.int v5), some (.int v6), some (.int v7), some (.int p6.1), some (.int 1)]) (Nat.le_of_ble_eq_true rfl) rfl rfl dX8_river_122 ?_
              refine Ev_iload (x := 1) rfl dX8_river_124 ?_
              refine Ev_if_eq (tgt := 134) dX8_river_126 (by decide) (fun q16 => absurd q16 (by decide)) (fun _ => ?_)
              refine Ev_iload (x := v7) rfl dX8_river_129 ?_
              refine Ev_goto (tgt := 136) dX8_river_131 (by decide) ?_
              refine Ev_istore (loc2 := [some (.ref v0), some (.int v1), some (.int v2), none, some (.int v4), some (.int v7), some (.int v6), some (.int v7), some (.int p6.1), some (.int 1)]) (Nat.le_of_ble_eq_true rfl) rfl rfl dX8_river_136 ?_
              refine Ev_iload (x := 1) rfl dX8_river_138 ?_
              refine Ev_if_eq (tgt := 148) dX8_river_140 (by decide) (fun q17 => absurd q17 (by decide)) (fun _ => ?_)
              refine Ev_iload (x := p6.1) rfl dX8_river_143 ?_
              refine Ev_goto (tgt := 150) dX8_river_145 (by decide) ?_
              refine Ev_istore (loc2 := [some (.ref v0), some (.int v1), some (.int v2), none, some (.int v4), some (.int v7), some (.int p6.1), some (.int v7), some (.int p6.1), some (.int 1)]) (Nat.le_of_ble_eq_true rfl) rfl rfl dX8_river_150 ?_
              refine Ev_iinc (x := v7) (v := (v7 + 1)) (loc2 := [some (.ref v0), some (.int v1), some (.int v2), none, some (.int v4), some (.int v7), some (.int p6.1), some (.int (v7 + 1)), some (.int p6.1), some (.int 1)]) rfl (congrArg (v7 + ·) ic_1) (Nat.le_of_ble_eq_true rfl) rfl rfl dX8_river_152 ?_
              refine Ev_goto (tgt := 76) dX8_river_155 (by decide) ?_
              refine Ev_drop 8 (loc2 := [some (.ref v0), some (.int v1), some (.int v2), none, some (.int v4), some (.int v7), some (.int p6.1), some (.int (v7 + 1)), none, some (.int 1)]) rfl ?_
              refine Ev_drop 9 (loc2 := [some (.ref v0), some (.int v1), some (.int v2), none, some (.int v4), some (.int v7), some (.int p6.1), some (.int (v7 + 1)), none, none]) rfl ?_
              exact ih p6.2 v0 v1 v2 v4 v7 p6.1 (v7 + 1) h
def fX8_river_c30 : Nat → mM → Nat → Int32 → Int32 → Int32 → Int32 → Int32 → Option (Int32 × mM)
  | 0, _, _, _, _, _, _, _ => none
  | n + 1, M, v0, v1, v2, v3, v4, v5 =>
    if v2 ≤ v5 then
      (if v2 = 0 then
        (fX8_river_c76 FUEL M v0 v1 v2 v4 0 0 v3)
      else
        (fX8_river_c76 FUEL M v0 v1 v2 v4 0 (-9) v3))
    else
      (fX8_river_c30 n M v0 v1 v2 ((10 * v3) + 1) ((10 * v4) + 4) (v5 + 1))
set_option maxRecDepth 20000 in
set_option maxHeartbeats 4000000 in
theorem rX8_river_c30 {E : mE} {x : Int32} {Mf : mM} : ∀ (n : Nat) (M : mM) (v0 : Nat) (v1 : Int32) (v2 : Int32) (v3 : Int32) (v4 : Int32) (v5 : Int32), fX8_river_c30 n M v0 v1 v2 v3 v4 v5 = some (x, Mf) → Ev mX8_river E 4 0 0 (some (.int x)) Mf 30 [some (.ref v0), some (.int v1), some (.int v2), some (.int v3), some (.int v4), some (.int v5), none, none, none, none] [] M 0 0 := by
  intro n
  induction n with
  | zero => intro M v0 v1 v2 v3 v4 v5 h; rw [fX8_river_c30.eq_1] at h; cases h
  | succ n ih =>
    intro M v0 v1 v2 v3 v4 v5 h
    rw [fX8_river_c30.eq_2] at h
    refine Ev_iload (x := v5) rfl dX8_river_30 ?_
    refine Ev_iload_n (x := v2) rfl dX8_river_32 ?_
    refine Ev_icmp_ge (tgt := 58) dX8_river_33 (by decide) (fun q1 => ?_) (fun q1 => ?_)
    · rw [if_pos q1] at h
      refine Ev_iconst ic_0 dX8_river_58 ?_
      refine Ev_istore (loc2 := [some (.ref v0), some (.int v1), some (.int v2), some (.int v3), some (.int v4), some (.int 0), none, none, none, none]) (Nat.le_of_ble_eq_true rfl) rfl rfl dX8_river_59 ?_
      refine Ev_iload_n (x := v2) rfl dX8_river_61 ?_
      refine Ev_if_ne (tgt := 69) dX8_river_62 (by decide) (fun q2 => ?_) (fun q2 => ?_)
      · rw [if_neg q2] at h
        refine Ev_bipush bp_m9 dX8_river_69 ?_
        refine Ev_istore (loc2 := [some (.ref v0), some (.int v1), some (.int v2), some (.int v3), some (.int v4), some (.int 0), some (.int (-9)), none, none, none]) (Nat.le_of_ble_eq_true rfl) rfl rfl dX8_river_71 ?_
        refine Ev_iload_n (x := v3) rfl dX8_river_73 ?_
        refine Ev_istore (loc2 := [some (.ref v0), some (.int v1), some (.int v2), some (.int v3), some (.int v4), some (.int 0), some (.int (-9)), some (.int v3), none, none]) (Nat.le_of_ble_eq_true rfl) rfl rfl dX8_river_74 ?_
        refine Ev_drop 3 (loc2 := [some (.ref v0), some (.int v1), some (.int v2), none, some (.int v4), some (.int 0), some (.int (-9)), some (.int v3), none, none]) rfl ?_
        exact rX8_river_c76 FUEL M v0 v1 v2 v4 0 (-9) v3 h
      · rw [if_pos q2] at h
        refine Ev_iconst ic_0 dX8_river_65 ?_
        refine Ev_goto (tgt := 71) dX8_river_66 (by decide) ?_
        refine Ev_istore (loc2 := [some (.ref v0), some (.int v1), some (.int v2), some (.int v3), some (.int v4), some (.int 0), some (.int 0), none, none, none]) (Nat.le_of_ble_eq_true rfl) rfl rfl dX8_river_71 ?_
        refine Ev_iload_n (x := v3) rfl dX8_river_73 ?_
        refine Ev_istore (loc2 := [some (.ref v0), some (.int v1), some (.int v2), some (.int v3), some (.int v4), some (.int 0), some (.int 0), some (.int v3), none, none]) (Nat.le_of_ble_eq_true rfl) rfl rfl dX8_river_74 ?_
        refine Ev_drop 3 (loc2 := [some (.ref v0), some (.int v1), some (.int v2), none, some (.int v4), some (.int 0), some (.int 0), some (.int v3), none, none]) rfl ?_
        exact rX8_river_c76 FUEL M v0 v1 v2 v4 0 0 v3 h
    · rw [if_neg q1] at h
      refine Ev_bipush bp_10 dX8_river_36 ?_
      refine Ev_iload_n (x := v3) rfl dX8_river_38 ?_
      refine Ev_imul dX8_river_39 ?_
      refine Ev_iconst ic_1 dX8_river_40 ?_
      refine Ev_iadd dX8_river_41 ?_
      refine Ev_istore_n (loc2 := [some (.ref v0), some (.int v1), some (.int v2), some (.int ((10 * v3) + 1)), some (.int v4), some (.int v5), none, none, none, none]) (Nat.le_of_ble_eq_true rfl) rfl rfl dX8_river_42 ?_
      refine Ev_bipush bp_10 dX8_river_43 ?_
      refine Ev_iload (x := v4) rfl dX8_river_45 ?_
      refine Ev_imul dX8_river_47 ?_
      refine Ev_iconst ic_4 dX8_river_48 ?_
      refine Ev_iadd dX8_river_49 ?_
      refine Ev_istore (loc2 := [some (.ref v0), some (.int v1), some (.int v2), some (.int ((10 * v3) + 1)), some (.int ((10 * v4) + 4)), some (.int v5), none, none, none, none]) (Nat.le_of_ble_eq_true rfl) rfl rfl dX8_river_50 ?_
      refine Ev_iinc (x := v5) (v := (v5 + 1)) (loc2 := [some (.ref v0), some (.int v1), some (.int v2), some (.int ((10 * v3) + 1)), some (.int ((10 * v4) + 4)), some (.int (v5 + 1)), none, none, none, none]) rfl (congrArg (v5 + ·) ic_1) (Nat.le_of_ble_eq_true rfl) rfl rfl dX8_river_52 ?_
      refine Ev_goto (tgt := 30) dX8_river_55 (by decide) ?_
      exact ih M v0 v1 v2 ((10 * v3) + 1) ((10 * v4) + 4) (v5 + 1) h
def fX8_river (M : mM) (v0 : Nat) (v1 : Int32) : Option (Int32 × mM) :=
    if isO M v0 8 = true then
      (fX8_in M (Int32.toInt64 v1) (0 : Int64) (1 : Int64)).bind fun x2 =>
      if x2 = 0 then
        (some ((-2), M))
      else
        ((fX8_whoIs M v0 0).bind fun x5 =>
        (fX8_ones M x5).bind fun x7 =>
        fX8_river_c30 FUEL M v0 v1 x7 0 0 0)
    else none
theorem oX8_river {M : mM} {v0 : Nat} {v1 : Int32} {y : (Int32 × mM)} (h : fX8_river M v0 v1 = some y) : isO M v0 8 = true := by
  unfold fX8_river at h
  exact (gsome h).1
set_option maxRecDepth 20000 in
set_option maxHeartbeats 4000000 in
theorem rX8_river {E : mE} {M : mM} {v0 : Nat} {v1 : Int32} {x : Int32} {Mf : mM} (h : fX8_river M v0 v1 = some (x, Mf)) : EvC mX8_river E 4 0 0 [.ref v0, .int v1] M (some (.int x)) Mf := by
  unfold fX8_river at h
  replace h := (gsome h).2
  refine EvC.of [some (.ref v0), some (.int v1), none, none, none, none, none, none, none, none] pnX8_river rfl (Nat.le_of_ble_eq_true rfl) ?_
  refine Ev_iload_n (x := v1) rfl dX8_river_0 ?_
  refine Ev_i2l dX8_river_1 ?_
  refine Ev_lconst (v := 0) (by decide) dX8_river_2 ?_
  refine Ev_lconst (v := 1) (by decide) dX8_river_3 ?_
  obtain ⟨x2, g1, h⟩ := bsome h
  refine Ev_callSi (np := 3) (vs := [.long (Int32.toInt64 v1), .long (0 : Int64), .long (1 : Int64)]) (rest := []) mdX8_in lkX8_52 (rX8_in g1) rfl rfl (Nat.le_of_ble_eq_true rfl) (Nat.le_of_ble_eq_true rfl) dX8_river_4 ?_
  refine Ev_if_ne (tgt := 13) dX8_river_7 (by decide) (fun q3 => ?_) (fun q3 => ?_)
  · rw [if_neg q3] at h
    refine Ev_aload_n (x := v0) rfl dX8_river_13 ?_
    refine Ev_iconst ic_0 dX8_river_14 ?_
    obtain ⟨x5, g4, h⟩ := bsome h
    refine Ev_callVi (np := 1) (vs := [.int 0]) (rest := []) mdX8_whoIs lkX8_116 ⟨_, rfl, rfl⟩ (oX8_whoIs g4) (rX8_whoIs g4) rfl rfl (Nat.le_of_ble_eq_true rfl) (Nat.le_of_ble_eq_true rfl) dX8_river_15 ?_
    obtain ⟨x7, g6, h⟩ := bsome h
    refine Ev_callSi (np := 1) (vs := [.int x5]) (rest := []) mdX8_ones lkX8_112 (rX8_ones g6) rfl rfl (Nat.le_of_ble_eq_true rfl) (Nat.le_of_ble_eq_true rfl) dX8_river_18 ?_
    refine Ev_istore_n (loc2 := [some (.ref v0), some (.int v1), some (.int x7), none, none, none, none, none, none, none]) (Nat.le_of_ble_eq_true rfl) rfl rfl dX8_river_21 ?_
    refine Ev_iconst ic_0 dX8_river_22 ?_
    refine Ev_istore_n (loc2 := [some (.ref v0), some (.int v1), some (.int x7), some (.int 0), none, none, none, none, none, none]) (Nat.le_of_ble_eq_true rfl) rfl rfl dX8_river_23 ?_
    refine Ev_iconst ic_0 dX8_river_24 ?_
    refine Ev_istore (loc2 := [some (.ref v0), some (.int v1), some (.int x7), some (.int 0), some (.int 0), none, none, none, none, none]) (Nat.le_of_ble_eq_true rfl) rfl rfl dX8_river_25 ?_
    refine Ev_iconst ic_0 dX8_river_27 ?_
    refine Ev_istore (loc2 := [some (.ref v0), some (.int v1), some (.int x7), some (.int 0), some (.int 0), some (.int 0), none, none, none, none]) (Nat.le_of_ble_eq_true rfl) rfl rfl dX8_river_28 ?_
    exact rX8_river_c30 FUEL M v0 v1 x7 0 0 0 h
  · rw [if_pos q3] at h
    refine Ev_bipush bp_m2 dX8_river_10 ?_
    cases h
    exact Ev_iret rfl rfl dX8_river_12 ⟨rfl, rfl⟩
/-! TinselRiverModel.covered()I -/
def fX8_covered (M : mM) (v0 : Nat) : Option Int32 :=
    if isO M v0 8 = true then
      (fX8_coverOf M v0 15).bind fun x2 =>
      some x2
    else none
theorem oX8_covered {M : mM} {v0 : Nat} {y : Int32} (h : fX8_covered M v0 = some y) : isO M v0 8 = true := by
  unfold fX8_covered at h
  exact (gsome h).1
set_option maxRecDepth 20000 in
set_option maxHeartbeats 4000000 in
theorem rX8_covered {E : mE} {M : mM} {v0 : Nat} {x : Int32} (h : fX8_covered M v0 = some x) : EvC mX8_covered E 3 0 0 [.ref v0] M (some (.int x)) M := by
  unfold fX8_covered at h
  replace h := (gsome h).2
  refine EvC.of [some (.ref v0)] pnX8_covered rfl (Nat.le_of_ble_eq_true rfl) ?_
  refine Ev_aload_n (x := v0) rfl dX8_covered_0 ?_
  refine Ev_bipush bp_15 dX8_covered_1 ?_
  obtain ⟨x2, g1, h⟩ := bsome h
  refine Ev_callVi (np := 1) (vs := [.int 15]) (rest := []) mdX8_coverOf lkX8_195 ⟨_, rfl, rfl⟩ (oX8_coverOf g1) (rX8_coverOf g1) rfl rfl (Nat.le_of_ble_eq_true rfl) (Nat.le_of_ble_eq_true rfl) dX8_covered_3 ?_
  cases h
  exact Ev_iret rfl rfl dX8_covered_6 ⟨rfl, rfl⟩
