/-! printed by wip/whole/gen.py -/
/-! TinselRiverModel.isRest(IIII)Z -/
def fX8_isRest_c6 : Nat → mM → Nat → Int32 → Int32 → Int32 → Int32 → Int32 → Int32 → Option (Int32 × mM)
  | 0, _, _, _, _, _, _, _, _ => none
  | n + 1, M, v0, v1, v2, v3, v4, v5, v6 =>
    if 4 ≤ v6 then
      (if v5 = 0 ∨ v5 = 1 then some (v5, M) else none)
    else
      (if v5 = 0 then
        (fX8_isRest_c6 n M v0 v1 v2 v3 v4 0 (v6 + 1))
      else
        ((fX8_gain M v0 v1 v2 v6 v4 v1).bind fun p5 =>
        (fX8_gain p5.2 v0 v1 v2 v3 v4 v1).bind fun p7 =>
        if p7.1 < p5.1 then
          (fX8_isRest_c6 n p7.2 v0 v1 v2 v3 v4 0 (v6 + 1))
        else
          ((fX8_gain p7.2 v0 v1 v2 v3 v6 v2).bind fun p10 =>
          (fX8_gain p10.2 v0 v1 v2 v3 v4 v2).bind fun p12 =>
          if p12.1 < p10.1 then
            (fX8_isRest_c6 n p12.2 v0 v1 v2 v3 v4 0 (v6 + 1))
          else
            (fX8_isRest_c6 n p12.2 v0 v1 v2 v3 v4 1 (v6 + 1)))))
set_option maxRecDepth 20000 in
set_option maxHeartbeats 4000000 in
theorem rX8_isRest_c6 {E : mE} {x : Int32} {Mf : mM} : ∀ (n : Nat) (M : mM) (v0 : Nat) (v1 : Int32) (v2 : Int32) (v3 : Int32) (v4 : Int32) (v5 : Int32) (v6 : Int32), fX8_isRest_c6 n M v0 v1 v2 v3 v4 v5 v6 = some (x, Mf) → Ev mX8_isRest E 6 0 0 (some (.int x)) Mf 6 [some (.ref v0), some (.int v1), some (.int v2), some (.int v3), some (.int v4), some (.int v5), some (.int v6)] [] M 0 0 := by
  intro n
  induction n with
  | zero => intro M v0 v1 v2 v3 v4 v5 v6 h; rw [fX8_isRest_c6.eq_1] at h; cases h
  | succ n ih =>
    intro M v0 v1 v2 v3 v4 v5 v6 h
    rw [fX8_isRest_c6.eq_2] at h
    refine Ev_iload (x := v6) rfl dX8_isRest_6 ?_
    refine Ev_iconst ic_4 dX8_isRest_8 ?_
    refine Ev_icmp_ge (tgt := 77) dX8_isRest_9 (by decide) (fun q1 => ?_) (fun q1 => ?_)
    · rw [if_pos q1] at h
      refine Ev_iload (x := v5) rfl dX8_isRest_77 ?_
      obtain ⟨b2, h⟩ := gsome h
      cases h
      exact Ev_iret rfl (mb01 b2) dX8_isRest_79 ⟨rfl, rfl⟩
    · rw [if_neg q1] at h
      refine Ev_iload (x := v5) rfl dX8_isRest_12 ?_
      refine Ev_if_eq (tgt := 68) dX8_isRest_14 (by decide) (fun q3 => ?_) (fun q3 => ?_)
      · rw [if_pos q3] at h
        refine Ev_iconst ic_0 dX8_isRest_68 ?_
        refine Ev_istore (loc2 := [some (.ref v0), some (.int v1), some (.int v2), some (.int v3), some (.int v4), some (.int 0), some (.int v6)]) (Nat.le_of_ble_eq_true rfl) rfl rfl dX8_isRest_69 ?_
        refine Ev_iinc (x := v6) (v := (v6 + 1)) (loc2 := [some (.ref v0), some (.int v1), some (.int v2), some (.int v3), some (.int v4), some (.int 0), some (.int (v6 + 1))]) rfl (congrArg (v6 + ·) ic_1) (Nat.le_of_ble_eq_true rfl) rfl rfl dX8_isRest_71 ?_
        refine Ev_goto (tgt := 6) dX8_isRest_74 (by decide) ?_
        exact ih M v0 v1 v2 v3 v4 0 (v6 + 1) h
      · rw [if_neg q3] at h
        refine Ev_aload_n (x := v0) rfl dX8_isRest_17 ?_
        refine Ev_iload_n (x := v1) rfl dX8_isRest_18 ?_
        refine Ev_iload_n (x := v2) rfl dX8_isRest_19 ?_
        refine Ev_iload (x := v6) rfl dX8_isRest_20 ?_
        refine Ev_iload (x := v4) rfl dX8_isRest_22 ?_
        refine Ev_iload_n (x := v1) rfl dX8_isRest_24 ?_
        obtain ⟨p5, g4, h⟩ := bsome h
        refine Ev_callVi (np := 5) (vs := [.int v1, .int v2, .int v6, .int v4, .int v1]) (rest := []) mdX8_gain lkX8_230 ⟨_, rfl, rfl⟩ (oX8_gain g4) (rX8_gain g4) rfl rfl (Nat.le_of_ble_eq_true rfl) (Nat.le_of_ble_eq_true rfl) dX8_isRest_25 ?_
        refine Ev_aload_n (x := v0) rfl dX8_isRest_28 ?_
        refine Ev_iload_n (x := v1) rfl dX8_isRest_29 ?_
        refine Ev_iload_n (x := v2) rfl dX8_isRest_30 ?_
        refine Ev_iload_n (x := v3) rfl dX8_isRest_31 ?_
        refine Ev_iload (x := v4) rfl dX8_isRest_32 ?_
        refine Ev_iload_n (x := v1) rfl dX8_isRest_34 ?_
        obtain ⟨p7, g6, h⟩ := bsome h
        refine Ev_callVi (np := 5) (vs := [.int v1, .int v2, .int v3, .int v4, .int v1]) (rest := [.int p5.1]) mdX8_gain lkX8_230 ⟨_, rfl, rfl⟩ (oX8_gain g6) (rX8_gain g6) rfl rfl (Nat.le_of_ble_eq_true rfl) (Nat.le_of_ble_eq_true rfl) dX8_isRest_35 ?_
        refine Ev_icmp_gt (tgt := 68) dX8_isRest_38 (by decide) (fun q8 => ?_) (fun q8 => ?_)
        · rw [if_pos q8] at h
          refine Ev_iconst ic_0 dX8_isRest_68 ?_
          refine Ev_istore (loc2 := [some (.ref v0), some (.int v1), some (.int v2), some (.int v3), some (.int v4), some (.int 0), some (.int v6)]) (Nat.le_of_ble_eq_true rfl) rfl rfl dX8_isRest_69 ?_
          refine Ev_iinc (x := v6) (v := (v6 + 1)) (loc2 := [some (.ref v0), some (.int v1), some (.int v2), some (.int v3), some (.int v4), some (.int 0), some (.int (v6 + 1))]) rfl (congrArg (v6 + ·) ic_1) (Nat.le_of_ble_eq_true rfl) rfl rfl dX8_isRest_71 ?_
          refine Ev_goto (tgt := 6) dX8_isRest_74 (by decide) ?_
          exact ih p7.2 v0 v1 v2 v3 v4 0 (v6 + 1) h
        · rw [if_neg q8] at h
          refine Ev_aload_n (x := v0) rfl dX8_isRest_41 ?_
          refine Ev_iload_n (x := v1) rfl dX8_isRest_42 ?_
          refine Ev_iload_n (x := v2) rfl dX8_isRest_43 ?_
          refine Ev_iload_n (x := v3) rfl dX8_isRest_44 ?_
          refine Ev_iload (x := v6) rfl dX8_isRest_45 ?_
          refine Ev_iload_n (x := v2) rfl dX8_isRest_47 ?_
          obtain ⟨p10, g9, h⟩ := bsome h
          refine Ev_callVi (np := 5) (vs := [.int v1, .int v2, .int v3, .int v6, .int v2]) (rest := []) mdX8_gain lkX8_230 ⟨_, rfl, rfl⟩ (oX8_gain g9) (rX8_gain g9) rfl rfl (Nat.le_of_ble_eq_true rfl) (Nat.le_of_ble_eq_true rfl) dX8_isRest_48 ?_
          refine Ev_aload_n (x := v0) rfl dX8_isRest_51 ?_
          refine Ev_iload_n (x := v1) rfl dX8_isRest_52 ?_
          refine Ev_iload_n (x := v2) rfl dX8_isRest_53 ?_
          refine Ev_iload_n (x := v3) rfl dX8_isRest_54 ?_
          refine Ev_iload (x := v4) rfl dX8_isRest_55 ?_
          refine Ev_iload_n (x := v2) rfl dX8_isRest_57 ?_
          obtain ⟨p12, g11, h⟩ := bsome h
          refine Ev_callVi (np := 5) (vs := [.int v1, .int v2, .int v3, .int v4, .int v2]) (rest := [.int p10.1]) mdX8_gain lkX8_230 ⟨_, rfl, rfl⟩ (oX8_gain g11) (rX8_gain g11) rfl rfl (Nat.le_of_ble_eq_true rfl) (Nat.le_of_ble_eq_true rfl) dX8_isRest_58 ?_
          refine Ev_icmp_gt (tgt := 68) dX8_isRest_61 (by decide) (fun q13 => ?_) (fun q13 => ?_)
          · rw [if_pos q13] at h
            refine Ev_iconst ic_0 dX8_isRest_68 ?_
            refine Ev_istore (loc2 := [some (.ref v0), some (.int v1), some (.int v2), some (.int v3), some (.int v4), some (.int 0), some (.int v6)]) (Nat.le_of_ble_eq_true rfl) rfl rfl dX8_isRest_69 ?_
            refine Ev_iinc (x := v6) (v := (v6 + 1)) (loc2 := [some (.ref v0), some (.int v1), some (.int v2), some (.int v3), some (.int v4), some (.int 0), some (.int (v6 + 1))]) rfl (congrArg (v6 + ·) ic_1) (Nat.le_of_ble_eq_true rfl) rfl rfl dX8_isRest_71 ?_
            refine Ev_goto (tgt := 6) dX8_isRest_74 (by decide) ?_
            exact ih p12.2 v0 v1 v2 v3 v4 0 (v6 + 1) h
          · rw [if_neg q13] at h
            refine Ev_iconst ic_1 dX8_isRest_64 ?_
            refine Ev_goto (tgt := 69) dX8_isRest_65 (by decide) ?_
            refine Ev_istore (loc2 := [some (.ref v0), some (.int v1), some (.int v2), some (.int v3), some (.int v4), some (.int 1), some (.int v6)]) (Nat.le_of_ble_eq_true rfl) rfl rfl dX8_isRest_69 ?_
            refine Ev_iinc (x := v6) (v := (v6 + 1)) (loc2 := [some (.ref v0), some (.int v1), some (.int v2), some (.int v3), some (.int v4), some (.int 1), some (.int (v6 + 1))]) rfl (congrArg (v6 + ·) ic_1) (Nat.le_of_ble_eq_true rfl) rfl rfl dX8_isRest_71 ?_
            refine Ev_goto (tgt := 6) dX8_isRest_74 (by decide) ?_
            exact ih p12.2 v0 v1 v2 v3 v4 1 (v6 + 1) h
def fX8_isRest (M : mM) (v0 : Nat) (v1 : Int32) (v2 : Int32) (v3 : Int32) (v4 : Int32) : Option (Int32 × mM) :=
    if isO M v0 8 = true then
      fX8_isRest_c6 FUEL M v0 v1 v2 v3 v4 1 0
    else none
theorem oX8_isRest {M : mM} {v0 : Nat} {v1 : Int32} {v2 : Int32} {v3 : Int32} {v4 : Int32} {y : (Int32 × mM)} (h : fX8_isRest M v0 v1 v2 v3 v4 = some y) : isO M v0 8 = true := by
  unfold fX8_isRest at h
  exact (gsome h).1
set_option maxRecDepth 20000 in
set_option maxHeartbeats 4000000 in
theorem rX8_isRest {E : mE} {M : mM} {v0 : Nat} {v1 : Int32} {v2 : Int32} {v3 : Int32} {v4 : Int32} {x : Int32} {Mf : mM} (h : fX8_isRest M v0 v1 v2 v3 v4 = some (x, Mf)) : EvC mX8_isRest E 6 0 0 [.ref v0, .int v1, .int v2, .int v3, .int v4] M (some (.int x)) Mf := by
  unfold fX8_isRest at h
  replace h := (gsome h).2
  refine EvC.of [some (.ref v0), some (.int v1), some (.int v2), some (.int v3), some (.int v4), none, none] pnX8_isRest rfl (Nat.le_of_ble_eq_true rfl) ?_
  refine Ev_iconst ic_1 dX8_isRest_0 ?_
  refine Ev_istore (loc2 := [some (.ref v0), some (.int v1), some (.int v2), some (.int v3), some (.int v4), some (.int 1), none]) (Nat.le_of_ble_eq_true rfl) rfl rfl dX8_isRest_1 ?_
  refine Ev_iconst ic_0 dX8_isRest_3 ?_
  refine Ev_istore (loc2 := [some (.ref v0), some (.int v1), some (.int v2), some (.int v3), some (.int v4), some (.int 1), some (.int 0)]) (Nat.le_of_ble_eq_true rfl) rfl rfl dX8_isRest_4 ?_
  exact rX8_isRest_c6 FUEL M v0 v1 v2 v3 v4 1 0 h
/-! TinselRiverModel.rests(III)I -/
def fX8_rests_c48 : Nat → mM → Nat → Int32 → Int32 → Int32 → Int32 → Int32 → Int32 → Option (Int32 × mM)
  | 0, _, _, _, _, _, _, _, _ => none
  | n + 1, M, v0, v1, v2, v3, v4, v5, v6 =>
    if 16 ≤ v6 then
      (if v3 = 0 then
        (some (v4, M))
      else
        (some (v5, M)))
    else
      ((fX8_isRest M v0 v1 v2 (v6 / 4) (v6 - v6 / 4 * 4)).bind fun p4 =>
      if p4.1 = 0 then
        (fX8_rests_c48 n p4.2 v0 v1 v2 v3 v4 v5 (v6 + 1))
      else
        (if v4 = 0 then
          (fX8_rests_c48 n p4.2 v0 v1 v2 v3 (v4 + 1) ((10 * (v6 / 4)) + (v6 - v6 / 4 * 4)) (v6 + 1))
        else
          (fX8_rests_c48 n p4.2 v0 v1 v2 v3 (v4 + 1) v5 (v6 + 1))))
set_option maxRecDepth 20000 in
set_option maxHeartbeats 4000000 in
theorem rX8_rests_c48 {E : mE} {x : Int32} {Mf : mM} : ∀ (n : Nat) (M : mM) (v0 : Nat) (v1 : Int32) (v2 : Int32) (v3 : Int32) (v4 : Int32) (v5 : Int32) (v6 : Int32), fX8_rests_c48 n M v0 v1 v2 v3 v4 v5 v6 = some (x, Mf) → Ev mX8_rests E 7 0 0 (some (.int x)) Mf 48 [some (.ref v0), some (.int v1), some (.int v2), some (.int v3), some (.int v4), some (.int v5), some (.int v6)] [] M 0 0 := by
  intro n
  induction n with
  | zero => intro M v0 v1 v2 v3 v4 v5 v6 h; rw [fX8_rests_c48.eq_1] at h; cases h
  | succ n ih =>
    intro M v0 v1 v2 v3 v4 v5 v6 h
    rw [fX8_rests_c48.eq_2] at h
    refine Ev_iload (x := v6) rfl dX8_rests_48 ?_
    refine Ev_bipush bp_16 dX8_rests_50 ?_
    refine Ev_icmp_ge (tgt := 105) dX8_rests_52 (by decide) (fun q1 => ?_) (fun q1 => ?_)
    · rw [if_pos q1] at h
      refine Ev_iload_n (x := v3) rfl dX8_rests_105 ?_
      refine Ev_if_ne (tgt := 114) dX8_rests_106 (by decide) (fun q2 => ?_) (fun q2 => ?_)
      · rw [if_neg q2] at h
        refine Ev_iload (x := v5) rfl dX8_rests_114 ?_
        cases h
        exact Ev_iret rfl rfl dX8_rests_116 ⟨rfl, rfl⟩
      · rw [if_pos q2] at h
        refine Ev_iload (x := v4) rfl dX8_rests_109 ?_
        refine Ev_goto (tgt := 116) dX8_rests_111 (by decide) ?_
        cases h
        exact Ev_iret rfl rfl dX8_rests_116 ⟨rfl, rfl⟩
    · rw [if_neg q1] at h
      refine Ev_aload_n (x := v0) rfl dX8_rests_55 ?_
      refine Ev_iload_n (x := v1) rfl dX8_rests_56 ?_
      refine Ev_iload_n (x := v2) rfl dX8_rests_57 ?_
      refine Ev_iload (x := v6) rfl dX8_rests_58 ?_
      refine Ev_iconst ic_4 dX8_rests_60 ?_
      refine Ev_idiv (by decide) dX8_rests_61 ?_
      refine Ev_iload (x := v6) rfl dX8_rests_62 ?_
      refine Ev_iconst ic_4 dX8_rests_64 ?_
      refine Ev_irem (by decide) dX8_rests_65 ?_
      obtain ⟨p4, g3, h⟩ := bsome h
      refine Ev_callVi (np := 4) (vs := [.int v1, .int v2, .int (v6 / 4), .int (v6 - v6 / 4 * 4)]) (rest := []) mdX8_isRest lkX8_234 ⟨_, rfl, rfl⟩ (oX8_isRest g3) (rX8_isRest g3) rfl rfl (Nat.le_of_ble_eq_true rfl) (Nat.le_of_ble_eq_true rfl) dX8_rests_66 ?_
      refine Ev_if_eq (tgt := 99) dX8_rests_69 (by decide) (fun q5 => ?_) (fun q5 => ?_)
      · rw [if_pos q5] at h
        refine Ev_iinc (x := v6) (v := (v6 + 1)) (loc2 := [some (.ref v0), some (.int v1), some (.int v2), some (.int v3), some (.int v4), some (.int v5), some (.int (v6 + 1))]) rfl (congrArg (v6 + ·) ic_1) (Nat.le_of_ble_eq_true rfl) rfl rfl dX8_rests_99 ?_
        refine Ev_goto (tgt := 48) dX8_rests_102 (by decide) ?_
        exact ih p4.2 v0 v1 v2 v3 v4 v5 (v6 + 1) h
      · rw [if_neg q5] at h
        refine Ev_iload (x := v4) rfl dX8_rests_72 ?_
        refine Ev_if_ne (tgt := 92) dX8_rests_74 (by decide) (fun q6 => ?_) (fun q6 => ?_)
        · rw [if_neg q6] at h
          refine Ev_iload (x := v5) rfl dX8_rests_92 ?_
          refine Ev_istore (loc2 := [some (.ref v0), some (.int v1), some (.int v2), some (.int v3), some (.int v4), some (.int v5), some (.int v6)]) (Nat.le_of_ble_eq_true rfl) rfl rfl dX8_rests_94 ?_
          refine Ev_iinc (x := v4) (v := (v4 + 1)) (loc2 := [some (.ref v0), some (.int v1), some (.int v2), some (.int v3), some (.int (v4 + 1)), some (.int v5), some (.int v6)]) rfl (congrArg (v4 + ·) ic_1) (Nat.le_of_ble_eq_true rfl) rfl rfl dX8_rests_96 ?_
          refine Ev_iinc (x := v6) (v := (v6 + 1)) (loc2 := [some (.ref v0), some (.int v1), some (.int v2), some (.int v3), some (.int (v4 + 1)), some (.int v5), some (.int (v6 + 1))]) rfl (congrArg (v6 + ·) ic_1) (Nat.le_of_ble_eq_true rfl) rfl rfl dX8_rests_99 ?_
          refine Ev_goto (tgt := 48) dX8_rests_102 (by decide) ?_
          exact ih p4.2 v0 v1 v2 v3 (v4 + 1) v5 (v6 + 1) h
        · rw [if_pos q6] at h
          refine Ev_bipush bp_10 dX8_rests_77 ?_
          refine Ev_iload (x := v6) rfl dX8_rests_79 ?_
          refine Ev_iconst ic_4 dX8_rests_81 ?_
          refine Ev_idiv (by decide) dX8_rests_82 ?_
          refine Ev_imul dX8_rests_83 ?_
          refine Ev_iload (x := v6) rfl dX8_rests_84 ?_
          refine Ev_iconst ic_4 dX8_rests_86 ?_
          refine Ev_irem (by decide) dX8_rests_87 ?_
          refine Ev_iadd dX8_rests_88 ?_
          refine Ev_goto (tgt := 94) dX8_rests_89 (by decide) ?_
          refine Ev_istore (loc2 := [some (.ref v0), some (.int v1), some (.int v2), some (.int v3), some (.int v4), some (.int ((10 * (v6 / 4)) + (v6 - v6 / 4 * 4))), some (.int v6)]) (Nat.le_of_ble_eq_true rfl) rfl rfl dX8_rests_94 ?_
          refine Ev_iinc (x := v4) (v := (v4 + 1)) (loc2 := [some (.ref v0), some (.int v1), some (.int v2), some (.int v3), some (.int (v4 + 1)), some (.int ((10 * (v6 / 4)) + (v6 - v6 / 4 * 4))), some (.int v6)]) rfl (congrArg (v4 + ·) ic_1) (Nat.le_of_ble_eq_true rfl) rfl rfl dX8_rests_96 ?_
          refine Ev_iinc (x := v6) (v := (v6 + 1)) (loc2 := [some (.ref v0), some (.int v1), some (.int v2), some (.int v3), some (.int (v4 + 1)), some (.int ((10 * (v6 / 4)) + (v6 - v6 / 4 * 4))), some (.int (v6 + 1))]) rfl (congrArg (v6 + ·) ic_1) (Nat.le_of_ble_eq_true rfl) rfl rfl dX8_rests_99 ?_
          refine Ev_goto (tgt := 48) dX8_rests_102 (by decide) ?_
          exact ih p4.2 v0 v1 v2 v3 (v4 + 1) ((10 * (v6 / 4)) + (v6 - v6 / 4 * 4)) (v6 + 1) h
def fX8_rests (M : mM) (v0 : Nat) (v1 : Int32) (v2 : Int32) (v3 : Int32) : Option (Int32 × mM) :=
    if isO M v0 8 = true then
      (fX8_isThere M v0 0 v1).bind fun x2 =>
      if x2 = 0 then
        (some ((-1), M))
      else
        ((fX8_isThere M v0 0 v2).bind fun x5 =>
        if x5 = 0 then
          (some ((-1), M))
        else
          (if v1 = v2 then
            (some ((-2), M))
          else
            ((fX8_in M (Int32.toInt64 v3) (0 : Int64) (1 : Int64)).bind fun x9 =>
            if x9 = 0 then
              (some ((-2), M))
            else
              (fX8_rests_c48 FUEL M v0 v1 v2 v3 0 (-9) 0))))
    else none
theorem oX8_rests {M : mM} {v0 : Nat} {v1 : Int32} {v2 : Int32} {v3 : Int32} {y : (Int32 × mM)} (h : fX8_rests M v0 v1 v2 v3 = some y) : isO M v0 8 = true := by
  unfold fX8_rests at h
  exact (gsome h).1
set_option maxRecDepth 20000 in
set_option maxHeartbeats 4000000 in
theorem rX8_rests {E : mE} {M : mM} {v0 : Nat} {v1 : Int32} {v2 : Int32} {v3 : Int32} {x : Int32} {Mf : mM} (h : fX8_rests M v0 v1 v2 v3 = some (x, Mf)) : EvC mX8_rests E 7 0 0 [.ref v0, .int v1, .int v2, .int v3] M (some (.int x)) Mf := by
  unfold fX8_rests at h
  replace h := (gsome h).2
  refine EvC.of [some (.ref v0), some (.int v1), some (.int v2), some (.int v3), none, none, none] pnX8_rests rfl (Nat.le_of_ble_eq_true rfl) ?_
  refine Ev_aload_n (x := v0) rfl dX8_rests_0 ?_
  refine Ev_iconst ic_0 dX8_rests_1 ?_
  refine Ev_iload_n (x := v1) rfl dX8_rests_2 ?_
  obtain ⟨x2, g1, h⟩ := bsome h
  refine Ev_callVi (np := 2) (vs := [.int 0, .int v1]) (rest := []) mdX8_isThere lkX8_99 ⟨_, rfl, rfl⟩ (oX8_isThere g1) (rX8_isThere g1) rfl rfl (Nat.le_of_ble_eq_true rfl) (Nat.le_of_ble_eq_true rfl) dX8_rests_3 ?_
  refine Ev_if_eq (tgt := 18) dX8_rests_6 (by decide) (fun q3 => ?_) (fun q3 => ?_)
  · rw [if_pos q3] at h
    refine Ev_iconst ic_m1 dX8_rests_18 ?_
    cases h
    exact Ev_iret rfl rfl dX8_rests_19 ⟨rfl, rfl⟩
  · rw [if_neg q3] at h
    refine Ev_aload_n (x := v0) rfl dX8_rests_9 ?_
    refine Ev_iconst ic_0 dX8_rests_10 ?_
    refine Ev_iload_n (x := v2) rfl dX8_rests_11 ?_
    obtain ⟨x5, g4, h⟩ := bsome h
    refine Ev_callVi (np := 2) (vs := [.int 0, .int v2]) (rest := []) mdX8_isThere lkX8_99 ⟨_, rfl, rfl⟩ (oX8_isThere g4) (rX8_isThere g4) rfl rfl (Nat.le_of_ble_eq_true rfl) (Nat.le_of_ble_eq_true rfl) dX8_rests_12 ?_
    refine Ev_if_ne (tgt := 20) dX8_rests_15 (by decide) (fun q6 => ?_) (fun q6 => ?_)
    · rw [if_neg q6] at h
      refine Ev_iload_n (x := v1) rfl dX8_rests_20 ?_
      refine Ev_iload_n (x := v2) rfl dX8_rests_21 ?_
      refine Ev_icmp_eq (tgt := 35) dX8_rests_22 (by decide) (fun q7 => ?_) (fun q7 => ?_)
      · rw [if_pos q7] at h
        refine Ev_bipush bp_m2 dX8_rests_35 ?_
        cases h
        exact Ev_iret rfl rfl dX8_rests_37 ⟨rfl, rfl⟩
      · rw [if_neg q7] at h
        refine Ev_iload_n (x := v3) rfl dX8_rests_25 ?_
        refine Ev_i2l dX8_rests_26 ?_
        refine Ev_lconst (v := 0) (by decide) dX8_rests_27 ?_
        refine Ev_lconst (v := 1) (by decide) dX8_rests_28 ?_
        obtain ⟨x9, g8, h⟩ := bsome h
        refine Ev_callSi (np := 3) (vs := [.long (Int32.toInt64 v3), .long (0 : Int64), .long (1 : Int64)]) (rest := []) mdX8_in lkX8_52 (rX8_in g8) rfl rfl (Nat.le_of_ble_eq_true rfl) (Nat.le_of_ble_eq_true rfl) dX8_rests_29 ?_
        refine Ev_if_ne (tgt := 38) dX8_rests_32 (by decide) (fun q10 => ?_) (fun q10 => ?_)
        · rw [if_neg q10] at h
          refine Ev_iconst ic_0 dX8_rests_38 ?_
          refine Ev_istore (loc2 := [some (.ref v0), some (.int v1), some (.int v2), some (.int v3), some (.int 0), none, none]) (Nat.le_of_ble_eq_true rfl) rfl rfl dX8_rests_39 ?_
          refine Ev_bipush bp_m9 dX8_rests_41 ?_
          refine Ev_istore (loc2 := [some (.ref v0), some (.int v1), some (.int v2), some (.int v3), some (.int 0), some (.int (-9)), none]) (Nat.le_of_ble_eq_true rfl) rfl rfl dX8_rests_43 ?_
          refine Ev_iconst ic_0 dX8_rests_45 ?_
          refine Ev_istore (loc2 := [some (.ref v0), some (.int v1), some (.int v2), some (.int v3), some (.int 0), some (.int (-9)), some (.int 0)]) (Nat.le_of_ble_eq_true rfl) rfl rfl dX8_rests_46 ?_
          exact rX8_rests_c48 FUEL M v0 v1 v2 v3 0 (-9) 0 h
        · rw [if_pos q10] at h
          refine Ev_bipush bp_m2 dX8_rests_35 ?_
          cases h
          exact Ev_iret rfl rfl dX8_rests_37 ⟨rfl, rfl⟩
    · rw [if_pos q6] at h
      refine Ev_iconst ic_m1 dX8_rests_18 ?_
      cases h
      exact Ev_iret rfl rfl dX8_rests_19 ⟨rfl, rfl⟩
/-! TinselRiverModel.power(II)I -/
def fX8_power_c4 (M : mM) : Nat → Int32 → Int32 → Int32 → Int32 → Option Int32
  | 0, _, _, _, _ => none
  | n + 1, v0, v1, v2, v3 =>
    if v1 ≤ v3 then
      (some v2)
    else
      (fX8_power_c4 M n v0 v1 (v2 * v0) (v3 + 1))
set_option maxRecDepth 20000 in
set_option maxHeartbeats 4000000 in
theorem rX8_power_c4 {E : mE} {M : mM} {x : Int32} : ∀ (n : Nat) (v0 : Int32) (v1 : Int32) (v2 : Int32) (v3 : Int32), fX8_power_c4 M n v0 v1 v2 v3 = some x → Ev mX8_power E 0 0 0 (some (.int x)) M 4 [some (.int v0), some (.int v1), some (.int v2), some (.int v3)] [] M 0 0 := by
  intro n
  induction n with
  | zero => intro v0 v1 v2 v3 h; rw [fX8_power_c4.eq_1] at h; cases h
  | succ n ih =>
    intro v0 v1 v2 v3 h
    rw [fX8_power_c4.eq_2] at h
    refine Ev_iload_n (x := v3) rfl dX8_power_4 ?_
    refine Ev_iload_n (x := v1) rfl dX8_power_5 ?_
    refine Ev_icmp_ge (tgt := 19) dX8_power_6 (by decide) (fun q1 => ?_) (fun q1 => ?_)
    · rw [if_pos q1] at h
      refine Ev_iload_n (x := v2) rfl dX8_power_19 ?_
      cases h
      exact Ev_iret rfl rfl dX8_power_20 ⟨rfl, rfl⟩
    · rw [if_neg q1] at h
      refine Ev_iload_n (x := v2) rfl dX8_power_9 ?_
      refine Ev_iload_n (x := v0) rfl dX8_power_10 ?_
      refine Ev_imul dX8_power_11 ?_
      refine Ev_istore_n (loc2 := [some (.int v0), some (.int v1), some (.int (v2 * v0)), some (.int v3)]) (Nat.le_of_ble_eq_true rfl) rfl rfl dX8_power_12 ?_
      refine Ev_iinc (x := v3) (v := (v3 + 1)) (loc2 := [some (.int v0), some (.int v1), some (.int (v2 * v0)), some (.int (v3 + 1))]) rfl (congrArg (v3 + ·) ic_1) (Nat.le_of_ble_eq_true rfl) rfl rfl dX8_power_13 ?_
      refine Ev_goto (tgt := 4) dX8_power_16 (by decide) ?_
      exact ih v0 v1 (v2 * v0) (v3 + 1) h
def fX8_power (M : mM) (v0 : Int32) (v1 : Int32) : Option Int32 :=
    fX8_power_c4 M FUEL v0 v1 1 0
set_option maxRecDepth 20000 in
set_option maxHeartbeats 4000000 in
theorem rX8_power {E : mE} {M : mM} {v0 : Int32} {v1 : Int32} {x : Int32} (h : fX8_power M v0 v1 = some x) : EvC mX8_power E 0 0 0 [.int v0, .int v1] M (some (.int x)) M := by
  unfold fX8_power at h
  refine EvC.of [some (.int v0), some (.int v1), none, none] pnX8_power rfl (Nat.le_of_ble_eq_true rfl) ?_
  refine Ev_iconst ic_1 dX8_power_0 ?_
  refine Ev_istore_n (loc2 := [some (.int v0), some (.int v1), some (.int 1), none]) (Nat.le_of_ble_eq_true rfl) rfl rfl dX8_power_1 ?_
  refine Ev_iconst ic_0 dX8_power_2 ?_
  refine Ev_istore_n (loc2 := [some (.int v0), some (.int v1), some (.int 1), some (.int 0)]) (Nat.le_of_ble_eq_true rfl) rfl rfl dX8_power_3 ?_
  exact rX8_power_c4 FUEL v0 v1 1 0 h
/-! TinselRiverModel.lost(IZ)I -/
def fX8_lost_c30 (M : mM) : Nat → Nat → Int32 → Int32 → Int32 → Int32 → Int32 → Int32 → Option Int32
  | 0, _, _, _, _, _, _, _ => none
  | n + 1, v0, v1, v2, v3, v4, v5, v6 =>
    if 16 ≤ v6 then
      ((fX8_common M v4 v5).bind fun x3 =>
      if v2 = 0 then
        (if x3 = 0 then none else
        some (v5 / x3))
      else
        (if x3 = 0 then none else
        some (v4 / x3)))
    else
      (if (v6 &&& (v3 ^^^ (-1))) = 0 then
        ((fX8_ones M v6).bind fun x9 =>
        (fX8_power M (10 - v1) x9).bind fun x11 =>
        (fX8_ones M v3).bind fun x13 =>
        (fX8_ones M v6).bind fun x15 =>
        (fX8_power M v1 (x13 - x15)).bind fun x17 =>
        (fX8_coverOf M v0 v6).bind fun x19 =>
        (gI M v0 8 11).bind fun x20 =>
        if x19 = ((1 <<< (x20 &&& 31)) - 1) then
          (fX8_lost_c30 M n v0 v1 v2 v3 (v4 + (x11 * x17)) (v5 + (x11 * x17)) (v6 + 1))
        else
          (fX8_lost_c30 M n v0 v1 v2 v3 (v4 + 0) (v5 + (x11 * x17)) (v6 + 1)))
      else
        (fX8_lost_c30 M n v0 v1 v2 v3 v4 v5 (v6 + 1)))
set_option maxRecDepth 20000 in
set_option maxHeartbeats 4000000 in
theorem rX8_lost_c30 {E : mE} {M : mM} {x : Int32} : ∀ (n : Nat) (v0 : Nat) (v1 : Int32) (v2 : Int32) (v3 : Int32) (v4 : Int32) (v5 : Int32) (v6 : Int32), fX8_lost_c30 M n v0 v1 v2 v3 v4 v5 v6 = some x → Ev mX8_lost E 3 0 0 (some (.int x)) M 30 [some (.ref v0), some (.int v1), some (.int v2), some (.int v3), some (.int v4), some (.int v5), some (.int v6), none] [] M 0 0 := by
  intro n
  induction n with
  | zero => intro v0 v1 v2 v3 v4 v5 v6 h; rw [fX8_lost_c30.eq_1] at h; cases h
  | succ n ih =>
    intro v0 v1 v2 v3 v4 v5 v6 h
    rw [fX8_lost_c30.eq_2] at h
    refine Ev_iload (x := v6) rfl dX8_lost_30 ?_
    refine Ev_bipush bp_16 dX8_lost_32 ?_
    refine Ev_icmp_ge (tgt := 116) dX8_lost_34 (by decide) (fun q1 => ?_) (fun q1 => ?_)
    · rw [if_pos q1] at h
      refine Ev_iload (x := v4) rfl dX8_lost_116 ?_
      refine Ev_iload (x := v5) rfl dX8_lost_118 ?_
      obtain ⟨x3, g2, h⟩ := bsome h
      refine Ev_callSi (np := 2) (vs := [.int v4, .int v5]) (rest := []) mdX8_common lkX8_227 (rX8_common g2) rfl rfl (Nat.le_of_ble_eq_true rfl) (Nat.le_of_ble_eq_true rfl) dX8_lost_120 ?_
      refine Ev_istore (loc2 := [some (.ref v0), some (.int v1), some (.int v2), some (.int v3), some (.int v4), some (.int v5), some (.int x3), none]) (Nat.le_of_ble_eq_true rfl) rfl rfl dX8_lost_123 ?_
      refine Ev_iload_n (x := v2) rfl dX8_lost_125 ?_
      refine Ev_if_eq (tgt := 137) dX8_lost_126 (by decide) (fun q4 => ?_) (fun q4 => ?_)
      · rw [if_pos q4] at h
        refine Ev_iload (x := v5) rfl dX8_lost_137 ?_
        refine Ev_iload (x := x3) rfl dX8_lost_139 ?_
        obtain ⟨z5, h⟩ := nsome h
        refine Ev_idiv z5 dX8_lost_141 ?_
        cases h
        exact Ev_iret rfl rfl dX8_lost_142 ⟨rfl, rfl⟩
      · rw [if_neg q4] at h
        refine Ev_iload (x := v4) rfl dX8_lost_129 ?_
        refine Ev_iload (x := x3) rfl dX8_lost_131 ?_
        obtain ⟨z6, h⟩ := nsome h
        refine Ev_idiv z6 dX8_lost_133 ?_
        refine Ev_goto (tgt := 142) dX8_lost_134 (by decide) ?_
        cases h
        exact Ev_iret rfl rfl dX8_lost_142 ⟨rfl, rfl⟩
    · rw [if_neg q1] at h
      refine Ev_iload (x := v6) rfl dX8_lost_37 ?_
      refine Ev_iload_n (x := v3) rfl dX8_lost_39 ?_
      refine Ev_iconst ic_m1 dX8_lost_40 ?_
      refine Ev_ixor dX8_lost_41 ?_
      refine Ev_iand dX8_lost_42 ?_
      refine Ev_if_ne (tgt := 110) dX8_lost_43 (by decide) (fun q7 => ?_) (fun q7 => ?_)
      · rw [if_neg q7] at h
        refine Ev_iinc (x := v6) (v := (v6 + 1)) (loc2 := [some (.ref v0), some (.int v1), some (.int v2), some (.int v3), some (.int v4), some (.int v5), some (.int (v6 + 1)), none]) rfl (congrArg (v6 + ·) ic_1) (Nat.le_of_ble_eq_true rfl) rfl rfl dX8_lost_110 ?_
        refine Ev_goto (tgt := 30) dX8_lost_113 (by decide) ?_
        exact ih v0 v1 v2 v3 v4 v5 (v6 + 1) h
      · rw [if_pos q7] at h
        refine Ev_bipush bp_10 dX8_lost_46 ?_
        refine Ev_iload_n (x := v1) rfl dX8_lost_48 ?_
        refine Ev_isub dX8_lost_49 ?_
        refine Ev_iload (x := v6) rfl dX8_lost_50 ?_
        obtain ⟨x9, g8, h⟩ := bsome h
        refine Ev_callSi (np := 1) (vs := [.int v6]) (rest := [.int (10 - v1)]) mdX8_ones lkX8_112 (rX8_ones g8) rfl rfl (Nat.le_of_ble_eq_true rfl) (Nat.le_of_ble_eq_true rfl) dX8_lost_52 ?_
        obtain ⟨x11, g10, h⟩ := bsome h
        refine Ev_callSi (np := 2) (vs := [.int (10 - v1), .int x9]) (rest := []) mdX8_power lkX8_238 (rX8_power g10) rfl rfl (Nat.le_of_ble_eq_true rfl) (Nat.le_of_ble_eq_true rfl) dX8_lost_55 ?_
        refine Ev_iload_n (x := v1) rfl dX8_lost_58 ?_
        refine Ev_iload_n (x := v3) rfl dX8_lost_59 ?_
        obtain ⟨x13, g12, h⟩ := bsome h
        refine Ev_callSi (np := 1) (vs := [.int v3]) (rest := [.int v1, .int x11]) mdX8_ones lkX8_112 (rX8_ones g12) rfl rfl (Nat.le_of_ble_eq_true rfl) (Nat.le_of_ble_eq_true rfl) dX8_lost_60 ?_
        refine Ev_iload (x := v6) rfl dX8_lost_63 ?_
        obtain ⟨x15, g14, h⟩ := bsome h
        refine Ev_callSi (np := 1) (vs := [.int v6]) (rest := [.int x13, .int v1, .int x11]) mdX8_ones lkX8_112 (rX8_ones g14) rfl rfl (Nat.le_of_ble_eq_true rfl) (Nat.le_of_ble_eq_true rfl) dX8_lost_65 ?_
        refine Ev_isub dX8_lost_68 ?_
        obtain ⟨x17, g16, h⟩ := bsome h
        refine Ev_callSi (np := 2) (vs := [.int v1, .int (x13 - x15)]) (rest := [.int x11]) mdX8_power lkX8_238 (rX8_power g16) rfl rfl (Nat.le_of_ble_eq_true rfl) (Nat.le_of_ble_eq_true rfl) dX8_lost_69 ?_
        refine Ev_imul dX8_lost_72 ?_
        refine Ev_istore (loc2 := [some (.ref v0), some (.int v1), some (.int v2), some (.int v3), some (.int v4), some (.int v5), some (.int v6), some (.int (x11 * x17))]) (Nat.le_of_ble_eq_true rfl) rfl rfl dX8_lost_73 ?_
        refine Ev_iload (x := v5) rfl dX8_lost_75 ?_
        refine Ev_iload (x := (x11 * x17)) rfl dX8_lost_77 ?_
        refine Ev_iadd dX8_lost_79 ?_
        refine Ev_istore (loc2 := [some (.ref v0), some (.int v1), some (.int v2), some (.int v3), some (.int v4), some (.int (v5 + (x11 * x17))), some (.int v6), some (.int (x11 * x17))]) (Nat.le_of_ble_eq_true rfl) rfl rfl dX8_lost_80 ?_
        refine Ev_iload (x := v4) rfl dX8_lost_82 ?_
        refine Ev_aload_n (x := v0) rfl dX8_lost_84 ?_
        refine Ev_iload (x := v6) rfl dX8_lost_85 ?_
        obtain ⟨x19, g18, h⟩ := bsome h
        refine Ev_callVi (np := 1) (vs := [.int v6]) (rest := [.int v4]) mdX8_coverOf lkX8_195 ⟨_, rfl, rfl⟩ (oX8_coverOf g18) (rX8_coverOf g18) rfl rfl (Nat.le_of_ble_eq_true rfl) (Nat.le_of_ble_eq_true rfl) dX8_lost_87 ?_
        refine Ev_iconst ic_1 dX8_lost_90 ?_
        refine Ev_aload_n (x := v0) rfl dX8_lost_91 ?_
        obtain ⟨x20, g20, h⟩ := bsome h
        refine Ev_getI flX8_146 dX8_lost_92 g20 ?_
        refine Ev_ishl dX8_lost_95 ?_
        refine Ev_iconst ic_1 dX8_lost_96 ?_
        refine Ev_isub dX8_lost_97 ?_
        refine Ev_icmp_ne (tgt := 106) dX8_lost_98 (by decide) (fun q21 => ?_) (fun q21 => ?_)
        · rw [if_neg q21] at h
          refine Ev_iconst ic_0 dX8_lost_106 ?_
          refine Ev_iadd dX8_lost_107 ?_
          refine Ev_istore (loc2 := [some (.ref v0), some (.int v1), some (.int v2), some (.int v3), some (.int (v4 + 0)), some (.int (v5 + (x11 * x17))), some (.int v6), some (.int (x11 * x17))]) (Nat.le_of_ble_eq_true rfl) rfl rfl dX8_lost_108 ?_
          refine Ev_iinc (x := v6) (v := (v6 + 1)) (loc2 := [some (.ref v0), some (.int v1), some (.int v2), some (.int v3), some (.int (v4 + 0)), some (.int (v5 + (x11 * x17))), some (.int (v6 + 1)), some (.int (x11 * x17))]) rfl (congrArg (v6 + ·) ic_1) (Nat.le_of_ble_eq_true rfl) rfl rfl dX8_lost_110 ?_
          refine Ev_goto (tgt := 30) dX8_lost_113 (by decide) ?_
          refine Ev_drop 7 (loc2 := [some (.ref v0), some (.int v1), some (.int v2), some (.int v3), some (.int (v4 + 0)), some (.int (v5 + (x11 * x17))), some (.int (v6 + 1)), none]) rfl ?_
          exact ih v0 v1 v2 v3 (v4 + 0) (v5 + (x11 * x17)) (v6 + 1) h
        · rw [if_pos q21] at h
          refine Ev_iload (x := (x11 * x17)) rfl dX8_lost_101 ?_
          refine Ev_goto (tgt := 107) dX8_lost_103 (by decide) ?_
          refine Ev_iadd dX8_lost_107 ?_
          refine Ev_istore (loc2 := [some (.ref v0), some (.int v1), some (.int v2), some (.int v3), some (.int (v4 + (x11 * x17))), some (.int (v5 + (x11 * x17))), some (.int v6), some (.int (x11 * x17))]) (Nat.le_of_ble_eq_true rfl) rfl rfl dX8_lost_108 ?_
          refine Ev_iinc (x := v6) (v := (v6 + 1)) (loc2 := [some (.ref v0), some (.int v1), some (.int v2), some (.int v3), some (.int (v4 + (x11 * x17))), some (.int (v5 + (x11 * x17))), some (.int (v6 + 1)), some (.int (x11 * x17))]) rfl (congrArg (v6 + ·) ic_1) (Nat.le_of_ble_eq_true rfl) rfl rfl dX8_lost_110 ?_
          refine Ev_goto (tgt := 30) dX8_lost_113 (by decide) ?_
          refine Ev_drop 7 (loc2 := [some (.ref v0), some (.int v1), some (.int v2), some (.int v3), some (.int (v4 + (x11 * x17))), some (.int (v5 + (x11 * x17))), some (.int (v6 + 1)), none]) rfl ?_
          exact ih v0 v1 v2 v3 (v4 + (x11 * x17)) (v5 + (x11 * x17)) (v6 + 1) h
def fX8_lost (M : mM) (v0 : Nat) (v1 : Int32) (v2 : Int32) : Option Int32 :=
    if isO M v0 8 = true then
      (fX8_in M (Int32.toInt64 v1) (0 : Int64) (10 : Int64)).bind fun x2 =>
      if x2 = 0 then
        (some (-2))
      else
        ((fX8_whoIs M v0 0).bind fun x5 =>
        fX8_lost_c30 M FUEL v0 v1 v2 x5 0 0 0)
    else none
theorem oX8_lost {M : mM} {v0 : Nat} {v1 : Int32} {v2 : Int32} {y : Int32} (h : fX8_lost M v0 v1 v2 = some y) : isO M v0 8 = true := by
  unfold fX8_lost at h
  exact (gsome h).1
set_option maxRecDepth 20000 in
set_option maxHeartbeats 4000000 in
theorem rX8_lost {E : mE} {M : mM} {v0 : Nat} {v1 : Int32} {v2 : Int32} {x : Int32} (h : fX8_lost M v0 v1 v2 = some x) : EvC mX8_lost E 3 0 0 [.ref v0, .int v1, .int v2] M (some (.int x)) M := by
  unfold fX8_lost at h
  replace h := (gsome h).2
  refine EvC.of [some (.ref v0), some (.int v1), some (.int v2), none, none, none, none, none] pnX8_lost rfl (Nat.le_of_ble_eq_true rfl) ?_
  refine Ev_iload_n (x := v1) rfl dX8_lost_0 ?_
  refine Ev_i2l dX8_lost_1 ?_
  refine Ev_lconst (v := 0) (by decide) dX8_lost_2 ?_
  refine Ev_ldc2 csX8_136 dX8_lost_3 ?_
  obtain ⟨x2, g1, h⟩ := bsome h
  refine Ev_callSi (np := 3) (vs := [.long (Int32.toInt64 v1), .long (0 : Int64), .long (10 : Int64)]) (rest := []) mdX8_in lkX8_52 (rX8_in g1) rfl rfl (Nat.le_of_ble_eq_true rfl) (Nat.le_of_ble_eq_true rfl) dX8_lost_6 ?_
  refine Ev_if_ne (tgt := 15) dX8_lost_9 (by decide) (fun q3 => ?_) (fun q3 => ?_)
  · rw [if_neg q3] at h
    refine Ev_aload_n (x := v0) rfl dX8_lost_15 ?_
    refine Ev_iconst ic_0 dX8_lost_16 ?_
    obtain ⟨x5, g4, h⟩ := bsome h
    refine Ev_callVi (np := 1) (vs := [.int 0]) (rest := []) mdX8_whoIs lkX8_116 ⟨_, rfl, rfl⟩ (oX8_whoIs g4) (rX8_whoIs g4) rfl rfl (Nat.le_of_ble_eq_true rfl) (Nat.le_of_ble_eq_true rfl) dX8_lost_17 ?_
    refine Ev_istore_n (loc2 := [some (.ref v0), some (.int v1), some (.int v2), some (.int x5), none, none, none, none]) (Nat.le_of_ble_eq_true rfl) rfl rfl dX8_lost_20 ?_
    refine Ev_iconst ic_0 dX8_lost_21 ?_
    refine Ev_istore (loc2 := [some (.ref v0), some (.int v1), some (.int v2), some (.int x5), some (.int 0), none, none, none]) (Nat.le_of_ble_eq_true rfl) rfl rfl dX8_lost_22 ?_
    refine Ev_iconst ic_0 dX8_lost_24 ?_
    refine Ev_istore (loc2 := [some (.ref v0), some (.int v1), some (.int v2), some (.int x5), some (.int 0), some (.int 0), none, none]) (Nat.le_of_ble_eq_true rfl) rfl rfl dX8_lost_25 ?_
    refine Ev_iconst ic_0 dX8_lost_27 ?_
    refine Ev_istore (loc2 := [some (.ref v0), some (.int v1), some (.int v2), some (.int x5), some (.int 0), some (.int 0), some (.int 0), none]) (Nat.le_of_ble_eq_true rfl) rfl rfl dX8_lost_28 ?_
    exact rX8_lost_c30 FUEL v0 v1 v2 x5 0 0 0 h
  · rw [if_pos q3] at h
    refine Ev_bipush bp_m2 dX8_lost_12 ?_
    cases h
    exact Ev_iret rfl rfl dX8_lost_14 ⟨rfl, rfl⟩
/-! TinselRiverModel.seed(J)J -/
def fX8_seed (M : mM) (v0 : Nat) (v1 : Int64) : Option (Int64 × mM) :=
    if isO M v0 8 = true then
      (gL M v0 8 21).bind fun x1 =>
      (sV M v0 8 21 (.long v1)).bind fun M2 =>
      some (x1, M2)
    else none
theorem oX8_seed {M : mM} {v0 : Nat} {v1 : Int64} {y : (Int64 × mM)} (h : fX8_seed M v0 v1 = some y) : isO M v0 8 = true := by
  unfold fX8_seed at h
  exact (gsome h).1
set_option maxRecDepth 20000 in
set_option maxHeartbeats 4000000 in
theorem rX8_seed {E : mE} {M : mM} {v0 : Nat} {v1 : Int64} {x : Int64} {Mf : mM} (h : fX8_seed M v0 v1 = some (x, Mf)) : EvC mX8_seed E 0 0 0 [.ref v0, .long v1] M (some (.long x)) Mf := by
  unfold fX8_seed at h
  replace h := (gsome h).2
  refine EvC.of [some (.ref v0), some (.long v1), none, none, none] pnX8_seed rfl (Nat.le_of_ble_eq_true rfl) ?_
  refine Ev_aload_n (x := v0) rfl dX8_seed_0 ?_
  obtain ⟨x1, g1, h⟩ := bsome h
  refine Ev_getL flX8_241 dX8_seed_1 g1 ?_
  refine Ev_lstore_n (loc2 := [some (.ref v0), some (.long v1), none, some (.long x1), none]) (Nat.le_of_ble_eq_true rfl) rfl rfl dX8_seed_4 ?_
  refine Ev_aload_n (x := v0) rfl dX8_seed_5 ?_
  refine Ev_lload_n (x := v1) rfl dX8_seed_6 ?_
  obtain ⟨M2, g2, h⟩ := bsome h
  refine Ev_put (v := .long v1) flX8_241 ⟨rfl, rfl⟩ (fun q hq => by cases hq; exact Or.inl rfl) dX8_seed_7 g2 ?_
  refine Ev_lload_n (x := x1) rfl dX8_seed_10 ?_
  cases h
  exact Ev_lret rfl dX8_seed_11 ⟨rfl, rfl⟩
/-! TinselRiverModel.bendsOfAll(I)I -/
def fX8_bendsOfAll_c4 (M : mM) : Nat → Nat → Int32 → Int32 → Int32 → Option Int32
  | 0, _, _, _, _ => none
  | n + 1, v0, v1, v2, v3 =>
    (gI M v0 8 0).bind fun x1 =>
    if x1 ≤ v3 then
      (some v2)
    else
      ((gR M v0 8 2).bind fun a3 =>
      (aI M false a3 (((57 * v1) + 4) + v3)).bind fun x4 =>
      fX8_bendsOfAll_c4 M n v0 v1 (v2 + x4) (v3 + 1))
set_option maxRecDepth 20000 in
set_option maxHeartbeats 4000000 in
theorem rX8_bendsOfAll_c4 {E : mE} {M : mM} {x : Int32} : ∀ (n : Nat) (v0 : Nat) (v1 : Int32) (v2 : Int32) (v3 : Int32), fX8_bendsOfAll_c4 M n v0 v1 v2 v3 = some x → Ev mX8_bendsOfAll E 0 0 0 (some (.int x)) M 4 [some (.ref v0), some (.int v1), some (.int v2), some (.int v3)] [] M 0 0 := by
  intro n
  induction n with
  | zero => intro v0 v1 v2 v3 h; rw [fX8_bendsOfAll_c4.eq_1] at h; cases h
  | succ n ih =>
    intro v0 v1 v2 v3 h
    rw [fX8_bendsOfAll_c4.eq_2] at h
    refine Ev_iload_n (x := v3) rfl dX8_bendsOfAll_4 ?_
    refine Ev_aload_n (x := v0) rfl dX8_bendsOfAll_5 ?_
    obtain ⟨x1, g1, h⟩ := bsome h
    refine Ev_getI flX8_89 dX8_bendsOfAll_6 g1 ?_
    refine Ev_icmp_ge (tgt := 34) dX8_bendsOfAll_9 (by decide) (fun q2 => ?_) (fun q2 => ?_)
    · rw [if_pos q2] at h
      refine Ev_iload_n (x := v2) rfl dX8_bendsOfAll_34 ?_
      cases h
      exact Ev_iret rfl rfl dX8_bendsOfAll_35 ⟨rfl, rfl⟩
    · rw [if_neg q2] at h
      refine Ev_iload_n (x := v2) rfl dX8_bendsOfAll_12 ?_
      refine Ev_aload_n (x := v0) rfl dX8_bendsOfAll_13 ?_
      obtain ⟨a3, g3, h⟩ := bsome h
      refine Ev_getR flX8_13 dX8_bendsOfAll_14 g3 ?_
      refine Ev_bipush bp_57 dX8_bendsOfAll_17 ?_
      refine Ev_iload_n (x := v1) rfl dX8_bendsOfAll_19 ?_
      refine Ev_imul dX8_bendsOfAll_20 ?_
      refine Ev_iconst ic_4 dX8_bendsOfAll_21 ?_
      refine Ev_iadd dX8_bendsOfAll_22 ?_
      refine Ev_iload_n (x := v3) rfl dX8_bendsOfAll_23 ?_
      refine Ev_iadd dX8_bendsOfAll_24 ?_
      obtain ⟨x4, g4, h⟩ := bsome h
      refine Ev_iald dX8_bendsOfAll_25 g4 ?_
      refine Ev_iadd dX8_bendsOfAll_26 ?_
      refine Ev_istore_n (loc2 := [some (.ref v0), some (.int v1), some (.int (v2 + x4)), some (.int v3)]) (Nat.le_of_ble_eq_true rfl) rfl rfl dX8_bendsOfAll_27 ?_
      refine Ev_iinc (x := v3) (v := (v3 + 1)) (loc2 := [some (.ref v0), some (.int v1), some (.int (v2 + x4)), some (.int (v3 + 1))]) rfl (congrArg (v3 + ·) ic_1) (Nat.le_of_ble_eq_true rfl) rfl rfl dX8_bendsOfAll_28 ?_
      refine Ev_goto (tgt := 4) dX8_bendsOfAll_31 (by decide) ?_
      exact ih v0 v1 (v2 + x4) (v3 + 1) h
def fX8_bendsOfAll (M : mM) (v0 : Nat) (v1 : Int32) : Option Int32 :=
    if isO M v0 8 = true then
      fX8_bendsOfAll_c4 M FUEL v0 v1 0 0
    else none
theorem oX8_bendsOfAll {M : mM} {v0 : Nat} {v1 : Int32} {y : Int32} (h : fX8_bendsOfAll M v0 v1 = some y) : isO M v0 8 = true := by
  unfold fX8_bendsOfAll at h
  exact (gsome h).1
set_option maxRecDepth 20000 in
set_option maxHeartbeats 4000000 in
theorem rX8_bendsOfAll {E : mE} {M : mM} {v0 : Nat} {v1 : Int32} {x : Int32} (h : fX8_bendsOfAll M v0 v1 = some x) : EvC mX8_bendsOfAll E 0 0 0 [.ref v0, .int v1] M (some (.int x)) M := by
  unfold fX8_bendsOfAll at h
  replace h := (gsome h).2
  refine EvC.of [some (.ref v0), some (.int v1), none, none] pnX8_bendsOfAll rfl (Nat.le_of_ble_eq_true rfl) ?_
  refine Ev_iconst ic_0 dX8_bendsOfAll_0 ?_
  refine Ev_istore_n (loc2 := [some (.ref v0), some (.int v1), some (.int 0), none]) (Nat.le_of_ble_eq_true rfl) rfl rfl dX8_bendsOfAll_1 ?_
  refine Ev_iconst ic_0 dX8_bendsOfAll_2 ?_
  refine Ev_istore_n (loc2 := [some (.ref v0), some (.int v1), some (.int 0), some (.int 0)]) (Nat.le_of_ble_eq_true rfl) rfl rfl dX8_bendsOfAll_3 ?_
  exact rX8_bendsOfAll_c4 FUEL v0 v1 0 0 h
