/-! printed by wip/whole/gen.py -/
/-! TinselRiver.rests(III)I -/
def fX7_rests_c53 : Nat → mM → Nat → Int32 → Int32 → Int32 → Option (Int32 × mM)
  | 0, _, _, _, _, _ => none
  | n + 1, M, v0, v3, v4, v5 =>
    if 16 ≤ v5 then
      (if v3 = 0 then
        (some (v4, M))
      else
        (some ((-9), M)))
    else
      ((fX7_isRest M v0 v5).bind fun x4 =>
      if x4 = 0 then
        (fX7_rests_c53 n M v0 v3 v4 (v5 + 1))
      else
        (if v3 = 1 then
          (some (((10 * (v5 / 4)) + (v5 - v5 / 4 * 4)), M))
        else
          (fX7_rests_c53 n M v0 v3 (v4 + 1) (v5 + 1))))
set_option maxRecDepth 20000 in
set_option maxHeartbeats 4000000 in
theorem rX7_rests_c53 {E : mE} {x : Int32} {Mf : mM} : ∀ (n : Nat) (M : mM) (v0 : Nat) (v3 : Int32) (v4 : Int32) (v5 : Int32), fX7_rests_c53 n M v0 v3 v4 v5 = some (x, Mf) → Ev mX7_rests E 5 0 0 (some (.int x)) Mf 53 [some (.ref v0), none, none, some (.int v3), some (.int v4), some (.int v5)] [] M 0 0 := by
  intro n
  induction n with
  | zero => intro M v0 v3 v4 v5 h; rw [fX7_rests_c53.eq_1] at h; cases h
  | succ n ih =>
    intro M v0 v3 v4 v5 h
    rw [fX7_rests_c53.eq_2] at h
    refine Ev_iload (x := v5) rfl dX7_rests_53 ?_
    refine Ev_bipush bp_16 dX7_rests_55 ?_
    refine Ev_icmp_ge (tgt := 99) dX7_rests_57 (by decide) (fun q1 => ?_) (fun q1 => ?_)
    · rw [if_pos q1] at h
      refine Ev_iload_n (x := v3) rfl dX7_rests_99 ?_
      refine Ev_if_ne (tgt := 108) dX7_rests_100 (by decide) (fun q2 => ?_) (fun q2 => ?_)
      · rw [if_neg q2] at h
        refine Ev_bipush bp_m9 dX7_rests_108 ?_
        cases h
        exact Ev_iret rfl rfl dX7_rests_110 ⟨rfl, rfl⟩
      · rw [if_pos q2] at h
        refine Ev_iload (x := v4) rfl dX7_rests_103 ?_
        refine Ev_goto (tgt := 110) dX7_rests_105 (by decide) ?_
        cases h
        exact Ev_iret rfl rfl dX7_rests_110 ⟨rfl, rfl⟩
    · rw [if_neg q1] at h
      refine Ev_aload_n (x := v0) rfl dX7_rests_60 ?_
      refine Ev_iload (x := v5) rfl dX7_rests_61 ?_
      obtain ⟨x4, g3, h⟩ := bsome h
      refine Ev_callVi (np := 1) (vs := [.int v5]) (rest := []) mdX7_isRest lkX7_255 ⟨_, rfl, rfl⟩ (oX7_isRest g3) (rX7_isRest g3) rfl rfl (Nat.le_of_ble_eq_true rfl) (Nat.le_of_ble_eq_true rfl) dX7_rests_63 ?_
      refine Ev_if_ne (tgt := 72) dX7_rests_66 (by decide) (fun q5 => ?_) (fun q5 => ?_)
      · rw [if_neg q5] at h
        refine Ev_iload_n (x := v3) rfl dX7_rests_72 ?_
        refine Ev_iconst ic_1 dX7_rests_73 ?_
        refine Ev_icmp_ne (tgt := 90) dX7_rests_74 (by decide) (fun q6 => ?_) (fun q6 => ?_)
        · rw [if_neg q6] at h
          refine Ev_iinc (x := v4) (v := (v4 + 1)) (loc2 := [some (.ref v0), none, none, some (.int v3), some (.int (v4 + 1)), some (.int v5)]) rfl (congrArg (v4 + ·) ic_1) (Nat.le_of_ble_eq_true rfl) rfl rfl dX7_rests_90 ?_
          refine Ev_iinc (x := v5) (v := (v5 + 1)) (loc2 := [some (.ref v0), none, none, some (.int v3), some (.int (v4 + 1)), some (.int (v5 + 1))]) rfl (congrArg (v5 + ·) ic_1) (Nat.le_of_ble_eq_true rfl) rfl rfl dX7_rests_93 ?_
          refine Ev_goto (tgt := 53) dX7_rests_96 (by decide) ?_
          exact ih M v0 v3 (v4 + 1) (v5 + 1) h
        · rw [if_pos q6] at h
          refine Ev_bipush bp_10 dX7_rests_77 ?_
          refine Ev_iload (x := v5) rfl dX7_rests_79 ?_
          refine Ev_iconst ic_4 dX7_rests_81 ?_
          refine Ev_idiv (by decide) dX7_rests_82 ?_
          refine Ev_imul dX7_rests_83 ?_
          refine Ev_iload (x := v5) rfl dX7_rests_84 ?_
          refine Ev_iconst ic_4 dX7_rests_86 ?_
          refine Ev_irem (by decide) dX7_rests_87 ?_
          refine Ev_iadd dX7_rests_88 ?_
          cases h
          exact Ev_iret rfl rfl dX7_rests_89 ⟨rfl, rfl⟩
      · rw [if_pos q5] at h
        refine Ev_goto (tgt := 93) dX7_rests_69 (by decide) ?_
        refine Ev_iinc (x := v5) (v := (v5 + 1)) (loc2 := [some (.ref v0), none, none, some (.int v3), some (.int v4), some (.int (v5 + 1))]) rfl (congrArg (v5 + ·) ic_1) (Nat.le_of_ble_eq_true rfl) rfl rfl dX7_rests_93 ?_
        refine Ev_goto (tgt := 53) dX7_rests_96 (by decide) ?_
        exact ih M v0 v3 v4 (v5 + 1) h
def fX7_rests (M : mM) (v0 : Nat) (v1 : Int32) (v2 : Int32) (v3 : Int32) : Option (Int32 × mM) :=
    if isO M v0 7 = true then
      (gR M v0 7 1).bind fun a1 =>
      (fX6_has M a1 v1).bind fun x3 =>
      if x3 = 0 then
        (some ((-1), M))
      else
        ((gR M v0 7 1).bind fun a5 =>
        (fX6_has M a5 v2).bind fun x7 =>
        if x7 = 0 then
          (some ((-1), M))
        else
          (if v1 = v2 then
            (some ((-2), M))
          else
            (if v3 < 0 then
              (some ((-2), M))
            else
              (if v3 ≤ 1 then
                ((fX7_findGains M v0 v1 v2).bind fun M13 =>
                fX7_rests_c53 FUEL M13 v0 v3 0 0)
              else
                (some ((-2), M))))))
    else none
theorem oX7_rests {M : mM} {v0 : Nat} {v1 : Int32} {v2 : Int32} {v3 : Int32} {y : (Int32 × mM)} (h : fX7_rests M v0 v1 v2 v3 = some y) : isO M v0 7 = true := by
  unfold fX7_rests at h
  exact (gsome h).1
set_option maxRecDepth 20000 in
set_option maxHeartbeats 4000000 in
theorem rX7_rests {E : mE} {M : mM} {v0 : Nat} {v1 : Int32} {v2 : Int32} {v3 : Int32} {x : Int32} {Mf : mM} (h : fX7_rests M v0 v1 v2 v3 = some (x, Mf)) : EvC mX7_rests E 5 0 0 [.ref v0, .int v1, .int v2, .int v3] M (some (.int x)) Mf := by
  unfold fX7_rests at h
  replace h := (gsome h).2
  refine EvC.of [some (.ref v0), some (.int v1), some (.int v2), some (.int v3), none, none] pnX7_rests rfl (Nat.le_of_ble_eq_true rfl) ?_
  refine Ev_aload_n (x := v0) rfl dX7_rests_0 ?_
  obtain ⟨a1, g1, h⟩ := bsome h
  refine Ev_getR flX7_19 dX7_rests_1 g1 ?_
  refine Ev_iload_n (x := v1) rfl dX7_rests_4 ?_
  obtain ⟨x3, g2, h⟩ := bsome h
  refine Ev_callVi (np := 1) (vs := [.int v1]) (rest := []) mdX6_has lkX7_109 ⟨_, rfl, rfl⟩ (oX6_has g2) (rX6_has g2) rfl rfl (Nat.le_of_ble_eq_true rfl) (Nat.le_of_ble_eq_true rfl) dX7_rests_5 ?_
  refine Ev_if_eq (tgt := 22) dX7_rests_8 (by decide) (fun q4 => ?_) (fun q4 => ?_)
  · rw [if_pos q4] at h
    refine Ev_iconst ic_m1 dX7_rests_22 ?_
    cases h
    exact Ev_iret rfl rfl dX7_rests_23 ⟨rfl, rfl⟩
  · rw [if_neg q4] at h
    refine Ev_aload_n (x := v0) rfl dX7_rests_11 ?_
    obtain ⟨a5, g5, h⟩ := bsome h
    refine Ev_getR flX7_19 dX7_rests_12 g5 ?_
    refine Ev_iload_n (x := v2) rfl dX7_rests_15 ?_
    obtain ⟨x7, g6, h⟩ := bsome h
    refine Ev_callVi (np := 1) (vs := [.int v2]) (rest := []) mdX6_has lkX7_109 ⟨_, rfl, rfl⟩ (oX6_has g6) (rX6_has g6) rfl rfl (Nat.le_of_ble_eq_true rfl) (Nat.le_of_ble_eq_true rfl) dX7_rests_16 ?_
    refine Ev_if_ne (tgt := 24) dX7_rests_19 (by decide) (fun q8 => ?_) (fun q8 => ?_)
    · rw [if_neg q8] at h
      refine Ev_iload_n (x := v1) rfl dX7_rests_24 ?_
      refine Ev_iload_n (x := v2) rfl dX7_rests_25 ?_
      refine Ev_icmp_eq (tgt := 38) dX7_rests_26 (by decide) (fun q9 => ?_) (fun q9 => ?_)
      · rw [if_pos q9] at h
        refine Ev_bipush bp_m2 dX7_rests_38 ?_
        cases h
        exact Ev_iret rfl rfl dX7_rests_40 ⟨rfl, rfl⟩
      · rw [if_neg q9] at h
        refine Ev_iload_n (x := v3) rfl dX7_rests_29 ?_
        refine Ev_if_lt (tgt := 38) dX7_rests_30 (by decide) (fun q10 => ?_) (fun q10 => ?_)
        · rw [if_pos q10] at h
          refine Ev_bipush bp_m2 dX7_rests_38 ?_
          cases h
          exact Ev_iret rfl rfl dX7_rests_40 ⟨rfl, rfl⟩
        · rw [if_neg q10] at h
          refine Ev_iload_n (x := v3) rfl dX7_rests_33 ?_
          refine Ev_iconst ic_1 dX7_rests_34 ?_
          refine Ev_icmp_le (tgt := 41) dX7_rests_35 (by decide) (fun q11 => ?_) (fun q11 => ?_)
          · rw [if_pos q11] at h
            refine Ev_aload_n (x := v0) rfl dX7_rests_41 ?_
            refine Ev_iload_n (x := v1) rfl dX7_rests_42 ?_
            refine Ev_iload_n (x := v2) rfl dX7_rests_43 ?_
            obtain ⟨M13, g12, h⟩ := bsome h
            refine Ev_callVv (np := 2) (vs := [.int v1, .int v2]) (rest := []) mdX7_findGains lkX7_252 ⟨_, rfl, rfl⟩ (oX7_findGains g12) (rX7_findGains g12) rfl rfl (Nat.le_of_ble_eq_true rfl) (Nat.le_of_ble_eq_true rfl) dX7_rests_44 ?_
            refine Ev_iconst ic_0 dX7_rests_47 ?_
            refine Ev_istore (loc2 := [some (.ref v0), some (.int v1), some (.int v2), some (.int v3), some (.int 0), none]) (Nat.le_of_ble_eq_true rfl) rfl rfl dX7_rests_48 ?_
            refine Ev_iconst ic_0 dX7_rests_50 ?_
            refine Ev_istore (loc2 := [some (.ref v0), some (.int v1), some (.int v2), some (.int v3), some (.int 0), some (.int 0)]) (Nat.le_of_ble_eq_true rfl) rfl rfl dX7_rests_51 ?_
            refine Ev_drop 1 (loc2 := [some (.ref v0), none, some (.int v2), some (.int v3), some (.int 0), some (.int 0)]) rfl ?_
            refine Ev_drop 2 (loc2 := [some (.ref v0), none, none, some (.int v3), some (.int 0), some (.int 0)]) rfl ?_
            exact rX7_rests_c53 FUEL M13 v0 v3 0 0 h
          · rw [if_neg q11] at h
            refine Ev_bipush bp_m2 dX7_rests_38 ?_
            cases h
            exact Ev_iret rfl rfl dX7_rests_40 ⟨rfl, rfl⟩
    · rw [if_pos q8] at h
      refine Ev_iconst ic_m1 dX7_rests_22 ?_
      cases h
      exact Ev_iret rfl rfl dX7_rests_23 ⟨rfl, rfl⟩
/-! TinselRiver.chanceOf(III)I -/
def fX7_chanceOf_c5 (M : mM) : Nat → Int32 → Int32 → Int32 → Int32 → Int32 → Option Int32
  | 0, _, _, _, _, _ => none
  | n + 1, v0, v1, v2, v3, v4 =>
    if 4 ≤ v4 then
      (some v3)
    else
      (if ((v1 >>> (v4 &&& 31)) &&& 1) = 1 then
        (if ((v0 >>> (v4 &&& 31)) &&& 1) = 1 then
          (fX7_chanceOf_c5 M n v0 v1 v2 (v3 * (10 - v2)) (v4 + 1))
        else
          (fX7_chanceOf_c5 M n v0 v1 v2 (v3 * v2) (v4 + 1)))
      else
        (fX7_chanceOf_c5 M n v0 v1 v2 v3 (v4 + 1)))
set_option maxRecDepth 20000 in
set_option maxHeartbeats 4000000 in
theorem rX7_chanceOf_c5 {E : mE} {M : mM} {x : Int32} : ∀ (n : Nat) (v0 : Int32) (v1 : Int32) (v2 : Int32) (v3 : Int32) (v4 : Int32), fX7_chanceOf_c5 M n v0 v1 v2 v3 v4 = some x → Ev mX7_chanceOf E 0 0 0 (some (.int x)) M 5 [some (.int v0), some (.int v1), some (.int v2), some (.int v3), some (.int v4)] [] M 0 0 := by
  intro n
  induction n with
  | zero => intro v0 v1 v2 v3 v4 h; rw [fX7_chanceOf_c5.eq_1] at h; cases h
  | succ n ih =>
    intro v0 v1 v2 v3 v4 h
    rw [fX7_chanceOf_c5.eq_2] at h
    refine Ev_iload (x := v4) rfl dX7_chanceOf_5 ?_
    refine Ev_iconst ic_4 dX7_chanceOf_7 ?_
    refine Ev_icmp_ge (tgt := 48) dX7_chanceOf_8 (by decide) (fun q1 => ?_) (fun q1 => ?_)
    · rw [if_pos q1] at h
      refine Ev_iload_n (x := v3) rfl dX7_chanceOf_48 ?_
      cases h
      exact Ev_iret rfl rfl dX7_chanceOf_49 ⟨rfl, rfl⟩
    · rw [if_neg q1] at h
      refine Ev_iload_n (x := v1) rfl dX7_chanceOf_11 ?_
      refine Ev_iload (x := v4) rfl dX7_chanceOf_12 ?_
      refine Ev_ishr dX7_chanceOf_14 ?_
      refine Ev_iconst ic_1 dX7_chanceOf_15 ?_
      refine Ev_iand dX7_chanceOf_16 ?_
      refine Ev_iconst ic_1 dX7_chanceOf_17 ?_
      refine Ev_icmp_ne (tgt := 42) dX7_chanceOf_18 (by decide) (fun q2 => ?_) (fun q2 => ?_)
      · rw [if_neg q2] at h
        refine Ev_iinc (x := v4) (v := (v4 + 1)) (loc2 := [some (.int v0), some (.int v1), some (.int v2), some (.int v3), some (.int (v4 + 1))]) rfl (congrArg (v4 + ·) ic_1) (Nat.le_of_ble_eq_true rfl) rfl rfl dX7_chanceOf_42 ?_
        refine Ev_goto (tgt := 5) dX7_chanceOf_45 (by decide) ?_
        exact ih v0 v1 v2 v3 (v4 + 1) h
      · rw [if_pos q2] at h
        refine Ev_iload_n (x := v3) rfl dX7_chanceOf_21 ?_
        refine Ev_iload_n (x := v0) rfl dX7_chanceOf_22 ?_
        refine Ev_iload (x := v4) rfl dX7_chanceOf_23 ?_
        refine Ev_ishr dX7_chanceOf_25 ?_
        refine Ev_iconst ic_1 dX7_chanceOf_26 ?_
        refine Ev_iand dX7_chanceOf_27 ?_
        refine Ev_iconst ic_1 dX7_chanceOf_28 ?_
        refine Ev_icmp_ne (tgt := 39) dX7_chanceOf_29 (by decide) (fun q3 => ?_) (fun q3 => ?_)
        · rw [if_neg q3] at h
          refine Ev_iload_n (x := v2) rfl dX7_chanceOf_39 ?_
          refine Ev_imul dX7_chanceOf_40 ?_
          refine Ev_istore_n (loc2 := [some (.int v0), some (.int v1), some (.int v2), some (.int (v3 * v2)), some (.int v4)]) (Nat.le_of_ble_eq_true rfl) rfl rfl dX7_chanceOf_41 ?_
          refine Ev_iinc (x := v4) (v := (v4 + 1)) (loc2 := [some (.int v0), some (.int v1), some (.int v2), some (.int (v3 * v2)), some (.int (v4 + 1))]) rfl (congrArg (v4 + ·) ic_1) (Nat.le_of_ble_eq_true rfl) rfl rfl dX7_chanceOf_42 ?_
          refine Ev_goto (tgt := 5) dX7_chanceOf_45 (by decide) ?_
          exact ih v0 v1 v2 (v3 * v2) (v4 + 1) h
        · rw [if_pos q3] at h
          refine Ev_bipush bp_10 dX7_chanceOf_32 ?_
          refine Ev_iload_n (x := v2) rfl dX7_chanceOf_34 ?_
          refine Ev_isub dX7_chanceOf_35 ?_
          refine Ev_goto (tgt := 40) dX7_chanceOf_36 (by decide) ?_
          refine Ev_imul dX7_chanceOf_40 ?_
          refine Ev_istore_n (loc2 := [some (.int v0), some (.int v1), some (.int v2), some (.int (v3 * (10 - v2))), some (.int v4)]) (Nat.le_of_ble_eq_true rfl) rfl rfl dX7_chanceOf_41 ?_
          refine Ev_iinc (x := v4) (v := (v4 + 1)) (loc2 := [some (.int v0), some (.int v1), some (.int v2), some (.int (v3 * (10 - v2))), some (.int (v4 + 1))]) rfl (congrArg (v4 + ·) ic_1) (Nat.le_of_ble_eq_true rfl) rfl rfl dX7_chanceOf_42 ?_
          refine Ev_goto (tgt := 5) dX7_chanceOf_45 (by decide) ?_
          exact ih v0 v1 v2 (v3 * (10 - v2)) (v4 + 1) h
def fX7_chanceOf (M : mM) (v0 : Int32) (v1 : Int32) (v2 : Int32) : Option Int32 :=
    fX7_chanceOf_c5 M FUEL v0 v1 v2 1 0
set_option maxRecDepth 20000 in
set_option maxHeartbeats 4000000 in
theorem rX7_chanceOf {E : mE} {M : mM} {v0 : Int32} {v1 : Int32} {v2 : Int32} {x : Int32} (h : fX7_chanceOf M v0 v1 v2 = some x) : EvC mX7_chanceOf E 0 0 0 [.int v0, .int v1, .int v2] M (some (.int x)) M := by
  unfold fX7_chanceOf at h
  refine EvC.of [some (.int v0), some (.int v1), some (.int v2), none, none] pnX7_chanceOf rfl (Nat.le_of_ble_eq_true rfl) ?_
  refine Ev_iconst ic_1 dX7_chanceOf_0 ?_
  refine Ev_istore_n (loc2 := [some (.int v0), some (.int v1), some (.int v2), some (.int 1), none]) (Nat.le_of_ble_eq_true rfl) rfl rfl dX7_chanceOf_1 ?_
  refine Ev_iconst ic_0 dX7_chanceOf_2 ?_
  refine Ev_istore (loc2 := [some (.int v0), some (.int v1), some (.int v2), some (.int 1), some (.int 0)]) (Nat.le_of_ble_eq_true rfl) rfl rfl dX7_chanceOf_3 ?_
  exact rX7_chanceOf_c5 FUEL v0 v1 v2 1 0 h
/-! TinselRiver.coveredBy(I)I -/
def fX7_coveredBy_c4 (M : mM) : Nat → Nat → Int32 → Int32 → Int32 → Option Int32
  | 0, _, _, _, _ => none
  | n + 1, v0, v1, v2, v3 =>
    if 4 ≤ v3 then
      (some v2)
    else
      (if ((v1 >>> (v3 &&& 31)) &&& 1) = 1 then
        ((gR M v0 7 9).bind fun a3 =>
        (aI M false a3 v3).bind fun x4 =>
        fX7_coveredBy_c4 M n v0 v1 (v2 ||| x4) (v3 + 1))
      else
        (fX7_coveredBy_c4 M n v0 v1 (v2 ||| 0) (v3 + 1)))
set_option maxRecDepth 20000 in
set_option maxHeartbeats 4000000 in
theorem rX7_coveredBy_c4 {E : mE} {M : mM} {x : Int32} : ∀ (n : Nat) (v0 : Nat) (v1 : Int32) (v2 : Int32) (v3 : Int32), fX7_coveredBy_c4 M n v0 v1 v2 v3 = some x → Ev mX7_coveredBy E 0 0 0 (some (.int x)) M 4 [some (.ref v0), some (.int v1), some (.int v2), some (.int v3)] [] M 0 0 := by
  intro n
  induction n with
  | zero => intro v0 v1 v2 v3 h; rw [fX7_coveredBy_c4.eq_1] at h; cases h
  | succ n ih =>
    intro v0 v1 v2 v3 h
    rw [fX7_coveredBy_c4.eq_2] at h
    refine Ev_iload_n (x := v3) rfl dX7_coveredBy_4 ?_
    refine Ev_iconst ic_4 dX7_coveredBy_5 ?_
    refine Ev_icmp_ge (tgt := 37) dX7_coveredBy_6 (by decide) (fun q1 => ?_) (fun q1 => ?_)
    · rw [if_pos q1] at h
      refine Ev_iload_n (x := v2) rfl dX7_coveredBy_37 ?_
      cases h
      exact Ev_iret rfl rfl dX7_coveredBy_38 ⟨rfl, rfl⟩
    · rw [if_neg q1] at h
      refine Ev_iload_n (x := v2) rfl dX7_coveredBy_9 ?_
      refine Ev_iload_n (x := v1) rfl dX7_coveredBy_10 ?_
      refine Ev_iload_n (x := v3) rfl dX7_coveredBy_11 ?_
      refine Ev_ishr dX7_coveredBy_12 ?_
      refine Ev_iconst ic_1 dX7_coveredBy_13 ?_
      refine Ev_iand dX7_coveredBy_14 ?_
      refine Ev_iconst ic_1 dX7_coveredBy_15 ?_
      refine Ev_icmp_ne (tgt := 28) dX7_coveredBy_16 (by decide) (fun q2 => ?_) (fun q2 => ?_)
      · rw [if_neg q2] at h
        refine Ev_iconst ic_0 dX7_coveredBy_28 ?_
        refine Ev_ior dX7_coveredBy_29 ?_
        refine Ev_istore_n (loc2 := [some (.ref v0), some (.int v1), some (.int (v2 ||| 0)), some (.int v3)]) (Nat.le_of_ble_eq_true rfl) rfl rfl dX7_coveredBy_30 ?_
        refine Ev_iinc (x := v3) (v := (v3 + 1)) (loc2 := [some (.ref v0), some (.int v1), some (.int (v2 ||| 0)), some (.int (v3 + 1))]) rfl (congrArg (v3 + ·) ic_1) (Nat.le_of_ble_eq_true rfl) rfl rfl dX7_coveredBy_31 ?_
        refine Ev_goto (tgt := 4) dX7_coveredBy_34 (by decide) ?_
        exact ih v0 v1 (v2 ||| 0) (v3 + 1) h
      · rw [if_pos q2] at h
        refine Ev_aload_n (x := v0) rfl dX7_coveredBy_19 ?_
        obtain ⟨a3, g3, h⟩ := bsome h
        refine Ev_getR flX7_62 dX7_coveredBy_20 g3 ?_
        refine Ev_iload_n (x := v3) rfl dX7_coveredBy_23 ?_
        obtain ⟨x4, g4, h⟩ := bsome h
        refine Ev_iald dX7_coveredBy_24 g4 ?_
        refine Ev_goto (tgt := 29) dX7_coveredBy_25 (by decide) ?_
        refine Ev_ior dX7_coveredBy_29 ?_
        refine Ev_istore_n (loc2 := [some (.ref v0), some (.int v1), some (.int (v2 ||| x4)), some (.int v3)]) (Nat.le_of_ble_eq_true rfl) rfl rfl dX7_coveredBy_30 ?_
        refine Ev_iinc (x := v3) (v := (v3 + 1)) (loc2 := [some (.ref v0), some (.int v1), some (.int (v2 ||| x4)), some (.int (v3 + 1))]) rfl (congrArg (v3 + ·) ic_1) (Nat.le_of_ble_eq_true rfl) rfl rfl dX7_coveredBy_31 ?_
        refine Ev_goto (tgt := 4) dX7_coveredBy_34 (by decide) ?_
        exact ih v0 v1 (v2 ||| x4) (v3 + 1) h
def fX7_coveredBy (M : mM) (v0 : Nat) (v1 : Int32) : Option Int32 :=
    if isO M v0 7 = true then
      fX7_coveredBy_c4 M FUEL v0 v1 0 0
    else none
theorem oX7_coveredBy {M : mM} {v0 : Nat} {v1 : Int32} {y : Int32} (h : fX7_coveredBy M v0 v1 = some y) : isO M v0 7 = true := by
  unfold fX7_coveredBy at h
  exact (gsome h).1
set_option maxRecDepth 20000 in
set_option maxHeartbeats 4000000 in
theorem rX7_coveredBy {E : mE} {M : mM} {v0 : Nat} {v1 : Int32} {x : Int32} (h : fX7_coveredBy M v0 v1 = some x) : EvC mX7_coveredBy E 0 0 0 [.ref v0, .int v1] M (some (.int x)) M := by
  unfold fX7_coveredBy at h
  replace h := (gsome h).2
  refine EvC.of [some (.ref v0), some (.int v1), none, none] pnX7_coveredBy rfl (Nat.le_of_ble_eq_true rfl) ?_
  refine Ev_iconst ic_0 dX7_coveredBy_0 ?_
  refine Ev_istore_n (loc2 := [some (.ref v0), some (.int v1), some (.int 0), none]) (Nat.le_of_ble_eq_true rfl) rfl rfl dX7_coveredBy_1 ?_
  refine Ev_iconst ic_0 dX7_coveredBy_2 ?_
  refine Ev_istore_n (loc2 := [some (.ref v0), some (.int v1), some (.int 0), some (.int 0)]) (Nat.le_of_ble_eq_true rfl) rfl rfl dX7_coveredBy_3 ?_
  exact rX7_coveredBy_c4 FUEL v0 v1 0 0 h
/-! TinselRiver.lost(IZ)I -/
def fX7_lost_c87 : Nat → mM → Int32 → Int32 → Int32 → Int32 → Option (Int32 × mM)
  | 0, _, _, _, _, _ => none
  | n + 1, M, v2, v4, v5, v6 =>
    if v6 ≤ 0 then
      ((fX7_partOfFraction M v4 v5 v2).bind fun x3 =>
      some (x3, M))
    else
      (fX7_lost_c87 n M v2 v4 (v5 * 10) (v6 + (-1)))
set_option maxRecDepth 20000 in
set_option maxHeartbeats 4000000 in
theorem rX7_lost_c87 {E : mE} {x : Int32} {Mf : mM} : ∀ (n : Nat) (M : mM) (v2 : Int32) (v4 : Int32) (v5 : Int32) (v6 : Int32), fX7_lost_c87 n M v2 v4 v5 v6 = some (x, Mf) → Ev mX7_lost E 3 0 0 (some (.int x)) Mf 87 [none, none, some (.int v2), none, some (.int v4), some (.int v5), some (.int v6)] [] M 0 0 := by
  intro n
  induction n with
  | zero => intro M v2 v4 v5 v6 h; rw [fX7_lost_c87.eq_1] at h; cases h
  | succ n ih =>
    intro M v2 v4 v5 v6 h
    rw [fX7_lost_c87.eq_2] at h
    refine Ev_iload (x := v6) rfl dX7_lost_87 ?_
    refine Ev_if_le (tgt := 105) dX7_lost_89 (by decide) (fun q1 => ?_) (fun q1 => ?_)
    · rw [if_pos q1] at h
      refine Ev_iload (x := v4) rfl dX7_lost_105 ?_
      refine Ev_iload (x := v5) rfl dX7_lost_107 ?_
      refine Ev_iload_n (x := v2) rfl dX7_lost_109 ?_
      obtain ⟨x3, g2, h⟩ := bsome h
      refine Ev_callSi (np := 3) (vs := [.int v4, .int v5, .int v2]) (rest := []) mdX7_partOfFraction lkX7_248 (rX7_partOfFraction g2) rfl rfl (Nat.le_of_ble_eq_true rfl) (Nat.le_of_ble_eq_true rfl) dX7_lost_110 ?_
      cases h
      exact Ev_iret rfl rfl dX7_lost_113 ⟨rfl, rfl⟩
    · rw [if_neg q1] at h
      refine Ev_iload (x := v5) rfl dX7_lost_92 ?_
      refine Ev_bipush bp_10 dX7_lost_94 ?_
      refine Ev_imul dX7_lost_96 ?_
      refine Ev_istore (loc2 := [none, none, some (.int v2), none, some (.int v4), some (.int (v5 * 10)), some (.int v6)]) (Nat.le_of_ble_eq_true rfl) rfl rfl dX7_lost_97 ?_
      refine Ev_iinc (x := v6) (v := (v6 + (-1))) (loc2 := [none, none, some (.int v2), none, some (.int v4), some (.int (v5 * 10)), some (.int (v6 + (-1)))]) rfl (congrArg (v6 + ·) ic_m1) (Nat.le_of_ble_eq_true rfl) rfl rfl dX7_lost_99 ?_
      refine Ev_goto (tgt := 87) dX7_lost_102 (by decide) ?_
      exact ih M v2 v4 (v5 * 10) (v6 + (-1)) h
def fX7_lost_c34 : Nat → mM → Nat → Int32 → Int32 → Int32 → Int32 → Int32 → Int32 → Option (Int32 × mM)
  | 0, _, _, _, _, _, _, _, _ => none
  | n + 1, M, v0, v1, v2, v3, v4, v5, v6 =>
    if 16 ≤ v6 then
      ((fJ6_bitCount_0f7a4 M v3).bind fun x3 =>
      fX7_lost_c87 FUEL M v2 v4 v5 x3)
    else
      (if (v6 &&& (v3 ^^^ (-1))) = 0 then
        ((fX7_coveredBy M v0 v6).bind fun x6 =>
        (fX7_wholeBed M v0).bind fun x8 =>
        if x6 = x8 then
          ((fX7_chanceOf M v6 v3 v1).bind fun x11 =>
          fX7_lost_c34 n M v0 v1 v2 v3 (v4 + x11) v5 (v6 + 1))
        else
          (fX7_lost_c34 n M v0 v1 v2 v3 v4 v5 (v6 + 1)))
      else
        (fX7_lost_c34 n M v0 v1 v2 v3 v4 v5 (v6 + 1)))
set_option maxRecDepth 20000 in
set_option maxHeartbeats 4000000 in
theorem rX7_lost_c34 {E : mE} {x : Int32} {Mf : mM} : ∀ (n : Nat) (M : mM) (v0 : Nat) (v1 : Int32) (v2 : Int32) (v3 : Int32) (v4 : Int32) (v5 : Int32) (v6 : Int32), fX7_lost_c34 n M v0 v1 v2 v3 v4 v5 v6 = some (x, Mf) → Ev mX7_lost E 3 0 0 (some (.int x)) Mf 34 [some (.ref v0), some (.int v1), some (.int v2), some (.int v3), some (.int v4), some (.int v5), some (.int v6)] [] M 0 0 := by
  intro n
  induction n with
  | zero => intro M v0 v1 v2 v3 v4 v5 v6 h; rw [fX7_lost_c34.eq_1] at h; cases h
  | succ n ih =>
    intro M v0 v1 v2 v3 v4 v5 v6 h
    rw [fX7_lost_c34.eq_2] at h
    refine Ev_iload (x := v6) rfl dX7_lost_34 ?_
    refine Ev_bipush bp_16 dX7_lost_36 ?_
    refine Ev_icmp_ge (tgt := 81) dX7_lost_38 (by decide) (fun q1 => ?_) (fun q1 => ?_)
    · rw [if_pos q1] at h
      refine Ev_iload_n (x := v3) rfl dX7_lost_81 ?_
      obtain ⟨x3, g2, h⟩ := bsome h
      refine Ev_callSi (np := 1) (vs := [.int v3]) (rest := []) mdJ6_bitCount_0f7a4 lkX7_177 (rJ6_bitCount_0f7a4 g2) rfl rfl (Nat.le_of_ble_eq_true rfl) (Nat.le_of_ble_eq_true rfl) dX7_lost_82 ?_
      refine Ev_istore (loc2 := [some (.ref v0), some (.int v1), some (.int v2), some (.int v3), some (.int v4), some (.int v5), some (.int x3)]) (Nat.le_of_ble_eq_true rfl) rfl rfl dX7_lost_85 ?_
      refine Ev_drop 0 (loc2 := [none, some (.int v1), some (.int v2), some (.int v3), some (.int v4), some (.int v5), some (.int x3)]) rfl ?_
      refine Ev_drop 1 (loc2 := [none, none, some (.int v2), some (.int v3), some (.int v4), some (.int v5), some (.int x3)]) rfl ?_
      refine Ev_drop 3 (loc2 := [none, none, some (.int v2), none, some (.int v4), some (.int v5), some (.int x3)]) rfl ?_
      exact rX7_lost_c87 FUEL M v2 v4 v5 x3 h
    · rw [if_neg q1] at h
      refine Ev_iload (x := v6) rfl dX7_lost_41 ?_
      refine Ev_iload_n (x := v3) rfl dX7_lost_43 ?_
      refine Ev_iconst ic_m1 dX7_lost_44 ?_
      refine Ev_ixor dX7_lost_45 ?_
      refine Ev_iand dX7_lost_46 ?_
      refine Ev_if_ne (tgt := 75) dX7_lost_47 (by decide) (fun q4 => ?_) (fun q4 => ?_)
      · rw [if_neg q4] at h
        refine Ev_iinc (x := v6) (v := (v6 + 1)) (loc2 := [some (.ref v0), some (.int v1), some (.int v2), some (.int v3), some (.int v4), some (.int v5), some (.int (v6 + 1))]) rfl (congrArg (v6 + ·) ic_1) (Nat.le_of_ble_eq_true rfl) rfl rfl dX7_lost_75 ?_
        refine Ev_goto (tgt := 34) dX7_lost_78 (by decide) ?_
        exact ih M v0 v1 v2 v3 v4 v5 (v6 + 1) h
      · rw [if_pos q4] at h
        refine Ev_aload_n (x := v0) rfl dX7_lost_50 ?_
        refine Ev_iload (x := v6) rfl dX7_lost_51 ?_
        obtain ⟨x6, g5, h⟩ := bsome h
        refine Ev_callVi (np := 1) (vs := [.int v6]) (rest := []) mdX7_coveredBy lkX7_261 ⟨_, rfl, rfl⟩ (oX7_coveredBy g5) (rX7_coveredBy g5) rfl rfl (Nat.le_of_ble_eq_true rfl) (Nat.le_of_ble_eq_true rfl) dX7_lost_53 ?_
        refine Ev_aload_n (x := v0) rfl dX7_lost_56 ?_
        obtain ⟨x8, g7, h⟩ := bsome h
        refine Ev_callVi (np := 0) (vs := []) (rest := [.int x6]) mdX7_wholeBed lkX7_264 ⟨_, rfl, rfl⟩ (oX7_wholeBed g7) (rX7_wholeBed g7) rfl rfl (Nat.le_of_ble_eq_true rfl) (Nat.le_of_ble_eq_true rfl) dX7_lost_57 ?_
        refine Ev_icmp_ne (tgt := 75) dX7_lost_60 (by decide) (fun q9 => ?_) (fun q9 => ?_)
        · rw [if_neg q9] at h
          refine Ev_iinc (x := v6) (v := (v6 + 1)) (loc2 := [some (.ref v0), some (.int v1), some (.int v2), some (.int v3), some (.int v4), some (.int v5), some (.int (v6 + 1))]) rfl (congrArg (v6 + ·) ic_1) (Nat.le_of_ble_eq_true rfl) rfl rfl dX7_lost_75 ?_
          refine Ev_goto (tgt := 34) dX7_lost_78 (by decide) ?_
          exact ih M v0 v1 v2 v3 v4 v5 (v6 + 1) h
        · rw [if_pos q9] at h
          refine Ev_iload (x := v4) rfl dX7_lost_63 ?_
          refine Ev_iload (x := v6) rfl dX7_lost_65 ?_
          refine Ev_iload_n (x := v3) rfl dX7_lost_67 ?_
          refine Ev_iload_n (x := v1) rfl dX7_lost_68 ?_
          obtain ⟨x11, g10, h⟩ := bsome h
          refine Ev_callSi (np := 3) (vs := [.int v6, .int v3, .int v1]) (rest := [.int v4]) mdX7_chanceOf lkX7_267 (rX7_chanceOf g10) rfl rfl (Nat.le_of_ble_eq_true rfl) (Nat.le_of_ble_eq_true rfl) dX7_lost_69 ?_
          refine Ev_iadd dX7_lost_72 ?_
          refine Ev_istore (loc2 := [some (.ref v0), some (.int v1), some (.int v2), some (.int v3), some (.int (v4 + x11)), some (.int v5), some (.int v6)]) (Nat.le_of_ble_eq_true rfl) rfl rfl dX7_lost_73 ?_
          refine Ev_iinc (x := v6) (v := (v6 + 1)) (loc2 := [some (.ref v0), some (.int v1), some (.int v2), some (.int v3), some (.int (v4 + x11)), some (.int v5), some (.int (v6 + 1))]) rfl (congrArg (v6 + ·) ic_1) (Nat.le_of_ble_eq_true rfl) rfl rfl dX7_lost_75 ?_
          refine Ev_goto (tgt := 34) dX7_lost_78 (by decide) ?_
          exact ih M v0 v1 v2 v3 (v4 + x11) v5 (v6 + 1) h
def fX7_lost (M : mM) (v0 : Nat) (v1 : Int32) (v2 : Int32) : Option (Int32 × mM) :=
    if isO M v0 7 = true then
      if v1 < 0 then
        (some ((-2), M))
      else
        (if v1 ≤ 10 then
          ((fX7_findCovers M v0).bind fun M4 =>
          (gR M4 v0 7 1).bind fun a5 =>
          (fX6_whoIsThere M4 a5).bind fun x7 =>
          fX7_lost_c34 FUEL M4 v0 v1 v2 x7 0 1 0)
        else
          (some ((-2), M)))
    else none
theorem oX7_lost {M : mM} {v0 : Nat} {v1 : Int32} {v2 : Int32} {y : (Int32 × mM)} (h : fX7_lost M v0 v1 v2 = some y) : isO M v0 7 = true := by
  unfold fX7_lost at h
  exact (gsome h).1
set_option maxRecDepth 20000 in
set_option maxHeartbeats 4000000 in
theorem rX7_lost {E : mE} {M : mM} {v0 : Nat} {v1 : Int32} {v2 : Int32} {x : Int32} {Mf : mM} (h : fX7_lost M v0 v1 v2 = some (x, Mf)) : EvC mX7_lost E 3 0 0 [.ref v0, .int v1, .int v2] M (some (.int x)) Mf := by
  unfold fX7_lost at h
  replace h := (gsome h).2
  refine EvC.of [some (.ref v0), some (.int v1), some (.int v2), none, none, none, none] pnX7_lost rfl (Nat.le_of_ble_eq_true rfl) ?_
  refine Ev_iload_n (x := v1) rfl dX7_lost_0 ?_
  refine Ev_if_lt (tgt := 10) dX7_lost_1 (by decide) (fun q1 => ?_) (fun q1 => ?_)
  · rw [if_pos q1] at h
    refine Ev_bipush bp_m2 dX7_lost_10 ?_
    cases h
    exact Ev_iret rfl rfl dX7_lost_12 ⟨rfl, rfl⟩
  · rw [if_neg q1] at h
    refine Ev_iload_n (x := v1) rfl dX7_lost_4 ?_
    refine Ev_bipush bp_10 dX7_lost_5 ?_
    refine Ev_icmp_le (tgt := 13) dX7_lost_7 (by decide) (fun q2 => ?_) (fun q2 => ?_)
    · rw [if_pos q2] at h
      refine Ev_aload_n (x := v0) rfl dX7_lost_13 ?_
      obtain ⟨M4, g3, h⟩ := bsome h
      refine Ev_callVv (np := 0) (vs := []) (rest := []) mdX7_findCovers lkX7_198 ⟨_, rfl, rfl⟩ (oX7_findCovers g3) (rX7_findCovers g3) rfl rfl (Nat.le_of_ble_eq_true rfl) (Nat.le_of_ble_eq_true rfl) dX7_lost_14 ?_
      refine Ev_aload_n (x := v0) rfl dX7_lost_17 ?_
      obtain ⟨a5, g5, h⟩ := bsome h
      refine Ev_getR flX7_19 dX7_lost_18 g5 ?_
      obtain ⟨x7, g6, h⟩ := bsome h
      refine Ev_callVi (np := 0) (vs := []) (rest := []) mdX6_whoIsThere lkX7_174 ⟨_, rfl, rfl⟩ (oX6_whoIsThere g6) (rX6_whoIsThere g6) rfl rfl (Nat.le_of_ble_eq_true rfl) (Nat.le_of_ble_eq_true rfl) dX7_lost_21 ?_
      refine Ev_istore_n (loc2 := [some (.ref v0), some (.int v1), some (.int v2), some (.int x7), none, none, none]) (Nat.le_of_ble_eq_true rfl) rfl rfl dX7_lost_24 ?_
      refine Ev_iconst ic_0 dX7_lost_25 ?_
      refine Ev_istore (loc2 := [some (.ref v0), some (.int v1), some (.int v2), some (.int x7), some (.int 0), none, none]) (Nat.le_of_ble_eq_true rfl) rfl rfl dX7_lost_26 ?_
      refine Ev_iconst ic_1 dX7_lost_28 ?_
      refine Ev_istore (loc2 := [some (.ref v0), some (.int v1), some (.int v2), some (.int x7), some (.int 0), some (.int 1), none]) (Nat.le_of_ble_eq_true rfl) rfl rfl dX7_lost_29 ?_
      refine Ev_iconst ic_0 dX7_lost_31 ?_
      refine Ev_istore (loc2 := [some (.ref v0), some (.int v1), some (.int v2), some (.int x7), some (.int 0), some (.int 1), some (.int 0)]) (Nat.le_of_ble_eq_true rfl) rfl rfl dX7_lost_32 ?_
      exact rX7_lost_c34 FUEL M4 v0 v1 v2 x7 0 1 0 h
    · rw [if_neg q2] at h
      refine Ev_bipush bp_m2 dX7_lost_10 ?_
      cases h
      exact Ev_iret rfl rfl dX7_lost_12 ⟨rfl, rfl⟩
/-! TinselRiver.seed(J)J -/
def fX7_seed (M : mM) (v0 : Nat) (v1 : Int64) : Option (Int64 × mM) :=
    if isO M v0 7 = true then
      (gL M v0 7 12).bind fun x1 =>
      (sV M v0 7 12 (.long v1)).bind fun M2 =>
      some (x1, M2)
    else none
theorem oX7_seed {M : mM} {v0 : Nat} {v1 : Int64} {y : (Int64 × mM)} (h : fX7_seed M v0 v1 = some y) : isO M v0 7 = true := by
  unfold fX7_seed at h
  exact (gsome h).1
set_option maxRecDepth 20000 in
set_option maxHeartbeats 4000000 in
theorem rX7_seed {E : mE} {M : mM} {v0 : Nat} {v1 : Int64} {x : Int64} {Mf : mM} (h : fX7_seed M v0 v1 = some (x, Mf)) : EvC mX7_seed E 0 0 0 [.ref v0, .long v1] M (some (.long x)) Mf := by
  unfold fX7_seed at h
  replace h := (gsome h).2
  refine EvC.of [some (.ref v0), some (.long v1), none, none, none] pnX7_seed rfl (Nat.le_of_ble_eq_true rfl) ?_
  refine Ev_aload_n (x := v0) rfl dX7_seed_0 ?_
  obtain ⟨x1, g1, h⟩ := bsome h
  refine Ev_getL flX7_72 dX7_seed_1 g1 ?_
  refine Ev_lstore_n (loc2 := [some (.ref v0), some (.long v1), none, some (.long x1), none]) (Nat.le_of_ble_eq_true rfl) rfl rfl dX7_seed_4 ?_
  refine Ev_aload_n (x := v0) rfl dX7_seed_5 ?_
  refine Ev_lload_n (x := v1) rfl dX7_seed_6 ?_
  obtain ⟨M2, g2, h⟩ := bsome h
  refine Ev_put (v := .long v1) flX7_72 ⟨rfl, rfl⟩ (fun q hq => by cases hq; exact Or.inl rfl) dX7_seed_7 g2 ?_
  refine Ev_lload_n (x := x1) rfl dX7_seed_10 ?_
  cases h
  exact Ev_lret rfl dX7_seed_11 ⟨rfl, rfl⟩
/-! TinselRiver.doByChance(I)V -/
def fX7_doByChance (M : mM) (v0 : Nat) (v1 : Int32) : Option mM :=
    if isO M v0 7 = true then
      if 16 ≤ v1 then
        (if 20 ≤ v1 then
          (if 23 ≤ v1 then
            ((gR M v0 7 2).bind fun a4 =>
            (fX6_passWinter M a4).bind fun p6 =>
            some p6.2)
          else
            ((gR M v0 7 2).bind fun a7 =>
            (fX6_joinTo M a7 (v1 - 20) (v1 - 19)).bind fun p9 =>
            some p9.2))
        else
          ((gR M v0 7 2).bind fun a10 =>
          (fX6_turnAbout M a10 (v1 - 16)).bind fun p12 =>
          some p12.2))
      else
        ((gR M v0 7 2).bind fun a13 =>
        (fX6_hangIn M a13 (v1 / 4) (v1 - v1 / 4 * 4)).bind fun p15 =>
        some p15.2)
    else none
theorem oX7_doByChance {M : mM} {v0 : Nat} {v1 : Int32} {y : mM} (h : fX7_doByChance M v0 v1 = some y) : isO M v0 7 = true := by
  unfold fX7_doByChance at h
  exact (gsome h).1
set_option maxRecDepth 20000 in
set_option maxHeartbeats 4000000 in
theorem rX7_doByChance {E : mE} {M : mM} {v0 : Nat} {v1 : Int32} {Mf : mM} (h : fX7_doByChance M v0 v1 = some Mf) : EvC mX7_doByChance E 4 0 0 [.ref v0, .int v1] M none Mf := by
  unfold fX7_doByChance at h
  replace h := (gsome h).2
  refine EvC.of [some (.ref v0), some (.int v1)] pnX7_doByChance rfl (Nat.le_of_ble_eq_true rfl) ?_
  refine Ev_iload_n (x := v1) rfl dX7_doByChance_0 ?_
  refine Ev_bipush bp_16 dX7_doByChance_1 ?_
  refine Ev_icmp_ge (tgt := 23) dX7_doByChance_3 (by decide) (fun q1 => ?_) (fun q1 => ?_)
  · rw [if_pos q1] at h
    refine Ev_iload_n (x := v1) rfl dX7_doByChance_23 ?_
    refine Ev_bipush bp_20 dX7_doByChance_24 ?_
    refine Ev_icmp_ge (tgt := 44) dX7_doByChance_26 (by decide) (fun q2 => ?_) (fun q2 => ?_)
    · rw [if_pos q2] at h
      refine Ev_iload_n (x := v1) rfl dX7_doByChance_44 ?_
      refine Ev_bipush bp_23 dX7_doByChance_45 ?_
      refine Ev_icmp_ge (tgt := 69) dX7_doByChance_47 (by decide) (fun q3 => ?_) (fun q3 => ?_)
      · rw [if_pos q3] at h
        refine Ev_aload_n (x := v0) rfl dX7_doByChance_69 ?_
        obtain ⟨a4, g4, h⟩ := bsome h
        refine Ev_getR flX7_23 dX7_doByChance_70 g4 ?_
        obtain ⟨p6, g5, h⟩ := bsome h
        refine Ev_callVi (np := 0) (vs := []) (rest := []) mdX6_passWinter lkX7_145 ⟨_, rfl, rfl⟩ (oX6_passWinter g5) (rX6_passWinter g5) rfl rfl (Nat.le_of_ble_eq_true rfl) (Nat.le_of_ble_eq_true rfl) dX7_doByChance_73 ?_
        refine Ev_pop rfl dX7_doByChance_76 ?_
        cases h
        exact Ev_vret rfl dX7_doByChance_77 ⟨rfl, rfl⟩
      · rw [if_neg q3] at h
        refine Ev_aload_n (x := v0) rfl dX7_doByChance_50 ?_
        obtain ⟨a7, g7, h⟩ := bsome h
        refine Ev_getR flX7_23 dX7_doByChance_51 g7 ?_
        refine Ev_iload_n (x := v1) rfl dX7_doByChance_54 ?_
        refine Ev_bipush bp_20 dX7_doByChance_55 ?_
        refine Ev_isub dX7_doByChance_57 ?_
        refine Ev_iload_n (x := v1) rfl dX7_doByChance_58 ?_
        refine Ev_bipush bp_19 dX7_doByChance_59 ?_
        refine Ev_isub dX7_doByChance_61 ?_
        obtain ⟨p9, g8, h⟩ := bsome h
        refine Ev_callVi (np := 2) (vs := [.int (v1 - 20), .int (v1 - 19)]) (rest := []) mdX6_joinTo lkX7_161 ⟨_, rfl, rfl⟩ (oX6_joinTo g8) (rX6_joinTo g8) rfl rfl (Nat.le_of_ble_eq_true rfl) (Nat.le_of_ble_eq_true rfl) dX7_doByChance_62 ?_
        refine Ev_pop rfl dX7_doByChance_65 ?_
        refine Ev_goto (tgt := 77) dX7_doByChance_66 (by decide) ?_
        cases h
        exact Ev_vret rfl dX7_doByChance_77 ⟨rfl, rfl⟩
    · rw [if_neg q2] at h
      refine Ev_aload_n (x := v0) rfl dX7_doByChance_29 ?_
      obtain ⟨a10, g10, h⟩ := bsome h
      refine Ev_getR flX7_23 dX7_doByChance_30 g10 ?_
      refine Ev_iload_n (x := v1) rfl dX7_doByChance_33 ?_
      refine Ev_bipush bp_16 dX7_doByChance_34 ?_
      refine Ev_isub dX7_doByChance_36 ?_
      obtain ⟨p12, g11, h⟩ := bsome h
      refine Ev_callVi (np := 1) (vs := [.int (v1 - 16)]) (rest := []) mdX6_turnAbout lkX7_155 ⟨_, rfl, rfl⟩ (oX6_turnAbout g11) (rX6_turnAbout g11) rfl rfl (Nat.le_of_ble_eq_true rfl) (Nat.le_of_ble_eq_true rfl) dX7_doByChance_37 ?_
      refine Ev_pop rfl dX7_doByChance_40 ?_
      refine Ev_goto (tgt := 77) dX7_doByChance_41 (by decide) ?_
      cases h
      exact Ev_vret rfl dX7_doByChance_77 ⟨rfl, rfl⟩
  · rw [if_neg q1] at h
    refine Ev_aload_n (x := v0) rfl dX7_doByChance_6 ?_
    obtain ⟨a13, g13, h⟩ := bsome h
    refine Ev_getR flX7_23 dX7_doByChance_7 g13 ?_
    refine Ev_iload_n (x := v1) rfl dX7_doByChance_10 ?_
    refine Ev_iconst ic_4 dX7_doByChance_11 ?_
    refine Ev_idiv (by decide) dX7_doByChance_12 ?_
    refine Ev_iload_n (x := v1) rfl dX7_doByChance_13 ?_
    refine Ev_iconst ic_4 dX7_doByChance_14 ?_
    refine Ev_irem (by decide) dX7_doByChance_15 ?_
    obtain ⟨p15, g14, h⟩ := bsome h
    refine Ev_callVi (np := 2) (vs := [.int (v1 / 4), .int (v1 - v1 / 4 * 4)]) (rest := []) mdX6_hangIn lkX7_151 ⟨_, rfl, rfl⟩ (oX6_hangIn g14) (rX6_hangIn g14) rfl rfl (Nat.le_of_ble_eq_true rfl) (Nat.le_of_ble_eq_true rfl) dX7_doByChance_16 ?_
    refine Ev_pop rfl dX7_doByChance_19 ?_
    refine Ev_goto (tgt := 77) dX7_doByChance_20 (by decide) ?_
    cases h
    exact Ev_vret rfl dX7_doByChance_77 ⟨rfl, rfl⟩
/-! TinselRiver.years(I)I -/
def fX7_years_c29 : Nat → mM → Nat → Int32 → Int32 → Int32 → Option (Int32 × mM)
  | 0, _, _, _, _, _ => none
  | n + 1, M, v0, v1, v2, v3 =>
    if v1 ≤ v3 then
      (some (v2, M))
    else
      ((gL M v0 7 12).bind fun x2 =>
      (sV M v0 7 12 (.long ((x2 * (6364136223846793005 : Int64)) + (1442695040888963407 : Int64)))).bind fun M3 =>
      (gL M3 v0 7 12).bind fun x4 =>
      (fX7_doByChance M3 v0 ((Int64.toInt32 ((x4).toUInt64 >>> ((Int32.toInt64 33).toUInt64 &&& Int64.toUInt64 63)).toInt64) &&& 31)).bind fun M6 =>
      (gR M6 v0 7 2).bind fun a7 =>
      (fX6_bendsFrom M6 a7 0).bind fun x9 =>
      fX7_years_c29 n M6 v0 v1 (v2 + x9) (v3 + 1))
set_option maxRecDepth 20000 in
set_option maxHeartbeats 4000000 in
theorem rX7_years_c29 {E : mE} {x : Int32} {Mf : mM} : ∀ (n : Nat) (M : mM) (v0 : Nat) (v1 : Int32) (v2 : Int32) (v3 : Int32), fX7_years_c29 n M v0 v1 v2 v3 = some (x, Mf) → Ev mX7_years E 5 0 0 (some (.int x)) Mf 29 [some (.ref v0), some (.int v1), some (.int v2), some (.int v3)] [] M 0 0 := by
  intro n
  induction n with
  | zero => intro M v0 v1 v2 v3 h; rw [fX7_years_c29.eq_1] at h; cases h
  | succ n ih =>
    intro M v0 v1 v2 v3 h
    rw [fX7_years_c29.eq_2] at h
    refine Ev_iload_n (x := v3) rfl dX7_years_29 ?_
    refine Ev_iload_n (x := v1) rfl dX7_years_30 ?_
    refine Ev_icmp_ge (tgt := 82) dX7_years_31 (by decide) (fun q1 => ?_) (fun q1 => ?_)
    · rw [if_pos q1] at h
      refine Ev_iload_n (x := v2) rfl dX7_years_82 ?_
      cases h
      exact Ev_iret rfl rfl dX7_years_83 ⟨rfl, rfl⟩
    · rw [if_neg q1] at h
      refine Ev_aload_n (x := v0) rfl dX7_years_34 ?_
      refine Ev_aload_n (x := v0) rfl dX7_years_35 ?_
      obtain ⟨x2, g2, h⟩ := bsome h
      refine Ev_getL flX7_72 dX7_years_36 g2 ?_
      refine Ev_ldc2 csX7_273 dX7_years_39 ?_
      refine Ev_lmul dX7_years_42 ?_
      refine Ev_ldc2 csX7_275 dX7_years_43 ?_
      refine Ev_ladd dX7_years_46 ?_
      obtain ⟨M3, g3, h⟩ := bsome h
      refine Ev_put (v := .long ((x2 * (6364136223846793005 : Int64)) + (1442695040888963407 : Int64))) flX7_72 ⟨rfl, rfl⟩ (fun q hq => by cases hq; exact Or.inl rfl) dX7_years_47 g3 ?_
      refine Ev_aload_n (x := v0) rfl dX7_years_50 ?_
      refine Ev_aload_n (x := v0) rfl dX7_years_51 ?_
      obtain ⟨x4, g4, h⟩ := bsome h
      refine Ev_getL flX7_72 dX7_years_52 g4 ?_
      refine Ev_bipush bp_33 dX7_years_55 ?_
      refine Ev_lushr dX7_years_57 ?_
      refine Ev_l2i dX7_years_58 ?_
      refine Ev_bipush bp_31 dX7_years_59 ?_
      refine Ev_iand dX7_years_61 ?_
      obtain ⟨M6, g5, h⟩ := bsome h
      refine Ev_callVv (np := 1) (vs := [.int ((Int64.toInt32 ((x4).toUInt64 >>> ((Int32.toInt64 33).toUInt64 &&& Int64.toUInt64 63)).toInt64) &&& 31)]) (rest := []) mdX7_doByChance lkX7_277 ⟨_, rfl, rfl⟩ (oX7_doByChance g5) (rX7_doByChance g5) rfl rfl (Nat.le_of_ble_eq_true rfl) (Nat.le_of_ble_eq_true rfl) dX7_years_62 ?_
      refine Ev_iload_n (x := v2) rfl dX7_years_65 ?_
      refine Ev_aload_n (x := v0) rfl dX7_years_66 ?_
      obtain ⟨a7, g7, h⟩ := bsome h
      refine Ev_getR flX7_23 dX7_years_67 g7 ?_
      refine Ev_iconst ic_0 dX7_years_70 ?_
      obtain ⟨x9, g8, h⟩ := bsome h
      refine Ev_callVi (np := 1) (vs := [.int 0]) (rest := [.int v2]) mdX6_bendsFrom lkX7_208 ⟨_, rfl, rfl⟩ (oX6_bendsFrom g8) (rX6_bendsFrom g8) rfl rfl (Nat.le_of_ble_eq_true rfl) (Nat.le_of_ble_eq_true rfl) dX7_years_71 ?_
      refine Ev_iadd dX7_years_74 ?_
      refine Ev_istore_n (loc2 := [some (.ref v0), some (.int v1), some (.int (v2 + x9)), some (.int v3)]) (Nat.le_of_ble_eq_true rfl) rfl rfl dX7_years_75 ?_
      refine Ev_iinc (x := v3) (v := (v3 + 1)) (loc2 := [some (.ref v0), some (.int v1), some (.int (v2 + x9)), some (.int (v3 + 1))]) rfl (congrArg (v3 + ·) ic_1) (Nat.le_of_ble_eq_true rfl) rfl rfl dX7_years_76 ?_
      refine Ev_goto (tgt := 29) dX7_years_79 (by decide) ?_
      exact ih M6 v0 v1 (v2 + x9) (v3 + 1) h
def fX7_years (M : mM) (v0 : Nat) (v1 : Int32) : Option (Int32 × mM) :=
    if isO M v0 7 = true then
      if v1 < 1 then
        (some ((-2), M))
      else
        (if v1 ≤ 30 then
          ((gR M v0 7 2).bind fun a3 =>
          (gR M v0 7 1).bind fun a4 =>
          (fX6_setTo M a3 a4).bind fun M6 =>
          fX7_years_c29 FUEL M6 v0 v1 0 0)
        else
          (some ((-2), M)))
    else none
theorem oX7_years {M : mM} {v0 : Nat} {v1 : Int32} {y : (Int32 × mM)} (h : fX7_years M v0 v1 = some y) : isO M v0 7 = true := by
  unfold fX7_years at h
  exact (gsome h).1
set_option maxRecDepth 20000 in
set_option maxHeartbeats 4000000 in
theorem rX7_years {E : mE} {M : mM} {v0 : Nat} {v1 : Int32} {x : Int32} {Mf : mM} (h : fX7_years M v0 v1 = some (x, Mf)) : EvC mX7_years E 5 0 0 [.ref v0, .int v1] M (some (.int x)) Mf := by
  unfold fX7_years at h
  replace h := (gsome h).2
  refine EvC.of [some (.ref v0), some (.int v1), none, none] pnX7_years rfl (Nat.le_of_ble_eq_true rfl) ?_
  refine Ev_iload_n (x := v1) rfl dX7_years_0 ?_
  refine Ev_iconst ic_1 dX7_years_1 ?_
  refine Ev_icmp_lt (tgt := 11) dX7_years_2 (by decide) (fun q1 => ?_) (fun q1 => ?_)
  · rw [if_pos q1] at h
    refine Ev_bipush bp_m2 dX7_years_11 ?_
    cases h
    exact Ev_iret rfl rfl dX7_years_13 ⟨rfl, rfl⟩
  · rw [if_neg q1] at h
    refine Ev_iload_n (x := v1) rfl dX7_years_5 ?_
    refine Ev_bipush bp_30 dX7_years_6 ?_
    refine Ev_icmp_le (tgt := 14) dX7_years_8 (by decide) (fun q2 => ?_) (fun q2 => ?_)
    · rw [if_pos q2] at h
      refine Ev_aload_n (x := v0) rfl dX7_years_14 ?_
      obtain ⟨a3, g3, h⟩ := bsome h
      refine Ev_getR flX7_23 dX7_years_15 g3 ?_
      refine Ev_aload_n (x := v0) rfl dX7_years_18 ?_
      obtain ⟨a4, g4, h⟩ := bsome h
      refine Ev_getR flX7_19 dX7_years_19 g4 ?_
      obtain ⟨M6, g5, h⟩ := bsome h
      refine Ev_callVv (np := 1) (vs := [.ref a4]) (rest := []) mdX6_setTo lkX7_142 ⟨_, rfl, rfl⟩ (oX6_setTo g5) (rX6_setTo g5) rfl rfl (Nat.le_of_ble_eq_true rfl) (Nat.le_of_ble_eq_true rfl) dX7_years_22 ?_
      refine Ev_iconst ic_0 dX7_years_25 ?_
      refine Ev_istore_n (loc2 := [some (.ref v0), some (.int v1), some (.int 0), none]) (Nat.le_of_ble_eq_true rfl) rfl rfl dX7_years_26 ?_
      refine Ev_iconst ic_0 dX7_years_27 ?_
      refine Ev_istore_n (loc2 := [some (.ref v0), some (.int v1), some (.int 0), some (.int 0)]) (Nat.le_of_ble_eq_true rfl) rfl rfl dX7_years_28 ?_
      exact rX7_years_c29 FUEL M6 v0 v1 0 0 h
    · rw [if_neg q2] at h
      refine Ev_bipush bp_m2 dX7_years_11 ?_
      cases h
      exact Ev_iret rfl rfl dX7_years_13 ⟨rfl, rfl⟩
/-! TinselRiver.keep(I)I -/
def fX7_keep (M : mM) (v0 : Nat) (v1 : Int32) : Option (Int32 × mM) :=
    if isO M v0 7 = true then
      (gR M v0 7 4).bind fun a1 =>
      (gR M v0 7 1).bind fun a2 =>
      (fX3_put M a1 v1 a2).bind fun p4 =>
      some (p4.1, p4.2)
    else none
theorem oX7_keep {M : mM} {v0 : Nat} {v1 : Int32} {y : (Int32 × mM)} (h : fX7_keep M v0 v1 = some y) : isO M v0 7 = true := by
  unfold fX7_keep at h
  exact (gsome h).1
set_option maxRecDepth 20000 in
set_option maxHeartbeats 4000000 in
theorem rX7_keep {E : mE} {M : mM} {v0 : Nat} {v1 : Int32} {x : Int32} {Mf : mM} (h : fX7_keep M v0 v1 = some (x, Mf)) : EvC mX7_keep E 5 0 0 [.ref v0, .int v1] M (some (.int x)) Mf := by
  unfold fX7_keep at h
  replace h := (gsome h).2
  refine EvC.of [some (.ref v0), some (.int v1)] pnX7_keep rfl (Nat.le_of_ble_eq_true rfl) ?_
  refine Ev_aload_n (x := v0) rfl dX7_keep_0 ?_
  obtain ⟨a1, g1, h⟩ := bsome h
  refine Ev_getR flX7_36 dX7_keep_1 g1 ?_
  refine Ev_iload_n (x := v1) rfl dX7_keep_4 ?_
  refine Ev_aload_n (x := v0) rfl dX7_keep_5 ?_
  obtain ⟨a2, g2, h⟩ := bsome h
  refine Ev_getR flX7_19 dX7_keep_6 g2 ?_
  obtain ⟨p4, g3, h⟩ := bsome h
  refine Ev_callVi (np := 2) (vs := [.int v1, .ref a2]) (rest := []) mdX3_put lkX7_280 ⟨_, rfl, rfl⟩ (oX3_put g3) (rX3_put g3) rfl rfl (Nat.le_of_ble_eq_true rfl) (Nat.le_of_ble_eq_true rfl) dX7_keep_9 ?_
  cases h
  exact Ev_iret rfl rfl dX7_keep_12 ⟨rfl, rfl⟩
