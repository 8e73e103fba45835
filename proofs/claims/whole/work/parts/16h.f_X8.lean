/-! printed by wip/whole/gen.py -/
/-! TinselRiverModel.isWay(I)Z -/
def fX8_isWay_c7 (M : mM) : Nat → Nat → Int32 → Int32 → Int32 → Option Int32
  | 0, _, _, _, _ => none
  | n + 1, v0, v2, v3, v4 =>
    if 4 ≤ v4 then
      ((gI M v0 8 11).bind fun x2 =>
      if v3 = ((1 <<< (x2 &&& 31)) - 1) then
        (some 1)
      else
        (some 0))
    else
      ((fX8_isThere M v0 0 v4).bind fun x5 =>
      if x5 = 0 then
        (if (v2 - v2 / 12 * 12) ≤ 0 then
          (fX8_isWay_c7 M n v0 (v2 / 12) v3 (v4 + 1))
        else
          (some 0))
      else
        ((fX8_liesAt M v0 0 v4 (v2 - v2 / 12 * 12)).bind fun x8 =>
        if x8 = 0 then
          (some 0)
        else
          ((gR M v0 8 2).bind fun a10 =>
          (aI M false a10 (4 + v4)).bind fun x11 =>
          (some (v3 ||| (((1 <<< (x11 &&& 31)) - 1) <<< ((v2 - v2 / 12 * 12) &&& 31)))).bind fun x12 =>
          fX8_isWay_c7 M n v0 (v2 / 12) x12 (v4 + 1))))
set_option maxRecDepth 20000 in
set_option maxHeartbeats 4000000 in
theorem rX8_isWay_c7 {E : mE} {M : mM} {x : Int32} : ∀ (n : Nat) (v0 : Nat) (v2 : Int32) (v3 : Int32) (v4 : Int32), fX8_isWay_c7 M n v0 v2 v3 v4 = some x → Ev mX8_isWay E 2 0 0 (some (.int x)) M 7 [some (.ref v0), none, some (.int v2), some (.int v3), some (.int v4), none] [] M 0 0 := by
  intro n
  induction n with
  | zero => intro v0 v2 v3 v4 h; rw [fX8_isWay_c7.eq_1] at h; cases h
  | succ n ih =>
    intro v0 v2 v3 v4 h
    rw [fX8_isWay_c7.eq_2] at h
    refine Ev_iload (x := v4) rfl dX8_isWay_7 ?_
    refine Ev_iconst ic_4 dX8_isWay_9 ?_
    refine Ev_icmp_ge (tgt := 80) dX8_isWay_10 (by decide) (fun q1 => ?_) (fun q1 => ?_)
    · rw [if_pos q1] at h
      refine Ev_iload_n (x := v3) rfl dX8_isWay_80 ?_
      refine Ev_iconst ic_1 dX8_isWay_81 ?_
      refine Ev_aload_n (x := v0) rfl dX8_isWay_82 ?_
      obtain ⟨x2, g2, h⟩ := bsome h
      refine Ev_getI flX8_146 dX8_isWay_83 g2 ?_
      refine Ev_ishl dX8_isWay_86 ?_
      refine Ev_iconst ic_1 dX8_isWay_87 ?_
      refine Ev_isub dX8_isWay_88 ?_
      refine Ev_icmp_ne (tgt := 96) dX8_isWay_89 (by decide) (fun q3 => ?_) (fun q3 => ?_)
      · rw [if_neg q3] at h
        refine Ev_iconst ic_0 dX8_isWay_96 ?_
        cases h
        exact Ev_iret rfl rfl dX8_isWay_97 ⟨rfl, rfl⟩
      · rw [if_pos q3] at h
        refine Ev_iconst ic_1 dX8_isWay_92 ?_
        refine Ev_goto (tgt := 97) dX8_isWay_93 (by decide) ?_
        cases h
        exact Ev_iret rfl rfl dX8_isWay_97 ⟨rfl, rfl⟩
    · rw [if_neg q1] at h
      refine Ev_iload_n (x := v2) rfl dX8_isWay_13 ?_
      refine Ev_bipush bp_12 dX8_isWay_14 ?_
      refine Ev_irem (by decide) dX8_isWay_16 ?_
      refine Ev_istore (loc2 := [some (.ref v0), none, some (.int v2), some (.int v3), some (.int v4), some (.int (v2 - v2 / 12 * 12))]) (Nat.le_of_ble_eq_true rfl) rfl rfl dX8_isWay_17 ?_
      refine Ev_iload_n (x := v2) rfl dX8_isWay_19 ?_
      refine Ev_bipush bp_12 dX8_isWay_20 ?_
      refine Ev_idiv (by decide) dX8_isWay_22 ?_
      refine Ev_istore_n (loc2 := [some (.ref v0), none, some (.int (v2 / 12)), some (.int v3), some (.int v4), some (.int (v2 - v2 / 12 * 12))]) (Nat.le_of_ble_eq_true rfl) rfl rfl dX8_isWay_23 ?_
      refine Ev_aload_n (x := v0) rfl dX8_isWay_24 ?_
      refine Ev_iconst ic_0 dX8_isWay_25 ?_
      refine Ev_iload (x := v4) rfl dX8_isWay_26 ?_
      obtain ⟨x5, g4, h⟩ := bsome h
      refine Ev_callVi (np := 2) (vs := [.int 0, .int v4]) (rest := []) mdX8_isThere lkX8_99 ⟨_, rfl, rfl⟩ (oX8_isThere g4) (rX8_isThere g4) rfl rfl (Nat.le_of_ble_eq_true rfl) (Nat.le_of_ble_eq_true rfl) dX8_isWay_28 ?_
      refine Ev_if_ne (tgt := 41) dX8_isWay_31 (by decide) (fun q6 => ?_) (fun q6 => ?_)
      · rw [if_neg q6] at h
        refine Ev_aload_n (x := v0) rfl dX8_isWay_41 ?_
        refine Ev_iconst ic_0 dX8_isWay_42 ?_
        refine Ev_iload (x := v4) rfl dX8_isWay_43 ?_
        refine Ev_iload (x := (v2 - v2 / 12 * 12)) rfl dX8_isWay_45 ?_
        obtain ⟨x8, g7, h⟩ := bsome h
        refine Ev_callVi (np := 3) (vs := [.int 0, .int v4, .int (v2 - v2 / 12 * 12)]) (rest := []) mdX8_liesAt lkX8_149 ⟨_, rfl, rfl⟩ (oX8_liesAt g7) (rX8_liesAt g7) rfl rfl (Nat.le_of_ble_eq_true rfl) (Nat.le_of_ble_eq_true rfl) dX8_isWay_47 ?_
        refine Ev_if_ne (tgt := 55) dX8_isWay_50 (by decide) (fun q9 => ?_) (fun q9 => ?_)
        · rw [if_neg q9] at h
          refine Ev_iload_n (x := v3) rfl dX8_isWay_55 ?_
          refine Ev_iconst ic_1 dX8_isWay_56 ?_
          refine Ev_aload_n (x := v0) rfl dX8_isWay_57 ?_
          obtain ⟨a10, g10, h⟩ := bsome h
          refine Ev_getR flX8_13 dX8_isWay_58 g10 ?_
          refine Ev_iconst ic_4 dX8_isWay_61 ?_
          refine Ev_iload (x := v4) rfl dX8_isWay_62 ?_
          refine Ev_iadd dX8_isWay_64 ?_
          obtain ⟨x11, g11, h⟩ := bsome h
          refine Ev_iald dX8_isWay_65 g11 ?_
          refine Ev_ishl dX8_isWay_66 ?_
          refine Ev_iconst ic_1 dX8_isWay_67 ?_
          refine Ev_isub dX8_isWay_68 ?_
          refine Ev_iload (x := (v2 - v2 / 12 * 12)) rfl dX8_isWay_69 ?_
          refine Ev_ishl dX8_isWay_71 ?_
          refine Ev_ior dX8_isWay_72 ?_
          obtain ⟨x12, g12, h⟩ := bsome h
          refine Ev_istore_n (loc2 := [some (.ref v0), none, some (.int (v2 / 12)), some (.int x12), some (.int v4), some (.int (v2 - v2 / 12 * 12))]) (Nat.le_of_ble_eq_true rfl) rfl (by cases g12; rfl) dX8_isWay_73 ?_
          refine Ev_iinc (x := v4) (v := (v4 + 1)) (loc2 := [some (.ref v0), none, some (.int (v2 / 12)), some (.int x12), some (.int (v4 + 1)), some (.int (v2 - v2 / 12 * 12))]) rfl (congrArg (v4 + ·) ic_1) (Nat.le_of_ble_eq_true rfl) rfl rfl dX8_isWay_74 ?_
          refine Ev_goto (tgt := 7) dX8_isWay_77 (by decide) ?_
          refine Ev_drop 5 (loc2 := [some (.ref v0), none, some (.int (v2 / 12)), some (.int x12), some (.int (v4 + 1)), none]) rfl ?_
          exact ih v0 (v2 / 12) x12 (v4 + 1) h
        · rw [if_pos q9] at h
          refine Ev_iconst ic_0 dX8_isWay_53 ?_
          cases h
          exact Ev_iret rfl rfl dX8_isWay_54 ⟨rfl, rfl⟩
      · rw [if_pos q6] at h
        refine Ev_iload (x := (v2 - v2 / 12 * 12)) rfl dX8_isWay_34 ?_
        refine Ev_if_le (tgt := 74) dX8_isWay_36 (by decide) (fun q13 => ?_) (fun q13 => ?_)
        · rw [if_pos q13] at h
          refine Ev_iinc (x := v4) (v := (v4 + 1)) (loc2 := [some (.ref v0), none, some (.int (v2 / 12)), some (.int v3), some (.int (v4 + 1)), some (.int (v2 - v2 / 12 * 12))]) rfl (congrArg (v4 + ·) ic_1) (Nat.le_of_ble_eq_true rfl) rfl rfl dX8_isWay_74 ?_
          refine Ev_goto (tgt := 7) dX8_isWay_77 (by decide) ?_
          refine Ev_drop 5 (loc2 := [some (.ref v0), none, some (.int (v2 / 12)), some (.int v3), some (.int (v4 + 1)), none]) rfl ?_
          exact ih v0 (v2 / 12) v3 (v4 + 1) h
        · rw [if_neg q13] at h
          refine Ev_iconst ic_0 dX8_isWay_39 ?_
          cases h
          exact Ev_iret rfl rfl dX8_isWay_40 ⟨rfl, rfl⟩
def fX8_isWay (M : mM) (v0 : Nat) (v1 : Int32) : Option Int32 :=
    if isO M v0 8 = true then
      fX8_isWay_c7 M FUEL v0 v1 0 0
    else none
theorem oX8_isWay {M : mM} {v0 : Nat} {v1 : Int32} {y : Int32} (h : fX8_isWay M v0 v1 = some y) : isO M v0 8 = true := by
  unfold fX8_isWay at h
  exact (gsome h).1
set_option maxRecDepth 20000 in
set_option maxHeartbeats 4000000 in
theorem rX8_isWay {E : mE} {M : mM} {v0 : Nat} {v1 : Int32} {x : Int32} (h : fX8_isWay M v0 v1 = some x) : EvC mX8_isWay E 2 0 0 [.ref v0, .int v1] M (some (.int x)) M := by
  unfold fX8_isWay at h
  replace h := (gsome h).2
  refine EvC.of [some (.ref v0), some (.int v1), none, none, none, none] pnX8_isWay rfl (Nat.le_of_ble_eq_true rfl) ?_
  refine Ev_iload_n (x := v1) rfl dX8_isWay_0 ?_
  refine Ev_istore_n (loc2 := [some (.ref v0), some (.int v1), some (.int v1), none, none, none]) (Nat.le_of_ble_eq_true rfl) rfl rfl dX8_isWay_1 ?_
  refine Ev_iconst ic_0 dX8_isWay_2 ?_
  refine Ev_istore_n (loc2 := [some (.ref v0), some (.int v1), some (.int v1), some (.int 0), none, none]) (Nat.le_of_ble_eq_true rfl) rfl rfl dX8_isWay_3 ?_
  refine Ev_iconst ic_0 dX8_isWay_4 ?_
  refine Ev_istore (loc2 := [some (.ref v0), some (.int v1), some (.int v1), some (.int 0), some (.int 0), none]) (Nat.le_of_ble_eq_true rfl) rfl rfl dX8_isWay_5 ?_
  refine Ev_drop 1 (loc2 := [some (.ref v0), none, some (.int v1), some (.int 0), some (.int 0), none]) rfl ?_
  exact rX8_isWay_c7 FUEL v0 v1 0 0 h
/-! TinselRiverModel.ways()I -/
def fX8_ways_c4 (M : mM) : Nat → Nat → Int32 → Int32 → Option Int32
  | 0, _, _, _ => none
  | n + 1, v0, v1, v2 =>
    if 20736 ≤ v2 then
      (some v1)
    else
      ((fX8_isWay M v0 v2).bind fun x3 =>
      if x3 = 0 then
        (fX8_ways_c4 M n v0 (v1 + 0) (v2 + 1))
      else
        (fX8_ways_c4 M n v0 (v1 + 1) (v2 + 1)))
set_option maxRecDepth 20000 in
set_option maxHeartbeats 4000000 in
theorem rX8_ways_c4 {E : mE} {M : mM} {x : Int32} : ∀ (n : Nat) (v0 : Nat) (v1 : Int32) (v2 : Int32), fX8_ways_c4 M n v0 v1 v2 = some x → Ev mX8_ways E 3 0 0 (some (.int x)) M 4 [some (.ref v0), some (.int v1), some (.int v2)] [] M 0 0 := by
  intro n
  induction n with
  | zero => intro v0 v1 v2 h; rw [fX8_ways_c4.eq_1] at h; cases h
  | succ n ih =>
    intro v0 v1 v2 h
    rw [fX8_ways_c4.eq_2] at h
    refine Ev_iload_n (x := v2) rfl dX8_ways_4 ?_
    refine Ev_sipush sp_20736 dX8_ways_5 ?_
    refine Ev_icmp_ge (tgt := 33) dX8_ways_8 (by decide) (fun q1 => ?_) (fun q1 => ?_)
    · rw [if_pos q1] at h
      refine Ev_iload_n (x := v1) rfl dX8_ways_33 ?_
      cases h
      exact Ev_iret rfl rfl dX8_ways_34 ⟨rfl, rfl⟩
    · rw [if_neg q1] at h
      refine Ev_iload_n (x := v1) rfl dX8_ways_11 ?_
      refine Ev_aload_n (x := v0) rfl dX8_ways_12 ?_
      refine Ev_iload_n (x := v2) rfl dX8_ways_13 ?_
      obtain ⟨x3, g2, h⟩ := bsome h
      refine Ev_callVi (np := 1) (vs := [.int v2]) (rest := [.int v1]) mdX8_isWay lkX8_198 ⟨_, rfl, rfl⟩ (oX8_isWay g2) (rX8_isWay g2) rfl rfl (Nat.le_of_ble_eq_true rfl) (Nat.le_of_ble_eq_true rfl) dX8_ways_14 ?_
      refine Ev_if_eq (tgt := 24) dX8_ways_17 (by decide) (fun q4 => ?_) (fun q4 => ?_)
      · rw [if_pos q4] at h
        refine Ev_iconst ic_0 dX8_ways_24 ?_
        refine Ev_iadd dX8_ways_25 ?_
        refine Ev_istore_n (loc2 := [some (.ref v0), some (.int (v1 + 0)), some (.int v2)]) (Nat.le_of_ble_eq_true rfl) rfl rfl dX8_ways_26 ?_
        refine Ev_iinc (x := v2) (v := (v2 + 1)) (loc2 := [some (.ref v0), some (.int (v1 + 0)), some (.int (v2 + 1))]) rfl (congrArg (v2 + ·) ic_1) (Nat.le_of_ble_eq_true rfl) rfl rfl dX8_ways_27 ?_
        refine Ev_goto (tgt := 4) dX8_ways_30 (by decide) ?_
        exact ih v0 (v1 + 0) (v2 + 1) h
      · rw [if_neg q4] at h
        refine Ev_iconst ic_1 dX8_ways_20 ?_
        refine Ev_goto (tgt := 25) dX8_ways_21 (by decide) ?_
        refine Ev_iadd dX8_ways_25 ?_
        refine Ev_istore_n (loc2 := [some (.ref v0), some (.int (v1 + 1)), some (.int v2)]) (Nat.le_of_ble_eq_true rfl) rfl rfl dX8_ways_26 ?_
        refine Ev_iinc (x := v2) (v := (v2 + 1)) (loc2 := [some (.ref v0), some (.int (v1 + 1)), some (.int (v2 + 1))]) rfl (congrArg (v2 + ·) ic_1) (Nat.le_of_ble_eq_true rfl) rfl rfl dX8_ways_27 ?_
        refine Ev_goto (tgt := 4) dX8_ways_30 (by decide) ?_
        exact ih v0 (v1 + 1) (v2 + 1) h
def fX8_ways (M : mM) (v0 : Nat) : Option Int32 :=
    if isO M v0 8 = true then
      fX8_ways_c4 M FUEL v0 0 0
    else none
theorem oX8_ways {M : mM} {v0 : Nat} {y : Int32} (h : fX8_ways M v0 = some y) : isO M v0 8 = true := by
  unfold fX8_ways at h
  exact (gsome h).1
set_option maxRecDepth 20000 in
set_option maxHeartbeats 4000000 in
theorem rX8_ways {E : mE} {M : mM} {v0 : Nat} {x : Int32} (h : fX8_ways M v0 = some x) : EvC mX8_ways E 3 0 0 [.ref v0] M (some (.int x)) M := by
  unfold fX8_ways at h
  replace h := (gsome h).2
  refine EvC.of [some (.ref v0), none, none] pnX8_ways rfl (Nat.le_of_ble_eq_true rfl) ?_
  refine Ev_iconst ic_0 dX8_ways_0 ?_
  refine Ev_istore_n (loc2 := [some (.ref v0), some (.int 0), none]) (Nat.le_of_ble_eq_true rfl) rfl rfl dX8_ways_1 ?_
  refine Ev_iconst ic_0 dX8_ways_2 ?_
  refine Ev_istore_n (loc2 := [some (.ref v0), some (.int 0), some (.int 0)]) (Nat.le_of_ble_eq_true rfl) rfl rfl dX8_ways_3 ?_
  exact rX8_ways_c4 FUEL v0 0 0 h
/-! TinselRiverModel.tryThing(III)Z -/
def fX8_tryThing (M : mM) (v0 : Nat) (v1 : Int32) (v2 : Int32) (v3 : Int32) : Option (Int32 × mM) :=
    if isO M v0 8 = true then
      if v1 = 0 then
        ((fX8_passOn M v0 1).bind fun p2 =>
        if v2 = 0 then
          (if v3 = 0 then
            (some (1, p2.2))
          else
            (some (0, p2.2)))
        else
          (some (0, p2.2)))
      else
        (if v1 = 1 then
          ((fX8_isThere M v0 1 v2).bind fun x6 =>
          if x6 = 0 then
            (some (0, M))
          else
            ((fX8_in M (Int32.toInt64 v3) (0 : Int64) (3 : Int64)).bind fun x10 =>
            if x10 = 0 then
              (some (0, M))
            else
              ((gR M v0 8 2).bind fun a13 =>
              (aI M false a13 (57 + v2)).bind fun x14 =>
              if x14 = v3 then
                (some (0, M))
              else
                ((gR M v0 8 2).bind fun a18 =>
                (aS M false a18 (57 + v2) v3).bind fun M19 =>
                some (1, M19)))))
        else
          (if v1 = 2 then
            (if v2 = 0 then
              ((fX8_isThere M v0 1 v3).bind fun x23 =>
              if x23 = 0 then
                (some (0, M))
              else
                ((fX8_turnOn M v0 1 v3).bind fun M28 =>
                some (1, M28)))
            else
              (some (0, M)))
          else
            (if v1 = 3 then
              (if v2 = 0 then
                ((fX8_isThere M v0 1 v3).bind fun x32 =>
                if x32 = 0 then
                  (some (0, M))
                else
                  ((gR M v0 8 2).bind fun a35 =>
                  (aI M false a35 (61 + v3)).bind fun x36 =>
                  if x36 ≤ 1 then
                    (some (0, M))
                  else
                    ((fX8_loseLast M v0 1 v3).bind fun M41 =>
                    some (1, M41))))
              else
                (some (0, M)))
            else
              (if v1 = 4 then
                ((fX8_canJoin M v0 1 v2 v3).bind fun x43 =>
                if x43 = 0 then
                  (if x43 = 0 ∨ x43 = 1 then some (x43, M) else none)
                else
                  ((fX8_joinOn M v0 1 v2 v3).bind fun M47 =>
                  if x43 = 0 ∨ x43 = 1 then some (x43, M47) else none))
              else
                (if v1 = 5 then
                  ((fX8_isThere M v0 1 v2).bind fun x50 =>
                  if x50 = 0 then
                    (some (0, M))
                  else
                    ((gR M v0 8 2).bind fun a52 =>
                    (aI M false a52 (61 + v2)).bind fun x53 =>
                    if x53 < v3 then
                      (some (0, M))
                    else
                      (some (1, M))))
                else
                  (if v1 = 6 then
                    (if v2 = 0 then
                      ((fX8_isThere M v0 1 v3).bind fun x57 =>
                      if x57 = 0 then
                        (some (0, M))
                      else
                        ((fX8_firstPlace M v0 1 v3).bind fun x60 =>
                        if x60 = (-9) then
                          (some (0, M))
                        else
                          (some (1, M))))
                    else
                      (some (0, M)))
                  else
                    (some (0, M))))))))
    else none
theorem oX8_tryThing {M : mM} {v0 : Nat} {v1 : Int32} {v2 : Int32} {v3 : Int32} {y : (Int32 × mM)} (h : fX8_tryThing M v0 v1 v2 v3 = some y) : isO M v0 8 = true := by
  unfold fX8_tryThing at h
  exact (gsome h).1
set_option maxRecDepth 20000 in
set_option maxHeartbeats 4000000 in
theorem rX8_tryThing {E : mE} {M : mM} {v0 : Nat} {v1 : Int32} {v2 : Int32} {v3 : Int32} {x : Int32} {Mf : mM} (h : fX8_tryThing M v0 v1 v2 v3 = some (x, Mf)) : EvC mX8_tryThing E 5 0 0 [.ref v0, .int v1, .int v2, .int v3] M (some (.int x)) Mf := by
  unfold fX8_tryThing at h
  replace h := (gsome h).2
  refine EvC.of [some (.ref v0), some (.int v1), some (.int v2), some (.int v3), none, none, none, none] pnX8_tryThing rfl (Nat.le_of_ble_eq_true rfl) ?_
  refine Ev_iload_n (x := v1) rfl dX8_tryThing_0 ?_
  by_cases q62 : v1 = 0
  · rw [if_pos q62] at h
    refine Ev_tswIn (tgt := 44) dX8_tryThing_1 (by rw [q62]; decide) (by rw [q62]; decide) (by rw [q62]; rfl) (by decide) ?_
    refine Ev_aload_n (x := v0) rfl dX8_tryThing_44 ?_
    refine Ev_iconst ic_1 dX8_tryThing_45 ?_
    obtain ⟨p2, g1, h⟩ := bsome h
    refine Ev_callVi (np := 1) (vs := [.int 1]) (rest := []) mdX8_passOn lkX8_163 ⟨_, rfl, rfl⟩ (oX8_passOn g1) (rX8_passOn g1) rfl rfl (Nat.le_of_ble_eq_true rfl) (Nat.le_of_ble_eq_true rfl) dX8_tryThing_46 ?_
    refine Ev_pop rfl dX8_tryThing_49 ?_
    refine Ev_iload_n (x := v2) rfl dX8_tryThing_50 ?_
    refine Ev_if_ne (tgt := 62) dX8_tryThing_51 (by decide) (fun q3 => ?_) (fun q3 => ?_)
    · rw [if_neg q3] at h
      refine Ev_iconst ic_0 dX8_tryThing_62 ?_
      cases h
      exact Ev_iret rfl rfl dX8_tryThing_63 ⟨rfl, rfl⟩
    · rw [if_pos q3] at h
      refine Ev_iload_n (x := v3) rfl dX8_tryThing_54 ?_
      refine Ev_if_ne (tgt := 62) dX8_tryThing_55 (by decide) (fun q4 => ?_) (fun q4 => ?_)
      · rw [if_neg q4] at h
        refine Ev_iconst ic_0 dX8_tryThing_62 ?_
        cases h
        exact Ev_iret rfl rfl dX8_tryThing_63 ⟨rfl, rfl⟩
      · rw [if_pos q4] at h
        refine Ev_iconst ic_1 dX8_tryThing_58 ?_
        refine Ev_goto (tgt := 63) dX8_tryThing_59 (by decide) ?_
        cases h
        exact Ev_iret rfl rfl dX8_tryThing_63 ⟨rfl, rfl⟩
  · rw [if_neg q62] at h
    by_cases q63 : v1 = 1
    · rw [if_pos q63] at h
      refine Ev_tswIn (tgt := 64) dX8_tryThing_1 (by rw [q63]; decide) (by rw [q63]; decide) (by rw [q63]; rfl) (by decide) ?_
      refine Ev_aload_n (x := v0) rfl dX8_tryThing_64 ?_
      refine Ev_iconst ic_1 dX8_tryThing_65 ?_
      refine Ev_iload_n (x := v2) rfl dX8_tryThing_66 ?_
      obtain ⟨x6, g5, h⟩ := bsome h
      refine Ev_callVi (np := 2) (vs := [.int 1, .int v2]) (rest := []) mdX8_isThere lkX8_99 ⟨_, rfl, rfl⟩ (oX8_isThere g5) (rX8_isThere g5) rfl rfl (Nat.le_of_ble_eq_true rfl) (Nat.le_of_ble_eq_true rfl) dX8_tryThing_67 ?_
      refine Ev_if_eq (tgt := 102) dX8_tryThing_70 (by decide) (fun q7 => ?_) (fun q7 => ?_)
      · rw [if_pos q7] at h
        refine Ev_iconst ic_0 dX8_tryThing_102 ?_
        refine Ev_istore (loc2 := [some (.ref v0), some (.int v1), some (.int v2), some (.int v3), some (.int 0), none, none, none]) (Nat.le_of_ble_eq_true rfl) rfl rfl dX8_tryThing_103 ?_
        refine Ev_iload (x := 0) rfl dX8_tryThing_105 ?_
        refine Ev_if_eq (tgt := 120) dX8_tryThing_107 (by decide) (fun _ => ?_) (fun q8 => absurd q8 (by decide))
        refine Ev_iload (x := 0) rfl dX8_tryThing_120 ?_
        cases h
        exact Ev_iret rfl rfl dX8_tryThing_122 ⟨rfl, rfl⟩
      · rw [if_neg q7] at h
        refine Ev_iload_n (x := v3) rfl dX8_tryThing_73 ?_
        refine Ev_i2l dX8_tryThing_74 ?_
        refine Ev_lconst (v := 0) (by decide) dX8_tryThing_75 ?_
        refine Ev_ldc2 csX8_166 dX8_tryThing_76 ?_
        obtain ⟨x10, g9, h⟩ := bsome h
        refine Ev_callSi (np := 3) (vs := [.long (Int32.toInt64 v3), .long (0 : Int64), .long (3 : Int64)]) (rest := []) mdX8_in lkX8_52 (rX8_in g9) rfl rfl (Nat.le_of_ble_eq_true rfl) (Nat.le_of_ble_eq_true rfl) dX8_tryThing_79 ?_
        refine Ev_if_eq (tgt := 102) dX8_tryThing_82 (by decide) (fun q11 => ?_) (fun q11 => ?_)
        · rw [if_pos q11] at h
          refine Ev_iconst ic_0 dX8_tryThing_102 ?_
          refine Ev_istore (loc2 := [some (.ref v0), some (.int v1), some (.int v2), some (.int v3), some (.int 0), none, none, none]) (Nat.le_of_ble_eq_true rfl) rfl rfl dX8_tryThing_103 ?_
          refine Ev_iload (x := 0) rfl dX8_tryThing_105 ?_
          refine Ev_if_eq (tgt := 120) dX8_tryThing_107 (by decide) (fun _ => ?_) (fun q12 => absurd q12 (by decide))
          refine Ev_iload (x := 0) rfl dX8_tryThing_120 ?_
          cases h
          exact Ev_iret rfl rfl dX8_tryThing_122 ⟨rfl, rfl⟩
        · rw [if_neg q11] at h
          refine Ev_aload_n (x := v0) rfl dX8_tryThing_85 ?_
          obtain ⟨a13, g13, h⟩ := bsome h
          refine Ev_getR flX8_13 dX8_tryThing_86 g13 ?_
          refine Ev_bipush bp_57 dX8_tryThing_89 ?_
          refine Ev_iload_n (x := v2) rfl dX8_tryThing_91 ?_
          refine Ev_iadd dX8_tryThing_92 ?_
          obtain ⟨x14, g14, h⟩ := bsome h
          refine Ev_iald dX8_tryThing_93 g14 ?_
          refine Ev_iload_n (x := v3) rfl dX8_tryThing_94 ?_
          refine Ev_icmp_eq (tgt := 102) dX8_tryThing_95 (by decide) (fun q15 => ?_) (fun q15 => ?_)
          · rw [if_pos q15] at h
            refine Ev_iconst ic_0 dX8_tryThing_102 ?_
            refine Ev_istore (loc2 := [some (.ref v0), some (.int v1), some (.int v2), some (.int v3), some (.int 0), none, none, none]) (Nat.le_of_ble_eq_true rfl) rfl rfl dX8_tryThing_103 ?_
            refine Ev_iload (x := 0) rfl dX8_tryThing_105 ?_
            refine Ev_if_eq (tgt := 120) dX8_tryThing_107 (by decide) (fun _ => ?_) (fun q16 => absurd q16 (by decide))
            refine Ev_iload (x := 0) rfl dX8_tryThing_120 ?_
            cases h
            exact Ev_iret rfl rfl dX8_tryThing_122 ⟨rfl, rfl⟩
          · rw [if_neg q15] at h
            refine Ev_iconst ic_1 dX8_tryThing_98 ?_
            refine Ev_goto (tgt := 103) dX8_tryThing_99 (by decide) ?_
            refine Ev_istore (loc2 := [some (.ref v0), some (.int v1), some (.int v2), some (.int v3), some (.int 1), none, none, none]) (Nat.le_of_ble_eq_true rfl) rfl rfl dX8_tryThing_103 ?_
            refine Ev_iload (x := 1) rfl dX8_tryThing_105 ?_
            refine Ev_if_eq (tgt := 120) dX8_tryThing_107 (by decide) (fun q17 => absurd q17 (by decide)) (fun _ => ?_)
            refine Ev_aload_n (x := v0) rfl dX8_tryThing_110 ?_
            obtain ⟨a18, g18, h⟩ := bsome h
            refine Ev_getR flX8_13 dX8_tryThing_111 g18 ?_
            refine Ev_bipush bp_57 dX8_tryThing_114 ?_
            refine Ev_iload_n (x := v2) rfl dX8_tryThing_116 ?_
            refine Ev_iadd dX8_tryThing_117 ?_
            refine Ev_iload_n (x := v3) rfl dX8_tryThing_118 ?_
            obtain ⟨M19, g19, h⟩ := bsome h
            refine Ev_iast dX8_tryThing_119 g19 ?_
            refine Ev_iload (x := 1) rfl dX8_tryThing_120 ?_
            cases h
            exact Ev_iret rfl rfl dX8_tryThing_122 ⟨rfl, rfl⟩
    · rw [if_neg q63] at h
      by_cases q64 : v1 = 2
      · rw [if_pos q64] at h
        refine Ev_tswIn (tgt := 123) dX8_tryThing_1 (by rw [q64]; decide) (by rw [q64]; decide) (by rw [q64]; rfl) (by decide) ?_
        refine Ev_iload_n (x := v2) rfl dX8_tryThing_123 ?_
        refine Ev_if_ne (tgt := 140) dX8_tryThing_124 (by decide) (fun q20 => ?_) (fun q20 => ?_)
        · rw [if_neg q20] at h
          refine Ev_iconst ic_0 dX8_tryThing_140 ?_
          refine Ev_istore (loc2 := [some (.ref v0), some (.int v1), some (.int v2), some (.int v3), none, some (.int 0), none, none]) (Nat.le_of_ble_eq_true rfl) rfl rfl dX8_tryThing_141 ?_
          refine Ev_iload (x := 0) rfl dX8_tryThing_143 ?_
          refine Ev_if_eq (tgt := 154) dX8_tryThing_145 (by decide) (fun _ => ?_) (fun q21 => absurd q21 (by decide))
          refine Ev_iload (x := 0) rfl dX8_tryThing_154 ?_
          cases h
          exact Ev_iret rfl rfl dX8_tryThing_156 ⟨rfl, rfl⟩
        · rw [if_pos q20] at h
          refine Ev_aload_n (x := v0) rfl dX8_tryThing_127 ?_
          refine Ev_iconst ic_1 dX8_tryThing_128 ?_
          refine Ev_iload_n (x := v3) rfl dX8_tryThing_129 ?_
          obtain ⟨x23, g22, h⟩ := bsome h
          refine Ev_callVi (np := 2) (vs := [.int 1, .int v3]) (rest := []) mdX8_isThere lkX8_99 ⟨_, rfl, rfl⟩ (oX8_isThere g22) (rX8_isThere g22) rfl rfl (Nat.le_of_ble_eq_true rfl) (Nat.le_of_ble_eq_true rfl) dX8_tryThing_130 ?_
          refine Ev_if_eq (tgt := 140) dX8_tryThing_133 (by decide) (fun q24 => ?_) (fun q24 => ?_)
          · rw [if_pos q24] at h
            refine Ev_iconst ic_0 dX8_tryThing_140 ?_
            refine Ev_istore (loc2 := [some (.ref v0), some (.int v1), some (.int v2), some (.int v3), none, some (.int 0), none, none]) (Nat.le_of_ble_eq_true rfl) rfl rfl dX8_tryThing_141 ?_
            refine Ev_iload (x := 0) rfl dX8_tryThing_143 ?_
            refine Ev_if_eq (tgt := 154) dX8_tryThing_145 (by decide) (fun _ => ?_) (fun q25 => absurd q25 (by decide))
            refine Ev_iload (x := 0) rfl dX8_tryThing_154 ?_
            cases h
            exact Ev_iret rfl rfl dX8_tryThing_156 ⟨rfl, rfl⟩
          · rw [if_neg q24] at h
            refine Ev_iconst ic_1 dX8_tryThing_136 ?_
            refine Ev_goto (tgt := 141) dX8_tryThing_137 (by decide) ?_
            refine Ev_istore (loc2 := [some (.ref v0), some (.int v1), some (.int v2), some (.int v3), none, some (.int 1), none, none]) (Nat.le_of_ble_eq_true rfl) rfl rfl dX8_tryThing_141 ?_
            refine Ev_iload (x := 1) rfl dX8_tryThing_143 ?_
            refine Ev_if_eq (tgt := 154) dX8_tryThing_145 (by decide) (fun q26 => absurd q26 (by decide)) (fun _ => ?_)
            refine Ev_aload_n (x := v0) rfl dX8_tryThing_148 ?_
            refine Ev_iconst ic_1 dX8_tryThing_149 ?_
            refine Ev_iload_n (x := v3) rfl dX8_tryThing_150 ?_
            obtain ⟨M28, g27, h⟩ := bsome h
            refine Ev_callVv (np := 2) (vs := [.int 1, .int v3]) (rest := []) mdX8_turnOn lkX8_168 ⟨_, rfl, rfl⟩ (oX8_turnOn g27) (rX8_turnOn g27) rfl rfl (Nat.le_of_ble_eq_true rfl) (Nat.le_of_ble_eq_true rfl) dX8_tryThing_151 ?_
            refine Ev_iload (x := 1) rfl dX8_tryThing_154 ?_
            cases h
            exact Ev_iret rfl rfl dX8_tryThing_156 ⟨rfl, rfl⟩
      · rw [if_neg q64] at h
        by_cases q65 : v1 = 3
        · rw [if_pos q65] at h
          refine Ev_tswIn (tgt := 157) dX8_tryThing_1 (by rw [q65]; decide) (by rw [q65]; decide) (by rw [q65]; rfl) (by decide) ?_
          refine Ev_iload_n (x := v2) rfl dX8_tryThing_157 ?_
          refine Ev_if_ne (tgt := 187) dX8_tryThing_158 (by decide) (fun q29 => ?_) (fun q29 => ?_)
          · rw [if_neg q29] at h
            refine Ev_iconst ic_0 dX8_tryThing_187 ?_
            refine Ev_istore (loc2 := [some (.ref v0), some (.int v1), some (.int v2), some (.int v3), none, none, some (.int 0), none]) (Nat.le_of_ble_eq_true rfl) rfl rfl dX8_tryThing_188 ?_
            refine Ev_iload (x := 0) rfl dX8_tryThing_190 ?_
            refine Ev_if_eq (tgt := 201) dX8_tryThing_192 (by decide) (fun _ => ?_) (fun q30 => absurd q30 (by decide))
            refine Ev_iload (x := 0) rfl dX8_tryThing_201 ?_
            cases h
            exact Ev_iret rfl rfl dX8_tryThing_203 ⟨rfl, rfl⟩
          · rw [if_pos q29] at h
            refine Ev_aload_n (x := v0) rfl dX8_tryThing_161 ?_
            refine Ev_iconst ic_1 dX8_tryThing_162 ?_
            refine Ev_iload_n (x := v3) rfl dX8_tryThing_163 ?_
            obtain ⟨x32, g31, h⟩ := bsome h
            refine Ev_callVi (np := 2) (vs := [.int 1, .int v3]) (rest := []) mdX8_isThere lkX8_99 ⟨_, rfl, rfl⟩ (oX8_isThere g31) (rX8_isThere g31) rfl rfl (Nat.le_of_ble_eq_true rfl) (Nat.le_of_ble_eq_true rfl) dX8_tryThing_164 ?_
            refine Ev_if_eq (tgt := 187) dX8_tryThing_167 (by decide) (fun q33 => ?_) (fun q33 => ?_)
            · rw [if_pos q33] at h
              refine Ev_iconst ic_0 dX8_tryThing_187 ?_
              refine Ev_istore (loc2 := [some (.ref v0), some (.int v1), some (.int v2), some (.int v3), none, none, some (.int 0), none]) (Nat.le_of_ble_eq_true rfl) rfl rfl dX8_tryThing_188 ?_
              refine Ev_iload (x := 0) rfl dX8_tryThing_190 ?_
              refine Ev_if_eq (tgt := 201) dX8_tryThing_192 (by decide) (fun _ => ?_) (fun q34 => absurd q34 (by decide))
              refine Ev_iload (x := 0) rfl dX8_tryThing_201 ?_
              cases h
              exact Ev_iret rfl rfl dX8_tryThing_203 ⟨rfl, rfl⟩
            · rw [if_neg q33] at h
              refine Ev_aload_n (x := v0) rfl dX8_tryThing_170 ?_
              obtain ⟨a35, g35, h⟩ := bsome h
              refine Ev_getR flX8_13 dX8_tryThing_171 g35 ?_
              refine Ev_bipush bp_61 dX8_tryThing_174 ?_
              refine Ev_iload_n (x := v3) rfl dX8_tryThing_176 ?_
              refine Ev_iadd dX8_tryThing_177 ?_
              obtain ⟨x36, g36, h⟩ := bsome h
              refine Ev_iald dX8_tryThing_178 g36 ?_
              refine Ev_iconst ic_1 dX8_tryThing_179 ?_
              refine Ev_icmp_le (tgt := 187) dX8_tryThing_180 (by decide) (fun q37 => ?_) (fun q37 => ?_)
              · rw [if_pos q37] at h
                refine Ev_iconst ic_0 dX8_tryThing_187 ?_
                refine Ev_istore (loc2 := [some (.ref v0), some (.int v1), some (.int v2), some (.int v3), none, none, some (.int 0), none]) (Nat.le_of_ble_eq_true rfl) rfl rfl dX8_tryThing_188 ?_
                refine Ev_iload (x := 0) rfl dX8_tryThing_190 ?_
                refine Ev_if_eq (tgt := 201) dX8_tryThing_192 (by decide) (fun _ => ?_) (fun q38 => absurd q38 (by decide))
                refine Ev_iload (x := 0) rfl dX8_tryThing_201 ?_
                cases h
                exact Ev_iret rfl rfl dX8_tryThing_203 ⟨rfl, rfl⟩
              · rw [if_neg q37] at h
                refine Ev_iconst ic_1 dX8_tryThing_183 ?_
                refine Ev_goto (tgt := 188) dX8_tryThing_184 (by decide) ?_
                refine Ev_istore (loc2 := [some (.ref v0), some (.int v1), some (.int v2), some (.int v3), none, none, some (.int 1), none]) (Nat.le_of_ble_eq_true rfl) rfl rfl dX8_tryThing_188 ?_
                refine Ev_iload (x := 1) rfl dX8_tryThing_190 ?_
                refine Ev_if_eq (tgt := 201) dX8_tryThing_192 (by decide) (fun q39 => absurd q39 (by decide)) (fun _ => ?_)
                refine Ev_aload_n (x := v0) rfl dX8_tryThing_195 ?_
                refine Ev_iconst ic_1 dX8_tryThing_196 ?_
                refine Ev_iload_n (x := v3) rfl dX8_tryThing_197 ?_
                obtain ⟨M41, g40, h⟩ := bsome h
                refine Ev_callVv (np := 2) (vs := [.int 1, .int v3]) (rest := []) mdX8_loseLast lkX8_95 ⟨_, rfl, rfl⟩ (oX8_loseLast g40) (rX8_loseLast g40) rfl rfl (Nat.le_of_ble_eq_true rfl) (Nat.le_of_ble_eq_true rfl) dX8_tryThing_198 ?_
                refine Ev_iload (x := 1) rfl dX8_tryThing_201 ?_
                cases h
                exact Ev_iret rfl rfl dX8_tryThing_203 ⟨rfl, rfl⟩
        · rw [if_neg q65] at h
          by_cases q66 : v1 = 4
          · rw [if_pos q66] at h
            refine Ev_tswIn (tgt := 204) dX8_tryThing_1 (by rw [q66]; decide) (by rw [q66]; decide) (by rw [q66]; rfl) (by decide) ?_
            refine Ev_aload_n (x := v0) rfl dX8_tryThing_204 ?_
            refine Ev_iconst ic_1 dX8_tryThing_205 ?_
            refine Ev_iload_n (x := v2) rfl dX8_tryThing_206 ?_
            refine Ev_iload_n (x := v3) rfl dX8_tryThing_207 ?_
            obtain ⟨x43, g42, h⟩ := bsome h
            refine Ev_callVi (np := 3) (vs := [.int 1, .int v2, .int v3]) (rest := []) mdX8_canJoin lkX8_171 ⟨_, rfl, rfl⟩ (oX8_canJoin g42) (rX8_canJoin g42) rfl rfl (Nat.le_of_ble_eq_true rfl) (Nat.le_of_ble_eq_true rfl) dX8_tryThing_208 ?_
            refine Ev_istore (loc2 := [some (.ref v0), some (.int v1), some (.int v2), some (.int v3), none, none, none, some (.int x43)]) (Nat.le_of_ble_eq_true rfl) rfl rfl dX8_tryThing_211 ?_
            refine Ev_iload (x := x43) rfl dX8_tryThing_213 ?_
            refine Ev_if_eq (tgt := 225) dX8_tryThing_215 (by decide) (fun q44 => ?_) (fun q44 => ?_)
            · rw [if_pos q44] at h
              refine Ev_iload (x := x43) rfl dX8_tryThing_225 ?_
              obtain ⟨b45, h⟩ := gsome h
              cases h
              exact Ev_iret rfl (mb01 b45) dX8_tryThing_227 ⟨rfl, rfl⟩
            · rw [if_neg q44] at h
              refine Ev_aload_n (x := v0) rfl dX8_tryThing_218 ?_
              refine Ev_iconst ic_1 dX8_tryThing_219 ?_
              refine Ev_iload_n (x := v2) rfl dX8_tryThing_220 ?_
              refine Ev_iload_n (x := v3) rfl dX8_tryThing_221 ?_
              obtain ⟨M47, g46, h⟩ := bsome h
              refine Ev_callVv (np := 3) (vs := [.int 1, .int v2, .int v3]) (rest := []) mdX8_joinOn lkX8_174 ⟨_, rfl, rfl⟩ (oX8_joinOn g46) (rX8_joinOn g46) rfl rfl (Nat.le_of_ble_eq_true rfl) (Nat.le_of_ble_eq_true rfl) dX8_tryThing_222 ?_
              refine Ev_iload (x := x43) rfl dX8_tryThing_225 ?_
              obtain ⟨b48, h⟩ := gsome h
              cases h
              exact Ev_iret rfl (mb01 b48) dX8_tryThing_227 ⟨rfl, rfl⟩
          · rw [if_neg q66] at h
            by_cases q67 : v1 = 5
            · rw [if_pos q67] at h
              refine Ev_tswIn (tgt := 228) dX8_tryThing_1 (by rw [q67]; decide) (by rw [q67]; decide) (by rw [q67]; rfl) (by decide) ?_
              refine Ev_aload_n (x := v0) rfl dX8_tryThing_228 ?_
              refine Ev_iconst ic_1 dX8_tryThing_229 ?_
              refine Ev_iload_n (x := v2) rfl dX8_tryThing_230 ?_
              obtain ⟨x50, g49, h⟩ := bsome h
              refine Ev_callVi (np := 2) (vs := [.int 1, .int v2]) (rest := []) mdX8_isThere lkX8_99 ⟨_, rfl, rfl⟩ (oX8_isThere g49) (rX8_isThere g49) rfl rfl (Nat.le_of_ble_eq_true rfl) (Nat.le_of_ble_eq_true rfl) dX8_tryThing_231 ?_
              refine Ev_if_eq (tgt := 254) dX8_tryThing_234 (by decide) (fun q51 => ?_) (fun q51 => ?_)
              · rw [if_pos q51] at h
                refine Ev_iconst ic_0 dX8_tryThing_254 ?_
                cases h
                exact Ev_iret rfl rfl dX8_tryThing_255 ⟨rfl, rfl⟩
              · rw [if_neg q51] at h
                refine Ev_aload_n (x := v0) rfl dX8_tryThing_237 ?_
                obtain ⟨a52, g52, h⟩ := bsome h
                refine Ev_getR flX8_13 dX8_tryThing_238 g52 ?_
                refine Ev_bipush bp_61 dX8_tryThing_241 ?_
                refine Ev_iload_n (x := v2) rfl dX8_tryThing_243 ?_
                refine Ev_iadd dX8_tryThing_244 ?_
                obtain ⟨x53, g53, h⟩ := bsome h
                refine Ev_iald dX8_tryThing_245 g53 ?_
                refine Ev_iload_n (x := v3) rfl dX8_tryThing_246 ?_
                refine Ev_icmp_lt (tgt := 254) dX8_tryThing_247 (by decide) (fun q54 => ?_) (fun q54 => ?_)
                · rw [if_pos q54] at h
                  refine Ev_iconst ic_0 dX8_tryThing_254 ?_
                  cases h
                  exact Ev_iret rfl rfl dX8_tryThing_255 ⟨rfl, rfl⟩
                · rw [if_neg q54] at h
                  refine Ev_iconst ic_1 dX8_tryThing_250 ?_
                  refine Ev_goto (tgt := 255) dX8_tryThing_251 (by decide) ?_
                  cases h
                  exact Ev_iret rfl rfl dX8_tryThing_255 ⟨rfl, rfl⟩
            · rw [if_neg q67] at h
              by_cases q68 : v1 = 6
              · rw [if_pos q68] at h
                refine Ev_tswIn (tgt := 256) dX8_tryThing_1 (by rw [q68]; decide) (by rw [q68]; decide) (by rw [q68]; rfl) (by decide) ?_
                refine Ev_iload_n (x := v2) rfl dX8_tryThing_256 ?_
                refine Ev_if_ne (tgt := 284) dX8_tryThing_257 (by decide) (fun q55 => ?_) (fun q55 => ?_)
                · rw [if_neg q55] at h
                  refine Ev_iconst ic_0 dX8_tryThing_284 ?_
                  cases h
                  exact Ev_iret rfl rfl dX8_tryThing_285 ⟨rfl, rfl⟩
                · rw [if_pos q55] at h
                  refine Ev_aload_n (x := v0) rfl dX8_tryThing_260 ?_
                  refine Ev_iconst ic_1 dX8_tryThing_261 ?_
                  refine Ev_iload_n (x := v3) rfl dX8_tryThing_262 ?_
                  obtain ⟨x57, g56, h⟩ := bsome h
                  refine Ev_callVi (np := 2) (vs := [.int 1, .int v3]) (rest := []) mdX8_isThere lkX8_99 ⟨_, rfl, rfl⟩ (oX8_isThere g56) (rX8_isThere g56) rfl rfl (Nat.le_of_ble_eq_true rfl) (Nat.le_of_ble_eq_true rfl) dX8_tryThing_263 ?_
                  refine Ev_if_eq (tgt := 284) dX8_tryThing_266 (by decide) (fun q58 => ?_) (fun q58 => ?_)
                  · rw [if_pos q58] at h
                    refine Ev_iconst ic_0 dX8_tryThing_284 ?_
                    cases h
                    exact Ev_iret rfl rfl dX8_tryThing_285 ⟨rfl, rfl⟩
                  · rw [if_neg q58] at h
                    refine Ev_aload_n (x := v0) rfl dX8_tryThing_269 ?_
                    refine Ev_iconst ic_1 dX8_tryThing_270 ?_
                    refine Ev_iload_n (x := v3) rfl dX8_tryThing_271 ?_
                    obtain ⟨x60, g59, h⟩ := bsome h
                    refine Ev_callVi (np := 2) (vs := [.int 1, .int v3]) (rest := []) mdX8_firstPlace lkX8_152 ⟨_, rfl, rfl⟩ (oX8_firstPlace g59) (rX8_firstPlace g59) rfl rfl (Nat.le_of_ble_eq_true rfl) (Nat.le_of_ble_eq_true rfl) dX8_tryThing_272 ?_
                    refine Ev_bipush bp_m9 dX8_tryThing_275 ?_
                    refine Ev_icmp_eq (tgt := 284) dX8_tryThing_277 (by decide) (fun q61 => ?_) (fun q61 => ?_)
                    · rw [if_pos q61] at h
                      refine Ev_iconst ic_0 dX8_tryThing_284 ?_
                      cases h
                      exact Ev_iret rfl rfl dX8_tryThing_285 ⟨rfl, rfl⟩
                    · rw [if_neg q61] at h
                      refine Ev_iconst ic_1 dX8_tryThing_280 ?_
                      refine Ev_goto (tgt := 285) dX8_tryThing_281 (by decide) ?_
                      cases h
                      exact Ev_iret rfl rfl dX8_tryThing_285 ⟨rfl, rfl⟩
              · rw [if_neg q68] at h
                refine Ev_tswOut (tgt := 286) dX8_tryThing_1 (sw_out7 q62 q63 q64 q65 q66 q67 q68) (by decide) ?_
                refine Ev_iconst ic_0 dX8_tryThing_286 ?_
                cases h
                exact Ev_iret rfl rfl dX8_tryThing_287 ⟨rfl, rfl⟩
/-! TinselRiverModel.thousandTo(I)J -/
def fX8_thousandTo (M : mM) (v0 : Int32) : Option Int64 :=
    (fX8_tenTo M (3 * v0)).bind fun x2 =>
    some x2
set_option maxRecDepth 20000 in
set_option maxHeartbeats 4000000 in
theorem rX8_thousandTo {E : mE} {M : mM} {v0 : Int32} {x : Int64} (h : fX8_thousandTo M v0 = some x) : EvC mX8_thousandTo E 1 0 0 [.int v0] M (some (.long x)) M := by
  unfold fX8_thousandTo at h
  refine EvC.of [some (.int v0)] pnX8_thousandTo rfl (Nat.le_of_ble_eq_true rfl) ?_
  refine Ev_iconst ic_3 dX8_thousandTo_0 ?_
  refine Ev_iload_n (x := v0) rfl dX8_thousandTo_1 ?_
  refine Ev_imul dX8_thousandTo_2 ?_
  obtain ⟨x2, g1, h⟩ := bsome h
  refine Ev_callSl (np := 1) (vs := [.int (3 * v0)]) (rest := []) mdX8_tenTo lkX8_140 (rX8_tenTo g1) rfl rfl (Nat.le_of_ble_eq_true rfl) (Nat.le_of_ble_eq_true rfl) dX8_thousandTo_3 ?_
  cases h
  exact Ev_lret rfl dX8_thousandTo_6 ⟨rfl, rfl⟩
