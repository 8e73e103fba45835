/-! printed by wip/whole/gen.py -/
/-! TinselRiverModel.inHouse(II)I -/
def fX8_inHouse_c5 (M : mM) : Nat → Nat → Int32 → Int32 → Int32 → Int32 → Option Int32
  | 0, _, _, _, _, _ => none
  | n + 1, v0, v1, v2, v3, v4 =>
    (gI M v0 8 0).bind fun x1 =>
    if x1 ≤ v4 then
      (some v3)
    else
      ((fX8_isThere M v0 v1 v4).bind fun x4 =>
      if x4 = 0 then
        (fX8_inHouse_c5 M n v0 v1 v2 (v3 ||| 0) (v4 + 1))
      else
        ((gR M v0 8 2).bind fun a6 =>
        (aI M false a6 ((57 * v1) + v4)).bind fun x7 =>
        if x7 = v2 then
          (fX8_inHouse_c5 M n v0 v1 v2 (v3 ||| (1 <<< (v4 &&& 31))) (v4 + 1))
        else
          (fX8_inHouse_c5 M n v0 v1 v2 (v3 ||| 0) (v4 + 1))))
set_option maxRecDepth 20000 in
set_option maxHeartbeats 4000000 in
theorem rX8_inHouse_c5 {E : mE} {M : mM} {x : Int32} : ∀ (n : Nat) (v0 : Nat) (v1 : Int32) (v2 : Int32) (v3 : Int32) (v4 : Int32), fX8_inHouse_c5 M n v0 v1 v2 v3 v4 = some x → Ev mX8_inHouse E 2 0 0 (some (.int x)) M 5 [some (.ref v0), some (.int v1), some (.int v2), some (.int v3), some (.int v4)] [] M 0 0 := by
  intro n
  induction n with
  | zero => intro v0 v1 v2 v3 v4 h; rw [fX8_inHouse_c5.eq_1] at h; cases h
  | succ n ih =>
    intro v0 v1 v2 v3 v4 h
    rw [fX8_inHouse_c5.eq_2] at h
    refine Ev_iload (x := v4) rfl dX8_inHouse_5 ?_
    refine Ev_aload_n (x := v0) rfl dX8_inHouse_7 ?_
    obtain ⟨x1, g1, h⟩ := bsome h
    refine Ev_getI flX8_89 dX8_inHouse_8 g1 ?_
    refine Ev_icmp_ge (tgt := 57) dX8_inHouse_11 (by decide) (fun q2 => ?_) (fun q2 => ?_)
    · rw [if_pos q2] at h
      refine Ev_iload_n (x := v3) rfl dX8_inHouse_57 ?_
      cases h
      exact Ev_iret rfl rfl dX8_inHouse_58 ⟨rfl, rfl⟩
    · rw [if_neg q2] at h
      refine Ev_iload_n (x := v3) rfl dX8_inHouse_14 ?_
      refine Ev_aload_n (x := v0) rfl dX8_inHouse_15 ?_
      refine Ev_iload_n (x := v1) rfl dX8_inHouse_16 ?_
      refine Ev_iload (x := v4) rfl dX8_inHouse_17 ?_
      obtain ⟨x4, g3, h⟩ := bsome h
      refine Ev_callVi (np := 2) (vs := [.int v1, .int v4]) (rest := [.int v3]) mdX8_isThere lkX8_99 ⟨_, rfl, rfl⟩ (oX8_isThere g3) (rX8_isThere g3) rfl rfl (Nat.le_of_ble_eq_true rfl) (Nat.le_of_ble_eq_true rfl) dX8_inHouse_19 ?_
      refine Ev_if_eq (tgt := 48) dX8_inHouse_22 (by decide) (fun q5 => ?_) (fun q5 => ?_)
      · rw [if_pos q5] at h
        refine Ev_iconst ic_0 dX8_inHouse_48 ?_
        refine Ev_ior dX8_inHouse_49 ?_
        refine Ev_istore_n (loc2 := [some (.ref v0), some (.int v1), some (.int v2), some (.int (v3 ||| 0)), some (.int v4)]) (Nat.le_of_ble_eq_true rfl) rfl rfl dX8_inHouse_50 ?_
        refine Ev_iinc (x := v4) (v := (v4 + 1)) (loc2 := [some (.ref v0), some (.int v1), some (.int v2), some (.int (v3 ||| 0)), some (.int (v4 + 1))]) rfl (congrArg (v4 + ·) ic_1) (Nat.le_of_ble_eq_true rfl) rfl rfl dX8_inHouse_51 ?_
        refine Ev_goto (tgt := 5) dX8_inHouse_54 (by decide) ?_
        exact ih v0 v1 v2 (v3 ||| 0) (v4 + 1) h
      · rw [if_neg q5] at h
        refine Ev_aload_n (x := v0) rfl dX8_inHouse_25 ?_
        obtain ⟨a6, g6, h⟩ := bsome h
        refine Ev_getR flX8_13 dX8_inHouse_26 g6 ?_
        refine Ev_bipush bp_57 dX8_inHouse_29 ?_
        refine Ev_iload_n (x := v1) rfl dX8_inHouse_31 ?_
        refine Ev_imul dX8_inHouse_32 ?_
        refine Ev_iload (x := v4) rfl dX8_inHouse_33 ?_
        refine Ev_iadd dX8_inHouse_35 ?_
        obtain ⟨x7, g7, h⟩ := bsome h
        refine Ev_iald dX8_inHouse_36 g7 ?_
        refine Ev_iload_n (x := v2) rfl dX8_inHouse_37 ?_
        refine Ev_icmp_ne (tgt := 48) dX8_inHouse_38 (by decide) (fun q8 => ?_) (fun q8 => ?_)
        · rw [if_neg q8] at h
          refine Ev_iconst ic_0 dX8_inHouse_48 ?_
          refine Ev_ior dX8_inHouse_49 ?_
          refine Ev_istore_n (loc2 := [some (.ref v0), some (.int v1), some (.int v2), some (.int (v3 ||| 0)), some (.int v4)]) (Nat.le_of_ble_eq_true rfl) rfl rfl dX8_inHouse_50 ?_
          refine Ev_iinc (x := v4) (v := (v4 + 1)) (loc2 := [some (.ref v0), some (.int v1), some (.int v2), some (.int (v3 ||| 0)), some (.int (v4 + 1))]) rfl (congrArg (v4 + ·) ic_1) (Nat.le_of_ble_eq_true rfl) rfl rfl dX8_inHouse_51 ?_
          refine Ev_goto (tgt := 5) dX8_inHouse_54 (by decide) ?_
          exact ih v0 v1 v2 (v3 ||| 0) (v4 + 1) h
        · rw [if_pos q8] at h
          refine Ev_iconst ic_1 dX8_inHouse_41 ?_
          refine Ev_iload (x := v4) rfl dX8_inHouse_42 ?_
          refine Ev_ishl dX8_inHouse_44 ?_
          refine Ev_goto (tgt := 49) dX8_inHouse_45 (by decide) ?_
          refine Ev_ior dX8_inHouse_49 ?_
          refine Ev_istore_n (loc2 := [some (.ref v0), some (.int v1), some (.int v2), some (.int (v3 ||| (1 <<< (v4 &&& 31)))), some (.int v4)]) (Nat.le_of_ble_eq_true rfl) rfl rfl dX8_inHouse_50 ?_
          refine Ev_iinc (x := v4) (v := (v4 + 1)) (loc2 := [some (.ref v0), some (.int v1), some (.int v2), some (.int (v3 ||| (1 <<< (v4 &&& 31)))), some (.int (v4 + 1))]) rfl (congrArg (v4 + ·) ic_1) (Nat.le_of_ble_eq_true rfl) rfl rfl dX8_inHouse_51 ?_
          refine Ev_goto (tgt := 5) dX8_inHouse_54 (by decide) ?_
          exact ih v0 v1 v2 (v3 ||| (1 <<< (v4 &&& 31))) (v4 + 1) h
def fX8_inHouse (M : mM) (v0 : Nat) (v1 : Int32) (v2 : Int32) : Option Int32 :=
    if isO M v0 8 = true then
      fX8_inHouse_c5 M FUEL v0 v1 v2 0 0
    else none
theorem oX8_inHouse {M : mM} {v0 : Nat} {v1 : Int32} {v2 : Int32} {y : Int32} (h : fX8_inHouse M v0 v1 v2 = some y) : isO M v0 8 = true := by
  unfold fX8_inHouse at h
  exact (gsome h).1
set_option maxRecDepth 20000 in
set_option maxHeartbeats 4000000 in
theorem rX8_inHouse {E : mE} {M : mM} {v0 : Nat} {v1 : Int32} {v2 : Int32} {x : Int32} (h : fX8_inHouse M v0 v1 v2 = some x) : EvC mX8_inHouse E 2 0 0 [.ref v0, .int v1, .int v2] M (some (.int x)) M := by
  unfold fX8_inHouse at h
  replace h := (gsome h).2
  refine EvC.of [some (.ref v0), some (.int v1), some (.int v2), none, none] pnX8_inHouse rfl (Nat.le_of_ble_eq_true rfl) ?_
  refine Ev_iconst ic_0 dX8_inHouse_0 ?_
  refine Ev_istore_n (loc2 := [some (.ref v0), some (.int v1), some (.int v2), some (.int 0), none]) (Nat.le_of_ble_eq_true rfl) rfl rfl dX8_inHouse_1 ?_
  refine Ev_iconst ic_0 dX8_inHouse_2 ?_
  refine Ev_istore (loc2 := [some (.ref v0), some (.int v1), some (.int v2), some (.int 0), some (.int 0)]) (Nat.le_of_ble_eq_true rfl) rfl rfl dX8_inHouse_3 ?_
  exact rX8_inHouse_c5 FUEL v0 v1 v2 0 0 h
/-! TinselRiverModel.hurt(II)V -/
def fX8_hurt_c30 : Nat → mM → Nat → Int32 → Int32 → Int32 → Int32 → Option mM
  | 0, _, _, _, _, _, _ => none
  | n + 1, M, v0, v1, v2, v3, v4 =>
    (gI M v0 8 0).bind fun x1 =>
    if x1 ≤ v4 then
      (some M)
    else
      (if v4 = v2 then
        (fX8_hurt_c30 n M v0 v1 v2 v3 (v4 + 1))
      else
        ((fX8_has M v3 v4).bind fun x5 =>
        if x5 = 0 then
          (fX8_hurt_c30 n M v0 v1 v2 v3 (v4 + 1))
        else
          ((fX8_loseFirst M v0 v1 v4).bind fun M8 =>
          fX8_hurt_c30 n M8 v0 v1 v2 v3 (v4 + 1))))
set_option maxRecDepth 20000 in
set_option maxHeartbeats 4000000 in
theorem rX8_hurt_c30 {E : mE} {Mf : mM} : ∀ (n : Nat) (M : mM) (v0 : Nat) (v1 : Int32) (v2 : Int32) (v3 : Int32) (v4 : Int32), fX8_hurt_c30 n M v0 v1 v2 v3 v4 = some Mf → Ev mX8_hurt E 3 0 0 none Mf 30 [some (.ref v0), some (.int v1), some (.int v2), some (.int v3), some (.int v4)] [] M 0 0 := by
  intro n
  induction n with
  | zero => intro M v0 v1 v2 v3 v4 h; rw [fX8_hurt_c30.eq_1] at h; cases h
  | succ n ih =>
    intro M v0 v1 v2 v3 v4 h
    rw [fX8_hurt_c30.eq_2] at h
    refine Ev_iload (x := v4) rfl dX8_hurt_30 ?_
    refine Ev_aload_n (x := v0) rfl dX8_hurt_32 ?_
    obtain ⟨x1, g1, h⟩ := bsome h
    refine Ev_getI flX8_89 dX8_hurt_33 g1 ?_
    refine Ev_icmp_ge (tgt := 67) dX8_hurt_36 (by decide) (fun q2 => ?_) (fun q2 => ?_)
    · rw [if_pos q2] at h
      refine Ev_goto (tgt := 110) dX8_hurt_67 (by decide) ?_
      cases h
      exact Ev_vret rfl dX8_hurt_110 ⟨rfl, rfl⟩
    · rw [if_neg q2] at h
      refine Ev_iload (x := v4) rfl dX8_hurt_39 ?_
      refine Ev_iload_n (x := v2) rfl dX8_hurt_41 ?_
      refine Ev_icmp_eq (tgt := 61) dX8_hurt_42 (by decide) (fun q3 => ?_) (fun q3 => ?_)
      · rw [if_pos q3] at h
        refine Ev_iinc (x := v4) (v := (v4 + 1)) (loc2 := [some (.ref v0), some (.int v1), some (.int v2), some (.int v3), some (.int (v4 + 1))]) rfl (congrArg (v4 + ·) ic_1) (Nat.le_of_ble_eq_true rfl) rfl rfl dX8_hurt_61 ?_
        refine Ev_goto (tgt := 30) dX8_hurt_64 (by decide) ?_
        exact ih M v0 v1 v2 v3 (v4 + 1) h
      · rw [if_neg q3] at h
        refine Ev_iload_n (x := v3) rfl dX8_hurt_45 ?_
        refine Ev_iload (x := v4) rfl dX8_hurt_46 ?_
        obtain ⟨x5, g4, h⟩ := bsome h
        refine Ev_callSi (np := 2) (vs := [.int v3, .int v4]) (rest := []) mdX8_has lkX8_106 (rX8_has g4) rfl rfl (Nat.le_of_ble_eq_true rfl) (Nat.le_of_ble_eq_true rfl) dX8_hurt_48 ?_
        refine Ev_if_eq (tgt := 61) dX8_hurt_51 (by decide) (fun q6 => ?_) (fun q6 => ?_)
        · rw [if_pos q6] at h
          refine Ev_iinc (x := v4) (v := (v4 + 1)) (loc2 := [some (.ref v0), some (.int v1), some (.int v2), some (.int v3), some (.int (v4 + 1))]) rfl (congrArg (v4 + ·) ic_1) (Nat.le_of_ble_eq_true rfl) rfl rfl dX8_hurt_61 ?_
          refine Ev_goto (tgt := 30) dX8_hurt_64 (by decide) ?_
          exact ih M v0 v1 v2 v3 (v4 + 1) h
        · rw [if_neg q6] at h
          refine Ev_aload_n (x := v0) rfl dX8_hurt_54 ?_
          refine Ev_iload_n (x := v1) rfl dX8_hurt_55 ?_
          refine Ev_iload (x := v4) rfl dX8_hurt_56 ?_
          obtain ⟨M8, g7, h⟩ := bsome h
          refine Ev_callVv (np := 2) (vs := [.int v1, .int v4]) (rest := []) mdX8_loseFirst lkX8_109 ⟨_, rfl, rfl⟩ (oX8_loseFirst g7) (rX8_loseFirst g7) rfl rfl (Nat.le_of_ble_eq_true rfl) (Nat.le_of_ble_eq_true rfl) dX8_hurt_58 ?_
          refine Ev_iinc (x := v4) (v := (v4 + 1)) (loc2 := [some (.ref v0), some (.int v1), some (.int v2), some (.int v3), some (.int (v4 + 1))]) rfl (congrArg (v4 + ·) ic_1) (Nat.le_of_ble_eq_true rfl) rfl rfl dX8_hurt_61 ?_
          refine Ev_goto (tgt := 30) dX8_hurt_64 (by decide) ?_
          exact ih M8 v0 v1 v2 v3 (v4 + 1) h
def fX8_hurt (M : mM) (v0 : Nat) (v1 : Int32) (v2 : Int32) : Option mM :=
    if isO M v0 8 = true then
      (gR M v0 8 2).bind fun a1 =>
      (aI M false a1 ((57 * v1) + v2)).bind fun x2 =>
      (fX8_inHouse M v0 v1 x2).bind fun x4 =>
      (gR M v0 8 1).bind fun a5 =>
      (aI M false a5 v2).bind fun x6 =>
      if x6 = 3 then
        (fX8_hurt_c30 FUEL M v0 v1 v2 x4 0)
      else
        ((gR M v0 8 1).bind fun a8 =>
        (aI M false a8 v2).bind fun x9 =>
        if 1 < x9 then
          (some M)
        else
          ((fX8_ones M x4).bind fun x12 =>
          if x12 ≤ 2 then
            (some M)
          else
            ((fX8_loseLast M v0 v1 v2).bind fun M15 =>
            (gR M15 v0 8 1).bind fun a16 =>
            (aI M15 false a16 v2).bind fun x17 =>
            if x17 = 1 then
              ((fX8_loseFirst M15 v0 v1 v2).bind fun M20 =>
              some M20)
            else
              (some M15))))
    else none
theorem oX8_hurt {M : mM} {v0 : Nat} {v1 : Int32} {v2 : Int32} {y : mM} (h : fX8_hurt M v0 v1 v2 = some y) : isO M v0 8 = true := by
  unfold fX8_hurt at h
  exact (gsome h).1
set_option maxRecDepth 20000 in
set_option maxHeartbeats 4000000 in
theorem rX8_hurt {E : mE} {M : mM} {v0 : Nat} {v1 : Int32} {v2 : Int32} {Mf : mM} (h : fX8_hurt M v0 v1 v2 = some Mf) : EvC mX8_hurt E 3 0 0 [.ref v0, .int v1, .int v2] M none Mf := by
  unfold fX8_hurt at h
  replace h := (gsome h).2
  refine EvC.of [some (.ref v0), some (.int v1), some (.int v2), none, none] pnX8_hurt rfl (Nat.le_of_ble_eq_true rfl) ?_
  refine Ev_aload_n (x := v0) rfl dX8_hurt_0 ?_
  refine Ev_iload_n (x := v1) rfl dX8_hurt_1 ?_
  refine Ev_aload_n (x := v0) rfl dX8_hurt_2 ?_
  obtain ⟨a1, g1, h⟩ := bsome h
  refine Ev_getR flX8_13 dX8_hurt_3 g1 ?_
  refine Ev_bipush bp_57 dX8_hurt_6 ?_
  refine Ev_iload_n (x := v1) rfl dX8_hurt_8 ?_
  refine Ev_imul dX8_hurt_9 ?_
  refine Ev_iload_n (x := v2) rfl dX8_hurt_10 ?_
  refine Ev_iadd dX8_hurt_11 ?_
  obtain ⟨x2, g2, h⟩ := bsome h
  refine Ev_iald dX8_hurt_12 g2 ?_
  obtain ⟨x4, g3, h⟩ := bsome h
  refine Ev_callVi (np := 2) (vs := [.int v1, .int x2]) (rest := []) mdX8_inHouse lkX8_103 ⟨_, rfl, rfl⟩ (oX8_inHouse g3) (rX8_inHouse g3) rfl rfl (Nat.le_of_ble_eq_true rfl) (Nat.le_of_ble_eq_true rfl) dX8_hurt_13 ?_
  refine Ev_istore_n (loc2 := [some (.ref v0), some (.int v1), some (.int v2), some (.int x4), none]) (Nat.le_of_ble_eq_true rfl) rfl rfl dX8_hurt_16 ?_
  refine Ev_aload_n (x := v0) rfl dX8_hurt_17 ?_
  obtain ⟨a5, g5, h⟩ := bsome h
  refine Ev_getR flX8_7 dX8_hurt_18 g5 ?_
  refine Ev_iload_n (x := v2) rfl dX8_hurt_21 ?_
  obtain ⟨x6, g6, h⟩ := bsome h
  refine Ev_iald dX8_hurt_22 g6 ?_
  refine Ev_iconst ic_3 dX8_hurt_23 ?_
  refine Ev_icmp_ne (tgt := 70) dX8_hurt_24 (by decide) (fun q7 => ?_) (fun q7 => ?_)
  · rw [if_neg q7] at h
    refine Ev_aload_n (x := v0) rfl dX8_hurt_70 ?_
    obtain ⟨a8, g8, h⟩ := bsome h
    refine Ev_getR flX8_7 dX8_hurt_71 g8 ?_
    refine Ev_iload_n (x := v2) rfl dX8_hurt_74 ?_
    obtain ⟨x9, g9, h⟩ := bsome h
    refine Ev_iald dX8_hurt_75 g9 ?_
    refine Ev_iconst ic_1 dX8_hurt_76 ?_
    refine Ev_icmp_gt (tgt := 110) dX8_hurt_77 (by decide) (fun q10 => ?_) (fun q10 => ?_)
    · rw [if_pos q10] at h
      cases h
      exact Ev_vret rfl dX8_hurt_110 ⟨rfl, rfl⟩
    · rw [if_neg q10] at h
      refine Ev_iload_n (x := x4) rfl dX8_hurt_80 ?_
      obtain ⟨x12, g11, h⟩ := bsome h
      refine Ev_callSi (np := 1) (vs := [.int x4]) (rest := []) mdX8_ones lkX8_112 (rX8_ones g11) rfl rfl (Nat.le_of_ble_eq_true rfl) (Nat.le_of_ble_eq_true rfl) dX8_hurt_81 ?_
      refine Ev_iconst ic_2 dX8_hurt_84 ?_
      refine Ev_icmp_le (tgt := 110) dX8_hurt_85 (by decide) (fun q13 => ?_) (fun q13 => ?_)
      · rw [if_pos q13] at h
        cases h
        exact Ev_vret rfl dX8_hurt_110 ⟨rfl, rfl⟩
      · rw [if_neg q13] at h
        refine Ev_aload_n (x := v0) rfl dX8_hurt_88 ?_
        refine Ev_iload_n (x := v1) rfl dX8_hurt_89 ?_
        refine Ev_iload_n (x := v2) rfl dX8_hurt_90 ?_
        obtain ⟨M15, g14, h⟩ := bsome h
        refine Ev_callVv (np := 2) (vs := [.int v1, .int v2]) (rest := []) mdX8_loseLast lkX8_95 ⟨_, rfl, rfl⟩ (oX8_loseLast g14) (rX8_loseLast g14) rfl rfl (Nat.le_of_ble_eq_true rfl) (Nat.le_of_ble_eq_true rfl) dX8_hurt_91 ?_
        refine Ev_aload_n (x := v0) rfl dX8_hurt_94 ?_
        obtain ⟨a16, g16, h⟩ := bsome h
        refine Ev_getR flX8_7 dX8_hurt_95 g16 ?_
        refine Ev_iload_n (x := v2) rfl dX8_hurt_98 ?_
        obtain ⟨x17, g17, h⟩ := bsome h
        refine Ev_iald dX8_hurt_99 g17 ?_
        refine Ev_iconst ic_1 dX8_hurt_100 ?_
        refine Ev_icmp_ne (tgt := 110) dX8_hurt_101 (by decide) (fun q18 => ?_) (fun q18 => ?_)
        · rw [if_neg q18] at h
          cases h
          exact Ev_vret rfl dX8_hurt_110 ⟨rfl, rfl⟩
        · rw [if_pos q18] at h
          refine Ev_aload_n (x := v0) rfl dX8_hurt_104 ?_
          refine Ev_iload_n (x := v1) rfl dX8_hurt_105 ?_
          refine Ev_iload_n (x := v2) rfl dX8_hurt_106 ?_
          obtain ⟨M20, g19, h⟩ := bsome h
          refine Ev_callVv (np := 2) (vs := [.int v1, .int v2]) (rest := []) mdX8_loseFirst lkX8_109 ⟨_, rfl, rfl⟩ (oX8_loseFirst g19) (rX8_loseFirst g19) rfl rfl (Nat.le_of_ble_eq_true rfl) (Nat.le_of_ble_eq_true rfl) dX8_hurt_107 ?_
          cases h
          exact Ev_vret rfl dX8_hurt_110 ⟨rfl, rfl⟩
  · rw [if_pos q7] at h
    refine Ev_iconst ic_0 dX8_hurt_27 ?_
    refine Ev_istore (loc2 := [some (.ref v0), some (.int v1), some (.int v2), some (.int x4), some (.int 0)]) (Nat.le_of_ble_eq_true rfl) rfl rfl dX8_hurt_28 ?_
    exact rX8_hurt_c30 FUEL M v0 v1 v2 x4 0 h
/-! TinselRiverModel.whoIs(I)I -/
def fX8_whoIs_c4 (M : mM) : Nat → Nat → Int32 → Int32 → Int32 → Option Int32
  | 0, _, _, _, _ => none
  | n + 1, v0, v1, v2, v3 =>
    (gI M v0 8 0).bind fun x1 =>
    if x1 ≤ v3 then
      (some v2)
    else
      ((fX8_isThere M v0 v1 v3).bind fun x4 =>
      if x4 = 0 then
        (fX8_whoIs_c4 M n v0 v1 (v2 ||| 0) (v3 + 1))
      else
        (fX8_whoIs_c4 M n v0 v1 (v2 ||| (1 <<< (v3 &&& 31))) (v3 + 1)))
set_option maxRecDepth 20000 in
set_option maxHeartbeats 4000000 in
theorem rX8_whoIs_c4 {E : mE} {M : mM} {x : Int32} : ∀ (n : Nat) (v0 : Nat) (v1 : Int32) (v2 : Int32) (v3 : Int32), fX8_whoIs_c4 M n v0 v1 v2 v3 = some x → Ev mX8_whoIs E 2 0 0 (some (.int x)) M 4 [some (.ref v0), some (.int v1), some (.int v2), some (.int v3)] [] M 0 0 := by
  intro n
  induction n with
  | zero => intro v0 v1 v2 v3 h; rw [fX8_whoIs_c4.eq_1] at h; cases h
  | succ n ih =>
    intro v0 v1 v2 v3 h
    rw [fX8_whoIs_c4.eq_2] at h
    refine Ev_iload_n (x := v3) rfl dX8_whoIs_4 ?_
    refine Ev_aload_n (x := v0) rfl dX8_whoIs_5 ?_
    obtain ⟨x1, g1, h⟩ := bsome h
    refine Ev_getI flX8_89 dX8_whoIs_6 g1 ?_
    refine Ev_icmp_ge (tgt := 37) dX8_whoIs_9 (by decide) (fun q2 => ?_) (fun q2 => ?_)
    · rw [if_pos q2] at h
      refine Ev_iload_n (x := v2) rfl dX8_whoIs_37 ?_
      cases h
      exact Ev_iret rfl rfl dX8_whoIs_38 ⟨rfl, rfl⟩
    · rw [if_neg q2] at h
      refine Ev_iload_n (x := v2) rfl dX8_whoIs_12 ?_
      refine Ev_aload_n (x := v0) rfl dX8_whoIs_13 ?_
      refine Ev_iload_n (x := v1) rfl dX8_whoIs_14 ?_
      refine Ev_iload_n (x := v3) rfl dX8_whoIs_15 ?_
      obtain ⟨x4, g3, h⟩ := bsome h
      refine Ev_callVi (np := 2) (vs := [.int v1, .int v3]) (rest := [.int v2]) mdX8_isThere lkX8_99 ⟨_, rfl, rfl⟩ (oX8_isThere g3) (rX8_isThere g3) rfl rfl (Nat.le_of_ble_eq_true rfl) (Nat.le_of_ble_eq_true rfl) dX8_whoIs_16 ?_
      refine Ev_if_eq (tgt := 28) dX8_whoIs_19 (by decide) (fun q5 => ?_) (fun q5 => ?_)
      · rw [if_pos q5] at h
        refine Ev_iconst ic_0 dX8_whoIs_28 ?_
        refine Ev_ior dX8_whoIs_29 ?_
        refine Ev_istore_n (loc2 := [some (.ref v0), some (.int v1), some (.int (v2 ||| 0)), some (.int v3)]) (Nat.le_of_ble_eq_true rfl) rfl rfl dX8_whoIs_30 ?_
        refine Ev_iinc (x := v3) (v := (v3 + 1)) (loc2 := [some (.ref v0), some (.int v1), some (.int (v2 ||| 0)), some (.int (v3 + 1))]) rfl (congrArg (v3 + ·) ic_1) (Nat.le_of_ble_eq_true rfl) rfl rfl dX8_whoIs_31 ?_
        refine Ev_goto (tgt := 4) dX8_whoIs_34 (by decide) ?_
        exact ih v0 v1 (v2 ||| 0) (v3 + 1) h
      · rw [if_neg q5] at h
        refine Ev_iconst ic_1 dX8_whoIs_22 ?_
        refine Ev_iload_n (x := v3) rfl dX8_whoIs_23 ?_
        refine Ev_ishl dX8_whoIs_24 ?_
        refine Ev_goto (tgt := 29) dX8_whoIs_25 (by decide) ?_
        refine Ev_ior dX8_whoIs_29 ?_
        refine Ev_istore_n (loc2 := [some (.ref v0), some (.int v1), some (.int (v2 ||| (1 <<< (v3 &&& 31)))), some (.int v3)]) (Nat.le_of_ble_eq_true rfl) rfl rfl dX8_whoIs_30 ?_
        refine Ev_iinc (x := v3) (v := (v3 + 1)) (loc2 := [some (.ref v0), some (.int v1), some (.int (v2 ||| (1 <<< (v3 &&& 31)))), some (.int (v3 + 1))]) rfl (congrArg (v3 + ·) ic_1) (Nat.le_of_ble_eq_true rfl) rfl rfl dX8_whoIs_31 ?_
        refine Ev_goto (tgt := 4) dX8_whoIs_34 (by decide) ?_
        exact ih v0 v1 (v2 ||| (1 <<< (v3 &&& 31))) (v3 + 1) h
def fX8_whoIs (M : mM) (v0 : Nat) (v1 : Int32) : Option Int32 :=
    if isO M v0 8 = true then
      fX8_whoIs_c4 M FUEL v0 v1 0 0
    else none
theorem oX8_whoIs {M : mM} {v0 : Nat} {v1 : Int32} {y : Int32} (h : fX8_whoIs M v0 v1 = some y) : isO M v0 8 = true := by
  unfold fX8_whoIs at h
  exact (gsome h).1
set_option maxRecDepth 20000 in
set_option maxHeartbeats 4000000 in
theorem rX8_whoIs {E : mE} {M : mM} {v0 : Nat} {v1 : Int32} {x : Int32} (h : fX8_whoIs M v0 v1 = some x) : EvC mX8_whoIs E 2 0 0 [.ref v0, .int v1] M (some (.int x)) M := by
  unfold fX8_whoIs at h
  replace h := (gsome h).2
  refine EvC.of [some (.ref v0), some (.int v1), none, none] pnX8_whoIs rfl (Nat.le_of_ble_eq_true rfl) ?_
  refine Ev_iconst ic_0 dX8_whoIs_0 ?_
  refine Ev_istore_n (loc2 := [some (.ref v0), some (.int v1), some (.int 0), none]) (Nat.le_of_ble_eq_true rfl) rfl rfl dX8_whoIs_1 ?_
  refine Ev_iconst ic_0 dX8_whoIs_2 ?_
  refine Ev_istore_n (loc2 := [some (.ref v0), some (.int v1), some (.int 0), some (.int 0)]) (Nat.le_of_ble_eq_true rfl) rfl rfl dX8_whoIs_3 ?_
  exact rX8_whoIs_c4 FUEL v0 v1 0 0 h
/-! TinselRiverModel.passOn(I)I -/
def fX8_passOn_c8 : Nat → mM → Nat → Int32 → Int32 → Int32 → Option (Int32 × mM)
  | 0, _, _, _, _, _ => none
  | n + 1, M, v0, v1, v2, v3 =>
    (gI M v0 8 0).bind fun x1 =>
    if x1 ≤ v3 then
      ((gR M v0 8 2).bind fun a3 =>
      (aI M false a3 ((57 * v1) + 56)).bind fun x4 =>
      (aS M false a3 ((57 * v1) + 56) (x4 + 1)).bind fun M5 =>
      (fX8_whoIs M5 v0 v1).bind fun x7 =>
      (fX8_ones M5 (v2 &&& (x7 ^^^ (-1)))).bind fun x9 =>
      some (x9, M5))
    else
      ((fX8_isThere M v0 v1 v3).bind fun x11 =>
      if x11 = 0 then
        (fX8_passOn_c8 n M v0 v1 v2 (v3 + 1))
      else
        ((fX8_hurt M v0 v1 v3).bind fun M14 =>
        fX8_passOn_c8 n M14 v0 v1 v2 (v3 + 1)))
set_option maxRecDepth 20000 in
set_option maxHeartbeats 4000000 in
theorem rX8_passOn_c8 {E : mE} {x : Int32} {Mf : mM} : ∀ (n : Nat) (M : mM) (v0 : Nat) (v1 : Int32) (v2 : Int32) (v3 : Int32), fX8_passOn_c8 n M v0 v1 v2 v3 = some (x, Mf) → Ev mX8_passOn E 4 0 0 (some (.int x)) Mf 8 [some (.ref v0), some (.int v1), some (.int v2), some (.int v3)] [] M 0 0 := by
  intro n
  induction n with
  | zero => intro M v0 v1 v2 v3 h; rw [fX8_passOn_c8.eq_1] at h; cases h
  | succ n ih =>
    intro M v0 v1 v2 v3 h
    rw [fX8_passOn_c8.eq_2] at h
    refine Ev_iload_n (x := v3) rfl dX8_passOn_8 ?_
    refine Ev_aload_n (x := v0) rfl dX8_passOn_9 ?_
    obtain ⟨x1, g1, h⟩ := bsome h
    refine Ev_getI flX8_89 dX8_passOn_10 g1 ?_
    refine Ev_icmp_ge (tgt := 37) dX8_passOn_13 (by decide) (fun q2 => ?_) (fun q2 => ?_)
    · rw [if_pos q2] at h
      refine Ev_aload_n (x := v0) rfl dX8_passOn_37 ?_
      obtain ⟨a3, g3, h⟩ := bsome h
      refine Ev_getR flX8_13 dX8_passOn_38 g3 ?_
      refine Ev_bipush bp_57 dX8_passOn_41 ?_
      refine Ev_iload_n (x := v1) rfl dX8_passOn_43 ?_
      refine Ev_imul dX8_passOn_44 ?_
      refine Ev_bipush bp_56 dX8_passOn_45 ?_
      refine Ev_iadd dX8_passOn_47 ?_
      refine Ev_dup2 rfl rfl dX8_passOn_48 ?_
      obtain ⟨x4, g4, h⟩ := bsome h
      refine Ev_iald dX8_passOn_49 g4 ?_
      refine Ev_iconst ic_1 dX8_passOn_50 ?_
      refine Ev_iadd dX8_passOn_51 ?_
      obtain ⟨M5, g5, h⟩ := bsome h
      refine Ev_iast dX8_passOn_52 g5 ?_
      refine Ev_iload_n (x := v2) rfl dX8_passOn_53 ?_
      refine Ev_aload_n (x := v0) rfl dX8_passOn_54 ?_
      refine Ev_iload_n (x := v1) rfl dX8_passOn_55 ?_
      obtain ⟨x7, g6, h⟩ := bsome h
      refine Ev_callVi (np := 1) (vs := [.int v1]) (rest := [.int v2]) mdX8_whoIs lkX8_116 ⟨_, rfl, rfl⟩ (oX8_whoIs g6) (rX8_whoIs g6) rfl rfl (Nat.le_of_ble_eq_true rfl) (Nat.le_of_ble_eq_true rfl) dX8_passOn_56 ?_
      refine Ev_iconst ic_m1 dX8_passOn_59 ?_
      refine Ev_ixor dX8_passOn_60 ?_
      refine Ev_iand dX8_passOn_61 ?_
      obtain ⟨x9, g8, h⟩ := bsome h
      refine Ev_callSi (np := 1) (vs := [.int (v2 &&& (x7 ^^^ (-1)))]) (rest := []) mdX8_ones lkX8_112 (rX8_ones g8) rfl rfl (Nat.le_of_ble_eq_true rfl) (Nat.le_of_ble_eq_true rfl) dX8_passOn_62 ?_
      cases h
      exact Ev_iret rfl rfl dX8_passOn_65 ⟨rfl, rfl⟩
    · rw [if_neg q2] at h
      refine Ev_aload_n (x := v0) rfl dX8_passOn_16 ?_
      refine Ev_iload_n (x := v1) rfl dX8_passOn_17 ?_
      refine Ev_iload_n (x := v3) rfl dX8_passOn_18 ?_
      obtain ⟨x11, g10, h⟩ := bsome h
      refine Ev_callVi (np := 2) (vs := [.int v1, .int v3]) (rest := []) mdX8_isThere lkX8_99 ⟨_, rfl, rfl⟩ (oX8_isThere g10) (rX8_isThere g10) rfl rfl (Nat.le_of_ble_eq_true rfl) (Nat.le_of_ble_eq_true rfl) dX8_passOn_19 ?_
      refine Ev_if_eq (tgt := 31) dX8_passOn_22 (by decide) (fun q12 => ?_) (fun q12 => ?_)
      · rw [if_pos q12] at h
        refine Ev_iinc (x := v3) (v := (v3 + 1)) (loc2 := [some (.ref v0), some (.int v1), some (.int v2), some (.int (v3 + 1))]) rfl (congrArg (v3 + ·) ic_1) (Nat.le_of_ble_eq_true rfl) rfl rfl dX8_passOn_31 ?_
        refine Ev_goto (tgt := 8) dX8_passOn_34 (by decide) ?_
        exact ih M v0 v1 v2 (v3 + 1) h
      · rw [if_neg q12] at h
        refine Ev_aload_n (x := v0) rfl dX8_passOn_25 ?_
        refine Ev_iload_n (x := v1) rfl dX8_passOn_26 ?_
        refine Ev_iload_n (x := v3) rfl dX8_passOn_27 ?_
        obtain ⟨M14, g13, h⟩ := bsome h
        refine Ev_callVv (np := 2) (vs := [.int v1, .int v3]) (rest := []) mdX8_hurt lkX8_119 ⟨_, rfl, rfl⟩ (oX8_hurt g13) (rX8_hurt g13) rfl rfl (Nat.le_of_ble_eq_true rfl) (Nat.le_of_ble_eq_true rfl) dX8_passOn_28 ?_
        refine Ev_iinc (x := v3) (v := (v3 + 1)) (loc2 := [some (.ref v0), some (.int v1), some (.int v2), some (.int (v3 + 1))]) rfl (congrArg (v3 + ·) ic_1) (Nat.le_of_ble_eq_true rfl) rfl rfl dX8_passOn_31 ?_
        refine Ev_goto (tgt := 8) dX8_passOn_34 (by decide) ?_
        exact ih M14 v0 v1 v2 (v3 + 1) h
def fX8_passOn (M : mM) (v0 : Nat) (v1 : Int32) : Option (Int32 × mM) :=
    if isO M v0 8 = true then
      (fX8_whoIs M v0 v1).bind fun x2 =>
      fX8_passOn_c8 FUEL M v0 v1 x2 0
    else none
theorem oX8_passOn {M : mM} {v0 : Nat} {v1 : Int32} {y : (Int32 × mM)} (h : fX8_passOn M v0 v1 = some y) : isO M v0 8 = true := by
  unfold fX8_passOn at h
  exact (gsome h).1
set_option maxRecDepth 20000 in
set_option maxHeartbeats 4000000 in
theorem rX8_passOn {E : mE} {M : mM} {v0 : Nat} {v1 : Int32} {x : Int32} {Mf : mM} (h : fX8_passOn M v0 v1 = some (x, Mf)) : EvC mX8_passOn E 4 0 0 [.ref v0, .int v1] M (some (.int x)) Mf := by
  unfold fX8_passOn at h
  replace h := (gsome h).2
  refine EvC.of [some (.ref v0), some (.int v1), none, none] pnX8_passOn rfl (Nat.le_of_ble_eq_true rfl) ?_
  refine Ev_aload_n (x := v0) rfl dX8_passOn_0 ?_
  refine Ev_iload_n (x := v1) rfl dX8_passOn_1 ?_
  obtain ⟨x2, g1, h⟩ := bsome h
  refine Ev_callVi (np := 1) (vs := [.int v1]) (rest := []) mdX8_whoIs lkX8_116 ⟨_, rfl, rfl⟩ (oX8_whoIs g1) (rX8_whoIs g1) rfl rfl (Nat.le_of_ble_eq_true rfl) (Nat.le_of_ble_eq_true rfl) dX8_passOn_2 ?_
  refine Ev_istore_n (loc2 := [some (.ref v0), some (.int v1), some (.int x2), none]) (Nat.le_of_ble_eq_true rfl) rfl rfl dX8_passOn_5 ?_
  refine Ev_iconst ic_0 dX8_passOn_6 ?_
  refine Ev_istore_n (loc2 := [some (.ref v0), some (.int v1), some (.int x2), some (.int 0)]) (Nat.le_of_ble_eq_true rfl) rfl rfl dX8_passOn_7 ?_
  exact rX8_passOn_c8 FUEL M v0 v1 x2 0 h
/-! TinselRiverModel.turnOn(II)V -/
def fX8_turnOn_c31 : Nat → mM → Nat → Int32 → Int32 → Int32 → Option mM
  | 0, _, _, _, _, _ => none
  | n + 1, M, v0, v3, v4, v5 =>
    if (v4 / 2) ≤ v5 then
      (some M)
    else
      ((gR M v0 8 2).bind fun a2 =>
      (aI M false a2 (v3 + v5)).bind fun x3 =>
      (gR M v0 8 2).bind fun a4 =>
      (gR M v0 8 2).bind fun a5 =>
      (aI M false a5 (((v3 + v4) - 1) - v5)).bind fun x6 =>
      (aS M false a4 (v3 + v5) x6).bind fun M7 =>
      (gR M7 v0 8 2).bind fun a8 =>
      (aS M7 false a8 (((v3 + v4) - 1) - v5) x3).bind fun M9 =>
      fX8_turnOn_c31 n M9 v0 v3 v4 (v5 + 1))
set_option maxRecDepth 20000 in
set_option maxHeartbeats 4000000 in
theorem rX8_turnOn_c31 {E : mE} {Mf : mM} : ∀ (n : Nat) (M : mM) (v0 : Nat) (v3 : Int32) (v4 : Int32) (v5 : Int32), fX8_turnOn_c31 n M v0 v3 v4 v5 = some Mf → Ev mX8_turnOn E 0 0 0 none Mf 31 [some (.ref v0), none, none, some (.int v3), some (.int v4), some (.int v5), none] [] M 0 0 := by
  intro n
  induction n with
  | zero => intro M v0 v3 v4 v5 h; rw [fX8_turnOn_c31.eq_1] at h; cases h
  | succ n ih =>
    intro M v0 v3 v4 v5 h
    rw [fX8_turnOn_c31.eq_2] at h
    refine Ev_iload (x := v5) rfl dX8_turnOn_31 ?_
    refine Ev_iload (x := v4) rfl dX8_turnOn_33 ?_
    refine Ev_iconst ic_2 dX8_turnOn_35 ?_
    refine Ev_idiv (by decide) dX8_turnOn_36 ?_
    refine Ev_icmp_ge (tgt := 96) dX8_turnOn_37 (by decide) (fun q1 => ?_) (fun q1 => ?_)
    · rw [if_pos q1] at h
      cases h
      exact Ev_vret rfl dX8_turnOn_96 ⟨rfl, rfl⟩
    · rw [if_neg q1] at h
      refine Ev_aload_n (x := v0) rfl dX8_turnOn_40 ?_
      obtain ⟨a2, g2, h⟩ := bsome h
      refine Ev_getR flX8_13 dX8_turnOn_41 g2 ?_
      refine Ev_iload_n (x := v3) rfl dX8_turnOn_44 ?_
      refine Ev_iload (x := v5) rfl dX8_turnOn_45 ?_
      refine Ev_iadd dX8_turnOn_47 ?_
      obtain ⟨x3, g3, h⟩ := bsome h
      refine Ev_iald dX8_turnOn_48 g3 ?_
      refine Ev_istore (loc2 := [some (.ref v0), none, none, some (.int v3), some (.int v4), some (.int v5), some (.int x3)]) (Nat.le_of_ble_eq_true rfl) rfl rfl dX8_turnOn_49 ?_
      refine Ev_aload_n (x := v0) rfl dX8_turnOn_51 ?_
      obtain ⟨a4, g4, h⟩ := bsome h
      refine Ev_getR flX8_13 dX8_turnOn_52 g4 ?_
      refine Ev_iload_n (x := v3) rfl dX8_turnOn_55 ?_
      refine Ev_iload (x := v5) rfl dX8_turnOn_56 ?_
      refine Ev_iadd dX8_turnOn_58 ?_
      refine Ev_aload_n (x := v0) rfl dX8_turnOn_59 ?_
      obtain ⟨a5, g5, h⟩ := bsome h
      refine Ev_getR flX8_13 dX8_turnOn_60 g5 ?_
      refine Ev_iload_n (x := v3) rfl dX8_turnOn_63 ?_
      refine Ev_iload (x := v4) rfl dX8_turnOn_64 ?_
      refine Ev_iadd dX8_turnOn_66 ?_
      refine Ev_iconst ic_1 dX8_turnOn_67 ?_
      refine Ev_isub dX8_turnOn_68 ?_
      refine Ev_iload (x := v5) rfl dX8_turnOn_69 ?_
      refine Ev_isub dX8_turnOn_71 ?_
      obtain ⟨x6, g6, h⟩ := bsome h
      refine Ev_iald dX8_turnOn_72 g6 ?_
      obtain ⟨M7, g7, h⟩ := bsome h
      refine Ev_iast dX8_turnOn_73 g7 ?_
      refine Ev_aload_n (x := v0) rfl dX8_turnOn_74 ?_
      obtain ⟨a8, g8, h⟩ := bsome h
      refine Ev_getR flX8_13 dX8_turnOn_75 g8 ?_
      refine Ev_iload_n (x := v3) rfl dX8_turnOn_78 ?_
      refine Ev_iload (x := v4) rfl dX8_turnOn_79 ?_
      refine Ev_iadd dX8_turnOn_81 ?_
      refine Ev_iconst ic_1 dX8_turnOn_82 ?_
      refine Ev_isub dX8_turnOn_83 ?_
      refine Ev_iload (x := v5) rfl dX8_turnOn_84 ?_
      refine Ev_isub dX8_turnOn_86 ?_
      refine Ev_iload (x := x3) rfl dX8_turnOn_87 ?_
      obtain ⟨M9, g9, h⟩ := bsome h
      refine Ev_iast dX8_turnOn_89 g9 ?_
      refine Ev_iinc (x := v5) (v := (v5 + 1)) (loc2 := [some (.ref v0), none, none, some (.int v3), some (.int v4), some (.int (v5 + 1)), some (.int x3)]) rfl (congrArg (v5 + ·) ic_1) (Nat.le_of_ble_eq_true rfl) rfl rfl dX8_turnOn_90 ?_
      refine Ev_goto (tgt := 31) dX8_turnOn_93 (by decide) ?_
      refine Ev_drop 6 (loc2 := [some (.ref v0), none, none, some (.int v3), some (.int v4), some (.int (v5 + 1)), none]) rfl ?_
      exact ih M9 v0 v3 v4 (v5 + 1) h
def fX8_turnOn (M : mM) (v0 : Nat) (v1 : Int32) (v2 : Int32) : Option mM :=
    if isO M v0 8 = true then
      (gR M v0 8 2).bind fun a1 =>
      (aI M false a1 (((57 * v1) + 4) + v2)).bind fun x2 =>
      fX8_turnOn_c31 FUEL M v0 (((57 * v1) + 8) + (12 * v2)) x2 0
    else none
theorem oX8_turnOn {M : mM} {v0 : Nat} {v1 : Int32} {v2 : Int32} {y : mM} (h : fX8_turnOn M v0 v1 v2 = some y) : isO M v0 8 = true := by
  unfold fX8_turnOn at h
  exact (gsome h).1
set_option maxRecDepth 20000 in
set_option maxHeartbeats 4000000 in
theorem rX8_turnOn {E : mE} {M : mM} {v0 : Nat} {v1 : Int32} {v2 : Int32} {Mf : mM} (h : fX8_turnOn M v0 v1 v2 = some Mf) : EvC mX8_turnOn E 0 0 0 [.ref v0, .int v1, .int v2] M none Mf := by
  unfold fX8_turnOn at h
  replace h := (gsome h).2
  refine EvC.of [some (.ref v0), some (.int v1), some (.int v2), none, none, none, none] pnX8_turnOn rfl (Nat.le_of_ble_eq_true rfl) ?_
  refine Ev_bipush bp_57 dX8_turnOn_0 ?_
  refine Ev_iload_n (x := v1) rfl dX8_turnOn_2 ?_
  refine Ev_imul dX8_turnOn_3 ?_
  refine Ev_bipush bp_8 dX8_turnOn_4 ?_
  refine Ev_iadd dX8_turnOn_6 ?_
  refine Ev_bipush bp_12 dX8_turnOn_7 ?_
  refine Ev_iload_n (x := v2) rfl dX8_turnOn_9 ?_
  refine Ev_imul dX8_turnOn_10 ?_
  refine Ev_iadd dX8_turnOn_11 ?_
  refine Ev_istore_n (loc2 := [some (.ref v0), some (.int v1), some (.int v2), some (.int (((57 * v1) + 8) + (12 * v2))), none, none, none]) (Nat.le_of_ble_eq_true rfl) rfl rfl dX8_turnOn_12 ?_
  refine Ev_aload_n (x := v0) rfl dX8_turnOn_13 ?_
  obtain ⟨a1, g1, h⟩ := bsome h
  refine Ev_getR flX8_13 dX8_turnOn_14 g1 ?_
  refine Ev_bipush bp_57 dX8_turnOn_17 ?_
  refine Ev_iload_n (x := v1) rfl dX8_turnOn_19 ?_
  refine Ev_imul dX8_turnOn_20 ?_
  refine Ev_iconst ic_4 dX8_turnOn_21 ?_
  refine Ev_iadd dX8_turnOn_22 ?_
  refine Ev_iload_n (x := v2) rfl dX8_turnOn_23 ?_
  refine Ev_iadd dX8_turnOn_24 ?_
  obtain ⟨x2, g2, h⟩ := bsome h
  refine Ev_iald dX8_turnOn_25 g2 ?_
  refine Ev_istore (loc2 := [some (.ref v0), some (.int v1), some (.int v2), some (.int (((57 * v1) + 8) + (12 * v2))), some (.int x2), none, none]) (Nat.le_of_ble_eq_true rfl) rfl rfl dX8_turnOn_26 ?_
  refine Ev_iconst ic_0 dX8_turnOn_28 ?_
  refine Ev_istore (loc2 := [some (.ref v0), some (.int v1), some (.int v2), some (.int (((57 * v1) + 8) + (12 * v2))), some (.int x2), some (.int 0), none]) (Nat.le_of_ble_eq_true rfl) rfl rfl dX8_turnOn_29 ?_
  refine Ev_drop 1 (loc2 := [some (.ref v0), none, some (.int v2), some (.int (((57 * v1) + 8) + (12 * v2))), some (.int x2), some (.int 0), none]) rfl ?_
  refine Ev_drop 2 (loc2 := [some (.ref v0), none, none, some (.int (((57 * v1) + 8) + (12 * v2))), some (.int x2), some (.int 0), none]) rfl ?_
  exact rX8_turnOn_c31 FUEL M v0 (((57 * v1) + 8) + (12 * v2)) x2 0 h
