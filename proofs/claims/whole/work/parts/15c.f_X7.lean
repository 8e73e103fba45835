/-! printed by wip/whole/gen.py -/
/-! TinselRiver.river(I)I -/
def fX7_river_c31 : Nat → mM → Nat → Int32 → Int32 → Int32 → Int32 → Int32 → Option (Int32 × mM)
  | 0, _, _, _, _, _, _, _ => none
  | n + 1, M, v0, v1, v2, v3, v4, v5 =>
    if (1 <<< ((2 * v2) &&& 31)) ≤ v5 then
      (if v1 = 0 then
        (some (v3, M))
      else
        (some (v4, M)))
    else
      ((fX7_isOrder M v0 v5 v2).bind fun x4 =>
      if x4 = 0 then
        (fX7_river_c31 n M v0 v1 v2 v3 v4 (v5 + 1))
      else
        ((fX7_flow M v0 v5 v2).bind fun p7 =>
        if v3 < 0 then
          ((gR p7.2 v0 7 7).bind fun a9 =>
          (gI p7.2 a9 2 1).bind fun x10 =>
          fX7_river_c31 n p7.2 v0 v1 v2 x10 p7.1 (v5 + 1))
        else
          ((gR p7.2 v0 7 7).bind fun a11 =>
          (gI p7.2 a11 2 1).bind fun x12 =>
          if v3 ≤ x12 then
            (fX7_river_c31 n p7.2 v0 v1 v2 v3 v4 (v5 + 1))
          else
            ((gR p7.2 v0 7 7).bind fun a14 =>
            (gI p7.2 a14 2 1).bind fun x15 =>
            fX7_river_c31 n p7.2 v0 v1 v2 x15 p7.1 (v5 + 1)))))
set_option maxRecDepth 20000 in
set_option maxHeartbeats 4000000 in
theorem rX7_river_c31 {E : mE} {x : Int32} {Mf : mM} : ∀ (n : Nat) (M : mM) (v0 : Nat) (v1 : Int32) (v2 : Int32) (v3 : Int32) (v4 : Int32) (v5 : Int32), fX7_river_c31 n M v0 v1 v2 v3 v4 v5 = some (x, Mf) → Ev mX7_river E 4 0 0 (some (.int x)) Mf 31 [some (.ref v0), some (.int v1), some (.int v2), some (.int v3), some (.int v4), some (.int v5), none] [] M 0 0 := by
  intro n
  induction n with
  | zero => intro M v0 v1 v2 v3 v4 v5 h; rw [fX7_river_c31.eq_1] at h; cases h
  | succ n ih =>
    intro M v0 v1 v2 v3 v4 v5 h
    rw [fX7_river_c31.eq_2] at h
    refine Ev_iload (x := v5) rfl dX7_river_31 ?_
    refine Ev_iconst ic_1 dX7_river_33 ?_
    refine Ev_iconst ic_2 dX7_river_34 ?_
    refine Ev_iload_n (x := v2) rfl dX7_river_35 ?_
    refine Ev_imul dX7_river_36 ?_
    refine Ev_ishl dX7_river_37 ?_
    refine Ev_icmp_ge (tgt := 96) dX7_river_38 (by decide) (fun q1 => ?_) (fun q1 => ?_)
    · rw [if_pos q1] at h
      refine Ev_iload_n (x := v1) rfl dX7_river_96 ?_
      refine Ev_if_ne (tgt := 104) dX7_river_97 (by decide) (fun q2 => ?_) (fun q2 => ?_)
      · rw [if_neg q2] at h
        refine Ev_iload (x := v4) rfl dX7_river_104 ?_
        cases h
        exact Ev_iret rfl rfl dX7_river_106 ⟨rfl, rfl⟩
      · rw [if_pos q2] at h
        refine Ev_iload_n (x := v3) rfl dX7_river_100 ?_
        refine Ev_goto (tgt := 106) dX7_river_101 (by decide) ?_
        cases h
        exact Ev_iret rfl rfl dX7_river_106 ⟨rfl, rfl⟩
    · rw [if_neg q1] at h
      refine Ev_aload_n (x := v0) rfl dX7_river_41 ?_
      refine Ev_iload (x := v5) rfl dX7_river_42 ?_
      refine Ev_iload_n (x := v2) rfl dX7_river_44 ?_
      obtain ⟨x4, g3, h⟩ := bsome h
      refine Ev_callVi (np := 2) (vs := [.int v5, .int v2]) (rest := []) mdX7_isOrder lkX7_182 ⟨_, rfl, rfl⟩ (oX7_isOrder g3) (rX7_isOrder g3) rfl rfl (Nat.le_of_ble_eq_true rfl) (Nat.le_of_ble_eq_true rfl) dX7_river_45 ?_
      refine Ev_if_ne (tgt := 54) dX7_river_48 (by decide) (fun q5 => ?_) (fun q5 => ?_)
      · rw [if_neg q5] at h
        refine Ev_aload_n (x := v0) rfl dX7_river_54 ?_
        refine Ev_iload (x := v5) rfl dX7_river_55 ?_
        refine Ev_iload_n (x := v2) rfl dX7_river_57 ?_
        obtain ⟨p7, g6, h⟩ := bsome h
        refine Ev_callVi (np := 2) (vs := [.int v5, .int v2]) (rest := []) mdX7_flow lkX7_186 ⟨_, rfl, rfl⟩ (oX7_flow g6) (rX7_flow g6) rfl rfl (Nat.le_of_ble_eq_true rfl) (Nat.le_of_ble_eq_true rfl) dX7_river_58 ?_
        refine Ev_istore (loc2 := [some (.ref v0), some (.int v1), some (.int v2), some (.int v3), some (.int v4), some (.int v5), some (.int p7.1)]) (Nat.le_of_ble_eq_true rfl) rfl rfl dX7_river_61 ?_
        refine Ev_iload_n (x := v3) rfl dX7_river_63 ?_
        refine Ev_if_lt (tgt := 78) dX7_river_64 (by decide) (fun q8 => ?_) (fun q8 => ?_)
        · rw [if_pos q8] at h
          refine Ev_aload_n (x := v0) rfl dX7_river_78 ?_
          obtain ⟨a9, g9, h⟩ := bsome h
          refine Ev_getR flX7_56 dX7_river_79 g9 ?_
          obtain ⟨x10, g10, h⟩ := bsome h
          refine Ev_getI flX7_102 dX7_river_82 g10 ?_
          refine Ev_istore_n (loc2 := [some (.ref v0), some (.int v1), some (.int v2), some (.int x10), some (.int v4), some (.int v5), some (.int p7.1)]) (Nat.le_of_ble_eq_true rfl) rfl rfl dX7_river_85 ?_
          refine Ev_iload (x := p7.1) rfl dX7_river_86 ?_
          refine Ev_istore (loc2 := [some (.ref v0), some (.int v1), some (.int v2), some (.int x10), some (.int p7.1), some (.int v5), some (.int p7.1)]) (Nat.le_of_ble_eq_true rfl) rfl rfl dX7_river_88 ?_
          refine Ev_iinc (x := v5) (v := (v5 + 1)) (loc2 := [some (.ref v0), some (.int v1), some (.int v2), some (.int x10), some (.int p7.1), some (.int (v5 + 1)), some (.int p7.1)]) rfl (congrArg (v5 + ·) ic_1) (Nat.le_of_ble_eq_true rfl) rfl rfl dX7_river_90 ?_
          refine Ev_goto (tgt := 31) dX7_river_93 (by decide) ?_
          refine Ev_drop 6 (loc2 := [some (.ref v0), some (.int v1), some (.int v2), some (.int x10), some (.int p7.1), some (.int (v5 + 1)), none]) rfl ?_
          exact ih p7.2 v0 v1 v2 x10 p7.1 (v5 + 1) h
        · rw [if_neg q8] at h
          refine Ev_aload_n (x := v0) rfl dX7_river_67 ?_
          obtain ⟨a11, g11, h⟩ := bsome h
          refine Ev_getR flX7_56 dX7_river_68 g11 ?_
          obtain ⟨x12, g12, h⟩ := bsome h
          refine Ev_getI flX7_102 dX7_river_71 g12 ?_
          refine Ev_iload_n (x := v3) rfl dX7_river_74 ?_
          refine Ev_icmp_ge (tgt := 90) dX7_river_75 (by decide) (fun q13 => ?_) (fun q13 => ?_)
          · rw [if_pos q13] at h
            refine Ev_iinc (x := v5) (v := (v5 + 1)) (loc2 := [some (.ref v0), some (.int v1), some (.int v2), some (.int v3), some (.int v4), some (.int (v5 + 1)), some (.int p7.1)]) rfl (congrArg (v5 + ·) ic_1) (Nat.le_of_ble_eq_true rfl) rfl rfl dX7_river_90 ?_
            refine Ev_goto (tgt := 31) dX7_river_93 (by decide) ?_
            refine Ev_drop 6 (loc2 := [some (.ref v0), some (.int v1), some (.int v2), some (.int v3), some (.int v4), some (.int (v5 + 1)), none]) rfl ?_
            exact ih p7.2 v0 v1 v2 v3 v4 (v5 + 1) h
          · rw [if_neg q13] at h
            refine Ev_aload_n (x := v0) rfl dX7_river_78 ?_
            obtain ⟨a14, g14, h⟩ := bsome h
            refine Ev_getR flX7_56 dX7_river_79 g14 ?_
            obtain ⟨x15, g15, h⟩ := bsome h
            refine Ev_getI flX7_102 dX7_river_82 g15 ?_
            refine Ev_istore_n (loc2 := [some (.ref v0), some (.int v1), some (.int v2), some (.int x15), some (.int v4), some (.int v5), some (.int p7.1)]) (Nat.le_of_ble_eq_true rfl) rfl rfl dX7_river_85 ?_
            refine Ev_iload (x := p7.1) rfl dX7_river_86 ?_
            refine Ev_istore (loc2 := [some (.ref v0), some (.int v1), some (.int v2), some (.int x15), some (.int p7.1), some (.int v5), some (.int p7.1)]) (Nat.le_of_ble_eq_true rfl) rfl rfl dX7_river_88 ?_
            refine Ev_iinc (x := v5) (v := (v5 + 1)) (loc2 := [some (.ref v0), some (.int v1), some (.int v2), some (.int x15), some (.int p7.1), some (.int (v5 + 1)), some (.int p7.1)]) rfl (congrArg (v5 + ·) ic_1) (Nat.le_of_ble_eq_true rfl) rfl rfl dX7_river_90 ?_
            refine Ev_goto (tgt := 31) dX7_river_93 (by decide) ?_
            refine Ev_drop 6 (loc2 := [some (.ref v0), some (.int v1), some (.int v2), some (.int x15), some (.int p7.1), some (.int (v5 + 1)), none]) rfl ?_
            exact ih p7.2 v0 v1 v2 x15 p7.1 (v5 + 1) h
      · rw [if_pos q5] at h
        refine Ev_goto (tgt := 90) dX7_river_51 (by decide) ?_
        refine Ev_iinc (x := v5) (v := (v5 + 1)) (loc2 := [some (.ref v0), some (.int v1), some (.int v2), some (.int v3), some (.int v4), some (.int (v5 + 1)), none]) rfl (congrArg (v5 + ·) ic_1) (Nat.le_of_ble_eq_true rfl) rfl rfl dX7_river_90 ?_
        refine Ev_goto (tgt := 31) dX7_river_93 (by decide) ?_
        exact ih M v0 v1 v2 v3 v4 (v5 + 1) h
def fX7_river (M : mM) (v0 : Nat) (v1 : Int32) : Option (Int32 × mM) :=
    if isO M v0 7 = true then
      if v1 = 0 then
        ((gR M v0 7 1).bind fun a2 =>
        (fX6_whoIsThere M a2).bind fun x4 =>
        (fJ6_bitCount_0f7a4 M x4).bind fun x6 =>
        fX7_river_c31 FUEL M v0 v1 x6 (-1) 0 0)
      else
        (if v1 = 1 then
          ((gR M v0 7 1).bind fun a8 =>
          (fX6_whoIsThere M a8).bind fun x10 =>
          (fJ6_bitCount_0f7a4 M x10).bind fun x12 =>
          fX7_river_c31 FUEL M v0 v1 x12 (-1) 0 0)
        else
          (some ((-2), M)))
    else none
theorem oX7_river {M : mM} {v0 : Nat} {v1 : Int32} {y : (Int32 × mM)} (h : fX7_river M v0 v1 = some y) : isO M v0 7 = true := by
  unfold fX7_river at h
  exact (gsome h).1
set_option maxRecDepth 20000 in
set_option maxHeartbeats 4000000 in
theorem rX7_river {E : mE} {M : mM} {v0 : Nat} {v1 : Int32} {x : Int32} {Mf : mM} (h : fX7_river M v0 v1 = some (x, Mf)) : EvC mX7_river E 4 0 0 [.ref v0, .int v1] M (some (.int x)) Mf := by
  unfold fX7_river at h
  replace h := (gsome h).2
  refine EvC.of [some (.ref v0), some (.int v1), none, none, none, none, none] pnX7_river rfl (Nat.le_of_ble_eq_true rfl) ?_
  refine Ev_iload_n (x := v1) rfl dX7_river_0 ?_
  refine Ev_if_eq (tgt := 12) dX7_river_1 (by decide) (fun q1 => ?_) (fun q1 => ?_)
  · rw [if_pos q1] at h
    refine Ev_aload_n (x := v0) rfl dX7_river_12 ?_
    obtain ⟨a2, g2, h⟩ := bsome h
    refine Ev_getR flX7_19 dX7_river_13 g2 ?_
    obtain ⟨x4, g3, h⟩ := bsome h
    refine Ev_callVi (np := 0) (vs := []) (rest := []) mdX6_whoIsThere lkX7_174 ⟨_, rfl, rfl⟩ (oX6_whoIsThere g3) (rX6_whoIsThere g3) rfl rfl (Nat.le_of_ble_eq_true rfl) (Nat.le_of_ble_eq_true rfl) dX7_river_16 ?_
    obtain ⟨x6, g5, h⟩ := bsome h
    refine Ev_callSi (np := 1) (vs := [.int x4]) (rest := []) mdJ6_bitCount_0f7a4 lkX7_177 (rJ6_bitCount_0f7a4 g5) rfl rfl (Nat.le_of_ble_eq_true rfl) (Nat.le_of_ble_eq_true rfl) dX7_river_19 ?_
    refine Ev_istore_n (loc2 := [some (.ref v0), some (.int v1), some (.int x6), none, none, none, none]) (Nat.le_of_ble_eq_true rfl) rfl rfl dX7_river_22 ?_
    refine Ev_iconst ic_m1 dX7_river_23 ?_
    refine Ev_istore_n (loc2 := [some (.ref v0), some (.int v1), some (.int x6), some (.int (-1)), none, none, none]) (Nat.le_of_ble_eq_true rfl) rfl rfl dX7_river_24 ?_
    refine Ev_iconst ic_0 dX7_river_25 ?_
    refine Ev_istore (loc2 := [some (.ref v0), some (.int v1), some (.int x6), some (.int (-1)), some (.int 0), none, none]) (Nat.le_of_ble_eq_true rfl) rfl rfl dX7_river_26 ?_
    refine Ev_iconst ic_0 dX7_river_28 ?_
    refine Ev_istore (loc2 := [some (.ref v0), some (.int v1), some (.int x6), some (.int (-1)), some (.int 0), some (.int 0), none]) (Nat.le_of_ble_eq_true rfl) rfl rfl dX7_river_29 ?_
    exact rX7_river_c31 FUEL M v0 v1 x6 (-1) 0 0 h
  · rw [if_neg q1] at h
    refine Ev_iload_n (x := v1) rfl dX7_river_4 ?_
    refine Ev_iconst ic_1 dX7_river_5 ?_
    refine Ev_icmp_eq (tgt := 12) dX7_river_6 (by decide) (fun q7 => ?_) (fun q7 => ?_)
    · rw [if_pos q7] at h
      refine Ev_aload_n (x := v0) rfl dX7_river_12 ?_
      obtain ⟨a8, g8, h⟩ := bsome h
      refine Ev_getR flX7_19 dX7_river_13 g8 ?_
      obtain ⟨x10, g9, h⟩ := bsome h
      refine Ev_callVi (np := 0) (vs := []) (rest := []) mdX6_whoIsThere lkX7_174 ⟨_, rfl, rfl⟩ (oX6_whoIsThere g9) (rX6_whoIsThere g9) rfl rfl (Nat.le_of_ble_eq_true rfl) (Nat.le_of_ble_eq_true rfl) dX7_river_16 ?_
      obtain ⟨x12, g11, h⟩ := bsome h
      refine Ev_callSi (np := 1) (vs := [.int x10]) (rest := []) mdJ6_bitCount_0f7a4 lkX7_177 (rJ6_bitCount_0f7a4 g11) rfl rfl (Nat.le_of_ble_eq_true rfl) (Nat.le_of_ble_eq_true rfl) dX7_river_19 ?_
      refine Ev_istore_n (loc2 := [some (.ref v0), some (.int v1), some (.int x12), none, none, none, none]) (Nat.le_of_ble_eq_true rfl) rfl rfl dX7_river_22 ?_
      refine Ev_iconst ic_m1 dX7_river_23 ?_
      refine Ev_istore_n (loc2 := [some (.ref v0), some (.int v1), some (.int x12), some (.int (-1)), none, none, none]) (Nat.le_of_ble_eq_true rfl) rfl rfl dX7_river_24 ?_
      refine Ev_iconst ic_0 dX7_river_25 ?_
      refine Ev_istore (loc2 := [some (.ref v0), some (.int v1), some (.int x12), some (.int (-1)), some (.int 0), none, none]) (Nat.le_of_ble_eq_true rfl) rfl rfl dX7_river_26 ?_
      refine Ev_iconst ic_0 dX7_river_28 ?_
      refine Ev_istore (loc2 := [some (.ref v0), some (.int v1), some (.int x12), some (.int (-1)), some (.int 0), some (.int 0), none]) (Nat.le_of_ble_eq_true rfl) rfl rfl dX7_river_29 ?_
      exact rX7_river_c31 FUEL M v0 v1 x12 (-1) 0 0 h
    · rw [if_neg q7] at h
      refine Ev_bipush bp_m2 dX7_river_9 ?_
      cases h
      exact Ev_iret rfl rfl dX7_river_11 ⟨rfl, rfl⟩
/-! TinselRiver.findCovers()V -/
def fX7_findCovers_c2 : Nat → mM → Nat → Int32 → Option mM
  | 0, _, _, _ => none
  | n + 1, M, v0, v1 =>
    if 4 ≤ v1 then
      (some M)
    else
      ((gR M v0 7 9).bind fun a2 =>
      (gR M v0 7 1).bind fun a3 =>
      (fX6_has M a3 v1).bind fun x5 =>
      if x5 = 0 then
        ((aS M false a2 v1 0).bind fun M7 =>
        fX7_findCovers_c2 n M7 v0 (v1 + 1))
      else
        ((gR M v0 7 6).bind fun a8 =>
        (gR M v0 7 1).bind fun a9 =>
        (gR M a9 6 0).bind fun a10 =>
        (qI M false a10 v1).bind fun a11 =>
        (gR M a11 4 0).bind fun a12 =>
        (fX2_placesUnder M a8 a12).bind fun x14 =>
        (aS M false a2 v1 x14).bind fun M15 =>
        fX7_findCovers_c2 n M15 v0 (v1 + 1)))
set_option maxRecDepth 20000 in
set_option maxHeartbeats 4000000 in
theorem rX7_findCovers_c2 {E : mE} {Mf : mM} : ∀ (n : Nat) (M : mM) (v0 : Nat) (v1 : Int32), fX7_findCovers_c2 n M v0 v1 = some Mf → Ev mX7_findCovers E 2 0 0 none Mf 2 [some (.ref v0), some (.int v1)] [] M 0 0 := by
  intro n
  induction n with
  | zero => intro M v0 v1 h; rw [fX7_findCovers_c2.eq_1] at h; cases h
  | succ n ih =>
    intro M v0 v1 h
    rw [fX7_findCovers_c2.eq_2] at h
    refine Ev_iload_n (x := v1) rfl dX7_findCovers_2 ?_
    refine Ev_iconst ic_4 dX7_findCovers_3 ?_
    refine Ev_icmp_ge (tgt := 53) dX7_findCovers_4 (by decide) (fun q1 => ?_) (fun q1 => ?_)
    · rw [if_pos q1] at h
      cases h
      exact Ev_vret rfl dX7_findCovers_53 ⟨rfl, rfl⟩
    · rw [if_neg q1] at h
      refine Ev_aload_n (x := v0) rfl dX7_findCovers_7 ?_
      obtain ⟨a2, g2, h⟩ := bsome h
      refine Ev_getR flX7_62 dX7_findCovers_8 g2 ?_
      refine Ev_iload_n (x := v1) rfl dX7_findCovers_11 ?_
      refine Ev_aload_n (x := v0) rfl dX7_findCovers_12 ?_
      obtain ⟨a3, g3, h⟩ := bsome h
      refine Ev_getR flX7_19 dX7_findCovers_13 g3 ?_
      refine Ev_iload_n (x := v1) rfl dX7_findCovers_16 ?_
      obtain ⟨x5, g4, h⟩ := bsome h
      refine Ev_callVi (np := 1) (vs := [.int v1]) (rest := [.int v1, .ref a2]) mdX6_has lkX7_109 ⟨_, rfl, rfl⟩ (oX6_has g4) (rX6_has g4) rfl rfl (Nat.le_of_ble_eq_true rfl) (Nat.le_of_ble_eq_true rfl) dX7_findCovers_17 ?_
      refine Ev_if_eq (tgt := 45) dX7_findCovers_20 (by decide) (fun q6 => ?_) (fun q6 => ?_)
      · rw [if_pos q6] at h
        refine Ev_iconst ic_0 dX7_findCovers_45 ?_
        obtain ⟨M7, g7, h⟩ := bsome h
        refine Ev_iast dX7_findCovers_46 g7 ?_
        refine Ev_iinc (x := v1) (v := (v1 + 1)) (loc2 := [some (.ref v0), some (.int (v1 + 1))]) rfl (congrArg (v1 + ·) ic_1) (Nat.le_of_ble_eq_true rfl) rfl rfl dX7_findCovers_47 ?_
        refine Ev_goto (tgt := 2) dX7_findCovers_50 (by decide) ?_
        exact ih M7 v0 (v1 + 1) h
      · rw [if_neg q6] at h
        refine Ev_aload_n (x := v0) rfl dX7_findCovers_23 ?_
        obtain ⟨a8, g8, h⟩ := bsome h
        refine Ev_getR flX7_52 dX7_findCovers_24 g8 ?_
        refine Ev_aload_n (x := v0) rfl dX7_findCovers_27 ?_
        obtain ⟨a9, g9, h⟩ := bsome h
        refine Ev_getR flX7_19 dX7_findCovers_28 g9 ?_
        obtain ⟨a10, g10, h⟩ := bsome h
        refine Ev_getR flX7_113 dX7_findCovers_31 g10 ?_
        refine Ev_iload_n (x := v1) rfl dX7_findCovers_34 ?_
        obtain ⟨a11, g11, h⟩ := bsome h
        refine Ev_aald dX7_findCovers_35 g11 ?_
        obtain ⟨a12, g12, h⟩ := bsome h
        refine Ev_getR flX7_125 dX7_findCovers_36 g12 ?_
        obtain ⟨x14, g13, h⟩ := bsome h
        refine Ev_callVi (np := 1) (vs := [.ref a12]) (rest := [.int v1, .ref a2]) mdX2_placesUnder lkX7_201 ⟨_, rfl, rfl⟩ (oX2_placesUnder g13) (rX2_placesUnder g13) rfl rfl (Nat.le_of_ble_eq_true rfl) (Nat.le_of_ble_eq_true rfl) dX7_findCovers_39 ?_
        refine Ev_goto (tgt := 46) dX7_findCovers_42 (by decide) ?_
        obtain ⟨M15, g15, h⟩ := bsome h
        refine Ev_iast dX7_findCovers_46 g15 ?_
        refine Ev_iinc (x := v1) (v := (v1 + 1)) (loc2 := [some (.ref v0), some (.int (v1 + 1))]) rfl (congrArg (v1 + ·) ic_1) (Nat.le_of_ble_eq_true rfl) rfl rfl dX7_findCovers_47 ?_
        refine Ev_goto (tgt := 2) dX7_findCovers_50 (by decide) ?_
        exact ih M15 v0 (v1 + 1) h
def fX7_findCovers (M : mM) (v0 : Nat) : Option mM :=
    if isO M v0 7 = true then
      fX7_findCovers_c2 FUEL M v0 0
    else none
theorem oX7_findCovers {M : mM} {v0 : Nat} {y : mM} (h : fX7_findCovers M v0 = some y) : isO M v0 7 = true := by
  unfold fX7_findCovers at h
  exact (gsome h).1
set_option maxRecDepth 20000 in
set_option maxHeartbeats 4000000 in
theorem rX7_findCovers {E : mE} {M : mM} {v0 : Nat} {Mf : mM} (h : fX7_findCovers M v0 = some Mf) : EvC mX7_findCovers E 2 0 0 [.ref v0] M none Mf := by
  unfold fX7_findCovers at h
  replace h := (gsome h).2
  refine EvC.of [some (.ref v0), none] pnX7_findCovers rfl (Nat.le_of_ble_eq_true rfl) ?_
  refine Ev_iconst ic_0 dX7_findCovers_0 ?_
  refine Ev_istore_n (loc2 := [some (.ref v0), some (.int 0)]) (Nat.le_of_ble_eq_true rfl) rfl rfl dX7_findCovers_1 ?_
  exact rX7_findCovers_c2 FUEL M v0 0 h
/-! TinselRiver.covered()I -/
def fX7_covered_c8 : Nat → mM → Nat → Int32 → Int32 → Option (Int32 × mM)
  | 0, _, _, _, _ => none
  | n + 1, M, v0, v1, v2 =>
    if 4 ≤ v2 then
      (some (v1, M))
    else
      ((gR M v0 7 9).bind fun a2 =>
      (aI M false a2 v2).bind fun x3 =>
      fX7_covered_c8 n M v0 (v1 ||| x3) (v2 + 1))
set_option maxRecDepth 20000 in
set_option maxHeartbeats 4000000 in
theorem rX7_covered_c8 {E : mE} {x : Int32} {Mf : mM} : ∀ (n : Nat) (M : mM) (v0 : Nat) (v1 : Int32) (v2 : Int32), fX7_covered_c8 n M v0 v1 v2 = some (x, Mf) → Ev mX7_covered E 3 0 0 (some (.int x)) Mf 8 [some (.ref v0), some (.int v1), some (.int v2)] [] M 0 0 := by
  intro n
  induction n with
  | zero => intro M v0 v1 v2 h; rw [fX7_covered_c8.eq_1] at h; cases h
  | succ n ih =>
    intro M v0 v1 v2 h
    rw [fX7_covered_c8.eq_2] at h
    refine Ev_iload_n (x := v2) rfl dX7_covered_8 ?_
    refine Ev_iconst ic_4 dX7_covered_9 ?_
    refine Ev_icmp_ge (tgt := 28) dX7_covered_10 (by decide) (fun q1 => ?_) (fun q1 => ?_)
    · rw [if_pos q1] at h
      refine Ev_iload_n (x := v1) rfl dX7_covered_28 ?_
      cases h
      exact Ev_iret rfl rfl dX7_covered_29 ⟨rfl, rfl⟩
    · rw [if_neg q1] at h
      refine Ev_iload_n (x := v1) rfl dX7_covered_13 ?_
      refine Ev_aload_n (x := v0) rfl dX7_covered_14 ?_
      obtain ⟨a2, g2, h⟩ := bsome h
      refine Ev_getR flX7_62 dX7_covered_15 g2 ?_
      refine Ev_iload_n (x := v2) rfl dX7_covered_18 ?_
      obtain ⟨x3, g3, h⟩ := bsome h
      refine Ev_iald dX7_covered_19 g3 ?_
      refine Ev_ior dX7_covered_20 ?_
      refine Ev_istore_n (loc2 := [some (.ref v0), some (.int (v1 ||| x3)), some (.int v2)]) (Nat.le_of_ble_eq_true rfl) rfl rfl dX7_covered_21 ?_
      refine Ev_iinc (x := v2) (v := (v2 + 1)) (loc2 := [some (.ref v0), some (.int (v1 ||| x3)), some (.int (v2 + 1))]) rfl (congrArg (v2 + ·) ic_1) (Nat.le_of_ble_eq_true rfl) rfl rfl dX7_covered_22 ?_
      refine Ev_goto (tgt := 8) dX7_covered_25 (by decide) ?_
      exact ih M v0 (v1 ||| x3) (v2 + 1) h
def fX7_covered (M : mM) (v0 : Nat) : Option (Int32 × mM) :=
    if isO M v0 7 = true then
      (fX7_findCovers M v0).bind fun M2 =>
      fX7_covered_c8 FUEL M2 v0 0 0
    else none
theorem oX7_covered {M : mM} {v0 : Nat} {y : (Int32 × mM)} (h : fX7_covered M v0 = some y) : isO M v0 7 = true := by
  unfold fX7_covered at h
  exact (gsome h).1
set_option maxRecDepth 20000 in
set_option maxHeartbeats 4000000 in
theorem rX7_covered {E : mE} {M : mM} {v0 : Nat} {x : Int32} {Mf : mM} (h : fX7_covered M v0 = some (x, Mf)) : EvC mX7_covered E 3 0 0 [.ref v0] M (some (.int x)) Mf := by
  unfold fX7_covered at h
  replace h := (gsome h).2
  refine EvC.of [some (.ref v0), none, none] pnX7_covered rfl (Nat.le_of_ble_eq_true rfl) ?_
  refine Ev_aload_n (x := v0) rfl dX7_covered_0 ?_
  obtain ⟨M2, g1, h⟩ := bsome h
  refine Ev_callVv (np := 0) (vs := []) (rest := []) mdX7_findCovers lkX7_198 ⟨_, rfl, rfl⟩ (oX7_findCovers g1) (rX7_findCovers g1) rfl rfl (Nat.le_of_ble_eq_true rfl) (Nat.le_of_ble_eq_true rfl) dX7_covered_1 ?_
  refine Ev_iconst ic_0 dX7_covered_4 ?_
  refine Ev_istore_n (loc2 := [some (.ref v0), some (.int 0), none]) (Nat.le_of_ble_eq_true rfl) rfl rfl dX7_covered_5 ?_
  refine Ev_iconst ic_0 dX7_covered_6 ?_
  refine Ev_istore_n (loc2 := [some (.ref v0), some (.int 0), some (.int 0)]) (Nat.le_of_ble_eq_true rfl) rfl rfl dX7_covered_7 ?_
  exact rX7_covered_c8 FUEL M2 v0 0 0 h
/-! TinselRiver.wholeBed()I -/
def fX7_wholeBed (M : mM) (v0 : Nat) : Option Int32 :=
    if isO M v0 7 = true then
      (gR M v0 7 6).bind fun a1 =>
      (gI M a1 2 1).bind fun x2 =>
      some ((1 <<< (x2 &&& 31)) - 1)
    else none
theorem oX7_wholeBed {M : mM} {v0 : Nat} {y : Int32} (h : fX7_wholeBed M v0 = some y) : isO M v0 7 = true := by
  unfold fX7_wholeBed at h
  exact (gsome h).1
set_option maxRecDepth 20000 in
set_option maxHeartbeats 4000000 in
theorem rX7_wholeBed {E : mE} {M : mM} {v0 : Nat} {x : Int32} (h : fX7_wholeBed M v0 = some x) : EvC mX7_wholeBed E 0 0 0 [.ref v0] M (some (.int x)) M := by
  unfold fX7_wholeBed at h
  replace h := (gsome h).2
  refine EvC.of [some (.ref v0)] pnX7_wholeBed rfl (Nat.le_of_ble_eq_true rfl) ?_
  refine Ev_iconst ic_1 dX7_wholeBed_0 ?_
  refine Ev_aload_n (x := v0) rfl dX7_wholeBed_1 ?_
  obtain ⟨a1, g1, h⟩ := bsome h
  refine Ev_getR flX7_52 dX7_wholeBed_2 g1 ?_
  obtain ⟨x2, g2, h⟩ := bsome h
  refine Ev_getI flX7_102 dX7_wholeBed_5 g2 ?_
  refine Ev_ishl dX7_wholeBed_8 ?_
  refine Ev_iconst ic_1 dX7_wholeBed_9 ?_
  refine Ev_isub dX7_wholeBed_10 ?_
  cases h
  exact Ev_iret rfl rfl dX7_wholeBed_11 ⟨rfl, rfl⟩
/-! TinselRiver.waysFrom(LTinselRiver$Valley;LTinselRiver$Row;II)I -/
def fX7_waysFrom_c76 (M : mM) (rec : Nat → Nat → Int32 → Int32 → Option Int32) : Nat → Nat → Nat → Int32 → Int32 → Nat → Int32 → Int32 → Option Int32
  | 0, _, _, _, _, _, _, _ => none
  | n + 1, v0, v1, v2, v3, v4, v5, v6 =>
    (gI M v4 2 1).bind fun x1 =>
    (gI M v1 2 1).bind fun x2 =>
    if x2 < (v6 + x1) then
      (some v5)
    else
      ((fX2_bearsAt M v1 v6 v4).bind fun x5 =>
      if x5 = 0 then
        (fX7_waysFrom_c76 M rec n v0 v1 v2 v3 v4 v5 (v6 + 1))
      else
        ((fX2_bitsAt M v4 v6).bind fun x8 =>
        (rec v0 v1 (v2 + 1) (v3 ||| x8)).bind fun x10 =>
        fX7_waysFrom_c76 M rec n v0 v1 v2 v3 v4 (v5 + x10) (v6 + 1)))
set_option maxRecDepth 20000 in
set_option maxHeartbeats 4000000 in
theorem rX7_waysFrom_c76 {E : mE} {dj : Nat} {M : mM} {x : Int32} {rec : Nat → Nat → Int32 → Int32 → Option Int32} (hrec : ∀ (a b : Nat) (i j : Int32) (y : Int32), rec a b i j = some y → EvC mX7_waysFrom E (1 + dj) 0 0 [.ref a, .ref b, .int i, .int j] M (some (.int y)) M) : ∀ (n : Nat) (v0 : Nat) (v1 : Nat) (v2 : Int32) (v3 : Int32) (v4 : Nat) (v5 : Int32) (v6 : Int32), fX7_waysFrom_c76 M rec n v0 v1 v2 v3 v4 v5 v6 = some x → Ev mX7_waysFrom E (2 + dj) 0 0 (some (.int x)) M 76 [some (.ref v0), some (.ref v1), some (.int v2), some (.int v3), some (.ref v4), some (.int v5), some (.int v6)] [] M 0 0 := by
  intro n
  induction n with
  | zero => intro v0 v1 v2 v3 v4 v5 v6 h; rw [fX7_waysFrom_c76.eq_1] at h; cases h
  | succ n ih =>
    intro v0 v1 v2 v3 v4 v5 v6 h
    rw [fX7_waysFrom_c76.eq_2] at h
    refine Ev_iload (x := v6) rfl dX7_waysFrom_76 ?_
    refine Ev_aload (x := v4) rfl dX7_waysFrom_78 ?_
    obtain ⟨x1, g1, h⟩ := bsome h
    refine Ev_getI flX7_102 dX7_waysFrom_80 g1 ?_
    refine Ev_iadd dX7_waysFrom_83 ?_
    refine Ev_aload_n (x := v1) rfl dX7_waysFrom_84 ?_
    obtain ⟨x2, g2, h⟩ := bsome h
    refine Ev_getI flX7_102 dX7_waysFrom_85 g2 ?_
    refine Ev_icmp_gt (tgt := 130) dX7_waysFrom_88 (by decide) (fun q3 => ?_) (fun q3 => ?_)
    · rw [if_pos q3] at h
      refine Ev_iload (x := v5) rfl dX7_waysFrom_130 ?_
      cases h
      exact Ev_iret rfl rfl dX7_waysFrom_132 ⟨rfl, rfl⟩
    · rw [if_neg q3] at h
      refine Ev_aload_n (x := v1) rfl dX7_waysFrom_91 ?_
      refine Ev_iload (x := v6) rfl dX7_waysFrom_92 ?_
      refine Ev_aload (x := v4) rfl dX7_waysFrom_94 ?_
      obtain ⟨x5, g4, h⟩ := bsome h
      refine Ev_callVi (np := 2) (vs := [.int v6, .ref v4]) (rest := []) mdX2_bearsAt lkX7_211 ⟨_, rfl, rfl⟩ (oX2_bearsAt g4) (rX2_bearsAt g4) rfl rfl (by omega) (Nat.le_of_ble_eq_true rfl) dX7_waysFrom_96 ?_
      refine Ev_if_eq (tgt := 124) dX7_waysFrom_99 (by decide) (fun q6 => ?_) (fun q6 => ?_)
      · rw [if_pos q6] at h
        refine Ev_iinc (x := v6) (v := (v6 + 1)) (loc2 := [some (.ref v0), some (.ref v1), some (.int v2), some (.int v3), some (.ref v4), some (.int v5), some (.int (v6 + 1))]) rfl (congrArg (v6 + ·) ic_1) (Nat.le_of_ble_eq_true rfl) rfl rfl dX7_waysFrom_124 ?_
        refine Ev_goto (tgt := 76) dX7_waysFrom_127 (by decide) ?_
        exact ih v0 v1 v2 v3 v4 v5 (v6 + 1) h
      · rw [if_neg q6] at h
        refine Ev_iload (x := v5) rfl dX7_waysFrom_102 ?_
        refine Ev_aload_n (x := v0) rfl dX7_waysFrom_104 ?_
        refine Ev_aload_n (x := v1) rfl dX7_waysFrom_105 ?_
        refine Ev_iload_n (x := v2) rfl dX7_waysFrom_106 ?_
        refine Ev_iconst ic_1 dX7_waysFrom_107 ?_
        refine Ev_iadd dX7_waysFrom_108 ?_
        refine Ev_iload_n (x := v3) rfl dX7_waysFrom_109 ?_
        refine Ev_aload (x := v4) rfl dX7_waysFrom_110 ?_
        refine Ev_iload (x := v6) rfl dX7_waysFrom_112 ?_
        obtain ⟨x8, g7, h⟩ := bsome h
        refine Ev_callVi (np := 1) (vs := [.int v6]) (rest := [.int v3, .int (v2 + 1), .ref v1, .ref v0, .int v5]) mdX2_bitsAt lkX7_215 ⟨_, rfl, rfl⟩ (oX2_bitsAt g7) (rX2_bitsAt g7) rfl rfl (by omega) (Nat.le_of_ble_eq_true rfl) dX7_waysFrom_114 ?_
        refine Ev_ior dX7_waysFrom_117 ?_
        obtain ⟨x10, g9, h⟩ := bsome h
        refine Ev_callSi (np := 4) (vs := [.ref v0, .ref v1, .int (v2 + 1), .int (v3 ||| x8)]) (rest := [.int v5]) mdX7_waysFrom lkX7_204 (hrec v0 v1 (v2 + 1) (v3 ||| x8) _ g9) rfl rfl (by omega) (Nat.le_of_ble_eq_true rfl) dX7_waysFrom_118 ?_
        refine Ev_iadd dX7_waysFrom_121 ?_
        refine Ev_istore (loc2 := [some (.ref v0), some (.ref v1), some (.int v2), some (.int v3), some (.ref v4), some (.int (v5 + x10)), some (.int v6)]) (Nat.le_of_ble_eq_true rfl) rfl rfl dX7_waysFrom_122 ?_
        refine Ev_iinc (x := v6) (v := (v6 + 1)) (loc2 := [some (.ref v0), some (.ref v1), some (.int v2), some (.int v3), some (.ref v4), some (.int (v5 + x10)), some (.int (v6 + 1))]) rfl (congrArg (v6 + ·) ic_1) (Nat.le_of_ble_eq_true rfl) rfl rfl dX7_waysFrom_124 ?_
        refine Ev_goto (tgt := 76) dX7_waysFrom_127 (by decide) ?_
        exact ih v0 v1 v2 v3 v4 (v5 + x10) (v6 + 1) h
def fX7_waysFrom (M : mM) : Nat → Nat → Nat → Int32 → Int32 → Option Int32
  | 0, _, _, _, _ => none
  | dj + 1, v0, v1, v2, v3 =>
    if v2 < 4 then
      ((fX6_has M v0 v2).bind fun x3 =>
      if x3 = 0 then
        (((fX7_waysFrom M dj) v0 v1 (v2 + 1) v3).bind fun x15 =>
        some x15)
      else
        ((gI M v1 2 1).bind fun x5 =>
        (fJ6_bitCount_0f7a4 M v3).bind fun x7 =>
        (fX6_bendsFrom M v0 v2).bind fun x9 =>
        if (x5 - x7) ≤ x9 then
          ((gR M v0 6 0).bind fun a11 =>
          (qI M false a11 v2).bind fun a12 =>
          (gR M a12 4 0).bind fun a13 =>
          fX7_waysFrom_c76 M (fX7_waysFrom M dj) FUEL v0 v1 v2 v3 a13 0 0)
        else
          (some 0)))
    else
      ((fJ6_bitCount_0f7a4 M v3).bind fun x17 =>
      (gI M v1 2 1).bind fun x18 =>
      if x17 = x18 then
        (some 1)
      else
        (some 0))
set_option maxRecDepth 20000 in
set_option maxHeartbeats 4000000 in
theorem rX7_waysFrom {E : mE} {M : mM} : ∀ (dj : Nat) (v0 : Nat) (v1 : Nat) (v2 : Int32) (v3 : Int32) (x : Int32), fX7_waysFrom M dj v0 v1 v2 v3 = some x → EvC mX7_waysFrom E (1 + dj) 0 0 [.ref v0, .ref v1, .int v2, .int v3] M (some (.int x)) M := by
  intro dj
  induction dj with
  | zero => intro v0 v1 v2 v3 x h; rw [fX7_waysFrom.eq_1] at h; cases h
  | succ dj ihd =>
    intro v0 v1 v2 v3 x h
    rw [fX7_waysFrom.eq_2] at h
    rw [show 1 + (dj + 1) = 2 + dj by omega]
    refine EvC.of [some (.ref v0), some (.ref v1), some (.int v2), some (.int v3), none, none, none] pnX7_waysFrom rfl (Nat.le_of_ble_eq_true rfl) ?_
    refine Ev_iload_n (x := v2) rfl dX7_waysFrom_0 ?_
    refine Ev_iconst ic_4 dX7_waysFrom_1 ?_
    refine Ev_icmp_lt (tgt := 22) dX7_waysFrom_2 (by decide) (fun q1 => ?_) (fun q1 => ?_)
    · rw [if_pos q1] at h
      refine Ev_aload_n (x := v0) rfl dX7_waysFrom_22 ?_
      refine Ev_iload_n (x := v2) rfl dX7_waysFrom_23 ?_
      obtain ⟨x3, g2, h⟩ := bsome h
      refine Ev_callVi (np := 1) (vs := [.int v2]) (rest := []) mdX6_has lkX7_109 ⟨_, rfl, rfl⟩ (oX6_has g2) (rX6_has g2) rfl rfl (by omega) (Nat.le_of_ble_eq_true rfl) dX7_waysFrom_24 ?_
      refine Ev_if_ne (tgt := 40) dX7_waysFrom_27 (by decide) (fun q4 => ?_) (fun q4 => ?_)
      · rw [if_neg q4] at h
        refine Ev_aload_n (x := v1) rfl dX7_waysFrom_40 ?_
        obtain ⟨x5, g5, h⟩ := bsome h
        refine Ev_getI flX7_102 dX7_waysFrom_41 g5 ?_
        refine Ev_iload_n (x := v3) rfl dX7_waysFrom_44 ?_
        obtain ⟨x7, g6, h⟩ := bsome h
        refine Ev_callSi (np := 1) (vs := [.int v3]) (rest := [.int x5]) mdJ6_bitCount_0f7a4 lkX7_177 (rJ6_bitCount_0f7a4 g6) rfl rfl (by omega) (Nat.le_of_ble_eq_true rfl) dX7_waysFrom_45 ?_
        refine Ev_isub dX7_waysFrom_48 ?_
        refine Ev_aload_n (x := v0) rfl dX7_waysFrom_49 ?_
        refine Ev_iload_n (x := v2) rfl dX7_waysFrom_50 ?_
        obtain ⟨x9, g8, h⟩ := bsome h
        refine Ev_callVi (np := 1) (vs := [.int v2]) (rest := [.int (x5 - x7)]) mdX6_bendsFrom lkX7_208 ⟨_, rfl, rfl⟩ (oX6_bendsFrom g8) (rX6_bendsFrom g8) rfl rfl (by omega) (Nat.le_of_ble_eq_true rfl) dX7_waysFrom_51 ?_
        refine Ev_icmp_le (tgt := 59) dX7_waysFrom_54 (by decide) (fun q10 => ?_) (fun q10 => ?_)
        · rw [if_pos q10] at h
          refine Ev_aload_n (x := v0) rfl dX7_waysFrom_59 ?_
          obtain ⟨a11, g11, h⟩ := bsome h
          refine Ev_getR flX7_113 dX7_waysFrom_60 g11 ?_
          refine Ev_iload_n (x := v2) rfl dX7_waysFrom_63 ?_
          obtain ⟨a12, g12, h⟩ := bsome h
          refine Ev_aald dX7_waysFrom_64 g12 ?_
          obtain ⟨a13, g13, h⟩ := bsome h
          refine Ev_getR flX7_125 dX7_waysFrom_65 g13 ?_
          refine Ev_astore (loc2 := [some (.ref v0), some (.ref v1), some (.int v2), some (.int v3), some (.ref a13), none, none]) (Nat.le_of_ble_eq_true rfl) rfl rfl dX7_waysFrom_68 ?_
          refine Ev_iconst ic_0 dX7_waysFrom_70 ?_
          refine Ev_istore (loc2 := [some (.ref v0), some (.ref v1), some (.int v2), some (.int v3), some (.ref a13), some (.int 0), none]) (Nat.le_of_ble_eq_true rfl) rfl rfl dX7_waysFrom_71 ?_
          refine Ev_iconst ic_0 dX7_waysFrom_73 ?_
          refine Ev_istore (loc2 := [some (.ref v0), some (.ref v1), some (.int v2), some (.int v3), some (.ref a13), some (.int 0), some (.int 0)]) (Nat.le_of_ble_eq_true rfl) rfl rfl dX7_waysFrom_74 ?_
          exact rX7_waysFrom_c76 (hrec := fun a b i j y => ihd a b i j y) FUEL v0 v1 v2 v3 a13 0 0 h
        · rw [if_neg q10] at h
          refine Ev_iconst ic_0 dX7_waysFrom_57 ?_
          cases h
          exact Ev_iret rfl rfl dX7_waysFrom_58 ⟨rfl, rfl⟩
      · rw [if_pos q4] at h
        refine Ev_aload_n (x := v0) rfl dX7_waysFrom_30 ?_
        refine Ev_aload_n (x := v1) rfl dX7_waysFrom_31 ?_
        refine Ev_iload_n (x := v2) rfl dX7_waysFrom_32 ?_
        refine Ev_iconst ic_1 dX7_waysFrom_33 ?_
        refine Ev_iadd dX7_waysFrom_34 ?_
        refine Ev_iload_n (x := v3) rfl dX7_waysFrom_35 ?_
        obtain ⟨x15, g14, h⟩ := bsome h
        refine Ev_callSi (np := 4) (vs := [.ref v0, .ref v1, .int (v2 + 1), .int v3]) (rest := []) mdX7_waysFrom lkX7_204 (ihd v0 v1 (v2 + 1) v3 _ g14) rfl rfl (by omega) (Nat.le_of_ble_eq_true rfl) dX7_waysFrom_36 ?_
        cases h
        exact Ev_iret rfl rfl dX7_waysFrom_39 ⟨rfl, rfl⟩
    · rw [if_neg q1] at h
      refine Ev_iload_n (x := v3) rfl dX7_waysFrom_5 ?_
      obtain ⟨x17, g16, h⟩ := bsome h
      refine Ev_callSi (np := 1) (vs := [.int v3]) (rest := []) mdJ6_bitCount_0f7a4 lkX7_177 (rJ6_bitCount_0f7a4 g16) rfl rfl (by omega) (Nat.le_of_ble_eq_true rfl) dX7_waysFrom_6 ?_
      refine Ev_aload_n (x := v1) rfl dX7_waysFrom_9 ?_
      obtain ⟨x18, g18, h⟩ := bsome h
      refine Ev_getI flX7_102 dX7_waysFrom_10 g18 ?_
      refine Ev_icmp_ne (tgt := 20) dX7_waysFrom_13 (by decide) (fun q19 => ?_) (fun q19 => ?_)
      · rw [if_neg q19] at h
        refine Ev_iconst ic_0 dX7_waysFrom_20 ?_
        cases h
        exact Ev_iret rfl rfl dX7_waysFrom_21 ⟨rfl, rfl⟩
      · rw [if_pos q19] at h
        refine Ev_iconst ic_1 dX7_waysFrom_16 ?_
        refine Ev_goto (tgt := 21) dX7_waysFrom_17 (by decide) ?_
        cases h
        exact Ev_iret rfl rfl dX7_waysFrom_21 ⟨rfl, rfl⟩
/-! TinselRiver.ways()I -/
def fX7_ways (M : mM) (v0 : Nat) : Option Int32 :=
    if isO M v0 7 = true then
      (gR M v0 7 1).bind fun a1 =>
      (gR M v0 7 6).bind fun a2 =>
      (fX7_waysFrom M 7 a1 a2 0 0).bind fun x4 =>
      some x4
    else none
theorem oX7_ways {M : mM} {v0 : Nat} {y : Int32} (h : fX7_ways M v0 = some y) : isO M v0 7 = true := by
  unfold fX7_ways at h
  exact (gsome h).1
set_option maxRecDepth 20000 in
set_option maxHeartbeats 4000000 in
theorem rX7_ways {E : mE} {M : mM} {v0 : Nat} {x : Int32} (h : fX7_ways M v0 = some x) : EvC mX7_ways E 9 0 0 [.ref v0] M (some (.int x)) M := by
  unfold fX7_ways at h
  replace h := (gsome h).2
  refine EvC.of [some (.ref v0)] pnX7_ways rfl (Nat.le_of_ble_eq_true rfl) ?_
  refine Ev_aload_n (x := v0) rfl dX7_ways_0 ?_
  obtain ⟨a1, g1, h⟩ := bsome h
  refine Ev_getR flX7_19 dX7_ways_1 g1 ?_
  refine Ev_aload_n (x := v0) rfl dX7_ways_4 ?_
  obtain ⟨a2, g2, h⟩ := bsome h
  refine Ev_getR flX7_52 dX7_ways_5 g2 ?_
  refine Ev_iconst ic_0 dX7_ways_8 ?_
  refine Ev_iconst ic_0 dX7_ways_9 ?_
  obtain ⟨x4, g3, h⟩ := bsome h
  refine Ev_callSi (np := 4) (vs := [.ref a1, .ref a2, .int 0, .int 0]) (rest := []) mdX7_waysFrom lkX7_204 (rX7_waysFrom 7 a1 a2 0 0 _ g3) rfl rfl (Nat.le_of_ble_eq_true rfl) (Nat.le_of_ble_eq_true rfl) dX7_ways_10 ?_
  cases h
  exact Ev_iret rfl rfl dX7_ways_13 ⟨rfl, rfl⟩
