/-! printed by wip/whole/gen.py -/
/-! TinselRiverModel.<init>()V -/
def fX8_init (M : mM) (v0 : Nat) : Option mM :=
    if isO M v0 8 = true then
      (some (M ++ [.inr (.inl (false, List.replicate 4 0))])).bind fun M1 =>
      (sV M1 v0 8 1 (.ref (List.length M))).bind fun M2 =>
      (some (M2 ++ [.inr (.inl (false, List.replicate 114 0))])).bind fun M3 =>
      (sV M3 v0 8 2 (.ref (List.length M2))).bind fun M4 =>
      (some (M4 ++ [.inr (.inl (false, List.replicate 8 0))])).bind fun M5 =>
      (sV M5 v0 8 3 (.ref (List.length M4))).bind fun M6 =>
      (some (M6 ++ [.inr (.inl (false, List.replicate 4 0))])).bind fun M7 =>
      (sV M7 v0 8 4 (.ref (List.length M6))).bind fun M8 =>
      (some (M8 ++ [.inr (.inl (false, List.replicate 24 0))])).bind fun M9 =>
      (sV M9 v0 8 5 (.ref (List.length M8))).bind fun M10 =>
      (some (M10 ++ [.inr (.inl (false, List.replicate 48 0))])).bind fun M11 =>
      (sV M11 v0 8 7 (.ref (List.length M10))).bind fun M12 =>
      (some (M12 ++ [.inr (.inl (false, List.replicate 12 0))])).bind fun M13 =>
      (sV M13 v0 8 12 (.ref (List.length M12))).bind fun M14 =>
      (some (M14 ++ [.inr (.inl (false, List.replicate 798 0))])).bind fun M15 =>
      (sV M15 v0 8 15 (.ref (List.length M14))).bind fun M16 =>
      (some (M16 ++ [.inr (.inl (false, List.replicate 48 0))])).bind fun M17 =>
      (sV M17 v0 8 16 (.ref (List.length M16))).bind fun M18 =>
      (some (M18 ++ [.inr (.inl (false, List.replicate 6 0))])).bind fun M19 =>
      (sV M19 v0 8 19 (.ref (List.length M18))).bind fun M20 =>
      (some (M20 ++ [.inr (.inl (false, List.replicate 6 0))])).bind fun M21 =>
      (sV M21 v0 8 20 (.ref (List.length M20))).bind fun M22 =>
      (some (M22 ++ [.inr (.inl (true, List.replicate 2 0))])).bind fun M23 =>
      (sV M23 v0 8 22 (.ref (List.length M22))).bind fun M24 =>
      (some (M24 ++ [.inr (.inl (false, List.replicate 114 0))])).bind fun M25 =>
      (sV M25 v0 8 23 (.ref (List.length M24))).bind fun M26 =>
      some M26
    else none
theorem oX8_init {M : mM} {v0 : Nat} {y : mM} (h : fX8_init M v0 = some y) : isO M v0 8 = true := by
  unfold fX8_init at h
  exact (gsome h).1
set_option maxRecDepth 20000 in
set_option maxHeartbeats 4000000 in
theorem rX8_init {E : mE} {M : mM} {v0 : Nat} {Mf : mM} (h : fX8_init M v0 = some Mf) : EvC mX8_init E 1 13 1188 [.ref v0] M none Mf := by
  unfold fX8_init at h
  replace h := (gsome h).2
  refine EvC.of [some (.ref v0)] pnX8_init rfl (Nat.le_of_ble_eq_true rfl) ?_
  refine Ev_aload_n (x := v0) rfl dX8_init_0 ?_
  refine Ev_objInit lkX8_1 md_oi1 md_oi2 (Nat.le_of_ble_eq_true rfl) (Nat.le_of_ble_eq_true rfl) dX8_init_1 ?_
  refine Ev_aload_n (x := v0) rfl dX8_init_4 ?_
  refine Ev_iconst ic_4 dX8_init_5 ?_
  obtain ⟨M1, g1, h⟩ := bsome h
  refine Ev_newa_e (z := false) (N := 4) rfl ac_int (by decide) (by decide) (Nat.le_of_ble_eq_true rfl) (Nat.le_of_ble_eq_true rfl) (Nat.le_of_ble_eq_true rfl) (Option.some.inj g1) dX8_init_6 ?_
  obtain ⟨M2, g2, h⟩ := bsome h
  refine Ev_put (v := .ref (List.length M)) flX8_7 ⟨rfl, rfl⟩ (fun q hq => by cases hq; exact Or.inr ⟨rfl, rfl, rfl, _, mT0_tbl (i := 617) (by decide +kernel) (by decide +kernel), rfl⟩) dX8_init_8 g2 ?_
  refine Ev_aload_n (x := v0) rfl dX8_init_11 ?_
  refine Ev_bipush bp_114 dX8_init_12 ?_
  obtain ⟨M3, g3, h⟩ := bsome h
  refine Ev_newa_e (z := false) (N := 114) rfl ac_int (by decide) (by decide) (Nat.le_of_ble_eq_true rfl) (Nat.le_of_ble_eq_true rfl) (Nat.le_of_ble_eq_true rfl) (Option.some.inj g3) dX8_init_14 ?_
  obtain ⟨M4, g4, h⟩ := bsome h
  refine Ev_put (v := .ref (List.length M2)) flX8_13 ⟨rfl, rfl⟩ (fun q hq => by cases hq; exact Or.inr ⟨rfl, rfl, rfl, _, mT0_tbl (i := 618) (by decide +kernel) (by decide +kernel), rfl⟩) dX8_init_16 g4 ?_
  refine Ev_aload_n (x := v0) rfl dX8_init_19 ?_
  refine Ev_bipush bp_8 dX8_init_20 ?_
  obtain ⟨M5, g5, h⟩ := bsome h
  refine Ev_newa_e (z := false) (N := 8) rfl ac_int (by decide) (by decide) (Nat.le_of_ble_eq_true rfl) (Nat.le_of_ble_eq_true rfl) (Nat.le_of_ble_eq_true rfl) (Option.some.inj g5) dX8_init_22 ?_
  obtain ⟨M6, g6, h⟩ := bsome h
  refine Ev_put (v := .ref (List.length M4)) flX8_16 ⟨rfl, rfl⟩ (fun q hq => by cases hq; exact Or.inr ⟨rfl, rfl, rfl, _, mT0_tbl (i := 619) (by decide +kernel) (by decide +kernel), rfl⟩) dX8_init_24 g6 ?_
  refine Ev_aload_n (x := v0) rfl dX8_init_27 ?_
  refine Ev_iconst ic_4 dX8_init_28 ?_
  obtain ⟨M7, g7, h⟩ := bsome h
  refine Ev_newa_e (z := false) (N := 4) rfl ac_int (by decide) (by decide) (Nat.le_of_ble_eq_true rfl) (Nat.le_of_ble_eq_true rfl) (Nat.le_of_ble_eq_true rfl) (Option.some.inj g7) dX8_init_29 ?_
  obtain ⟨M8, g8, h⟩ := bsome h
  refine Ev_put (v := .ref (List.length M6)) flX8_19 ⟨rfl, rfl⟩ (fun q hq => by cases hq; exact Or.inr ⟨rfl, rfl, rfl, _, mT0_tbl (i := 620) (by decide +kernel) (by decide +kernel), rfl⟩) dX8_init_31 g8 ?_
  refine Ev_aload_n (x := v0) rfl dX8_init_34 ?_
  refine Ev_bipush bp_24 dX8_init_35 ?_
  obtain ⟨M9, g9, h⟩ := bsome h
  refine Ev_newa_e (z := false) (N := 24) rfl ac_int (by decide) (by decide) (Nat.le_of_ble_eq_true rfl) (Nat.le_of_ble_eq_true rfl) (Nat.le_of_ble_eq_true rfl) (Option.some.inj g9) dX8_init_37 ?_
  obtain ⟨M10, g10, h⟩ := bsome h
  refine Ev_put (v := .ref (List.length M8)) flX8_22 ⟨rfl, rfl⟩ (fun q hq => by cases hq; exact Or.inr ⟨rfl, rfl, rfl, _, mT0_tbl (i := 621) (by decide +kernel) (by decide +kernel), rfl⟩) dX8_init_39 g10 ?_
  refine Ev_aload_n (x := v0) rfl dX8_init_42 ?_
  refine Ev_bipush bp_48 dX8_init_43 ?_
  obtain ⟨M11, g11, h⟩ := bsome h
  refine Ev_newa_e (z := false) (N := 48) rfl ac_int (by decide) (by decide) (Nat.le_of_ble_eq_true rfl) (Nat.le_of_ble_eq_true rfl) (Nat.le_of_ble_eq_true rfl) (Option.some.inj g11) dX8_init_45 ?_
  obtain ⟨M12, g12, h⟩ := bsome h
  refine Ev_put (v := .ref (List.length M10)) flX8_25 ⟨rfl, rfl⟩ (fun q hq => by cases hq; exact Or.inr ⟨rfl, rfl, rfl, _, mT0_tbl (i := 623) (by decide +kernel) (by decide +kernel), rfl⟩) dX8_init_47 g12 ?_
  refine Ev_aload_n (x := v0) rfl dX8_init_50 ?_
  refine Ev_bipush bp_12 dX8_init_51 ?_
  obtain ⟨M13, g13, h⟩ := bsome h
  refine Ev_newa_e (z := false) (N := 12) rfl ac_int (by decide) (by decide) (Nat.le_of_ble_eq_true rfl) (Nat.le_of_ble_eq_true rfl) (Nat.le_of_ble_eq_true rfl) (Option.some.inj g13) dX8_init_53 ?_
  obtain ⟨M14, g14, h⟩ := bsome h
  refine Ev_put (v := .ref (List.length M12)) flX8_28 ⟨rfl, rfl⟩ (fun q hq => by cases hq; exact Or.inr ⟨rfl, rfl, rfl, _, mT0_tbl (i := 628) (by decide +kernel) (by decide +kernel), rfl⟩) dX8_init_55 g14 ?_
  refine Ev_aload_n (x := v0) rfl dX8_init_58 ?_
  refine Ev_sipush sp_798 dX8_init_59 ?_
  obtain ⟨M15, g15, h⟩ := bsome h
  refine Ev_newa_e (z := false) (N := 798) rfl ac_int (by decide) (by decide) (Nat.le_of_ble_eq_true rfl) (Nat.le_of_ble_eq_true rfl) (Nat.le_of_ble_eq_true rfl) (Option.some.inj g15) dX8_init_62 ?_
  obtain ⟨M16, g16, h⟩ := bsome h
  refine Ev_put (v := .ref (List.length M14)) flX8_31 ⟨rfl, rfl⟩ (fun q hq => by cases hq; exact Or.inr ⟨rfl, rfl, rfl, _, mT0_tbl (i := 631) (by decide +kernel) (by decide +kernel), rfl⟩) dX8_init_64 g16 ?_
  refine Ev_aload_n (x := v0) rfl dX8_init_67 ?_
  refine Ev_bipush bp_48 dX8_init_68 ?_
  obtain ⟨M17, g17, h⟩ := bsome h
  refine Ev_newa_e (z := false) (N := 48) rfl ac_int (by decide) (by decide) (Nat.le_of_ble_eq_true rfl) (Nat.le_of_ble_eq_true rfl) (Nat.le_of_ble_eq_true rfl) (Option.some.inj g17) dX8_init_70 ?_
  obtain ⟨M18, g18, h⟩ := bsome h
  refine Ev_put (v := .ref (List.length M16)) flX8_34 ⟨rfl, rfl⟩ (fun q hq => by cases hq; exact Or.inr ⟨rfl, rfl, rfl, _, mT0_tbl (i := 632) (by decide +kernel) (by decide +kernel), rfl⟩) dX8_init_72 g18 ?_
  refine Ev_aload_n (x := v0) rfl dX8_init_75 ?_
  refine Ev_bipush bp_6 dX8_init_76 ?_
  obtain ⟨M19, g19, h⟩ := bsome h
  refine Ev_newa_e (z := false) (N := 6) rfl ac_int (by decide) (by decide) (Nat.le_of_ble_eq_true rfl) (Nat.le_of_ble_eq_true rfl) (Nat.le_of_ble_eq_true rfl) (Option.some.inj g19) dX8_init_78 ?_
  obtain ⟨M20, g20, h⟩ := bsome h
  refine Ev_put (v := .ref (List.length M18)) flX8_37 ⟨rfl, rfl⟩ (fun q hq => by cases hq; exact Or.inr ⟨rfl, rfl, rfl, _, mT0_tbl (i := 635) (by decide +kernel) (by decide +kernel), rfl⟩) dX8_init_80 g20 ?_
  refine Ev_aload_n (x := v0) rfl dX8_init_83 ?_
  refine Ev_bipush bp_6 dX8_init_84 ?_
  obtain ⟨M21, g21, h⟩ := bsome h
  refine Ev_newa_e (z := false) (N := 6) rfl ac_int (by decide) (by decide) (Nat.le_of_ble_eq_true rfl) (Nat.le_of_ble_eq_true rfl) (Nat.le_of_ble_eq_true rfl) (Option.some.inj g21) dX8_init_86 ?_
  obtain ⟨M22, g22, h⟩ := bsome h
  refine Ev_put (v := .ref (List.length M20)) flX8_40 ⟨rfl, rfl⟩ (fun q hq => by cases hq; exact Or.inr ⟨rfl, rfl, rfl, _, mT0_tbl (i := 636) (by decide +kernel) (by decide +kernel), rfl⟩) dX8_init_88 g22 ?_
  refine Ev_aload_n (x := v0) rfl dX8_init_91 ?_
  refine Ev_iconst ic_2 dX8_init_92 ?_
  obtain ⟨M23, g23, h⟩ := bsome h
  refine Ev_newa_e (z := true) (N := 2) rfl ac_boolean (by decide) (by decide) (Nat.le_of_ble_eq_true rfl) (Nat.le_of_ble_eq_true rfl) (Nat.le_of_ble_eq_true rfl) (Option.some.inj g23) dX8_init_93 ?_
  obtain ⟨M24, g24, h⟩ := bsome h
  refine Ev_put (v := .ref (List.length M22)) flX8_43 ⟨rfl, rfl⟩ (fun q hq => by cases hq; exact Or.inr ⟨rfl, rfl, rfl, _, mT0_tbl (i := 638) (by decide +kernel) (by decide +kernel), rfl⟩) dX8_init_95 g24 ?_
  refine Ev_aload_n (x := v0) rfl dX8_init_98 ?_
  refine Ev_bipush bp_114 dX8_init_99 ?_
  obtain ⟨M25, g25, h⟩ := bsome h
  refine Ev_newa_e (z := false) (N := 114) rfl ac_int (by decide) (by decide) (Nat.le_of_ble_eq_true rfl) (Nat.le_of_ble_eq_true rfl) (Nat.le_of_ble_eq_true rfl) (Option.some.inj g25) dX8_init_101 ?_
  obtain ⟨M26, g26, h⟩ := bsome h
  refine Ev_put (v := .ref (List.length M24)) flX8_47 ⟨rfl, rfl⟩ (fun q hq => by cases hq; exact Or.inr ⟨rfl, rfl, rfl, _, mT0_tbl (i := 639) (by decide +kernel) (by decide +kernel), rfl⟩) dX8_init_103 g26 ?_
  cases h
  exact Ev_vret rfl dX8_init_106 ⟨rfl, rfl⟩
/-! TinselRiverModel.in(JJJ)Z -/
def fX8_in (M : mM) (v0 : Int64) (v2 : Int64) (v4 : Int64) : Option Int32 :=
    if (lg_cmp v0 v2) < 0 then
      (some 0)
    else
      (if 0 < (lg_cmp v0 v4) then
        (some 0)
      else
        (some 1))
set_option maxRecDepth 20000 in
set_option maxHeartbeats 4000000 in
theorem rX8_in {E : mE} {M : mM} {v0 : Int64} {v2 : Int64} {v4 : Int64} {x : Int32} (h : fX8_in M v0 v2 v4 = some x) : EvC mX8_in E 0 0 0 [.long v0, .long v2, .long v4] M (some (.int x)) M := by
  unfold fX8_in at h
  refine EvC.of [some (.long v0), none, some (.long v2), none, some (.long v4), none] pnX8_in rfl (Nat.le_of_ble_eq_true rfl) ?_
  refine Ev_lload_n (x := v0) rfl dX8_in_0 ?_
  refine Ev_lload_n (x := v2) rfl dX8_in_1 ?_
  refine Ev_lcmp dX8_in_2 ?_
  refine Ev_if_lt (tgt := 17) dX8_in_3 (by decide) (fun q1 => ?_) (fun q1 => ?_)
  · rw [if_pos q1] at h
    refine Ev_iconst ic_0 dX8_in_17 ?_
    cases h
    exact Ev_iret rfl rfl dX8_in_18 ⟨rfl, rfl⟩
  · rw [if_neg q1] at h
    refine Ev_lload_n (x := v0) rfl dX8_in_6 ?_
    refine Ev_lload (x := v4) rfl dX8_in_7 ?_
    refine Ev_lcmp dX8_in_9 ?_
    refine Ev_if_gt (tgt := 17) dX8_in_10 (by decide) (fun q2 => ?_) (fun q2 => ?_)
    · rw [if_pos q2] at h
      refine Ev_iconst ic_0 dX8_in_17 ?_
      cases h
      exact Ev_iret rfl rfl dX8_in_18 ⟨rfl, rfl⟩
    · rw [if_neg q2] at h
      refine Ev_iconst ic_1 dX8_in_13 ?_
      refine Ev_goto (tgt := 18) dX8_in_14 (by decide) ?_
      cases h
      exact Ev_iret rfl rfl dX8_in_18 ⟨rfl, rfl⟩
/-! TinselRiverModel.has(II)Z -/
def fX8_has (M : mM) (v0 : Int32) (v1 : Int32) : Option Int32 :=
    if ((v0 >>> (v1 &&& 31)) &&& 1) = 1 then
      (some 1)
    else
      (some 0)
set_option maxRecDepth 20000 in
set_option maxHeartbeats 4000000 in
theorem rX8_has {E : mE} {M : mM} {v0 : Int32} {v1 : Int32} {x : Int32} (h : fX8_has M v0 v1 = some x) : EvC mX8_has E 0 0 0 [.int v0, .int v1] M (some (.int x)) M := by
  unfold fX8_has at h
  refine EvC.of [some (.int v0), some (.int v1)] pnX8_has rfl (Nat.le_of_ble_eq_true rfl) ?_
  refine Ev_iload_n (x := v0) rfl dX8_has_0 ?_
  refine Ev_iload_n (x := v1) rfl dX8_has_1 ?_
  refine Ev_ishr dX8_has_2 ?_
  refine Ev_iconst ic_1 dX8_has_3 ?_
  refine Ev_iand dX8_has_4 ?_
  refine Ev_iconst ic_1 dX8_has_5 ?_
  refine Ev_icmp_ne (tgt := 13) dX8_has_6 (by decide) (fun q1 => ?_) (fun q1 => ?_)
  · rw [if_neg q1] at h
    refine Ev_iconst ic_0 dX8_has_13 ?_
    cases h
    exact Ev_iret rfl rfl dX8_has_14 ⟨rfl, rfl⟩
  · rw [if_pos q1] at h
    refine Ev_iconst ic_1 dX8_has_9 ?_
    refine Ev_goto (tgt := 14) dX8_has_10 (by decide) ?_
    cases h
    exact Ev_iret rfl rfl dX8_has_14 ⟨rfl, rfl⟩
/-! TinselRiverModel.ones(I)I -/
def fX8_ones_c4 (M : mM) : Nat → Int32 → Int32 → Int32 → Option Int32
  | 0, _, _, _ => none
  | n + 1, v0, v1, v2 =>
    if 12 ≤ v2 then
      (some v1)
    else
      (fX8_ones_c4 M n v0 (v1 + ((v0 >>> (v2 &&& 31)) &&& 1)) (v2 + 1))
set_option maxRecDepth 20000 in
set_option maxHeartbeats 4000000 in
theorem rX8_ones_c4 {E : mE} {M : mM} {x : Int32} : ∀ (n : Nat) (v0 : Int32) (v1 : Int32) (v2 : Int32), fX8_ones_c4 M n v0 v1 v2 = some x → Ev mX8_ones E 0 0 0 (some (.int x)) M 4 [some (.int v0), some (.int v1), some (.int v2)] [] M 0 0 := by
  intro n
  induction n with
  | zero => intro v0 v1 v2 h; rw [fX8_ones_c4.eq_1] at h; cases h
  | succ n ih =>
    intro v0 v1 v2 h
    rw [fX8_ones_c4.eq_2] at h
    refine Ev_iload_n (x := v2) rfl dX8_ones_4 ?_
    refine Ev_bipush bp_12 dX8_ones_5 ?_
    refine Ev_icmp_ge (tgt := 24) dX8_ones_7 (by decide) (fun q1 => ?_) (fun q1 => ?_)
    · rw [if_pos q1] at h
      refine Ev_iload_n (x := v1) rfl dX8_ones_24 ?_
      cases h
      exact Ev_iret rfl rfl dX8_ones_25 ⟨rfl, rfl⟩
    · rw [if_neg q1] at h
      refine Ev_iload_n (x := v1) rfl dX8_ones_10 ?_
      refine Ev_iload_n (x := v0) rfl dX8_ones_11 ?_
      refine Ev_iload_n (x := v2) rfl dX8_ones_12 ?_
      refine Ev_ishr dX8_ones_13 ?_
      refine Ev_iconst ic_1 dX8_ones_14 ?_
      refine Ev_iand dX8_ones_15 ?_
      refine Ev_iadd dX8_ones_16 ?_
      refine Ev_istore_n (loc2 := [some (.int v0), some (.int (v1 + ((v0 >>> (v2 &&& 31)) &&& 1))), some (.int v2)]) (Nat.le_of_ble_eq_true rfl) rfl rfl dX8_ones_17 ?_
      refine Ev_iinc (x := v2) (v := (v2 + 1)) (loc2 := [some (.int v0), some (.int (v1 + ((v0 >>> (v2 &&& 31)) &&& 1))), some (.int (v2 + 1))]) rfl (congrArg (v2 + ·) ic_1) (Nat.le_of_ble_eq_true rfl) rfl rfl dX8_ones_18 ?_
      refine Ev_goto (tgt := 4) dX8_ones_21 (by decide) ?_
      exact ih v0 (v1 + ((v0 >>> (v2 &&& 31)) &&& 1)) (v2 + 1) h
def fX8_ones (M : mM) (v0 : Int32) : Option Int32 :=
    fX8_ones_c4 M FUEL v0 0 0
set_option maxRecDepth 20000 in
set_option maxHeartbeats 4000000 in
theorem rX8_ones {E : mE} {M : mM} {v0 : Int32} {x : Int32} (h : fX8_ones M v0 = some x) : EvC mX8_ones E 0 0 0 [.int v0] M (some (.int x)) M := by
  unfold fX8_ones at h
  refine EvC.of [some (.int v0), none, none] pnX8_ones rfl (Nat.le_of_ble_eq_true rfl) ?_
  refine Ev_iconst ic_0 dX8_ones_0 ?_
  refine Ev_istore_n (loc2 := [some (.int v0), some (.int 0), none]) (Nat.le_of_ble_eq_true rfl) rfl rfl dX8_ones_1 ?_
  refine Ev_iconst ic_0 dX8_ones_2 ?_
  refine Ev_istore_n (loc2 := [some (.int v0), some (.int 0), some (.int 0)]) (Nat.le_of_ble_eq_true rfl) rfl rfl dX8_ones_3 ?_
  exact rX8_ones_c4 FUEL v0 0 0 h
/-! TinselRiverModel.write(I)I -/
def fX8_write (M : mM) (v0 : Nat) (v1 : Int32) : Option (Int32 × mM) :=
    if isO M v0 8 = true then
      (fX8_in M (Int32.toInt64 v1) (0 : Int64) (255 : Int64)).bind fun x2 =>
      if x2 = 0 then
        (some ((-2), M))
      else
        ((gI M v0 8 8).bind fun x4 =>
        if x4 = 48 then
          (some ((-4), M))
        else
          ((gR M v0 8 7).bind fun a6 =>
          (gI M v0 8 8).bind fun x7 =>
          (aS M false a6 x7 v1).bind fun M8 =>
          (gI M8 v0 8 8).bind fun x9 =>
          (sV M8 v0 8 8 (.int (x9 + 1))).bind fun M10 =>
          (gI M10 v0 8 8).bind fun x11 =>
          some (x11, M10)))
    else none
theorem oX8_write {M : mM} {v0 : Nat} {v1 : Int32} {y : (Int32 × mM)} (h : fX8_write M v0 v1 = some y) : isO M v0 8 = true := by
  unfold fX8_write at h
  exact (gsome h).1
set_option maxRecDepth 20000 in
set_option maxHeartbeats 4000000 in
theorem rX8_write {E : mE} {M : mM} {v0 : Nat} {v1 : Int32} {x : Int32} {Mf : mM} (h : fX8_write M v0 v1 = some (x, Mf)) : EvC mX8_write E 1 0 0 [.ref v0, .int v1] M (some (.int x)) Mf := by
  unfold fX8_write at h
  replace h := (gsome h).2
  refine EvC.of [some (.ref v0), some (.int v1)] pnX8_write rfl (Nat.le_of_ble_eq_true rfl) ?_
  refine Ev_iload_n (x := v1) rfl dX8_write_0 ?_
  refine Ev_i2l dX8_write_1 ?_
  refine Ev_lconst (v := 0) (by decide) dX8_write_2 ?_
  refine Ev_ldc2 csX8_50 dX8_write_3 ?_
  obtain ⟨x2, g1, h⟩ := bsome h
  refine Ev_callSi (np := 3) (vs := [.long (Int32.toInt64 v1), .long (0 : Int64), .long (255 : Int64)]) (rest := []) mdX8_in lkX8_52 (rX8_in g1) rfl rfl (Nat.le_of_ble_eq_true rfl) (Nat.le_of_ble_eq_true rfl) dX8_write_6 ?_
  refine Ev_if_ne (tgt := 15) dX8_write_9 (by decide) (fun q3 => ?_) (fun q3 => ?_)
  · rw [if_neg q3] at h
    refine Ev_aload_n (x := v0) rfl dX8_write_15 ?_
    obtain ⟨x4, g4, h⟩ := bsome h
    refine Ev_getI flX8_56 dX8_write_16 g4 ?_
    refine Ev_bipush bp_48 dX8_write_19 ?_
    refine Ev_icmp_ne (tgt := 27) dX8_write_21 (by decide) (fun q5 => ?_) (fun q5 => ?_)
    · rw [if_neg q5] at h
      refine Ev_aload_n (x := v0) rfl dX8_write_27 ?_
      obtain ⟨a6, g6, h⟩ := bsome h
      refine Ev_getR flX8_25 dX8_write_28 g6 ?_
      refine Ev_aload_n (x := v0) rfl dX8_write_31 ?_
      obtain ⟨x7, g7, h⟩ := bsome h
      refine Ev_getI flX8_56 dX8_write_32 g7 ?_
      refine Ev_iload_n (x := v1) rfl dX8_write_35 ?_
      obtain ⟨M8, g8, h⟩ := bsome h
      refine Ev_iast dX8_write_36 g8 ?_
      refine Ev_aload_n (x := v0) rfl dX8_write_37 ?_
      refine Ev_dup rfl dX8_write_38 ?_
      obtain ⟨x9, g9, h⟩ := bsome h
      refine Ev_getI flX8_56 dX8_write_39 g9 ?_
      refine Ev_iconst ic_1 dX8_write_42 ?_
      refine Ev_iadd dX8_write_43 ?_
      obtain ⟨M10, g10, h⟩ := bsome h
      refine Ev_put (v := .int (x9 + 1)) flX8_56 ⟨rfl, rfl⟩ (fun q hq => by cases hq; exact Or.inl rfl) dX8_write_44 g10 ?_
      refine Ev_aload_n (x := v0) rfl dX8_write_47 ?_
      obtain ⟨x11, g11, h⟩ := bsome h
      refine Ev_getI flX8_56 dX8_write_48 g11 ?_
      cases h
      exact Ev_iret rfl rfl dX8_write_51 ⟨rfl, rfl⟩
    · rw [if_pos q5] at h
      refine Ev_bipush bp_m4 dX8_write_24 ?_
      cases h
      exact Ev_iret rfl rfl dX8_write_26 ⟨rfl, rfl⟩
  · rw [if_pos q3] at h
    refine Ev_bipush bp_m2 dX8_write_12 ?_
    cases h
    exact Ev_iret rfl rfl dX8_write_14 ⟨rfl, rfl⟩
/-! TinselRiverModel.wipe()I -/
def fX8_wipe (M : mM) (v0 : Nat) : Option (Int32 × mM) :=
    if isO M v0 8 = true then
      (gI M v0 8 8).bind fun x1 =>
      (sV M v0 8 8 (.int 0)).bind fun M2 =>
      some (x1, M2)
    else none
theorem oX8_wipe {M : mM} {v0 : Nat} {y : (Int32 × mM)} (h : fX8_wipe M v0 = some y) : isO M v0 8 = true := by
  unfold fX8_wipe at h
  exact (gsome h).1
set_option maxRecDepth 20000 in
set_option maxHeartbeats 4000000 in
theorem rX8_wipe {E : mE} {M : mM} {v0 : Nat} {x : Int32} {Mf : mM} (h : fX8_wipe M v0 = some (x, Mf)) : EvC mX8_wipe E 0 0 0 [.ref v0] M (some (.int x)) Mf := by
  unfold fX8_wipe at h
  replace h := (gsome h).2
  refine EvC.of [some (.ref v0), none] pnX8_wipe rfl (Nat.le_of_ble_eq_true rfl) ?_
  refine Ev_aload_n (x := v0) rfl dX8_wipe_0 ?_
  obtain ⟨x1, g1, h⟩ := bsome h
  refine Ev_getI flX8_56 dX8_wipe_1 g1 ?_
  refine Ev_istore_n (loc2 := [some (.ref v0), some (.int x1)]) (Nat.le_of_ble_eq_true rfl) rfl rfl dX8_wipe_4 ?_
  refine Ev_aload_n (x := v0) rfl dX8_wipe_5 ?_
  refine Ev_iconst ic_0 dX8_wipe_6 ?_
  obtain ⟨M2, g2, h⟩ := bsome h
  refine Ev_put (v := .int 0) flX8_56 ⟨rfl, rfl⟩ (fun q hq => by cases hq; exact Or.inl rfl) dX8_wipe_7 g2 ?_
  refine Ev_iload_n (x := x1) rfl dX8_wipe_10 ?_
  cases h
  exact Ev_iret rfl rfl dX8_wipe_11 ⟨rfl, rfl⟩
/-! TinselRiverModel.nextOf(II)I -/
def fX8_nextOf_c24 (M : mM) (v0 : Nat) (v1 : Int32) (v2 : Int32) : Option (Int32 × mM) :=
    (gI M v0 8 10).bind fun x3 =>
    if x3 = (-9) then
      ((gI M v0 8 9).bind fun x7 =>
      (sV M v0 8 10 (.int x7)).bind fun M8 =>
      some (0, M8))
    else
      ((gI M v0 8 10).bind fun x5 =>
      (sV M v0 8 10 (.int x5)).bind fun M6 =>
      some (0, M6))
set_option maxRecDepth 20000 in
set_option maxHeartbeats 4000000 in
theorem rX8_nextOf_c24 {E : mE} {x : Int32} {Mf : mM} (M : mM) (v0 : Nat) (v1 : Int32) (v2 : Int32) (h : fX8_nextOf_c24 M v0 v1 v2 = some (x, Mf)) : Ev mX8_nextOf E 1 0 0 (some (.int x)) Mf 24 [some (.ref v0), some (.int v1), some (.int v2), none, none] [] M 0 0 := by
  unfold fX8_nextOf_c24 at h
  refine Ev_iconst ic_0 dX8_nextOf_24 ?_
  refine Ev_istore_n (loc2 := [some (.ref v0), some (.int v1), some (.int v2), some (.int 0), none]) (Nat.le_of_ble_eq_true rfl) rfl rfl dX8_nextOf_25 ?_
  refine Ev_iload_n (x := 0) rfl dX8_nextOf_26 ?_
  refine Ev_if_eq (tgt := 44) dX8_nextOf_27 (by decide) (fun _ => ?_) (fun q1 => absurd q1 (by decide))
  refine Ev_iconst ic_0 dX8_nextOf_44 ?_
  refine Ev_istore (loc2 := [some (.ref v0), some (.int v1), some (.int v2), some (.int 0), some (.int 0)]) (Nat.le_of_ble_eq_true rfl) rfl rfl dX8_nextOf_45 ?_
  refine Ev_iload_n (x := 0) rfl dX8_nextOf_47 ?_
  refine Ev_if_eq (tgt := 63) dX8_nextOf_48 (by decide) (fun _ => ?_) (fun q2 => absurd q2 (by decide))
  refine Ev_aload_n (x := v0) rfl dX8_nextOf_63 ?_
  refine Ev_aload_n (x := v0) rfl dX8_nextOf_64 ?_
  obtain ⟨x3, g3, h⟩ := bsome h
  refine Ev_getI flX8_60 dX8_nextOf_65 g3 ?_
  refine Ev_bipush bp_m9 dX8_nextOf_68 ?_
  refine Ev_icmp_ne (tgt := 80) dX8_nextOf_70 (by decide) (fun q4 => ?_) (fun q4 => ?_)
  · rw [if_neg q4] at h
    refine Ev_aload_n (x := v0) rfl dX8_nextOf_80 ?_
    obtain ⟨x5, g5, h⟩ := bsome h
    refine Ev_getI flX8_60 dX8_nextOf_81 g5 ?_
    obtain ⟨M6, g6, h⟩ := bsome h
    refine Ev_put (v := .int x5) flX8_60 ⟨rfl, rfl⟩ (fun q hq => by cases hq; exact Or.inl rfl) dX8_nextOf_84 g6 ?_
    refine Ev_iconst ic_0 dX8_nextOf_87 ?_
    cases h
    exact Ev_iret rfl rfl dX8_nextOf_88 ⟨rfl, rfl⟩
  · rw [if_pos q4] at h
    refine Ev_aload_n (x := v0) rfl dX8_nextOf_73 ?_
    obtain ⟨x7, g7, h⟩ := bsome h
    refine Ev_getI flX8_63 dX8_nextOf_74 g7 ?_
    refine Ev_goto (tgt := 84) dX8_nextOf_77 (by decide) ?_
    obtain ⟨M8, g8, h⟩ := bsome h
    refine Ev_put (v := .int x7) flX8_60 ⟨rfl, rfl⟩ (fun q hq => by cases hq; exact Or.inl rfl) dX8_nextOf_84 g8 ?_
    refine Ev_iconst ic_0 dX8_nextOf_87 ?_
    cases h
    exact Ev_iret rfl rfl dX8_nextOf_88 ⟨rfl, rfl⟩
def fX8_nextOf (M : mM) (v0 : Nat) (v1 : Int32) (v2 : Int32) : Option (Int32 × mM) :=
    if isO M v0 8 = true then
      (gI M v0 8 10).bind fun x1 =>
      if x1 = (-9) then
        ((gI M v0 8 9).bind fun x3 =>
        (gI M v0 8 8).bind fun x4 =>
        if x4 ≤ x3 then
          (fX8_nextOf_c24 M v0 v1 v2)
        else
          ((gR M v0 8 7).bind fun a7 =>
          (gI M v0 8 9).bind fun x8 =>
          (aI M false a7 x8).bind fun x9 =>
          (fX8_in M (Int32.toInt64 (x9 - v1)) (0 : Int64) (Int32.toInt64 v2)).bind fun x12 =>
          if x12 = 0 then
            ((gI M v0 8 10).bind fun x16 =>
            if x16 = (-9) then
              ((gI M v0 8 9).bind fun x20 =>
              (sV M v0 8 10 (.int x20)).bind fun M21 =>
              some (0, M21))
            else
              ((gI M v0 8 10).bind fun x18 =>
              (sV M v0 8 10 (.int x18)).bind fun M19 =>
              some (0, M19)))
          else
            ((gI M v0 8 9).bind fun x14 =>
            (sV M v0 8 9 (.int (x14 + 1))).bind fun M15 =>
            some ((x9 - v1), M15))))
      else
        (fX8_nextOf_c24 M v0 v1 v2)
    else none
theorem oX8_nextOf {M : mM} {v0 : Nat} {v1 : Int32} {v2 : Int32} {y : (Int32 × mM)} (h : fX8_nextOf M v0 v1 v2 = some y) : isO M v0 8 = true := by
  unfold fX8_nextOf at h
  exact (gsome h).1
set_option maxRecDepth 20000 in
set_option maxHeartbeats 4000000 in
theorem rX8_nextOf {E : mE} {M : mM} {v0 : Nat} {v1 : Int32} {v2 : Int32} {x : Int32} {Mf : mM} (h : fX8_nextOf M v0 v1 v2 = some (x, Mf)) : EvC mX8_nextOf E 1 0 0 [.ref v0, .int v1, .int v2] M (some (.int x)) Mf := by
  unfold fX8_nextOf at h
  replace h := (gsome h).2
  refine EvC.of [some (.ref v0), some (.int v1), some (.int v2), none, none] pnX8_nextOf rfl (Nat.le_of_ble_eq_true rfl) ?_
  refine Ev_aload_n (x := v0) rfl dX8_nextOf_0 ?_
  obtain ⟨x1, g1, h⟩ := bsome h
  refine Ev_getI flX8_60 dX8_nextOf_1 g1 ?_
  refine Ev_bipush bp_m9 dX8_nextOf_4 ?_
  refine Ev_icmp_ne (tgt := 24) dX8_nextOf_6 (by decide) (fun q2 => ?_) (fun q2 => ?_)
  · rw [if_neg q2] at h
    exact rX8_nextOf_c24 M v0 v1 v2 h
  · rw [if_pos q2] at h
    refine Ev_aload_n (x := v0) rfl dX8_nextOf_9 ?_
    obtain ⟨x3, g3, h⟩ := bsome h
    refine Ev_getI flX8_63 dX8_nextOf_10 g3 ?_
    refine Ev_aload_n (x := v0) rfl dX8_nextOf_13 ?_
    obtain ⟨x4, g4, h⟩ := bsome h
    refine Ev_getI flX8_56 dX8_nextOf_14 g4 ?_
    refine Ev_icmp_ge (tgt := 24) dX8_nextOf_17 (by decide) (fun q5 => ?_) (fun q5 => ?_)
    · rw [if_pos q5] at h
      exact rX8_nextOf_c24 M v0 v1 v2 h
    · rw [if_neg q5] at h
      refine Ev_iconst ic_1 dX8_nextOf_20 ?_
      refine Ev_goto (tgt := 25) dX8_nextOf_21 (by decide) ?_
      refine Ev_istore_n (loc2 := [some (.ref v0), some (.int v1), some (.int v2), some (.int 1), none]) (Nat.le_of_ble_eq_true rfl) rfl rfl dX8_nextOf_25 ?_
      refine Ev_iload_n (x := 1) rfl dX8_nextOf_26 ?_
      refine Ev_if_eq (tgt := 44) dX8_nextOf_27 (by decide) (fun q6 => absurd q6 (by decide)) (fun _ => ?_)
      refine Ev_aload_n (x := v0) rfl dX8_nextOf_30 ?_
      obtain ⟨a7, g7, h⟩ := bsome h
      refine Ev_getR flX8_25 dX8_nextOf_31 g7 ?_
      refine Ev_aload_n (x := v0) rfl dX8_nextOf_34 ?_
      obtain ⟨x8, g8, h⟩ := bsome h
      refine Ev_getI flX8_63 dX8_nextOf_35 g8 ?_
      obtain ⟨x9, g9, h⟩ := bsome h
      refine Ev_iald dX8_nextOf_38 g9 ?_
      refine Ev_iload_n (x := v1) rfl dX8_nextOf_39 ?_
      refine Ev_isub dX8_nextOf_40 ?_
      refine Ev_goto (tgt := 45) dX8_nextOf_41 (by decide) ?_
      refine Ev_istore (loc2 := [some (.ref v0), some (.int v1), some (.int v2), some (.int 1), some (.int (x9 - v1))]) (Nat.le_of_ble_eq_true rfl) rfl rfl dX8_nextOf_45 ?_
      refine Ev_iload_n (x := 1) rfl dX8_nextOf_47 ?_
      refine Ev_if_eq (tgt := 63) dX8_nextOf_48 (by decide) (fun q10 => absurd q10 (by decide)) (fun _ => ?_)
      refine Ev_iload (x := (x9 - v1)) rfl dX8_nextOf_51 ?_
      refine Ev_i2l dX8_nextOf_53 ?_
      refine Ev_lconst (v := 0) (by decide) dX8_nextOf_54 ?_
      refine Ev_iload_n (x := v2) rfl dX8_nextOf_55 ?_
      refine Ev_i2l dX8_nextOf_56 ?_
      obtain ⟨x12, g11, h⟩ := bsome h
      refine Ev_callSi (np := 3) (vs := [.long (Int32.toInt64 (x9 - v1)), .long (0 : Int64), .long (Int32.toInt64 v2)]) (rest := []) mdX8_in lkX8_52 (rX8_in g11) rfl rfl (Nat.le_of_ble_eq_true rfl) (Nat.le_of_ble_eq_true rfl) dX8_nextOf_57 ?_
      refine Ev_if_ne (tgt := 89) dX8_nextOf_60 (by decide) (fun q13 => ?_) (fun q13 => ?_)
      · rw [if_neg q13] at h
        refine Ev_aload_n (x := v0) rfl dX8_nextOf_89 ?_
        refine Ev_dup rfl dX8_nextOf_90 ?_
        obtain ⟨x14, g14, h⟩ := bsome h
        refine Ev_getI flX8_63 dX8_nextOf_91 g14 ?_
        refine Ev_iconst ic_1 dX8_nextOf_94 ?_
        refine Ev_iadd dX8_nextOf_95 ?_
        obtain ⟨M15, g15, h⟩ := bsome h
        refine Ev_put (v := .int (x14 + 1)) flX8_63 ⟨rfl, rfl⟩ (fun q hq => by cases hq; exact Or.inl rfl) dX8_nextOf_96 g15 ?_
        refine Ev_iload (x := (x9 - v1)) rfl dX8_nextOf_99 ?_
        cases h
        exact Ev_iret rfl rfl dX8_nextOf_101 ⟨rfl, rfl⟩
      · rw [if_pos q13] at h
        refine Ev_aload_n (x := v0) rfl dX8_nextOf_63 ?_
        refine Ev_aload_n (x := v0) rfl dX8_nextOf_64 ?_
        obtain ⟨x16, g16, h⟩ := bsome h
        refine Ev_getI flX8_60 dX8_nextOf_65 g16 ?_
        refine Ev_bipush bp_m9 dX8_nextOf_68 ?_
        refine Ev_icmp_ne (tgt := 80) dX8_nextOf_70 (by decide) (fun q17 => ?_) (fun q17 => ?_)
        · rw [if_neg q17] at h
          refine Ev_aload_n (x := v0) rfl dX8_nextOf_80 ?_
          obtain ⟨x18, g18, h⟩ := bsome h
          refine Ev_getI flX8_60 dX8_nextOf_81 g18 ?_
          obtain ⟨M19, g19, h⟩ := bsome h
          refine Ev_put (v := .int x18) flX8_60 ⟨rfl, rfl⟩ (fun q hq => by cases hq; exact Or.inl rfl) dX8_nextOf_84 g19 ?_
          refine Ev_iconst ic_0 dX8_nextOf_87 ?_
          cases h
          exact Ev_iret rfl rfl dX8_nextOf_88 ⟨rfl, rfl⟩
        · rw [if_pos q17] at h
          refine Ev_aload_n (x := v0) rfl dX8_nextOf_73 ?_
          obtain ⟨x20, g20, h⟩ := bsome h
          refine Ev_getI flX8_63 dX8_nextOf_74 g20 ?_
          refine Ev_goto (tgt := 84) dX8_nextOf_77 (by decide) ?_
          obtain ⟨M21, g21, h⟩ := bsome h
          refine Ev_put (v := .int x20) flX8_60 ⟨rfl, rfl⟩ (fun q hq => by cases hq; exact Or.inl rfl) dX8_nextOf_84 g21 ?_
          refine Ev_iconst ic_0 dX8_nextOf_87 ?_
          cases h
          exact Ev_iret rfl rfl dX8_nextOf_88 ⟨rfl, rfl⟩
/-! TinselRiverModel.isBend()Z -/
def fX8_isBend (M : mM) (v0 : Nat) : Option Int32 :=
    if isO M v0 8 = true then
      (gI M v0 8 10).bind fun x1 =>
      if x1 = (-9) then
        ((gI M v0 8 9).bind fun x3 =>
        (gI M v0 8 8).bind fun x4 =>
        if x4 ≤ x3 then
          (some 0)
        else
          ((gR M v0 8 7).bind fun a6 =>
          (gI M v0 8 9).bind fun x7 =>
          (aI M false a6 x7).bind fun x8 =>
          (fX8_in M (Int32.toInt64 x8) (97 : Int64) (100 : Int64)).bind fun x10 =>
          if x10 = 0 then
            (some 0)
          else
            (some 1)))
      else
        (some 0)
    else none
theorem oX8_isBend {M : mM} {v0 : Nat} {y : Int32} (h : fX8_isBend M v0 = some y) : isO M v0 8 = true := by
  unfold fX8_isBend at h
  exact (gsome h).1
set_option maxRecDepth 20000 in
set_option maxHeartbeats 4000000 in
theorem rX8_isBend {E : mE} {M : mM} {v0 : Nat} {x : Int32} (h : fX8_isBend M v0 = some x) : EvC mX8_isBend E 1 0 0 [.ref v0] M (some (.int x)) M := by
  unfold fX8_isBend at h
  replace h := (gsome h).2
  refine EvC.of [some (.ref v0)] pnX8_isBend rfl (Nat.le_of_ble_eq_true rfl) ?_
  refine Ev_aload_n (x := v0) rfl dX8_isBend_0 ?_
  obtain ⟨x1, g1, h⟩ := bsome h
  refine Ev_getI flX8_60 dX8_isBend_1 g1 ?_
  refine Ev_bipush bp_m9 dX8_isBend_4 ?_
  refine Ev_icmp_ne (tgt := 46) dX8_isBend_6 (by decide) (fun q2 => ?_) (fun q2 => ?_)
  · rw [if_neg q2] at h
    refine Ev_iconst ic_0 dX8_isBend_46 ?_
    cases h
    exact Ev_iret rfl rfl dX8_isBend_47 ⟨rfl, rfl⟩
  · rw [if_pos q2] at h
    refine Ev_aload_n (x := v0) rfl dX8_isBend_9 ?_
    obtain ⟨x3, g3, h⟩ := bsome h
    refine Ev_getI flX8_63 dX8_isBend_10 g3 ?_
    refine Ev_aload_n (x := v0) rfl dX8_isBend_13 ?_
    obtain ⟨x4, g4, h⟩ := bsome h
    refine Ev_getI flX8_56 dX8_isBend_14 g4 ?_
    refine Ev_icmp_ge (tgt := 46) dX8_isBend_17 (by decide) (fun q5 => ?_) (fun q5 => ?_)
    · rw [if_pos q5] at h
      refine Ev_iconst ic_0 dX8_isBend_46 ?_
      cases h
      exact Ev_iret rfl rfl dX8_isBend_47 ⟨rfl, rfl⟩
    · rw [if_neg q5] at h
      refine Ev_aload_n (x := v0) rfl dX8_isBend_20 ?_
      obtain ⟨a6, g6, h⟩ := bsome h
      refine Ev_getR flX8_25 dX8_isBend_21 g6 ?_
      refine Ev_aload_n (x := v0) rfl dX8_isBend_24 ?_
      obtain ⟨x7, g7, h⟩ := bsome h
      refine Ev_getI flX8_63 dX8_isBend_25 g7 ?_
      obtain ⟨x8, g8, h⟩ := bsome h
      refine Ev_iald dX8_isBend_28 g8 ?_
      refine Ev_i2l dX8_isBend_29 ?_
      refine Ev_ldc2 csX8_66 dX8_isBend_30 ?_
      refine Ev_ldc2 csX8_68 dX8_isBend_33 ?_
      obtain ⟨x10, g9, h⟩ := bsome h
      refine Ev_callSi (np := 3) (vs := [.long (Int32.toInt64 x8), .long (97 : Int64), .long (100 : Int64)]) (rest := []) mdX8_in lkX8_52 (rX8_in g9) rfl rfl (Nat.le_of_ble_eq_true rfl) (Nat.le_of_ble_eq_true rfl) dX8_isBend_36 ?_
      refine Ev_if_eq (tgt := 46) dX8_isBend_39 (by decide) (fun q11 => ?_) (fun q11 => ?_)
      · rw [if_pos q11] at h
        refine Ev_iconst ic_0 dX8_isBend_46 ?_
        cases h
        exact Ev_iret rfl rfl dX8_isBend_47 ⟨rfl, rfl⟩
      · rw [if_neg q11] at h
        refine Ev_iconst ic_1 dX8_isBend_42 ?_
        refine Ev_goto (tgt := 47) dX8_isBend_43 (by decide) ?_
        cases h
        exact Ev_iret rfl rfl dX8_isBend_47 ⟨rfl, rfl⟩
