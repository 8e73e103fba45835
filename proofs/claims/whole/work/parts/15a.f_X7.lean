/-! printed by wip/whole/gen.py -/
/-! TinselRiver.<init>()V -/
def fX7_init (M : mM) (v0 : Nat) : Option mM :=
    if isO M v0 7 = true then
      (some (M ++ [.inl (5, dfX5)])).bind fun M1 =>
      (fX5_init M1 (List.length M)).bind fun M2 =>
      (sV M2 v0 7 0 (.ref (List.length M))).bind fun M3 =>
      (some (M3 ++ [.inl (6, dfX6)])).bind fun M4 =>
      (fX6_init M4 (List.length M3)).bind fun M5 =>
      (sV M5 v0 7 1 (.ref (List.length M3))).bind fun M6 =>
      (some (M6 ++ [.inl (6, dfX6)])).bind fun M7 =>
      (fX6_init M7 (List.length M6)).bind fun M8 =>
      (sV M8 v0 7 2 (.ref (List.length M6))).bind fun M9 =>
      (some (M9 ++ [.inl (0, dfX0)])).bind fun M10 =>
      (fX0_init M10 (List.length M9)).bind fun M11 =>
      (sV M11 v0 7 3 (.ref (List.length M9))).bind fun M12 =>
      (some (M12 ++ [.inl (3, dfX3)])).bind fun M13 =>
      (fX3_init M13 (List.length M12)).bind fun M14 =>
      (sV M14 v0 7 4 (.ref (List.length M12))).bind fun M15 =>
      (some (M15 ++ [.inl (1, dfX1)])).bind fun M16 =>
      (fX1_init M16 (List.length M15)).bind fun M17 =>
      (sV M17 v0 7 5 (.ref (List.length M15))).bind fun M18 =>
      (some (M18 ++ [.inl (2, dfX2)])).bind fun M19 =>
      (fX2_init_12 M19 (List.length M18)).bind fun M20 =>
      (sV M20 v0 7 6 (.ref (List.length M18))).bind fun M21 =>
      (some (M21 ++ [.inl (2, dfX2)])).bind fun M22 =>
      (fX2_init_48 M22 (List.length M21)).bind fun M23 =>
      (sV M23 v0 7 7 (.ref (List.length M21))).bind fun M24 =>
      (some (M24 ++ [.inl (2, dfX2)])).bind fun M25 =>
      (fX2_init_12 M25 (List.length M24)).bind fun M26 =>
      (sV M26 v0 7 8 (.ref (List.length M24))).bind fun M27 =>
      (some (M27 ++ [.inr (.inl (false, List.replicate 4 0))])).bind fun M28 =>
      (sV M28 v0 7 9 (.ref (List.length M27))).bind fun M29 =>
      (some (M29 ++ [.inr (.inl (false, List.replicate 16 0))])).bind fun M30 =>
      (sV M30 v0 7 10 (.ref (List.length M29))).bind fun M31 =>
      (some (M31 ++ [.inr (.inl (false, List.replicate 16 0))])).bind fun M32 =>
      (sV M32 v0 7 11 (.ref (List.length M31))).bind fun M33 =>
      (sV M33 v0 7 12 (.long (0 : Int64))).bind fun M34 =>
      some M34
    else none
theorem oX7_init {M : mM} {v0 : Nat} {y : mM} (h : fX7_init M v0 = some y) : isO M v0 7 = true := by
  unfold fX7_init at h
  exact (gsome h).1
set_option maxRecDepth 20000 in
set_option maxHeartbeats 4000000 in
theorem rX7_init {E : mE} {M : mM} {v0 : Nat} {Mf : mM} (h : fX7_init M v0 = some Mf) : EvC mX7_init E 5 270 1550 [.ref v0] M none Mf := by
  unfold fX7_init at h
  replace h := (gsome h).2
  refine EvC.of [some (.ref v0)] pnX7_init rfl (Nat.le_of_ble_eq_true rfl) ?_
  refine Ev_aload_n (x := v0) rfl dX7_init_0 ?_
  refine Ev_objInit lkX7_1 md_oi1 md_oi2 (Nat.le_of_ble_eq_true rfl) (Nat.le_of_ble_eq_true rfl) dX7_init_1 ?_
  refine Ev_aload_n (x := v0) rfl dX7_init_4 ?_
  obtain ⟨M1, g1, h⟩ := bsome h
  refine Ev_new_e (ci := 5) (q := (RX5, TX5, 2)) (fs := dfX5) rfl clX7_7 inX5 iniX5 rfl dfX5_ok rfl (Nat.le_of_ble_eq_true rfl) (Nat.le_of_ble_eq_true rfl) (Option.some.inj g1) dX7_init_5 ?_
  refine Ev_dup rfl dX7_init_8 ?_
  obtain ⟨M2, g2, h⟩ := bsome h
  refine Ev_callI (np := 0) (vs := []) (rest := [.ref (List.length M), .ref v0]) mdX5_init (Or.inr lkX7_9) (rX5_init g2) rfl rfl (Nat.le_of_ble_eq_true rfl) (Nat.le_of_ble_eq_true rfl) (Nat.le_of_ble_eq_true rfl) (Nat.le_of_ble_eq_true rfl) dX7_init_9 ?_
  obtain ⟨M3, g3, h⟩ := bsome h
  refine Ev_put (v := .ref (List.length M)) flX7_10 ⟨rfl, rfl⟩ (fun q hq => by cases hq; exact Or.inr ⟨rfl, rfl, rfl, _, mT0_tbl (i := 152) (by decide +kernel) (by decide +kernel), rfl⟩) dX7_init_12 g3 ?_
  refine Ev_aload_n (x := v0) rfl dX7_init_15 ?_
  obtain ⟨M4, g4, h⟩ := bsome h
  refine Ev_new_e (ci := 6) (q := (RX6, TX6, 3)) (fs := dfX6) rfl clX7_16 inX6 iniX6 rfl dfX6_ok rfl (Nat.le_of_ble_eq_true rfl) (Nat.le_of_ble_eq_true rfl) (Option.some.inj g4) dX7_init_16 ?_
  refine Ev_dup rfl dX7_init_19 ?_
  obtain ⟨M5, g5, h⟩ := bsome h
  refine Ev_callI (np := 0) (vs := []) (rest := [.ref (List.length M3), .ref v0]) mdX6_init (Or.inl lkX7_18) (rX6_init g5) rfl rfl (Nat.le_of_ble_eq_true rfl) (Nat.le_of_ble_eq_true rfl) (Nat.le_of_ble_eq_true rfl) (Nat.le_of_ble_eq_true rfl) dX7_init_20 ?_
  obtain ⟨M6, g6, h⟩ := bsome h
  refine Ev_put (v := .ref (List.length M3)) flX7_19 ⟨rfl, rfl⟩ (fun q hq => by cases hq; exact Or.inr ⟨rfl, rfl, rfl, _, mT0_tbl (i := 153) (by decide +kernel) (by decide +kernel), rfl⟩) dX7_init_23 g6 ?_
  refine Ev_aload_n (x := v0) rfl dX7_init_26 ?_
  obtain ⟨M7, g7, h⟩ := bsome h
  refine Ev_new_e (ci := 6) (q := (RX6, TX6, 3)) (fs := dfX6) rfl clX7_16 inX6 iniX6 rfl dfX6_ok rfl (Nat.le_of_ble_eq_true rfl) (Nat.le_of_ble_eq_true rfl) (Option.some.inj g7) dX7_init_27 ?_
  refine Ev_dup rfl dX7_init_30 ?_
  obtain ⟨M8, g8, h⟩ := bsome h
  refine Ev_callI (np := 0) (vs := []) (rest := [.ref (List.length M6), .ref v0]) mdX6_init (Or.inl lkX7_18) (rX6_init g8) rfl rfl (Nat.le_of_ble_eq_true rfl) (Nat.le_of_ble_eq_true rfl) (Nat.le_of_ble_eq_true rfl) (Nat.le_of_ble_eq_true rfl) dX7_init_31 ?_
  obtain ⟨M9, g9, h⟩ := bsome h
  refine Ev_put (v := .ref (List.length M6)) flX7_23 ⟨rfl, rfl⟩ (fun q hq => by cases hq; exact Or.inr ⟨rfl, rfl, rfl, _, mT0_tbl (i := 154) (by decide +kernel) (by decide +kernel), rfl⟩) dX7_init_34 g9 ?_
  refine Ev_aload_n (x := v0) rfl dX7_init_37 ?_
  obtain ⟨M10, g10, h⟩ := bsome h
  refine Ev_new_e (ci := 0) (q := (RX0, TX0, 3)) (fs := dfX0) rfl clX7_26 inX0 iniX0 rfl dfX0_ok rfl (Nat.le_of_ble_eq_true rfl) (Nat.le_of_ble_eq_true rfl) (Option.some.inj g10) dX7_init_38 ?_
  refine Ev_dup rfl dX7_init_41 ?_
  obtain ⟨M11, g11, h⟩ := bsome h
  refine Ev_callI (np := 0) (vs := []) (rest := [.ref (List.length M9), .ref v0]) mdX0_init (Or.inl lkX7_28) (rX0_init g11) rfl rfl (Nat.le_of_ble_eq_true rfl) (Nat.le_of_ble_eq_true rfl) (Nat.le_of_ble_eq_true rfl) (Nat.le_of_ble_eq_true rfl) dX7_init_42 ?_
  obtain ⟨M12, g12, h⟩ := bsome h
  refine Ev_put (v := .ref (List.length M9)) flX7_29 ⟨rfl, rfl⟩ (fun q hq => by cases hq; exact Or.inr ⟨rfl, rfl, rfl, _, mT0_tbl (i := 155) (by decide +kernel) (by decide +kernel), rfl⟩) dX7_init_45 g12 ?_
  refine Ev_aload_n (x := v0) rfl dX7_init_48 ?_
  obtain ⟨M13, g13, h⟩ := bsome h
  refine Ev_new_e (ci := 3) (q := (RX3, TX3, 2)) (fs := dfX3) rfl clX7_33 inX3 iniX3 rfl dfX3_ok rfl (Nat.le_of_ble_eq_true rfl) (Nat.le_of_ble_eq_true rfl) (Option.some.inj g13) dX7_init_49 ?_
  refine Ev_dup rfl dX7_init_52 ?_
  obtain ⟨M14, g14, h⟩ := bsome h
  refine Ev_callI (np := 0) (vs := []) (rest := [.ref (List.length M12), .ref v0]) mdX3_init (Or.inl lkX7_35) (rX3_init g14) rfl rfl (Nat.le_of_ble_eq_true rfl) (Nat.le_of_ble_eq_true rfl) (Nat.le_of_ble_eq_true rfl) (Nat.le_of_ble_eq_true rfl) dX7_init_53 ?_
  obtain ⟨M15, g15, h⟩ := bsome h
  refine Ev_put (v := .ref (List.length M12)) flX7_36 ⟨rfl, rfl⟩ (fun q hq => by cases hq; exact Or.inr ⟨rfl, rfl, rfl, _, mT0_tbl (i := 156) (by decide +kernel) (by decide +kernel), rfl⟩) dX7_init_56 g15 ?_
  refine Ev_aload_n (x := v0) rfl dX7_init_59 ?_
  obtain ⟨M16, g16, h⟩ := bsome h
  refine Ev_new_e (ci := 1) (q := (RX1, TX1, 3)) (fs := dfX1) rfl clX7_40 inX1 iniX1 rfl dfX1_ok rfl (Nat.le_of_ble_eq_true rfl) (Nat.le_of_ble_eq_true rfl) (Option.some.inj g16) dX7_init_60 ?_
  refine Ev_dup rfl dX7_init_63 ?_
  obtain ⟨M17, g17, h⟩ := bsome h
  refine Ev_callI (np := 0) (vs := []) (rest := [.ref (List.length M15), .ref v0]) mdX1_init (Or.inr lkX7_42) (rX1_init g17) rfl rfl (Nat.le_of_ble_eq_true rfl) (Nat.le_of_ble_eq_true rfl) (Nat.le_of_ble_eq_true rfl) (Nat.le_of_ble_eq_true rfl) dX7_init_64 ?_
  obtain ⟨M18, g18, h⟩ := bsome h
  refine Ev_put (v := .ref (List.length M15)) flX7_43 ⟨rfl, rfl⟩ (fun q hq => by cases hq; exact Or.inr ⟨rfl, rfl, rfl, _, mT0_tbl (i := 157) (by decide +kernel) (by decide +kernel), rfl⟩) dX7_init_67 g18 ?_
  refine Ev_aload_n (x := v0) rfl dX7_init_70 ?_
  obtain ⟨M19, g19, h⟩ := bsome h
  refine Ev_new_e (ci := 2) (q := (RX2, TX2, 2)) (fs := dfX2) rfl clX7_47 inX2 iniX2 rfl dfX2_ok rfl (Nat.le_of_ble_eq_true rfl) (Nat.le_of_ble_eq_true rfl) (Option.some.inj g19) dX7_init_71 ?_
  refine Ev_dup rfl dX7_init_74 ?_
  refine Ev_bipush bp_12 dX7_init_75 ?_
  obtain ⟨M20, g20, h⟩ := bsome h
  refine Ev_callI (np := 1) (vs := [.int 12]) (rest := [.ref (List.length M18), .ref v0]) mdX2_init (Or.inl lkX7_49) (rX2_init_12 g20) rfl rfl (Nat.le_of_ble_eq_true rfl) (Nat.le_of_ble_eq_true rfl) (Nat.le_of_ble_eq_true rfl) (Nat.le_of_ble_eq_true rfl) dX7_init_77 ?_
  obtain ⟨M21, g21, h⟩ := bsome h
  refine Ev_put (v := .ref (List.length M18)) flX7_52 ⟨rfl, rfl⟩ (fun q hq => by cases hq; exact Or.inr ⟨rfl, rfl, rfl, _, mT0_tbl (i := 158) (by decide +kernel) (by decide +kernel), rfl⟩) dX7_init_80 g21 ?_
  refine Ev_aload_n (x := v0) rfl dX7_init_83 ?_
  obtain ⟨M22, g22, h⟩ := bsome h
  refine Ev_new_e (ci := 2) (q := (RX2, TX2, 2)) (fs := dfX2) rfl clX7_47 inX2 iniX2 rfl dfX2_ok rfl (Nat.le_of_ble_eq_true rfl) (Nat.le_of_ble_eq_true rfl) (Option.some.inj g22) dX7_init_84 ?_
  refine Ev_dup rfl dX7_init_87 ?_
  refine Ev_bipush bp_48 dX7_init_88 ?_
  obtain ⟨M23, g23, h⟩ := bsome h
  refine Ev_callI (np := 1) (vs := [.int 48]) (rest := [.ref (List.length M21), .ref v0]) mdX2_init (Or.inl lkX7_49) (rX2_init_48 g23) rfl rfl (Nat.le_of_ble_eq_true rfl) (Nat.le_of_ble_eq_true rfl) (Nat.le_of_ble_eq_true rfl) (Nat.le_of_ble_eq_true rfl) dX7_init_90 ?_
  obtain ⟨M24, g24, h⟩ := bsome h
  refine Ev_put (v := .ref (List.length M21)) flX7_56 ⟨rfl, rfl⟩ (fun q hq => by cases hq; exact Or.inr ⟨rfl, rfl, rfl, _, mT0_tbl (i := 159) (by decide +kernel) (by decide +kernel), rfl⟩) dX7_init_93 g24 ?_
  refine Ev_aload_n (x := v0) rfl dX7_init_96 ?_
  obtain ⟨M25, g25, h⟩ := bsome h
  refine Ev_new_e (ci := 2) (q := (RX2, TX2, 2)) (fs := dfX2) rfl clX7_47 inX2 iniX2 rfl dfX2_ok rfl (Nat.le_of_ble_eq_true rfl) (Nat.le_of_ble_eq_true rfl) (Option.some.inj g25) dX7_init_97 ?_
  refine Ev_dup rfl dX7_init_100 ?_
  refine Ev_bipush bp_12 dX7_init_101 ?_
  obtain ⟨M26, g26, h⟩ := bsome h
  refine Ev_callI (np := 1) (vs := [.int 12]) (rest := [.ref (List.length M24), .ref v0]) mdX2_init (Or.inl lkX7_49) (rX2_init_12 g26) rfl rfl (Nat.le_of_ble_eq_true rfl) (Nat.le_of_ble_eq_true rfl) (Nat.le_of_ble_eq_true rfl) (Nat.le_of_ble_eq_true rfl) dX7_init_103 ?_
  obtain ⟨M27, g27, h⟩ := bsome h
  refine Ev_put (v := .ref (List.length M24)) flX7_59 ⟨rfl, rfl⟩ (fun q hq => by cases hq; exact Or.inr ⟨rfl, rfl, rfl, _, mT0_tbl (i := 160) (by decide +kernel) (by decide +kernel), rfl⟩) dX7_init_106 g27 ?_
  refine Ev_aload_n (x := v0) rfl dX7_init_109 ?_
  refine Ev_iconst ic_4 dX7_init_110 ?_
  obtain ⟨M28, g28, h⟩ := bsome h
  refine Ev_newa_e (z := false) (N := 4) rfl ac_int (by decide) (by decide) (Nat.le_of_ble_eq_true rfl) (Nat.le_of_ble_eq_true rfl) (Nat.le_of_ble_eq_true rfl) (Option.some.inj g28) dX7_init_111 ?_
  obtain ⟨M29, g29, h⟩ := bsome h
  refine Ev_put (v := .ref (List.length M27)) flX7_62 ⟨rfl, rfl⟩ (fun q hq => by cases hq; exact Or.inr ⟨rfl, rfl, rfl, _, mT0_tbl (i := 161) (by decide +kernel) (by decide +kernel), rfl⟩) dX7_init_113 g29 ?_
  refine Ev_aload_n (x := v0) rfl dX7_init_116 ?_
  refine Ev_bipush bp_16 dX7_init_117 ?_
  obtain ⟨M30, g30, h⟩ := bsome h
  refine Ev_newa_e (z := false) (N := 16) rfl ac_int (by decide) (by decide) (Nat.le_of_ble_eq_true rfl) (Nat.le_of_ble_eq_true rfl) (Nat.le_of_ble_eq_true rfl) (Option.some.inj g30) dX7_init_119 ?_
  obtain ⟨M31, g31, h⟩ := bsome h
  refine Ev_put (v := .ref (List.length M29)) flX7_66 ⟨rfl, rfl⟩ (fun q hq => by cases hq; exact Or.inr ⟨rfl, rfl, rfl, _, mT0_tbl (i := 162) (by decide +kernel) (by decide +kernel), rfl⟩) dX7_init_121 g31 ?_
  refine Ev_aload_n (x := v0) rfl dX7_init_124 ?_
  refine Ev_bipush bp_16 dX7_init_125 ?_
  obtain ⟨M32, g32, h⟩ := bsome h
  refine Ev_newa_e (z := false) (N := 16) rfl ac_int (by decide) (by decide) (Nat.le_of_ble_eq_true rfl) (Nat.le_of_ble_eq_true rfl) (Nat.le_of_ble_eq_true rfl) (Option.some.inj g32) dX7_init_127 ?_
  obtain ⟨M33, g33, h⟩ := bsome h
  refine Ev_put (v := .ref (List.length M31)) flX7_69 ⟨rfl, rfl⟩ (fun q hq => by cases hq; exact Or.inr ⟨rfl, rfl, rfl, _, mT0_tbl (i := 163) (by decide +kernel) (by decide +kernel), rfl⟩) dX7_init_129 g33 ?_
  refine Ev_aload_n (x := v0) rfl dX7_init_132 ?_
  refine Ev_lconst (v := 0) (by decide) dX7_init_133 ?_
  obtain ⟨M34, g34, h⟩ := bsome h
  refine Ev_put (v := .long (0 : Int64)) flX7_72 ⟨rfl, rfl⟩ (fun q hq => by cases hq; exact Or.inl rfl) dX7_init_134 g34 ?_
  cases h
  exact Ev_vret rfl dX7_init_137 ⟨rfl, rfl⟩
/-! TinselRiver.write(I)I -/
def fX7_write (M : mM) (v0 : Nat) (v1 : Int32) : Option (Int32 × mM) :=
    if isO M v0 7 = true then
      if v1 < 0 then
        (some ((-2), M))
      else
        (if v1 ≤ 255 then
          ((gR M v0 7 0).bind fun a3 =>
          (fX5_add M a3 v1).bind fun p5 =>
          some (p5.1, p5.2))
        else
          (some ((-2), M)))
    else none
theorem oX7_write {M : mM} {v0 : Nat} {v1 : Int32} {y : (Int32 × mM)} (h : fX7_write M v0 v1 = some y) : isO M v0 7 = true := by
  unfold fX7_write at h
  exact (gsome h).1
set_option maxRecDepth 20000 in
set_option maxHeartbeats 4000000 in
theorem rX7_write {E : mE} {M : mM} {v0 : Nat} {v1 : Int32} {x : Int32} {Mf : mM} (h : fX7_write M v0 v1 = some (x, Mf)) : EvC mX7_write E 1 0 0 [.ref v0, .int v1] M (some (.int x)) Mf := by
  unfold fX7_write at h
  replace h := (gsome h).2
  refine EvC.of [some (.ref v0), some (.int v1)] pnX7_write rfl (Nat.le_of_ble_eq_true rfl) ?_
  refine Ev_iload_n (x := v1) rfl dX7_write_0 ?_
  refine Ev_if_lt (tgt := 11) dX7_write_1 (by decide) (fun q1 => ?_) (fun q1 => ?_)
  · rw [if_pos q1] at h
    refine Ev_bipush bp_m2 dX7_write_11 ?_
    cases h
    exact Ev_iret rfl rfl dX7_write_13 ⟨rfl, rfl⟩
  · rw [if_neg q1] at h
    refine Ev_iload_n (x := v1) rfl dX7_write_4 ?_
    refine Ev_sipush sp_255 dX7_write_5 ?_
    refine Ev_icmp_le (tgt := 14) dX7_write_8 (by decide) (fun q2 => ?_) (fun q2 => ?_)
    · rw [if_pos q2] at h
      refine Ev_aload_n (x := v0) rfl dX7_write_14 ?_
      obtain ⟨a3, g3, h⟩ := bsome h
      refine Ev_getR flX7_10 dX7_write_15 g3 ?_
      refine Ev_iload_n (x := v1) rfl dX7_write_18 ?_
      obtain ⟨p5, g4, h⟩ := bsome h
      refine Ev_callVi (np := 1) (vs := [.int v1]) (rest := []) mdX5_add lkX7_76 ⟨_, rfl, rfl⟩ (oX5_add g4) (rX5_add g4) rfl rfl (Nat.le_of_ble_eq_true rfl) (Nat.le_of_ble_eq_true rfl) dX7_write_19 ?_
      cases h
      exact Ev_iret rfl rfl dX7_write_22 ⟨rfl, rfl⟩
    · rw [if_neg q2] at h
      refine Ev_bipush bp_m2 dX7_write_11 ?_
      cases h
      exact Ev_iret rfl rfl dX7_write_13 ⟨rfl, rfl⟩
/-! TinselRiver.wipe()I -/
def fX7_wipe (M : mM) (v0 : Nat) : Option (Int32 × mM) :=
    if isO M v0 7 = true then
      (gR M v0 7 0).bind fun a1 =>
      (fX5_clear M a1).bind fun p3 =>
      some (p3.1, p3.2)
    else none
theorem oX7_wipe {M : mM} {v0 : Nat} {y : (Int32 × mM)} (h : fX7_wipe M v0 = some y) : isO M v0 7 = true := by
  unfold fX7_wipe at h
  exact (gsome h).1
set_option maxRecDepth 20000 in
set_option maxHeartbeats 4000000 in
theorem rX7_wipe {E : mE} {M : mM} {v0 : Nat} {x : Int32} {Mf : mM} (h : fX7_wipe M v0 = some (x, Mf)) : EvC mX7_wipe E 1 0 0 [.ref v0] M (some (.int x)) Mf := by
  unfold fX7_wipe at h
  replace h := (gsome h).2
  refine EvC.of [some (.ref v0)] pnX7_wipe rfl (Nat.le_of_ble_eq_true rfl) ?_
  refine Ev_aload_n (x := v0) rfl dX7_wipe_0 ?_
  obtain ⟨a1, g1, h⟩ := bsome h
  refine Ev_getR flX7_10 dX7_wipe_1 g1 ?_
  obtain ⟨p3, g2, h⟩ := bsome h
  refine Ev_callVi (np := 0) (vs := []) (rest := []) mdX5_clear lkX7_80 ⟨_, rfl, rfl⟩ (oX5_clear g2) (rX5_clear g2) rfl rfl (Nat.le_of_ble_eq_true rfl) (Nat.le_of_ble_eq_true rfl) dX7_wipe_4 ?_
  cases h
  exact Ev_iret rfl rfl dX7_wipe_7 ⟨rfl, rfl⟩
/-! TinselRiver.fault()I -/
def fX7_fault (M : mM) (v0 : Nat) : Option Int32 :=
    if isO M v0 7 = true then
      (gR M v0 7 0).bind fun a1 =>
      (fX5_firstFault M a1).bind fun x3 =>
      some x3
    else none
theorem oX7_fault {M : mM} {v0 : Nat} {y : Int32} (h : fX7_fault M v0 = some y) : isO M v0 7 = true := by
  unfold fX7_fault at h
  exact (gsome h).1
set_option maxRecDepth 20000 in
set_option maxHeartbeats 4000000 in
theorem rX7_fault {E : mE} {M : mM} {v0 : Nat} {x : Int32} (h : fX7_fault M v0 = some x) : EvC mX7_fault E 3 0 0 [.ref v0] M (some (.int x)) M := by
  unfold fX7_fault at h
  replace h := (gsome h).2
  refine EvC.of [some (.ref v0)] pnX7_fault rfl (Nat.le_of_ble_eq_true rfl) ?_
  refine Ev_aload_n (x := v0) rfl dX7_fault_0 ?_
  obtain ⟨a1, g1, h⟩ := bsome h
  refine Ev_getR flX7_10 dX7_fault_1 g1 ?_
  obtain ⟨x3, g2, h⟩ := bsome h
  refine Ev_callVi (np := 0) (vs := []) (rest := []) mdX5_firstFault lkX7_84 ⟨_, rfl, rfl⟩ (oX5_firstFault g2) (rX5_firstFault g2) rfl rfl (Nat.le_of_ble_eq_true rfl) (Nat.le_of_ble_eq_true rfl) dX7_fault_4 ?_
  cases h
  exact Ev_iret rfl rfl dX7_fault_7 ⟨rfl, rfl⟩
/-! TinselRiver.valley()I -/
def fX7_valley (M : mM) (v0 : Nat) : Option (Int32 × mM) :=
    if isO M v0 7 = true then
      (gR M v0 7 0).bind fun a1 =>
      (fX5_firstFault M a1).bind fun x3 =>
      if x3 = (-9) then
        ((gR M v0 7 0).bind fun a5 =>
        (gR M v0 7 1).bind fun a6 =>
        (fX5_tellTo M a5 a6).bind fun M8 =>
        (gR M8 v0 7 3).bind fun a9 =>
        (fX0_clear M8 a9).bind fun M11 =>
        (gR M11 v0 7 4).bind fun a12 =>
        (fX3_clear M11 a12).bind fun M14 =>
        (gR M14 v0 7 1).bind fun a15 =>
        (gI M14 a15 6 1).bind fun x16 =>
        some (x16, M14))
      else
        (some ((-3), M))
    else none
theorem oX7_valley {M : mM} {v0 : Nat} {y : (Int32 × mM)} (h : fX7_valley M v0 = some y) : isO M v0 7 = true := by
  unfold fX7_valley at h
  exact (gsome h).1
set_option maxRecDepth 20000 in
set_option maxHeartbeats 4000000 in
theorem rX7_valley {E : mE} {M : mM} {v0 : Nat} {x : Int32} {Mf : mM} (h : fX7_valley M v0 = some (x, Mf)) : EvC mX7_valley E 3 0 0 [.ref v0] M (some (.int x)) Mf := by
  unfold fX7_valley at h
  replace h := (gsome h).2
  refine EvC.of [some (.ref v0)] pnX7_valley rfl (Nat.le_of_ble_eq_true rfl) ?_
  refine Ev_aload_n (x := v0) rfl dX7_valley_0 ?_
  obtain ⟨a1, g1, h⟩ := bsome h
  refine Ev_getR flX7_10 dX7_valley_1 g1 ?_
  obtain ⟨x3, g2, h⟩ := bsome h
  refine Ev_callVi (np := 0) (vs := []) (rest := []) mdX5_firstFault lkX7_84 ⟨_, rfl, rfl⟩ (oX5_firstFault g2) (rX5_firstFault g2) rfl rfl (Nat.le_of_ble_eq_true rfl) (Nat.le_of_ble_eq_true rfl) dX7_valley_4 ?_
  refine Ev_bipush bp_m9 dX7_valley_7 ?_
  refine Ev_icmp_eq (tgt := 15) dX7_valley_9 (by decide) (fun q4 => ?_) (fun q4 => ?_)
  · rw [if_pos q4] at h
    refine Ev_aload_n (x := v0) rfl dX7_valley_15 ?_
    obtain ⟨a5, g5, h⟩ := bsome h
    refine Ev_getR flX7_10 dX7_valley_16 g5 ?_
    refine Ev_aload_n (x := v0) rfl dX7_valley_19 ?_
    obtain ⟨a6, g6, h⟩ := bsome h
    refine Ev_getR flX7_19 dX7_valley_20 g6 ?_
    obtain ⟨M8, g7, h⟩ := bsome h
    refine Ev_callVv (np := 1) (vs := [.ref a6]) (rest := []) mdX5_tellTo lkX7_87 ⟨_, rfl, rfl⟩ (oX5_tellTo g7) (rX5_tellTo g7) rfl rfl (Nat.le_of_ble_eq_true rfl) (Nat.le_of_ble_eq_true rfl) dX7_valley_23 ?_
    refine Ev_aload_n (x := v0) rfl dX7_valley_26 ?_
    obtain ⟨a9, g9, h⟩ := bsome h
    refine Ev_getR flX7_29 dX7_valley_27 g9 ?_
    obtain ⟨M11, g10, h⟩ := bsome h
    refine Ev_callVv (np := 0) (vs := []) (rest := []) mdX0_clear lkX7_91 ⟨_, rfl, rfl⟩ (oX0_clear g10) (rX0_clear g10) rfl rfl (Nat.le_of_ble_eq_true rfl) (Nat.le_of_ble_eq_true rfl) dX7_valley_30 ?_
    refine Ev_aload_n (x := v0) rfl dX7_valley_33 ?_
    obtain ⟨a12, g12, h⟩ := bsome h
    refine Ev_getR flX7_36 dX7_valley_34 g12 ?_
    obtain ⟨M14, g13, h⟩ := bsome h
    refine Ev_callVv (np := 0) (vs := []) (rest := []) mdX3_clear lkX7_93 ⟨_, rfl, rfl⟩ (oX3_clear g13) (rX3_clear g13) rfl rfl (Nat.le_of_ble_eq_true rfl) (Nat.le_of_ble_eq_true rfl) dX7_valley_37 ?_
    refine Ev_aload_n (x := v0) rfl dX7_valley_40 ?_
    obtain ⟨a15, g15, h⟩ := bsome h
    refine Ev_getR flX7_19 dX7_valley_41 g15 ?_
    obtain ⟨x16, g16, h⟩ := bsome h
    refine Ev_getI flX7_94 dX7_valley_44 g16 ?_
    cases h
    exact Ev_iret rfl rfl dX7_valley_47 ⟨rfl, rfl⟩
  · rw [if_neg q4] at h
    refine Ev_bipush bp_m3 dX7_valley_12 ?_
    cases h
    exact Ev_iret rfl rfl dX7_valley_14 ⟨rfl, rfl⟩
/-! TinselRiver.isRowOfBends(IJ)Z -/
def fX7_isRowOfBends_c5 (M : mM) : Nat → Int32 → Int64 → Int32 → Option Int32
  | 0, _, _, _ => none
  | n + 1, v0, v3, v5 =>
    if v0 ≤ v5 then
      (if (lg_cmp v3 (0 : Int64)) = 0 then
        (some 1)
      else
        (some 0))
    else
      (if (lg_cmp (v3 - v3 / (10 : Int64) * (10 : Int64)) (1 : Int64)) < 0 then
        (some 0)
      else
        (if (lg_cmp (v3 - v3 / (10 : Int64) * (10 : Int64)) (4 : Int64)) ≤ 0 then
          (fX7_isRowOfBends_c5 M n v0 (v3 / (10 : Int64)) (v5 + 1))
        else
          (some 0)))
set_option maxRecDepth 20000 in
set_option maxHeartbeats 4000000 in
theorem rX7_isRowOfBends_c5 {E : mE} {M : mM} {x : Int32} : ∀ (n : Nat) (v0 : Int32) (v3 : Int64) (v5 : Int32), fX7_isRowOfBends_c5 M n v0 v3 v5 = some x → Ev mX7_isRowOfBends E 0 0 0 (some (.int x)) M 5 [some (.int v0), none, none, some (.long v3), none, some (.int v5), none, none] [] M 0 0 := by
  intro n
  induction n with
  | zero => intro v0 v3 v5 h; rw [fX7_isRowOfBends_c5.eq_1] at h; cases h
  | succ n ih =>
    intro v0 v3 v5 h
    rw [fX7_isRowOfBends_c5.eq_2] at h
    refine Ev_iload (x := v5) rfl dX7_isRowOfBends_5 ?_
    refine Ev_iload_n (x := v0) rfl dX7_isRowOfBends_7 ?_
    refine Ev_icmp_ge (tgt := 48) dX7_isRowOfBends_8 (by decide) (fun q1 => ?_) (fun q1 => ?_)
    · rw [if_pos q1] at h
      refine Ev_lload_n (x := v3) rfl dX7_isRowOfBends_48 ?_
      refine Ev_lconst (v := 0) (by decide) dX7_isRowOfBends_49 ?_
      refine Ev_lcmp dX7_isRowOfBends_50 ?_
      refine Ev_if_ne (tgt := 58) dX7_isRowOfBends_51 (by decide) (fun q2 => ?_) (fun q2 => ?_)
      · rw [if_neg q2] at h
        refine Ev_iconst ic_0 dX7_isRowOfBends_58 ?_
        cases h
        exact Ev_iret rfl rfl dX7_isRowOfBends_59 ⟨rfl, rfl⟩
      · rw [if_pos q2] at h
        refine Ev_iconst ic_1 dX7_isRowOfBends_54 ?_
        refine Ev_goto (tgt := 59) dX7_isRowOfBends_55 (by decide) ?_
        cases h
        exact Ev_iret rfl rfl dX7_isRowOfBends_59 ⟨rfl, rfl⟩
    · rw [if_neg q1] at h
      refine Ev_lload_n (x := v3) rfl dX7_isRowOfBends_11 ?_
      refine Ev_ldc2 csX7_138 dX7_isRowOfBends_12 ?_
      refine Ev_lrem (by decide) dX7_isRowOfBends_15 ?_
      refine Ev_lstore (loc2 := [some (.int v0), none, none, some (.long v3), none, some (.int v5), some (.long (v3 - v3 / (10 : Int64) * (10 : Int64))), none]) (Nat.le_of_ble_eq_true rfl) rfl rfl dX7_isRowOfBends_16 ?_
      refine Ev_lload (x := (v3 - v3 / (10 : Int64) * (10 : Int64))) rfl dX7_isRowOfBends_18 ?_
      refine Ev_lconst (v := 1) (by decide) dX7_isRowOfBends_20 ?_
      refine Ev_lcmp dX7_isRowOfBends_21 ?_
      refine Ev_if_lt (tgt := 34) dX7_isRowOfBends_22 (by decide) (fun q3 => ?_) (fun q3 => ?_)
      · rw [if_pos q3] at h
        refine Ev_iconst ic_0 dX7_isRowOfBends_34 ?_
        cases h
        exact Ev_iret rfl rfl dX7_isRowOfBends_35 ⟨rfl, rfl⟩
      · rw [if_neg q3] at h
        refine Ev_lload (x := (v3 - v3 / (10 : Int64) * (10 : Int64))) rfl dX7_isRowOfBends_25 ?_
        refine Ev_ldc2 csX7_140 dX7_isRowOfBends_27 ?_
        refine Ev_lcmp dX7_isRowOfBends_30 ?_
        refine Ev_if_le (tgt := 36) dX7_isRowOfBends_31 (by decide) (fun q4 => ?_) (fun q4 => ?_)
        · rw [if_pos q4] at h
          refine Ev_lload_n (x := v3) rfl dX7_isRowOfBends_36 ?_
          refine Ev_ldc2 csX7_138 dX7_isRowOfBends_37 ?_
          refine Ev_ldiv (by decide) dX7_isRowOfBends_40 ?_
          refine Ev_lstore_n (loc2 := [some (.int v0), none, none, some (.long (v3 / (10 : Int64))), none, some (.int v5), some (.long (v3 - v3 / (10 : Int64) * (10 : Int64))), none]) (Nat.le_of_ble_eq_true rfl) rfl rfl dX7_isRowOfBends_41 ?_
          refine Ev_iinc (x := v5) (v := (v5 + 1)) (loc2 := [some (.int v0), none, none, some (.long (v3 / (10 : Int64))), none, some (.int (v5 + 1)), some (.long (v3 - v3 / (10 : Int64) * (10 : Int64))), none]) rfl (congrArg (v5 + ·) ic_1) (Nat.le_of_ble_eq_true rfl) rfl rfl dX7_isRowOfBends_42 ?_
          refine Ev_goto (tgt := 5) dX7_isRowOfBends_45 (by decide) ?_
          refine Ev_drop 6 (loc2 := [some (.int v0), none, none, some (.long (v3 / (10 : Int64))), none, some (.int (v5 + 1)), none, none]) rfl ?_
          exact ih v0 (v3 / (10 : Int64)) (v5 + 1) h
        · rw [if_neg q4] at h
          refine Ev_iconst ic_0 dX7_isRowOfBends_34 ?_
          cases h
          exact Ev_iret rfl rfl dX7_isRowOfBends_35 ⟨rfl, rfl⟩
def fX7_isRowOfBends (M : mM) (v0 : Int32) (v1 : Int64) : Option Int32 :=
    fX7_isRowOfBends_c5 M FUEL v0 v1 0
set_option maxRecDepth 20000 in
set_option maxHeartbeats 4000000 in
theorem rX7_isRowOfBends {E : mE} {M : mM} {v0 : Int32} {v1 : Int64} {x : Int32} (h : fX7_isRowOfBends M v0 v1 = some x) : EvC mX7_isRowOfBends E 0 0 0 [.int v0, .long v1] M (some (.int x)) M := by
  unfold fX7_isRowOfBends at h
  refine EvC.of [some (.int v0), some (.long v1), none, none, none, none, none, none] pnX7_isRowOfBends rfl (Nat.le_of_ble_eq_true rfl) ?_
  refine Ev_lload_n (x := v1) rfl dX7_isRowOfBends_0 ?_
  refine Ev_lstore_n (loc2 := [some (.int v0), some (.long v1), none, some (.long v1), none, none, none, none]) (Nat.le_of_ble_eq_true rfl) rfl rfl dX7_isRowOfBends_1 ?_
  refine Ev_iconst ic_0 dX7_isRowOfBends_2 ?_
  refine Ev_istore (loc2 := [some (.int v0), some (.long v1), none, some (.long v1), none, some (.int 0), none, none]) (Nat.le_of_ble_eq_true rfl) rfl rfl dX7_isRowOfBends_3 ?_
  refine Ev_drop 1 (loc2 := [some (.int v0), none, none, some (.long v1), none, some (.int 0), none, none]) rfl ?_
  exact rX7_isRowOfBends_c5 FUEL v0 v1 0 h
/-! TinselRiver.bed(IJ)I -/
def fX7_bed (M : mM) (v0 : Nat) (v1 : Int32) (v2 : Int64) : Option (Int32 × mM) :=
    if isO M v0 7 = true then
      if v1 < 0 then
        (some ((-2), M))
      else
        (if 12 < v1 then
          (some ((-2), M))
        else
          ((fX7_isRowOfBends M v1 v2).bind fun x4 =>
          if x4 = 0 then
            (some ((-2), M))
          else
            ((gR M v0 7 6).bind fun a6 =>
            (gI M a6 2 1).bind fun x7 =>
            (gR M v0 7 6).bind fun a8 =>
            (fX2_setFigures M a8 v1 v2).bind fun M10 =>
            some (x7, M10))))
    else none
theorem oX7_bed {M : mM} {v0 : Nat} {v1 : Int32} {v2 : Int64} {y : (Int32 × mM)} (h : fX7_bed M v0 v1 v2 = some y) : isO M v0 7 = true := by
  unfold fX7_bed at h
  exact (gsome h).1
set_option maxRecDepth 20000 in
set_option maxHeartbeats 4000000 in
theorem rX7_bed {E : mE} {M : mM} {v0 : Nat} {v1 : Int32} {v2 : Int64} {x : Int32} {Mf : mM} (h : fX7_bed M v0 v1 v2 = some (x, Mf)) : EvC mX7_bed E 2 0 0 [.ref v0, .int v1, .long v2] M (some (.int x)) Mf := by
  unfold fX7_bed at h
  replace h := (gsome h).2
  refine EvC.of [some (.ref v0), some (.int v1), some (.long v2), none, none] pnX7_bed rfl (Nat.le_of_ble_eq_true rfl) ?_
  refine Ev_iload_n (x := v1) rfl dX7_bed_0 ?_
  refine Ev_if_lt (tgt := 18) dX7_bed_1 (by decide) (fun q1 => ?_) (fun q1 => ?_)
  · rw [if_pos q1] at h
    refine Ev_bipush bp_m2 dX7_bed_18 ?_
    cases h
    exact Ev_iret rfl rfl dX7_bed_20 ⟨rfl, rfl⟩
  · rw [if_neg q1] at h
    refine Ev_iload_n (x := v1) rfl dX7_bed_4 ?_
    refine Ev_bipush bp_12 dX7_bed_5 ?_
    refine Ev_icmp_gt (tgt := 18) dX7_bed_7 (by decide) (fun q2 => ?_) (fun q2 => ?_)
    · rw [if_pos q2] at h
      refine Ev_bipush bp_m2 dX7_bed_18 ?_
      cases h
      exact Ev_iret rfl rfl dX7_bed_20 ⟨rfl, rfl⟩
    · rw [if_neg q2] at h
      refine Ev_iload_n (x := v1) rfl dX7_bed_10 ?_
      refine Ev_lload_n (x := v2) rfl dX7_bed_11 ?_
      obtain ⟨x4, g3, h⟩ := bsome h
      refine Ev_callSi (np := 2) (vs := [.int v1, .long v2]) (rest := []) mdX7_isRowOfBends lkX7_98 (rX7_isRowOfBends g3) rfl rfl (Nat.le_of_ble_eq_true rfl) (Nat.le_of_ble_eq_true rfl) dX7_bed_12 ?_
      refine Ev_if_ne (tgt := 21) dX7_bed_15 (by decide) (fun q5 => ?_) (fun q5 => ?_)
      · rw [if_neg q5] at h
        refine Ev_aload_n (x := v0) rfl dX7_bed_21 ?_
        obtain ⟨a6, g6, h⟩ := bsome h
        refine Ev_getR flX7_52 dX7_bed_22 g6 ?_
        obtain ⟨x7, g7, h⟩ := bsome h
        refine Ev_getI flX7_102 dX7_bed_25 g7 ?_
        refine Ev_istore (loc2 := [some (.ref v0), some (.int v1), some (.long v2), none, some (.int x7)]) (Nat.le_of_ble_eq_true rfl) rfl rfl dX7_bed_28 ?_
        refine Ev_aload_n (x := v0) rfl dX7_bed_30 ?_
        obtain ⟨a8, g8, h⟩ := bsome h
        refine Ev_getR flX7_52 dX7_bed_31 g8 ?_
        refine Ev_iload_n (x := v1) rfl dX7_bed_34 ?_
        refine Ev_lload_n (x := v2) rfl dX7_bed_35 ?_
        obtain ⟨M10, g9, h⟩ := bsome h
        refine Ev_callVv (np := 2) (vs := [.int v1, .long v2]) (rest := []) mdX2_setFigures lkX7_105 ⟨_, rfl, rfl⟩ (oX2_setFigures g9) (rX2_setFigures g9) rfl rfl (Nat.le_of_ble_eq_true rfl) (Nat.le_of_ble_eq_true rfl) dX7_bed_36 ?_
        refine Ev_iload (x := x7) rfl dX7_bed_39 ?_
        cases h
        exact Ev_iret rfl rfl dX7_bed_41 ⟨rfl, rfl⟩
      · rw [if_pos q5] at h
        refine Ev_bipush bp_m2 dX7_bed_18 ?_
        cases h
        exact Ev_iret rfl rfl dX7_bed_20 ⟨rfl, rfl⟩
/-! TinselRiver.strand(II)I -/
def fX7_strand (M : mM) (v0 : Nat) (v1 : Int32) (v2 : Int32) : Option Int32 :=
    if isO M v0 7 = true then
      (gR M v0 7 1).bind fun a1 =>
      (fX6_has M a1 v1).bind fun x3 =>
      if x3 = 0 then
        (some (-1))
      else
        ((gR M v0 7 1).bind fun a5 =>
        (gR M a5 6 0).bind fun a6 =>
        (qI M false a6 v1).bind fun a7 =>
        if v2 = 0 then
          ((gI M a7 4 1).bind fun x8 =>
          some x8)
        else
          (if v2 = 1 then
            ((gI M a7 4 2).bind fun x9 =>
            some x9)
          else
            (if v2 = 2 then
              ((gR M a7 4 0).bind fun a10 =>
              (gI M a10 2 1).bind fun x11 =>
              some x11)
            else
              (if v2 = 3 then
                ((gR M v0 7 6).bind fun a12 =>
                (gR M a7 4 0).bind fun a13 =>
                (fX2_firstPlaceOf M a12 a13).bind fun x15 =>
                some x15)
              else
                (some (-2))))))
    else none
theorem oX7_strand {M : mM} {v0 : Nat} {v1 : Int32} {v2 : Int32} {y : Int32} (h : fX7_strand M v0 v1 v2 = some y) : isO M v0 7 = true := by
  unfold fX7_strand at h
  exact (gsome h).1
set_option maxRecDepth 20000 in
set_option maxHeartbeats 4000000 in
theorem rX7_strand {E : mE} {M : mM} {v0 : Nat} {v1 : Int32} {v2 : Int32} {x : Int32} (h : fX7_strand M v0 v1 v2 = some x) : EvC mX7_strand E 2 0 0 [.ref v0, .int v1, .int v2] M (some (.int x)) M := by
  unfold fX7_strand at h
  replace h := (gsome h).2
  refine EvC.of [some (.ref v0), some (.int v1), some (.int v2), none] pnX7_strand rfl (Nat.le_of_ble_eq_true rfl) ?_
  refine Ev_aload_n (x := v0) rfl dX7_strand_0 ?_
  obtain ⟨a1, g1, h⟩ := bsome h
  refine Ev_getR flX7_19 dX7_strand_1 g1 ?_
  refine Ev_iload_n (x := v1) rfl dX7_strand_4 ?_
  obtain ⟨x3, g2, h⟩ := bsome h
  refine Ev_callVi (np := 1) (vs := [.int v1]) (rest := []) mdX6_has lkX7_109 ⟨_, rfl, rfl⟩ (oX6_has g2) (rX6_has g2) rfl rfl (Nat.le_of_ble_eq_true rfl) (Nat.le_of_ble_eq_true rfl) dX7_strand_5 ?_
  refine Ev_if_ne (tgt := 13) dX7_strand_8 (by decide) (fun q4 => ?_) (fun q4 => ?_)
  · rw [if_neg q4] at h
    refine Ev_aload_n (x := v0) rfl dX7_strand_13 ?_
    obtain ⟨a5, g5, h⟩ := bsome h
    refine Ev_getR flX7_19 dX7_strand_14 g5 ?_
    obtain ⟨a6, g6, h⟩ := bsome h
    refine Ev_getR flX7_113 dX7_strand_17 g6 ?_
    refine Ev_iload_n (x := v1) rfl dX7_strand_20 ?_
    obtain ⟨a7, g7, h⟩ := bsome h
    refine Ev_aald dX7_strand_21 g7 ?_
    refine Ev_astore_n (loc2 := [some (.ref v0), some (.int v1), some (.int v2), some (.ref a7)]) (Nat.le_of_ble_eq_true rfl) rfl rfl dX7_strand_22 ?_
    refine Ev_iload_n (x := v2) rfl dX7_strand_23 ?_
    by_cases q16 : v2 = 0
    · rw [if_pos q16] at h
      refine Ev_tswIn (tgt := 56) dX7_strand_24 (by rw [q16]; decide) (by rw [q16]; decide) (by rw [q16]; rfl) (by decide) ?_
      refine Ev_aload_n (x := a7) rfl dX7_strand_56 ?_
      obtain ⟨x8, g8, h⟩ := bsome h
      refine Ev_getI flX7_117 dX7_strand_57 g8 ?_
      cases h
      exact Ev_iret rfl rfl dX7_strand_60 ⟨rfl, rfl⟩
    · rw [if_neg q16] at h
      by_cases q17 : v2 = 1
      · rw [if_pos q17] at h
        refine Ev_tswIn (tgt := 61) dX7_strand_24 (by rw [q17]; decide) (by rw [q17]; decide) (by rw [q17]; rfl) (by decide) ?_
        refine Ev_aload_n (x := a7) rfl dX7_strand_61 ?_
        obtain ⟨x9, g9, h⟩ := bsome h
        refine Ev_getI flX7_122 dX7_strand_62 g9 ?_
        cases h
        exact Ev_iret rfl rfl dX7_strand_65 ⟨rfl, rfl⟩
      · rw [if_neg q17] at h
        by_cases q18 : v2 = 2
        · rw [if_pos q18] at h
          refine Ev_tswIn (tgt := 66) dX7_strand_24 (by rw [q18]; decide) (by rw [q18]; decide) (by rw [q18]; rfl) (by decide) ?_
          refine Ev_aload_n (x := a7) rfl dX7_strand_66 ?_
          obtain ⟨a10, g10, h⟩ := bsome h
          refine Ev_getR flX7_125 dX7_strand_67 g10 ?_
          obtain ⟨x11, g11, h⟩ := bsome h
          refine Ev_getI flX7_102 dX7_strand_70 g11 ?_
          cases h
          exact Ev_iret rfl rfl dX7_strand_73 ⟨rfl, rfl⟩
        · rw [if_neg q18] at h
          by_cases q19 : v2 = 3
          · rw [if_pos q19] at h
            refine Ev_tswIn (tgt := 74) dX7_strand_24 (by rw [q19]; decide) (by rw [q19]; decide) (by rw [q19]; rfl) (by decide) ?_
            refine Ev_aload_n (x := v0) rfl dX7_strand_74 ?_
            obtain ⟨a12, g12, h⟩ := bsome h
            refine Ev_getR flX7_52 dX7_strand_75 g12 ?_
            refine Ev_aload_n (x := a7) rfl dX7_strand_78 ?_
            obtain ⟨a13, g13, h⟩ := bsome h
            refine Ev_getR flX7_125 dX7_strand_79 g13 ?_
            obtain ⟨x15, g14, h⟩ := bsome h
            refine Ev_callVi (np := 1) (vs := [.ref a13]) (rest := []) mdX2_firstPlaceOf lkX7_128 ⟨_, rfl, rfl⟩ (oX2_firstPlaceOf g14) (rX2_firstPlaceOf g14) rfl rfl (Nat.le_of_ble_eq_true rfl) (Nat.le_of_ble_eq_true rfl) dX7_strand_82 ?_
            cases h
            exact Ev_iret rfl rfl dX7_strand_85 ⟨rfl, rfl⟩
          · rw [if_neg q19] at h
            refine Ev_tswOut (tgt := 86) dX7_strand_24 (sw_out4 q16 q17 q18 q19) (by decide) ?_
            refine Ev_bipush bp_m2 dX7_strand_86 ?_
            cases h
            exact Ev_iret rfl rfl dX7_strand_88 ⟨rfl, rfl⟩
  · rw [if_pos q4] at h
    refine Ev_iconst ic_m1 dX7_strand_11 ?_
    cases h
    exact Ev_iret rfl rfl dX7_strand_12 ⟨rfl, rfl⟩
/-! TinselRiver.bends(I)J -/
def fX7_bends (M : mM) (v0 : Nat) (v1 : Int32) : Option Int64 :=
    if isO M v0 7 = true then
      (gR M v0 7 1).bind fun a1 =>
      (fX6_has M a1 v1).bind fun x3 =>
      if x3 = 0 then
        (some (-1 : Int64))
      else
        ((gR M v0 7 1).bind fun a5 =>
        (gR M a5 6 0).bind fun a6 =>
        (qI M false a6 v1).bind fun a7 =>
        (gR M a7 4 0).bind fun a8 =>
        (fX2_figures M a8).bind fun x10 =>
        some x10)
    else none
theorem oX7_bends {M : mM} {v0 : Nat} {v1 : Int32} {y : Int64} (h : fX7_bends M v0 v1 = some y) : isO M v0 7 = true := by
  unfold fX7_bends at h
  exact (gsome h).1
set_option maxRecDepth 20000 in
set_option maxHeartbeats 4000000 in
theorem rX7_bends {E : mE} {M : mM} {v0 : Nat} {v1 : Int32} {x : Int64} (h : fX7_bends M v0 v1 = some x) : EvC mX7_bends E 1 0 0 [.ref v0, .int v1] M (some (.long x)) M := by
  unfold fX7_bends at h
  replace h := (gsome h).2
  refine EvC.of [some (.ref v0), some (.int v1)] pnX7_bends rfl (Nat.le_of_ble_eq_true rfl) ?_
  refine Ev_aload_n (x := v0) rfl dX7_bends_0 ?_
  obtain ⟨a1, g1, h⟩ := bsome h
  refine Ev_getR flX7_19 dX7_bends_1 g1 ?_
  refine Ev_iload_n (x := v1) rfl dX7_bends_4 ?_
  obtain ⟨x3, g2, h⟩ := bsome h
  refine Ev_callVi (np := 1) (vs := [.int v1]) (rest := []) mdX6_has lkX7_109 ⟨_, rfl, rfl⟩ (oX6_has g2) (rX6_has g2) rfl rfl (Nat.le_of_ble_eq_true rfl) (Nat.le_of_ble_eq_true rfl) dX7_bends_5 ?_
  refine Ev_if_eq (tgt := 29) dX7_bends_8 (by decide) (fun q4 => ?_) (fun q4 => ?_)
  · rw [if_pos q4] at h
    refine Ev_ldc2 csX7_136 dX7_bends_29 ?_
    cases h
    exact Ev_lret rfl dX7_bends_32 ⟨rfl, rfl⟩
  · rw [if_neg q4] at h
    refine Ev_aload_n (x := v0) rfl dX7_bends_11 ?_
    obtain ⟨a5, g5, h⟩ := bsome h
    refine Ev_getR flX7_19 dX7_bends_12 g5 ?_
    obtain ⟨a6, g6, h⟩ := bsome h
    refine Ev_getR flX7_113 dX7_bends_15 g6 ?_
    refine Ev_iload_n (x := v1) rfl dX7_bends_18 ?_
    obtain ⟨a7, g7, h⟩ := bsome h
    refine Ev_aald dX7_bends_19 g7 ?_
    obtain ⟨a8, g8, h⟩ := bsome h
    refine Ev_getR flX7_125 dX7_bends_20 g8 ?_
    obtain ⟨x10, g9, h⟩ := bsome h
    refine Ev_callVl (np := 0) (vs := []) (rest := []) mdX2_figures lkX7_132 ⟨_, rfl, rfl⟩ (oX2_figures g9) (rX2_figures g9) rfl rfl (Nat.le_of_ble_eq_true rfl) (Nat.le_of_ble_eq_true rfl) dX7_bends_23 ?_
    refine Ev_goto (tgt := 32) dX7_bends_26 (by decide) ?_
    cases h
    exact Ev_lret rfl dX7_bends_32 ⟨rfl, rfl⟩
/-! TinselRiver.take(I)I -/
def fX7_take (M : mM) (v0 : Nat) (v1 : Int32) : Option (Int32 × mM) :=
    if isO M v0 7 = true then
      if v1 < 0 then
        (some (v1, M))
      else
        ((gR M v0 7 3).bind fun a2 =>
        (gR M v0 7 1).bind fun a3 =>
        (fX0_remember M a2 a3).bind fun M5 =>
        (gR M5 v0 7 1).bind fun a6 =>
        (gR M5 v0 7 2).bind fun a7 =>
        (fX6_setTo M5 a6 a7).bind fun M9 =>
        some (v1, M9))
    else none
theorem oX7_take {M : mM} {v0 : Nat} {v1 : Int32} {y : (Int32 × mM)} (h : fX7_take M v0 v1 = some y) : isO M v0 7 = true := by
  unfold fX7_take at h
  exact (gsome h).1
set_option maxRecDepth 20000 in
set_option maxHeartbeats 4000000 in
theorem rX7_take {E : mE} {M : mM} {v0 : Nat} {v1 : Int32} {x : Int32} {Mf : mM} (h : fX7_take M v0 v1 = some (x, Mf)) : EvC mX7_take E 5 0 0 [.ref v0, .int v1] M (some (.int x)) Mf := by
  unfold fX7_take at h
  replace h := (gsome h).2
  refine EvC.of [some (.ref v0), some (.int v1)] pnX7_take rfl (Nat.le_of_ble_eq_true rfl) ?_
  refine Ev_iload_n (x := v1) rfl dX7_take_0 ?_
  refine Ev_if_lt (tgt := 26) dX7_take_1 (by decide) (fun q1 => ?_) (fun q1 => ?_)
  · rw [if_pos q1] at h
    refine Ev_iload_n (x := v1) rfl dX7_take_26 ?_
    cases h
    exact Ev_iret rfl rfl dX7_take_27 ⟨rfl, rfl⟩
  · rw [if_neg q1] at h
    refine Ev_aload_n (x := v0) rfl dX7_take_4 ?_
    obtain ⟨a2, g2, h⟩ := bsome h
    refine Ev_getR flX7_29 dX7_take_5 g2 ?_
    refine Ev_aload_n (x := v0) rfl dX7_take_8 ?_
    obtain ⟨a3, g3, h⟩ := bsome h
    refine Ev_getR flX7_19 dX7_take_9 g3 ?_
    obtain ⟨M5, g4, h⟩ := bsome h
    refine Ev_callVv (np := 1) (vs := [.ref a3]) (rest := []) mdX0_remember lkX7_168 ⟨_, rfl, rfl⟩ (oX0_remember g4) (rX0_remember g4) rfl rfl (Nat.le_of_ble_eq_true rfl) (Nat.le_of_ble_eq_true rfl) dX7_take_12 ?_
    refine Ev_aload_n (x := v0) rfl dX7_take_15 ?_
    obtain ⟨a6, g6, h⟩ := bsome h
    refine Ev_getR flX7_19 dX7_take_16 g6 ?_
    refine Ev_aload_n (x := v0) rfl dX7_take_19 ?_
    obtain ⟨a7, g7, h⟩ := bsome h
    refine Ev_getR flX7_23 dX7_take_20 g7 ?_
    obtain ⟨M9, g8, h⟩ := bsome h
    refine Ev_callVv (np := 1) (vs := [.ref a7]) (rest := []) mdX6_setTo lkX7_142 ⟨_, rfl, rfl⟩ (oX6_setTo g8) (rX6_setTo g8) rfl rfl (Nat.le_of_ble_eq_true rfl) (Nat.le_of_ble_eq_true rfl) dX7_take_23 ?_
    refine Ev_iload_n (x := v1) rfl dX7_take_26 ?_
    cases h
    exact Ev_iret rfl rfl dX7_take_27 ⟨rfl, rfl⟩
/-! TinselRiver.winter()I -/
def fX7_winter (M : mM) (v0 : Nat) : Option (Int32 × mM) :=
    if isO M v0 7 = true then
      (gR M v0 7 2).bind fun a1 =>
      (gR M v0 7 1).bind fun a2 =>
      (fX6_setTo M a1 a2).bind fun M4 =>
      (gR M4 v0 7 2).bind fun a5 =>
      (fX6_passWinter M4 a5).bind fun p7 =>
      (fX7_take p7.2 v0 p7.1).bind fun p9 =>
      some (p9.1, p9.2)
    else none
theorem oX7_winter {M : mM} {v0 : Nat} {y : (Int32 × mM)} (h : fX7_winter M v0 = some y) : isO M v0 7 = true := by
  unfold fX7_winter at h
  exact (gsome h).1
set_option maxRecDepth 20000 in
set_option maxHeartbeats 4000000 in
theorem rX7_winter {E : mE} {M : mM} {v0 : Nat} {x : Int32} {Mf : mM} (h : fX7_winter M v0 = some (x, Mf)) : EvC mX7_winter E 6 0 0 [.ref v0] M (some (.int x)) Mf := by
  unfold fX7_winter at h
  replace h := (gsome h).2
  refine EvC.of [some (.ref v0)] pnX7_winter rfl (Nat.le_of_ble_eq_true rfl) ?_
  refine Ev_aload_n (x := v0) rfl dX7_winter_0 ?_
  obtain ⟨a1, g1, h⟩ := bsome h
  refine Ev_getR flX7_23 dX7_winter_1 g1 ?_
  refine Ev_aload_n (x := v0) rfl dX7_winter_4 ?_
  obtain ⟨a2, g2, h⟩ := bsome h
  refine Ev_getR flX7_19 dX7_winter_5 g2 ?_
  obtain ⟨M4, g3, h⟩ := bsome h
  refine Ev_callVv (np := 1) (vs := [.ref a2]) (rest := []) mdX6_setTo lkX7_142 ⟨_, rfl, rfl⟩ (oX6_setTo g3) (rX6_setTo g3) rfl rfl (Nat.le_of_ble_eq_true rfl) (Nat.le_of_ble_eq_true rfl) dX7_winter_8 ?_
  refine Ev_aload_n (x := v0) rfl dX7_winter_11 ?_
  refine Ev_aload_n (x := v0) rfl dX7_winter_12 ?_
  obtain ⟨a5, g5, h⟩ := bsome h
  refine Ev_getR flX7_23 dX7_winter_13 g5 ?_
  obtain ⟨p7, g6, h⟩ := bsome h
  refine Ev_callVi (np := 0) (vs := []) (rest := [.ref v0]) mdX6_passWinter lkX7_145 ⟨_, rfl, rfl⟩ (oX6_passWinter g6) (rX6_passWinter g6) rfl rfl (Nat.le_of_ble_eq_true rfl) (Nat.le_of_ble_eq_true rfl) dX7_winter_16 ?_
  obtain ⟨p9, g8, h⟩ := bsome h
  refine Ev_callVi (np := 1) (vs := [.int p7.1]) (rest := []) mdX7_take lkX7_148 ⟨_, rfl, rfl⟩ (oX7_take g8) (rX7_take g8) rfl rfl (Nat.le_of_ble_eq_true rfl) (Nat.le_of_ble_eq_true rfl) dX7_winter_19 ?_
  cases h
  exact Ev_iret rfl rfl dX7_winter_22 ⟨rfl, rfl⟩
/-! TinselRiver.hang(II)I -/
def fX7_hang (M : mM) (v0 : Nat) (v1 : Int32) (v2 : Int32) : Option (Int32 × mM) :=
    if isO M v0 7 = true then
      (gR M v0 7 2).bind fun a1 =>
      (gR M v0 7 1).bind fun a2 =>
      (fX6_setTo M a1 a2).bind fun M4 =>
      (gR M4 v0 7 2).bind fun a5 =>
      (fX6_hangIn M4 a5 v1 v2).bind fun p7 =>
      (fX7_take p7.2 v0 p7.1).bind fun p9 =>
      some (p9.1, p9.2)
    else none
theorem oX7_hang {M : mM} {v0 : Nat} {v1 : Int32} {v2 : Int32} {y : (Int32 × mM)} (h : fX7_hang M v0 v1 v2 = some y) : isO M v0 7 = true := by
  unfold fX7_hang at h
  exact (gsome h).1
set_option maxRecDepth 20000 in
set_option maxHeartbeats 4000000 in
theorem rX7_hang {E : mE} {M : mM} {v0 : Nat} {v1 : Int32} {v2 : Int32} {x : Int32} {Mf : mM} (h : fX7_hang M v0 v1 v2 = some (x, Mf)) : EvC mX7_hang E 6 0 0 [.ref v0, .int v1, .int v2] M (some (.int x)) Mf := by
  unfold fX7_hang at h
  replace h := (gsome h).2
  refine EvC.of [some (.ref v0), some (.int v1), some (.int v2)] pnX7_hang rfl (Nat.le_of_ble_eq_true rfl) ?_
  refine Ev_aload_n (x := v0) rfl dX7_hang_0 ?_
  obtain ⟨a1, g1, h⟩ := bsome h
  refine Ev_getR flX7_23 dX7_hang_1 g1 ?_
  refine Ev_aload_n (x := v0) rfl dX7_hang_4 ?_
  obtain ⟨a2, g2, h⟩ := bsome h
  refine Ev_getR flX7_19 dX7_hang_5 g2 ?_
  obtain ⟨M4, g3, h⟩ := bsome h
  refine Ev_callVv (np := 1) (vs := [.ref a2]) (rest := []) mdX6_setTo lkX7_142 ⟨_, rfl, rfl⟩ (oX6_setTo g3) (rX6_setTo g3) rfl rfl (Nat.le_of_ble_eq_true rfl) (Nat.le_of_ble_eq_true rfl) dX7_hang_8 ?_
  refine Ev_aload_n (x := v0) rfl dX7_hang_11 ?_
  refine Ev_aload_n (x := v0) rfl dX7_hang_12 ?_
  obtain ⟨a5, g5, h⟩ := bsome h
  refine Ev_getR flX7_23 dX7_hang_13 g5 ?_
  refine Ev_iload_n (x := v1) rfl dX7_hang_16 ?_
  refine Ev_iload_n (x := v2) rfl dX7_hang_17 ?_
  obtain ⟨p7, g6, h⟩ := bsome h
  refine Ev_callVi (np := 2) (vs := [.int v1, .int v2]) (rest := [.ref v0]) mdX6_hangIn lkX7_151 ⟨_, rfl, rfl⟩ (oX6_hangIn g6) (rX6_hangIn g6) rfl rfl (Nat.le_of_ble_eq_true rfl) (Nat.le_of_ble_eq_true rfl) dX7_hang_18 ?_
  obtain ⟨p9, g8, h⟩ := bsome h
  refine Ev_callVi (np := 1) (vs := [.int p7.1]) (rest := []) mdX7_take lkX7_148 ⟨_, rfl, rfl⟩ (oX7_take g8) (rX7_take g8) rfl rfl (Nat.le_of_ble_eq_true rfl) (Nat.le_of_ble_eq_true rfl) dX7_hang_21 ?_
  cases h
  exact Ev_iret rfl rfl dX7_hang_24 ⟨rfl, rfl⟩
