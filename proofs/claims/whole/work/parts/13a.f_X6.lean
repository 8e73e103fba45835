/-! printed by wip/whole/gen.py -/
/-! TinselRiver$Valley.<init>()V -/
def fX6_init (M : mM) (v0 : Nat) : Option mM :=
    if isO M v0 6 = true then
      (some (M ++ [.inr (.inr (false, List.replicate 4 .null))])).bind fun M1 =>
      (sV M1 v0 6 0 (.ref (List.length M))).bind fun M2 =>
      (gR M2 v0 6 0).bind fun a4 =>
      (some (M2 ++ [.inl (4, dfX4)])).bind fun M5 =>
      (fX4_init M5 (List.length M2)).bind fun M6 =>
      (qS M6 false a4 0 (List.length M2)).bind fun M7 =>
      (gR M7 v0 6 0).bind fun a9 =>
      (some (M7 ++ [.inl (4, dfX4)])).bind fun M10 =>
      (fX4_init M10 (List.length M7)).bind fun M11 =>
      (qS M11 false a9 1 (List.length M7)).bind fun M12 =>
      (gR M12 v0 6 0).bind fun a14 =>
      (some (M12 ++ [.inl (4, dfX4)])).bind fun M15 =>
      (fX4_init M15 (List.length M12)).bind fun M16 =>
      (qS M16 false a14 2 (List.length M12)).bind fun M17 =>
      (gR M17 v0 6 0).bind fun a19 =>
      (some (M17 ++ [.inl (4, dfX4)])).bind fun M20 =>
      (fX4_init M20 (List.length M17)).bind fun M21 =>
      (qS M21 false a19 3 (List.length M17)).bind fun M22 =>
      some M22
    else none
theorem oX6_init {M : mM} {v0 : Nat} {y : mM} (h : fX6_init M v0 = some y) : isO M v0 6 = true := by
  unfold fX6_init at h
  exact (gsome h).1
set_option maxRecDepth 20000 in
set_option maxHeartbeats 4000000 in
theorem rX6_init {E : mE} {M : mM} {v0 : Nat} {Mf : mM} (h : fX6_init M v0 = some Mf) : EvC mX6_init E 3 13 72 [.ref v0] M none Mf := by
  unfold fX6_init at h
  replace h := (gsome h).2
  refine EvC.of [some (.ref v0), none] pnX6_init rfl (Nat.le_of_ble_eq_true rfl) ?_
  refine Ev_aload_n (x := v0) rfl dX6_init_0 ?_
  refine Ev_objInit lkX6_3 md_oi1 md_oi2 (Nat.le_of_ble_eq_true rfl) (Nat.le_of_ble_eq_true rfl) dX6_init_1 ?_
  refine Ev_aload_n (x := v0) rfl dX6_init_4 ?_
  refine Ev_iconst ic_4 dX6_init_5 ?_
  obtain ⟨M1, g1, h⟩ := bsome h
  refine Ev_anew_e (z := false) (N := 4) clX6_9 (by decide) (by decide) (Nat.le_of_ble_eq_true rfl) (Nat.le_of_ble_eq_true rfl) (Nat.le_of_ble_eq_true rfl) (Option.some.inj g1) dX6_init_6 ?_
  obtain ⟨M2, g2, h⟩ := bsome h
  refine Ev_put (v := .ref (List.length M)) flX6_11 ⟨rfl, rfl⟩ (fun q hq => by cases hq; exact Or.inr ⟨rfl, rfl, rfl, _, mT0_tbl (i := 83) (by decide +kernel) (by decide +kernel), rfl⟩) dX6_init_9 g2 ?_
  refine Ev_iconst ic_0 dX6_init_12 ?_
  refine Ev_istore_n (loc2 := [some (.ref v0), some (.int 0)]) (Nat.le_of_ble_eq_true rfl) rfl rfl dX6_init_13 ?_
  refine Ev_iload_n (x := 0) rfl dX6_init_14 ?_
  refine Ev_iconst ic_4 dX6_init_15 ?_
  refine Ev_icmp_ge (tgt := 38) dX6_init_16 (by decide) (fun q3 => absurd q3 (by decide)) (fun _ => ?_)
  refine Ev_aload_n (x := v0) rfl dX6_init_19 ?_
  obtain ⟨a4, g4, h⟩ := bsome h
  refine Ev_getR flX6_11 dX6_init_20 g4 ?_
  refine Ev_iload_n (x := 0) rfl dX6_init_23 ?_
  obtain ⟨M5, g5, h⟩ := bsome h
  refine Ev_new_e (ci := 4) (q := (RX4, TX4, 3)) (fs := dfX4) rfl clX6_9 inX4 iniX4 rfl dfX4_ok rfl (Nat.le_of_ble_eq_true rfl) (Nat.le_of_ble_eq_true rfl) (Option.some.inj g5) dX6_init_24 ?_
  refine Ev_dup rfl dX6_init_27 ?_
  obtain ⟨M6, g6, h⟩ := bsome h
  refine Ev_callI (np := 0) (vs := []) (rest := [.ref (List.length M2), .int 0, .ref a4]) mdX4_init (Or.inr lkX6_17) (rX4_init g6) rfl rfl (Nat.le_of_ble_eq_true rfl) (Nat.le_of_ble_eq_true rfl) (Nat.le_of_ble_eq_true rfl) (Nat.le_of_ble_eq_true rfl) dX6_init_28 ?_
  obtain ⟨M7, g7, h⟩ := bsome h
  refine Ev_aast dX6_init_31 g7 ?_
  refine Ev_iinc (x := 0) (v := 1) (loc2 := [some (.ref v0), some (.int 1)]) rfl (by decide) (Nat.le_of_ble_eq_true rfl) rfl rfl dX6_init_32 ?_
  refine Ev_goto (tgt := 14) dX6_init_35 (by decide) ?_
  refine Ev_iload_n (x := 1) rfl dX6_init_14 ?_
  refine Ev_iconst ic_4 dX6_init_15 ?_
  refine Ev_icmp_ge (tgt := 38) dX6_init_16 (by decide) (fun q8 => absurd q8 (by decide)) (fun _ => ?_)
  refine Ev_aload_n (x := v0) rfl dX6_init_19 ?_
  obtain ⟨a9, g9, h⟩ := bsome h
  refine Ev_getR flX6_11 dX6_init_20 g9 ?_
  refine Ev_iload_n (x := 1) rfl dX6_init_23 ?_
  obtain ⟨M10, g10, h⟩ := bsome h
  refine Ev_new_e (ci := 4) (q := (RX4, TX4, 3)) (fs := dfX4) rfl clX6_9 inX4 iniX4 rfl dfX4_ok rfl (Nat.le_of_ble_eq_true rfl) (Nat.le_of_ble_eq_true rfl) (Option.some.inj g10) dX6_init_24 ?_
  refine Ev_dup rfl dX6_init_27 ?_
  obtain ⟨M11, g11, h⟩ := bsome h
  refine Ev_callI (np := 0) (vs := []) (rest := [.ref (List.length M7), .int 1, .ref a9]) mdX4_init (Or.inr lkX6_17) (rX4_init g11) rfl rfl (Nat.le_of_ble_eq_true rfl) (Nat.le_of_ble_eq_true rfl) (Nat.le_of_ble_eq_true rfl) (Nat.le_of_ble_eq_true rfl) dX6_init_28 ?_
  obtain ⟨M12, g12, h⟩ := bsome h
  refine Ev_aast dX6_init_31 g12 ?_
  refine Ev_iinc (x := 1) (v := 2) (loc2 := [some (.ref v0), some (.int 2)]) rfl (by decide) (Nat.le_of_ble_eq_true rfl) rfl rfl dX6_init_32 ?_
  refine Ev_goto (tgt := 14) dX6_init_35 (by decide) ?_
  refine Ev_iload_n (x := 2) rfl dX6_init_14 ?_
  refine Ev_iconst ic_4 dX6_init_15 ?_
  refine Ev_icmp_ge (tgt := 38) dX6_init_16 (by decide) (fun q13 => absurd q13 (by decide)) (fun _ => ?_)
  refine Ev_aload_n (x := v0) rfl dX6_init_19 ?_
  obtain ⟨a14, g14, h⟩ := bsome h
  refine Ev_getR flX6_11 dX6_init_20 g14 ?_
  refine Ev_iload_n (x := 2) rfl dX6_init_23 ?_
  obtain ⟨M15, g15, h⟩ := bsome h
  refine Ev_new_e (ci := 4) (q := (RX4, TX4, 3)) (fs := dfX4) rfl clX6_9 inX4 iniX4 rfl dfX4_ok rfl (Nat.le_of_ble_eq_true rfl) (Nat.le_of_ble_eq_true rfl) (Option.some.inj g15) dX6_init_24 ?_
  refine Ev_dup rfl dX6_init_27 ?_
  obtain ⟨M16, g16, h⟩ := bsome h
  refine Ev_callI (np := 0) (vs := []) (rest := [.ref (List.length M12), .int 2, .ref a14]) mdX4_init (Or.inr lkX6_17) (rX4_init g16) rfl rfl (Nat.le_of_ble_eq_true rfl) (Nat.le_of_ble_eq_true rfl) (Nat.le_of_ble_eq_true rfl) (Nat.le_of_ble_eq_true rfl) dX6_init_28 ?_
  obtain ⟨M17, g17, h⟩ := bsome h
  refine Ev_aast dX6_init_31 g17 ?_
  refine Ev_iinc (x := 2) (v := 3) (loc2 := [some (.ref v0), some (.int 3)]) rfl (by decide) (Nat.le_of_ble_eq_true rfl) rfl rfl dX6_init_32 ?_
  refine Ev_goto (tgt := 14) dX6_init_35 (by decide) ?_
  refine Ev_iload_n (x := 3) rfl dX6_init_14 ?_
  refine Ev_iconst ic_4 dX6_init_15 ?_
  refine Ev_icmp_ge (tgt := 38) dX6_init_16 (by decide) (fun q18 => absurd q18 (by decide)) (fun _ => ?_)
  refine Ev_aload_n (x := v0) rfl dX6_init_19 ?_
  obtain ⟨a19, g19, h⟩ := bsome h
  refine Ev_getR flX6_11 dX6_init_20 g19 ?_
  refine Ev_iload_n (x := 3) rfl dX6_init_23 ?_
  obtain ⟨M20, g20, h⟩ := bsome h
  refine Ev_new_e (ci := 4) (q := (RX4, TX4, 3)) (fs := dfX4) rfl clX6_9 inX4 iniX4 rfl dfX4_ok rfl (Nat.le_of_ble_eq_true rfl) (Nat.le_of_ble_eq_true rfl) (Option.some.inj g20) dX6_init_24 ?_
  refine Ev_dup rfl dX6_init_27 ?_
  obtain ⟨M21, g21, h⟩ := bsome h
  refine Ev_callI (np := 0) (vs := []) (rest := [.ref (List.length M17), .int 3, .ref a19]) mdX4_init (Or.inr lkX6_17) (rX4_init g21) rfl rfl (Nat.le_of_ble_eq_true rfl) (Nat.le_of_ble_eq_true rfl) (Nat.le_of_ble_eq_true rfl) (Nat.le_of_ble_eq_true rfl) dX6_init_28 ?_
  obtain ⟨M22, g22, h⟩ := bsome h
  refine Ev_aast dX6_init_31 g22 ?_
  refine Ev_iinc (x := 3) (v := 4) (loc2 := [some (.ref v0), some (.int 4)]) rfl (by decide) (Nat.le_of_ble_eq_true rfl) rfl rfl dX6_init_32 ?_
  refine Ev_goto (tgt := 14) dX6_init_35 (by decide) ?_
  refine Ev_iload_n (x := 4) rfl dX6_init_14 ?_
  refine Ev_iconst ic_4 dX6_init_15 ?_
  refine Ev_icmp_ge (tgt := 38) dX6_init_16 (by decide) (fun _ => ?_) (fun q23 => absurd q23 (by decide))
  cases h
  exact Ev_vret rfl dX6_init_38 ⟨rfl, rfl⟩
/-! TinselRiver$Valley.setTo(LTinselRiver$Valley;)V -/
def fX6_setTo_c18 : Nat → mM → Nat → Nat → Int32 → Option mM
  | 0, _, _, _, _ => none
  | n + 1, M, v0, v1, v2 =>
    (gI M v0 6 1).bind fun x1 =>
    if x1 ≤ v2 then
      (some M)
    else
      ((gR M v0 6 0).bind fun a3 =>
      (qI M false a3 v2).bind fun a4 =>
      (gR M v1 6 0).bind fun a5 =>
      (qI M false a5 v2).bind fun a6 =>
      (fX4_setTo M a4 a6).bind fun M8 =>
      fX6_setTo_c18 n M8 v0 v1 (v2 + 1))
set_option maxRecDepth 20000 in
set_option maxHeartbeats 4000000 in
theorem rX6_setTo_c18 {E : mE} {Mf : mM} : ∀ (n : Nat) (M : mM) (v0 : Nat) (v1 : Nat) (v2 : Int32), fX6_setTo_c18 n M v0 v1 v2 = some Mf → Ev mX6_setTo E 3 0 0 none Mf 18 [some (.ref v0), some (.ref v1), some (.int v2)] [] M 0 0 := by
  intro n
  induction n with
  | zero => intro M v0 v1 v2 h; rw [fX6_setTo_c18.eq_1] at h; cases h
  | succ n ih =>
    intro M v0 v1 v2 h
    rw [fX6_setTo_c18.eq_2] at h
    refine Ev_iload_n (x := v2) rfl dX6_setTo_18 ?_
    refine Ev_aload_n (x := v0) rfl dX6_setTo_19 ?_
    obtain ⟨x1, g1, h⟩ := bsome h
    refine Ev_getI flX6_18 dX6_setTo_20 g1 ?_
    refine Ev_icmp_ge (tgt := 47) dX6_setTo_23 (by decide) (fun q2 => ?_) (fun q2 => ?_)
    · rw [if_pos q2] at h
      cases h
      exact Ev_vret rfl dX6_setTo_47 ⟨rfl, rfl⟩
    · rw [if_neg q2] at h
      refine Ev_aload_n (x := v0) rfl dX6_setTo_26 ?_
      obtain ⟨a3, g3, h⟩ := bsome h
      refine Ev_getR flX6_11 dX6_setTo_27 g3 ?_
      refine Ev_iload_n (x := v2) rfl dX6_setTo_30 ?_
      obtain ⟨a4, g4, h⟩ := bsome h
      refine Ev_aald dX6_setTo_31 g4 ?_
      refine Ev_aload_n (x := v1) rfl dX6_setTo_32 ?_
      obtain ⟨a5, g5, h⟩ := bsome h
      refine Ev_getR flX6_11 dX6_setTo_33 g5 ?_
      refine Ev_iload_n (x := v2) rfl dX6_setTo_36 ?_
      obtain ⟨a6, g6, h⟩ := bsome h
      refine Ev_aald dX6_setTo_37 g6 ?_
      obtain ⟨M8, g7, h⟩ := bsome h
      refine Ev_callVv (np := 1) (vs := [.ref a6]) (rest := []) mdX4_setTo lkX6_25 ⟨_, rfl, rfl⟩ (oX4_setTo g7) (rX4_setTo g7) rfl rfl (Nat.le_of_ble_eq_true rfl) (Nat.le_of_ble_eq_true rfl) dX6_setTo_38 ?_
      refine Ev_iinc (x := v2) (v := (v2 + 1)) (loc2 := [some (.ref v0), some (.ref v1), some (.int (v2 + 1))]) rfl (congrArg (v2 + ·) ic_1) (Nat.le_of_ble_eq_true rfl) rfl rfl dX6_setTo_41 ?_
      refine Ev_goto (tgt := 18) dX6_setTo_44 (by decide) ?_
      exact ih M8 v0 v1 (v2 + 1) h
def fX6_setTo (M : mM) (v0 : Nat) (v1 : Nat) : Option mM :=
    if isO M v0 6 = true then
      (gI M v1 6 1).bind fun x1 =>
      (sV M v0 6 1 (.int x1)).bind fun M2 =>
      (gI M2 v1 6 2).bind fun x3 =>
      (sV M2 v0 6 2 (.int x3)).bind fun M4 =>
      fX6_setTo_c18 FUEL M4 v0 v1 0
    else none
theorem oX6_setTo {M : mM} {v0 : Nat} {v1 : Nat} {y : mM} (h : fX6_setTo M v0 v1 = some y) : isO M v0 6 = true := by
  unfold fX6_setTo at h
  exact (gsome h).1
set_option maxRecDepth 20000 in
set_option maxHeartbeats 4000000 in
theorem rX6_setTo {E : mE} {M : mM} {v0 : Nat} {v1 : Nat} {Mf : mM} (h : fX6_setTo M v0 v1 = some Mf) : EvC mX6_setTo E 3 0 0 [.ref v0, .ref v1] M none Mf := by
  unfold fX6_setTo at h
  replace h := (gsome h).2
  refine EvC.of [some (.ref v0), some (.ref v1), none] pnX6_setTo rfl (Nat.le_of_ble_eq_true rfl) ?_
  refine Ev_aload_n (x := v0) rfl dX6_setTo_0 ?_
  refine Ev_aload_n (x := v1) rfl dX6_setTo_1 ?_
  obtain ⟨x1, g1, h⟩ := bsome h
  refine Ev_getI flX6_18 dX6_setTo_2 g1 ?_
  obtain ⟨M2, g2, h⟩ := bsome h
  refine Ev_put (v := .int x1) flX6_18 ⟨rfl, rfl⟩ (fun q hq => by cases hq; exact Or.inl rfl) dX6_setTo_5 g2 ?_
  refine Ev_aload_n (x := v0) rfl dX6_setTo_8 ?_
  refine Ev_aload_n (x := v1) rfl dX6_setTo_9 ?_
  obtain ⟨x3, g3, h⟩ := bsome h
  refine Ev_getI flX6_22 dX6_setTo_10 g3 ?_
  obtain ⟨M4, g4, h⟩ := bsome h
  refine Ev_put (v := .int x3) flX6_22 ⟨rfl, rfl⟩ (fun q hq => by cases hq; exact Or.inl rfl) dX6_setTo_13 g4 ?_
  refine Ev_iconst ic_0 dX6_setTo_16 ?_
  refine Ev_istore_n (loc2 := [some (.ref v0), some (.ref v1), some (.int 0)]) (Nat.le_of_ble_eq_true rfl) rfl rfl dX6_setTo_17 ?_
  exact rX6_setTo_c18 FUEL M4 v0 v1 0 h
/-! TinselRiver$Valley.begin(II)V -/
def fX6_begin (M : mM) (v0 : Nat) (v1 : Int32) (v2 : Int32) : Option mM :=
    if isO M v0 6 = true then
      (gI M v0 6 1).bind fun x1 =>
      if 4 ≤ x1 then
        (some M)
      else
        ((gR M v0 6 0).bind fun a3 =>
        (gI M v0 6 1).bind fun x4 =>
        (qI M false a3 x4).bind fun a5 =>
        (sV M a5 4 1 (.int v1)).bind fun M6 =>
        (gR M6 v0 6 0).bind fun a7 =>
        (gI M6 v0 6 1).bind fun x8 =>
        (qI M6 false a7 x8).bind fun a9 =>
        (sV M6 a9 4 2 (.int v2)).bind fun M10 =>
        (gR M10 v0 6 0).bind fun a11 =>
        (gI M10 v0 6 1).bind fun x12 =>
        (qI M10 false a11 x12).bind fun a13 =>
        (gR M10 a13 4 0).bind fun a14 =>
        (fX2_clear M10 a14).bind fun M16 =>
        (gI M16 v0 6 1).bind fun x17 =>
        (sV M16 v0 6 1 (.int (x17 + 1))).bind fun M18 =>
        some M18)
    else none
theorem oX6_begin {M : mM} {v0 : Nat} {v1 : Int32} {v2 : Int32} {y : mM} (h : fX6_begin M v0 v1 v2 = some y) : isO M v0 6 = true := by
  unfold fX6_begin at h
  exact (gsome h).1
set_option maxRecDepth 20000 in
set_option maxHeartbeats 4000000 in
theorem rX6_begin {E : mE} {M : mM} {v0 : Nat} {v1 : Int32} {v2 : Int32} {Mf : mM} (h : fX6_begin M v0 v1 v2 = some Mf) : EvC mX6_begin E 1 0 0 [.ref v0, .int v1, .int v2] M none Mf := by
  unfold fX6_begin at h
  replace h := (gsome h).2
  refine EvC.of [some (.ref v0), some (.int v1), some (.int v2)] pnX6_begin rfl (Nat.le_of_ble_eq_true rfl) ?_
  refine Ev_aload_n (x := v0) rfl dX6_begin_0 ?_
  obtain ⟨x1, g1, h⟩ := bsome h
  refine Ev_getI flX6_18 dX6_begin_1 g1 ?_
  refine Ev_iconst ic_4 dX6_begin_4 ?_
  refine Ev_icmp_ge (tgt := 59) dX6_begin_5 (by decide) (fun q2 => ?_) (fun q2 => ?_)
  · rw [if_pos q2] at h
    cases h
    exact Ev_vret rfl dX6_begin_59 ⟨rfl, rfl⟩
  · rw [if_neg q2] at h
    refine Ev_aload_n (x := v0) rfl dX6_begin_8 ?_
    obtain ⟨a3, g3, h⟩ := bsome h
    refine Ev_getR flX6_11 dX6_begin_9 g3 ?_
    refine Ev_aload_n (x := v0) rfl dX6_begin_12 ?_
    obtain ⟨x4, g4, h⟩ := bsome h
    refine Ev_getI flX6_18 dX6_begin_13 g4 ?_
    obtain ⟨a5, g5, h⟩ := bsome h
    refine Ev_aald dX6_begin_16 g5 ?_
    refine Ev_iload_n (x := v1) rfl dX6_begin_17 ?_
    obtain ⟨M6, g6, h⟩ := bsome h
    refine Ev_put (v := .int v1) flX6_29 ⟨rfl, rfl⟩ (fun q hq => by cases hq; exact Or.inl rfl) dX6_begin_18 g6 ?_
    refine Ev_aload_n (x := v0) rfl dX6_begin_21 ?_
    obtain ⟨a7, g7, h⟩ := bsome h
    refine Ev_getR flX6_11 dX6_begin_22 g7 ?_
    refine Ev_aload_n (x := v0) rfl dX6_begin_25 ?_
    obtain ⟨x8, g8, h⟩ := bsome h
    refine Ev_getI flX6_18 dX6_begin_26 g8 ?_
    obtain ⟨a9, g9, h⟩ := bsome h
    refine Ev_aald dX6_begin_29 g9 ?_
    refine Ev_iload_n (x := v2) rfl dX6_begin_30 ?_
    obtain ⟨M10, g10, h⟩ := bsome h
    refine Ev_put (v := .int v2) flX6_32 ⟨rfl, rfl⟩ (fun q hq => by cases hq; exact Or.inl rfl) dX6_begin_31 g10 ?_
    refine Ev_aload_n (x := v0) rfl dX6_begin_34 ?_
    obtain ⟨a11, g11, h⟩ := bsome h
    refine Ev_getR flX6_11 dX6_begin_35 g11 ?_
    refine Ev_aload_n (x := v0) rfl dX6_begin_38 ?_
    obtain ⟨x12, g12, h⟩ := bsome h
    refine Ev_getI flX6_18 dX6_begin_39 g12 ?_
    obtain ⟨a13, g13, h⟩ := bsome h
    refine Ev_aald dX6_begin_42 g13 ?_
    obtain ⟨a14, g14, h⟩ := bsome h
    refine Ev_getR flX6_35 dX6_begin_43 g14 ?_
    obtain ⟨M16, g15, h⟩ := bsome h
    refine Ev_callVv (np := 0) (vs := []) (rest := []) mdX2_clear lkX6_39 ⟨_, rfl, rfl⟩ (oX2_clear g15) (rX2_clear g15) rfl rfl (Nat.le_of_ble_eq_true rfl) (Nat.le_of_ble_eq_true rfl) dX6_begin_46 ?_
    refine Ev_aload_n (x := v0) rfl dX6_begin_49 ?_
    refine Ev_dup rfl dX6_begin_50 ?_
    obtain ⟨x17, g17, h⟩ := bsome h
    refine Ev_getI flX6_18 dX6_begin_51 g17 ?_
    refine Ev_iconst ic_1 dX6_begin_54 ?_
    refine Ev_iadd dX6_begin_55 ?_
    obtain ⟨M18, g18, h⟩ := bsome h
    refine Ev_put (v := .int (x17 + 1)) flX6_18 ⟨rfl, rfl⟩ (fun q hq => by cases hq; exact Or.inl rfl) dX6_begin_56 g18 ?_
    cases h
    exact Ev_vret rfl dX6_begin_59 ⟨rfl, rfl⟩
/-! TinselRiver$Valley.bendLast(I)V -/
def fX6_bendLast (M : mM) (v0 : Nat) (v1 : Int32) : Option mM :=
    if isO M v0 6 = true then
      (gI M v0 6 1).bind fun x1 =>
      if x1 ≤ 0 then
        (some M)
      else
        ((gR M v0 6 0).bind fun a3 =>
        (gI M v0 6 1).bind fun x4 =>
        (qI M false a3 (x4 - 1)).bind fun a5 =>
        (gR M a5 4 0).bind fun a6 =>
        (fX2_add M a6 v1).bind fun M8 =>
        some M8)
    else none
theorem oX6_bendLast {M : mM} {v0 : Nat} {v1 : Int32} {y : mM} (h : fX6_bendLast M v0 v1 = some y) : isO M v0 6 = true := by
  unfold fX6_bendLast at h
  exact (gsome h).1
set_option maxRecDepth 20000 in
set_option maxHeartbeats 4000000 in
theorem rX6_bendLast {E : mE} {M : mM} {v0 : Nat} {v1 : Int32} {Mf : mM} (h : fX6_bendLast M v0 v1 = some Mf) : EvC mX6_bendLast E 1 0 0 [.ref v0, .int v1] M none Mf := by
  unfold fX6_bendLast at h
  replace h := (gsome h).2
  refine EvC.of [some (.ref v0), some (.int v1)] pnX6_bendLast rfl (Nat.le_of_ble_eq_true rfl) ?_
  refine Ev_aload_n (x := v0) rfl dX6_bendLast_0 ?_
  obtain ⟨x1, g1, h⟩ := bsome h
  refine Ev_getI flX6_18 dX6_bendLast_1 g1 ?_
  refine Ev_if_le (tgt := 25) dX6_bendLast_4 (by decide) (fun q2 => ?_) (fun q2 => ?_)
  · rw [if_pos q2] at h
    cases h
    exact Ev_vret rfl dX6_bendLast_25 ⟨rfl, rfl⟩
  · rw [if_neg q2] at h
    refine Ev_aload_n (x := v0) rfl dX6_bendLast_7 ?_
    obtain ⟨a3, g3, h⟩ := bsome h
    refine Ev_getR flX6_11 dX6_bendLast_8 g3 ?_
    refine Ev_aload_n (x := v0) rfl dX6_bendLast_11 ?_
    obtain ⟨x4, g4, h⟩ := bsome h
    refine Ev_getI flX6_18 dX6_bendLast_12 g4 ?_
    refine Ev_iconst ic_1 dX6_bendLast_15 ?_
    refine Ev_isub dX6_bendLast_16 ?_
    obtain ⟨a5, g5, h⟩ := bsome h
    refine Ev_aald dX6_bendLast_17 g5 ?_
    obtain ⟨a6, g6, h⟩ := bsome h
    refine Ev_getR flX6_35 dX6_bendLast_18 g6 ?_
    refine Ev_iload_n (x := v1) rfl dX6_bendLast_21 ?_
    obtain ⟨M8, g7, h⟩ := bsome h
    refine Ev_callVv (np := 1) (vs := [.int v1]) (rest := []) mdX2_add lkX6_44 ⟨_, rfl, rfl⟩ (oX2_add g7) (rX2_add g7) rfl rfl (Nat.le_of_ble_eq_true rfl) (Nat.le_of_ble_eq_true rfl) dX6_bendLast_22 ?_
    cases h
    exact Ev_vret rfl dX6_bendLast_25 ⟨rfl, rfl⟩
/-! TinselRiver$Valley.clear()V -/
def fX6_clear (M : mM) (v0 : Nat) : Option mM :=
    if isO M v0 6 = true then
      (sV M v0 6 1 (.int 0)).bind fun M1 =>
      (sV M1 v0 6 2 (.int 0)).bind fun M2 =>
      some M2
    else none
theorem oX6_clear {M : mM} {v0 : Nat} {y : mM} (h : fX6_clear M v0 = some y) : isO M v0 6 = true := by
  unfold fX6_clear at h
  exact (gsome h).1
set_option maxRecDepth 20000 in
set_option maxHeartbeats 4000000 in
theorem rX6_clear {E : mE} {M : mM} {v0 : Nat} {Mf : mM} (h : fX6_clear M v0 = some Mf) : EvC mX6_clear E 0 0 0 [.ref v0] M none Mf := by
  unfold fX6_clear at h
  replace h := (gsome h).2
  refine EvC.of [some (.ref v0)] pnX6_clear rfl (Nat.le_of_ble_eq_true rfl) ?_
  refine Ev_aload_n (x := v0) rfl dX6_clear_0 ?_
  refine Ev_iconst ic_0 dX6_clear_1 ?_
  obtain ⟨M1, g1, h⟩ := bsome h
  refine Ev_put (v := .int 0) flX6_18 ⟨rfl, rfl⟩ (fun q hq => by cases hq; exact Or.inl rfl) dX6_clear_2 g1 ?_
  refine Ev_aload_n (x := v0) rfl dX6_clear_5 ?_
  refine Ev_iconst ic_0 dX6_clear_6 ?_
  obtain ⟨M2, g2, h⟩ := bsome h
  refine Ev_put (v := .int 0) flX6_22 ⟨rfl, rfl⟩ (fun q hq => by cases hq; exact Or.inl rfl) dX6_clear_7 g2 ?_
  cases h
  exact Ev_vret rfl dX6_clear_10 ⟨rfl, rfl⟩
/-! TinselRiver$Valley.has(I)Z -/
def fX6_has (M : mM) (v0 : Nat) (v1 : Int32) : Option Int32 :=
    if isO M v0 6 = true then
      if v1 < 0 then
        (some 0)
      else
        ((gI M v0 6 1).bind fun x2 =>
        if x2 ≤ v1 then
          (some 0)
        else
          ((gR M v0 6 0).bind fun a4 =>
          (qI M false a4 v1).bind fun a5 =>
          (gR M a5 4 0).bind fun a6 =>
          (gI M a6 2 1).bind fun x7 =>
          if x7 ≤ 0 then
            (some 0)
          else
            (some 1)))
    else none
theorem oX6_has {M : mM} {v0 : Nat} {v1 : Int32} {y : Int32} (h : fX6_has M v0 v1 = some y) : isO M v0 6 = true := by
  unfold fX6_has at h
  exact (gsome h).1
set_option maxRecDepth 20000 in
set_option maxHeartbeats 4000000 in
theorem rX6_has {E : mE} {M : mM} {v0 : Nat} {v1 : Int32} {x : Int32} (h : fX6_has M v0 v1 = some x) : EvC mX6_has E 0 0 0 [.ref v0, .int v1] M (some (.int x)) M := by
  unfold fX6_has at h
  replace h := (gsome h).2
  refine EvC.of [some (.ref v0), some (.int v1)] pnX6_has rfl (Nat.le_of_ble_eq_true rfl) ?_
  refine Ev_iload_n (x := v1) rfl dX6_has_0 ?_
  refine Ev_if_lt (tgt := 31) dX6_has_1 (by decide) (fun q1 => ?_) (fun q1 => ?_)
  · rw [if_pos q1] at h
    refine Ev_iconst ic_0 dX6_has_31 ?_
    cases h
    exact Ev_iret rfl rfl dX6_has_32 ⟨rfl, rfl⟩
  · rw [if_neg q1] at h
    refine Ev_iload_n (x := v1) rfl dX6_has_4 ?_
    refine Ev_aload_n (x := v0) rfl dX6_has_5 ?_
    obtain ⟨x2, g2, h⟩ := bsome h
    refine Ev_getI flX6_18 dX6_has_6 g2 ?_
    refine Ev_icmp_ge (tgt := 31) dX6_has_9 (by decide) (fun q3 => ?_) (fun q3 => ?_)
    · rw [if_pos q3] at h
      refine Ev_iconst ic_0 dX6_has_31 ?_
      cases h
      exact Ev_iret rfl rfl dX6_has_32 ⟨rfl, rfl⟩
    · rw [if_neg q3] at h
      refine Ev_aload_n (x := v0) rfl dX6_has_12 ?_
      obtain ⟨a4, g4, h⟩ := bsome h
      refine Ev_getR flX6_11 dX6_has_13 g4 ?_
      refine Ev_iload_n (x := v1) rfl dX6_has_16 ?_
      obtain ⟨a5, g5, h⟩ := bsome h
      refine Ev_aald dX6_has_17 g5 ?_
      obtain ⟨a6, g6, h⟩ := bsome h
      refine Ev_getR flX6_35 dX6_has_18 g6 ?_
      obtain ⟨x7, g7, h⟩ := bsome h
      refine Ev_getI flX6_48 dX6_has_21 g7 ?_
      refine Ev_if_le (tgt := 31) dX6_has_24 (by decide) (fun q8 => ?_) (fun q8 => ?_)
      · rw [if_pos q8] at h
        refine Ev_iconst ic_0 dX6_has_31 ?_
        cases h
        exact Ev_iret rfl rfl dX6_has_32 ⟨rfl, rfl⟩
      · rw [if_neg q8] at h
        refine Ev_iconst ic_1 dX6_has_27 ?_
        refine Ev_goto (tgt := 32) dX6_has_28 (by decide) ?_
        cases h
        exact Ev_iret rfl rfl dX6_has_32 ⟨rfl, rfl⟩
/-! TinselRiver$Valley.whoIsThere()I -/
def fX6_whoIsThere_c4 (M : mM) : Nat → Nat → Int32 → Int32 → Option Int32
  | 0, _, _, _ => none
  | n + 1, v0, v1, v2 =>
    (gI M v0 6 1).bind fun x1 =>
    if x1 ≤ v2 then
      (some v1)
    else
      ((fX6_has M v0 v2).bind fun x4 =>
      if x4 = 0 then
        (fX6_whoIsThere_c4 M n v0 (v1 ||| 0) (v2 + 1))
      else
        (fX6_whoIsThere_c4 M n v0 (v1 ||| (1 <<< (v2 &&& 31))) (v2 + 1)))
set_option maxRecDepth 20000 in
set_option maxHeartbeats 4000000 in
theorem rX6_whoIsThere_c4 {E : mE} {M : mM} {x : Int32} : ∀ (n : Nat) (v0 : Nat) (v1 : Int32) (v2 : Int32), fX6_whoIsThere_c4 M n v0 v1 v2 = some x → Ev mX6_whoIsThere E 1 0 0 (some (.int x)) M 4 [some (.ref v0), some (.int v1), some (.int v2)] [] M 0 0 := by
  intro n
  induction n with
  | zero => intro v0 v1 v2 h; rw [fX6_whoIsThere_c4.eq_1] at h; cases h
  | succ n ih =>
    intro v0 v1 v2 h
    rw [fX6_whoIsThere_c4.eq_2] at h
    refine Ev_iload_n (x := v2) rfl dX6_whoIsThere_4 ?_
    refine Ev_aload_n (x := v0) rfl dX6_whoIsThere_5 ?_
    obtain ⟨x1, g1, h⟩ := bsome h
    refine Ev_getI flX6_18 dX6_whoIsThere_6 g1 ?_
    refine Ev_icmp_ge (tgt := 36) dX6_whoIsThere_9 (by decide) (fun q2 => ?_) (fun q2 => ?_)
    · rw [if_pos q2] at h
      refine Ev_iload_n (x := v1) rfl dX6_whoIsThere_36 ?_
      cases h
      exact Ev_iret rfl rfl dX6_whoIsThere_37 ⟨rfl, rfl⟩
    · rw [if_neg q2] at h
      refine Ev_iload_n (x := v1) rfl dX6_whoIsThere_12 ?_
      refine Ev_aload_n (x := v0) rfl dX6_whoIsThere_13 ?_
      refine Ev_iload_n (x := v2) rfl dX6_whoIsThere_14 ?_
      obtain ⟨x4, g3, h⟩ := bsome h
      refine Ev_callVi (np := 1) (vs := [.int v2]) (rest := [.int v1]) mdX6_has lkX6_51 ⟨_, rfl, rfl⟩ (oX6_has g3) (rX6_has g3) rfl rfl (Nat.le_of_ble_eq_true rfl) (Nat.le_of_ble_eq_true rfl) dX6_whoIsThere_15 ?_
      refine Ev_if_eq (tgt := 27) dX6_whoIsThere_18 (by decide) (fun q5 => ?_) (fun q5 => ?_)
      · rw [if_pos q5] at h
        refine Ev_iconst ic_0 dX6_whoIsThere_27 ?_
        refine Ev_ior dX6_whoIsThere_28 ?_
        refine Ev_istore_n (loc2 := [some (.ref v0), some (.int (v1 ||| 0)), some (.int v2)]) (Nat.le_of_ble_eq_true rfl) rfl rfl dX6_whoIsThere_29 ?_
        refine Ev_iinc (x := v2) (v := (v2 + 1)) (loc2 := [some (.ref v0), some (.int (v1 ||| 0)), some (.int (v2 + 1))]) rfl (congrArg (v2 + ·) ic_1) (Nat.le_of_ble_eq_true rfl) rfl rfl dX6_whoIsThere_30 ?_
        refine Ev_goto (tgt := 4) dX6_whoIsThere_33 (by decide) ?_
        exact ih v0 (v1 ||| 0) (v2 + 1) h
      · rw [if_neg q5] at h
        refine Ev_iconst ic_1 dX6_whoIsThere_21 ?_
        refine Ev_iload_n (x := v2) rfl dX6_whoIsThere_22 ?_
        refine Ev_ishl dX6_whoIsThere_23 ?_
        refine Ev_goto (tgt := 28) dX6_whoIsThere_24 (by decide) ?_
        refine Ev_ior dX6_whoIsThere_28 ?_
        refine Ev_istore_n (loc2 := [some (.ref v0), some (.int (v1 ||| (1 <<< (v2 &&& 31)))), some (.int v2)]) (Nat.le_of_ble_eq_true rfl) rfl rfl dX6_whoIsThere_29 ?_
        refine Ev_iinc (x := v2) (v := (v2 + 1)) (loc2 := [some (.ref v0), some (.int (v1 ||| (1 <<< (v2 &&& 31)))), some (.int (v2 + 1))]) rfl (congrArg (v2 + ·) ic_1) (Nat.le_of_ble_eq_true rfl) rfl rfl dX6_whoIsThere_30 ?_
        refine Ev_goto (tgt := 4) dX6_whoIsThere_33 (by decide) ?_
        exact ih v0 (v1 ||| (1 <<< (v2 &&& 31))) (v2 + 1) h
def fX6_whoIsThere (M : mM) (v0 : Nat) : Option Int32 :=
    if isO M v0 6 = true then
      fX6_whoIsThere_c4 M FUEL v0 0 0
    else none
theorem oX6_whoIsThere {M : mM} {v0 : Nat} {y : Int32} (h : fX6_whoIsThere M v0 = some y) : isO M v0 6 = true := by
  unfold fX6_whoIsThere at h
  exact (gsome h).1
set_option maxRecDepth 20000 in
set_option maxHeartbeats 4000000 in
theorem rX6_whoIsThere {E : mE} {M : mM} {v0 : Nat} {x : Int32} (h : fX6_whoIsThere M v0 = some x) : EvC mX6_whoIsThere E 1 0 0 [.ref v0] M (some (.int x)) M := by
  unfold fX6_whoIsThere at h
  replace h := (gsome h).2
  refine EvC.of [some (.ref v0), none, none] pnX6_whoIsThere rfl (Nat.le_of_ble_eq_true rfl) ?_
  refine Ev_iconst ic_0 dX6_whoIsThere_0 ?_
  refine Ev_istore_n (loc2 := [some (.ref v0), some (.int 0), none]) (Nat.le_of_ble_eq_true rfl) rfl rfl dX6_whoIsThere_1 ?_
  refine Ev_iconst ic_0 dX6_whoIsThere_2 ?_
  refine Ev_istore_n (loc2 := [some (.ref v0), some (.int 0), some (.int 0)]) (Nat.le_of_ble_eq_true rfl) rfl rfl dX6_whoIsThere_3 ?_
  exact rX6_whoIsThere_c4 FUEL v0 0 0 h
/-! TinselRiver$Valley.bendsFrom(I)I -/
def fX6_bendsFrom_c8 (M : mM) : Nat → Nat → Int32 → Int32 → Option Int32
  | 0, _, _, _ => none
  | n + 1, v0, v2, v3 =>
    (gI M v0 6 1).bind fun x1 =>
    if x1 ≤ v3 then
      (some v2)
    else
      ((gR M v0 6 0).bind fun a3 =>
      (qI M false a3 v3).bind fun a4 =>
      (gR M a4 4 0).bind fun a5 =>
      (gI M a5 2 1).bind fun x6 =>
      fX6_bendsFrom_c8 M n v0 (v2 + x6) (v3 + 1))
set_option maxRecDepth 20000 in
set_option maxHeartbeats 4000000 in
theorem rX6_bendsFrom_c8 {E : mE} {M : mM} {x : Int32} : ∀ (n : Nat) (v0 : Nat) (v2 : Int32) (v3 : Int32), fX6_bendsFrom_c8 M n v0 v2 v3 = some x → Ev mX6_bendsFrom E 1 0 0 (some (.int x)) M 8 [some (.ref v0), none, some (.int v2), some (.int v3)] [] M 0 0 := by
  intro n
  induction n with
  | zero => intro v0 v2 v3 h; rw [fX6_bendsFrom_c8.eq_1] at h; cases h
  | succ n ih =>
    intro v0 v2 v3 h
    rw [fX6_bendsFrom_c8.eq_2] at h
    refine Ev_iload_n (x := v3) rfl dX6_bendsFrom_8 ?_
    refine Ev_aload_n (x := v0) rfl dX6_bendsFrom_9 ?_
    obtain ⟨x1, g1, h⟩ := bsome h
    refine Ev_getI flX6_18 dX6_bendsFrom_10 g1 ?_
    refine Ev_icmp_ge (tgt := 37) dX6_bendsFrom_13 (by decide) (fun q2 => ?_) (fun q2 => ?_)
    · rw [if_pos q2] at h
      refine Ev_iload_n (x := v2) rfl dX6_bendsFrom_37 ?_
      cases h
      exact Ev_iret rfl rfl dX6_bendsFrom_38 ⟨rfl, rfl⟩
    · rw [if_neg q2] at h
      refine Ev_iload_n (x := v2) rfl dX6_bendsFrom_16 ?_
      refine Ev_aload_n (x := v0) rfl dX6_bendsFrom_17 ?_
      obtain ⟨a3, g3, h⟩ := bsome h
      refine Ev_getR flX6_11 dX6_bendsFrom_18 g3 ?_
      refine Ev_iload_n (x := v3) rfl dX6_bendsFrom_21 ?_
      obtain ⟨a4, g4, h⟩ := bsome h
      refine Ev_aald dX6_bendsFrom_22 g4 ?_
      obtain ⟨a5, g5, h⟩ := bsome h
      refine Ev_getR flX6_35 dX6_bendsFrom_23 g5 ?_
      obtain ⟨x6, g6, h⟩ := bsome h
      refine Ev_getI flX6_48 dX6_bendsFrom_26 g6 ?_
      refine Ev_iadd dX6_bendsFrom_29 ?_
      refine Ev_istore_n (loc2 := [some (.ref v0), none, some (.int (v2 + x6)), some (.int v3)]) (Nat.le_of_ble_eq_true rfl) rfl rfl dX6_bendsFrom_30 ?_
      refine Ev_iinc (x := v3) (v := (v3 + 1)) (loc2 := [some (.ref v0), none, some (.int (v2 + x6)), some (.int (v3 + 1))]) rfl (congrArg (v3 + ·) ic_1) (Nat.le_of_ble_eq_true rfl) rfl rfl dX6_bendsFrom_31 ?_
      refine Ev_goto (tgt := 8) dX6_bendsFrom_34 (by decide) ?_
      exact ih v0 (v2 + x6) (v3 + 1) h
def fX6_bendsFrom (M : mM) (v0 : Nat) (v1 : Int32) : Option Int32 :=
    if isO M v0 6 = true then
      fX6_bendsFrom_c8 M FUEL v0 0 (if v1 < 0 then 0 else v1)
    else none
theorem oX6_bendsFrom {M : mM} {v0 : Nat} {v1 : Int32} {y : Int32} (h : fX6_bendsFrom M v0 v1 = some y) : isO M v0 6 = true := by
  unfold fX6_bendsFrom at h
  exact (gsome h).1
set_option maxRecDepth 20000 in
set_option maxHeartbeats 4000000 in
theorem rX6_bendsFrom {E : mE} {M : mM} {v0 : Nat} {v1 : Int32} {x : Int32} (h : fX6_bendsFrom M v0 v1 = some x) : EvC mX6_bendsFrom E 1 0 0 [.ref v0, .int v1] M (some (.int x)) M := by
  unfold fX6_bendsFrom at h
  replace h := (gsome h).2
  refine EvC.of [some (.ref v0), some (.int v1), none, none] pnX6_bendsFrom rfl (Nat.le_of_ble_eq_true rfl) ?_
  refine Ev_iconst ic_0 dX6_bendsFrom_0 ?_
  refine Ev_istore_n (loc2 := [some (.ref v0), some (.int v1), some (.int 0), none]) (Nat.le_of_ble_eq_true rfl) rfl rfl dX6_bendsFrom_1 ?_
  refine Ev_iload_n (x := v1) rfl dX6_bendsFrom_2 ?_
  refine Ev_iconst ic_0 dX6_bendsFrom_3 ?_
  refine Ev_mmax lkX6_55 (Nat.le_of_ble_eq_true rfl) (Nat.le_of_ble_eq_true rfl) dX6_bendsFrom_4 ?_
  refine Ev_istore_n (loc2 := [some (.ref v0), some (.int v1), some (.int 0), some (.int (if v1 < 0 then 0 else v1))]) (Nat.le_of_ble_eq_true rfl) rfl rfl dX6_bendsFrom_7 ?_
  refine Ev_drop 1 (loc2 := [some (.ref v0), none, some (.int 0), some (.int (if v1 < 0 then 0 else v1))]) rfl ?_
  exact rX6_bendsFrom_c8 FUEL v0 0 (if v1 < 0 then 0 else v1) h
/-! TinselRiver$Valley.housesInUse()I -/
def fX6_housesInUse_c4 (M : mM) : Nat → Nat → Int32 → Int32 → Option Int32
  | 0, _, _, _ => none
  | n + 1, v0, v1, v2 =>
    (gI M v0 6 1).bind fun x1 =>
    if x1 ≤ v2 then
      (some v1)
    else
      ((fX6_has M v0 v2).bind fun x4 =>
      if x4 = 0 then
        (fX6_housesInUse_c4 M n v0 (v1 ||| 0) (v2 + 1))
      else
        ((gR M v0 6 0).bind fun a6 =>
        (qI M false a6 v2).bind fun a7 =>
        (gI M a7 4 1).bind fun x8 =>
        fX6_housesInUse_c4 M n v0 (v1 ||| (1 <<< (x8 &&& 31))) (v2 + 1)))
set_option maxRecDepth 20000 in
set_option maxHeartbeats 4000000 in
theorem rX6_housesInUse_c4 {E : mE} {M : mM} {x : Int32} : ∀ (n : Nat) (v0 : Nat) (v1 : Int32) (v2 : Int32), fX6_housesInUse_c4 M n v0 v1 v2 = some x → Ev mX6_housesInUse E 1 0 0 (some (.int x)) M 4 [some (.ref v0), some (.int v1), some (.int v2)] [] M 0 0 := by
  intro n
  induction n with
  | zero => intro v0 v1 v2 h; rw [fX6_housesInUse_c4.eq_1] at h; cases h
  | succ n ih =>
    intro v0 v1 v2 h
    rw [fX6_housesInUse_c4.eq_2] at h
    refine Ev_iload_n (x := v2) rfl dX6_housesInUse_4 ?_
    refine Ev_aload_n (x := v0) rfl dX6_housesInUse_5 ?_
    obtain ⟨x1, g1, h⟩ := bsome h
    refine Ev_getI flX6_18 dX6_housesInUse_6 g1 ?_
    refine Ev_icmp_ge (tgt := 44) dX6_housesInUse_9 (by decide) (fun q2 => ?_) (fun q2 => ?_)
    · rw [if_pos q2] at h
      refine Ev_iload_n (x := v1) rfl dX6_housesInUse_44 ?_
      cases h
      exact Ev_iret rfl rfl dX6_housesInUse_45 ⟨rfl, rfl⟩
    · rw [if_neg q2] at h
      refine Ev_iload_n (x := v1) rfl dX6_housesInUse_12 ?_
      refine Ev_aload_n (x := v0) rfl dX6_housesInUse_13 ?_
      refine Ev_iload_n (x := v2) rfl dX6_housesInUse_14 ?_
      obtain ⟨x4, g3, h⟩ := bsome h
      refine Ev_callVi (np := 1) (vs := [.int v2]) (rest := [.int v1]) mdX6_has lkX6_51 ⟨_, rfl, rfl⟩ (oX6_has g3) (rX6_has g3) rfl rfl (Nat.le_of_ble_eq_true rfl) (Nat.le_of_ble_eq_true rfl) dX6_housesInUse_15 ?_
      refine Ev_if_eq (tgt := 35) dX6_housesInUse_18 (by decide) (fun q5 => ?_) (fun q5 => ?_)
      · rw [if_pos q5] at h
        refine Ev_iconst ic_0 dX6_housesInUse_35 ?_
        refine Ev_ior dX6_housesInUse_36 ?_
        refine Ev_istore_n (loc2 := [some (.ref v0), some (.int (v1 ||| 0)), some (.int v2)]) (Nat.le_of_ble_eq_true rfl) rfl rfl dX6_housesInUse_37 ?_
        refine Ev_iinc (x := v2) (v := (v2 + 1)) (loc2 := [some (.ref v0), some (.int (v1 ||| 0)), some (.int (v2 + 1))]) rfl (congrArg (v2 + ·) ic_1) (Nat.le_of_ble_eq_true rfl) rfl rfl dX6_housesInUse_38 ?_
        refine Ev_goto (tgt := 4) dX6_housesInUse_41 (by decide) ?_
        exact ih v0 (v1 ||| 0) (v2 + 1) h
      · rw [if_neg q5] at h
        refine Ev_iconst ic_1 dX6_housesInUse_21 ?_
        refine Ev_aload_n (x := v0) rfl dX6_housesInUse_22 ?_
        obtain ⟨a6, g6, h⟩ := bsome h
        refine Ev_getR flX6_11 dX6_housesInUse_23 g6 ?_
        refine Ev_iload_n (x := v2) rfl dX6_housesInUse_26 ?_
        obtain ⟨a7, g7, h⟩ := bsome h
        refine Ev_aald dX6_housesInUse_27 g7 ?_
        obtain ⟨x8, g8, h⟩ := bsome h
        refine Ev_getI flX6_29 dX6_housesInUse_28 g8 ?_
        refine Ev_ishl dX6_housesInUse_31 ?_
        refine Ev_goto (tgt := 36) dX6_housesInUse_32 (by decide) ?_
        refine Ev_ior dX6_housesInUse_36 ?_
        refine Ev_istore_n (loc2 := [some (.ref v0), some (.int (v1 ||| (1 <<< (x8 &&& 31)))), some (.int v2)]) (Nat.le_of_ble_eq_true rfl) rfl rfl dX6_housesInUse_37 ?_
        refine Ev_iinc (x := v2) (v := (v2 + 1)) (loc2 := [some (.ref v0), some (.int (v1 ||| (1 <<< (x8 &&& 31)))), some (.int (v2 + 1))]) rfl (congrArg (v2 + ·) ic_1) (Nat.le_of_ble_eq_true rfl) rfl rfl dX6_housesInUse_38 ?_
        refine Ev_goto (tgt := 4) dX6_housesInUse_41 (by decide) ?_
        exact ih v0 (v1 ||| (1 <<< (x8 &&& 31))) (v2 + 1) h
def fX6_housesInUse (M : mM) (v0 : Nat) : Option Int32 :=
    if isO M v0 6 = true then
      fX6_housesInUse_c4 M FUEL v0 0 0
    else none
theorem oX6_housesInUse {M : mM} {v0 : Nat} {y : Int32} (h : fX6_housesInUse M v0 = some y) : isO M v0 6 = true := by
  unfold fX6_housesInUse at h
  exact (gsome h).1
set_option maxRecDepth 20000 in
set_option maxHeartbeats 4000000 in
theorem rX6_housesInUse {E : mE} {M : mM} {v0 : Nat} {x : Int32} (h : fX6_housesInUse M v0 = some x) : EvC mX6_housesInUse E 1 0 0 [.ref v0] M (some (.int x)) M := by
  unfold fX6_housesInUse at h
  replace h := (gsome h).2
  refine EvC.of [some (.ref v0), none, none] pnX6_housesInUse rfl (Nat.le_of_ble_eq_true rfl) ?_
  refine Ev_iconst ic_0 dX6_housesInUse_0 ?_
  refine Ev_istore_n (loc2 := [some (.ref v0), some (.int 0), none]) (Nat.le_of_ble_eq_true rfl) rfl rfl dX6_housesInUse_1 ?_
  refine Ev_iconst ic_0 dX6_housesInUse_2 ?_
  refine Ev_istore_n (loc2 := [some (.ref v0), some (.int 0), some (.int 0)]) (Nat.le_of_ble_eq_true rfl) rfl rfl dX6_housesInUse_3 ?_
  exact rX6_housesInUse_c4 FUEL v0 0 0 h
/-! TinselRiver$Valley.countIn(I)I -/
def fX6_countIn_c4 (M : mM) : Nat → Nat → Int32 → Int32 → Int32 → Option Int32
  | 0, _, _, _, _ => none
  | n + 1, v0, v1, v2, v3 =>
    (gI M v0 6 1).bind fun x1 =>
    if x1 ≤ v3 then
      (some v2)
    else
      ((fX6_has M v0 v3).bind fun x4 =>
      if x4 = 0 then
        (fX6_countIn_c4 M n v0 v1 v2 (v3 + 1))
      else
        ((gR M v0 6 0).bind fun a6 =>
        (qI M false a6 v3).bind fun a7 =>
        (gI M a7 4 1).bind fun x8 =>
        if x8 = v1 then
          (fX6_countIn_c4 M n v0 v1 (v2 + 1) (v3 + 1))
        else
          (fX6_countIn_c4 M n v0 v1 v2 (v3 + 1))))
set_option maxRecDepth 20000 in
set_option maxHeartbeats 4000000 in
theorem rX6_countIn_c4 {E : mE} {M : mM} {x : Int32} : ∀ (n : Nat) (v0 : Nat) (v1 : Int32) (v2 : Int32) (v3 : Int32), fX6_countIn_c4 M n v0 v1 v2 v3 = some x → Ev mX6_countIn E 1 0 0 (some (.int x)) M 4 [some (.ref v0), some (.int v1), some (.int v2), some (.int v3)] [] M 0 0 := by
  intro n
  induction n with
  | zero => intro v0 v1 v2 v3 h; rw [fX6_countIn_c4.eq_1] at h; cases h
  | succ n ih =>
    intro v0 v1 v2 v3 h
    rw [fX6_countIn_c4.eq_2] at h
    refine Ev_iload_n (x := v3) rfl dX6_countIn_4 ?_
    refine Ev_aload_n (x := v0) rfl dX6_countIn_5 ?_
    obtain ⟨x1, g1, h⟩ := bsome h
    refine Ev_getI flX6_18 dX6_countIn_6 g1 ?_
    refine Ev_icmp_ge (tgt := 42) dX6_countIn_9 (by decide) (fun q2 => ?_) (fun q2 => ?_)
    · rw [if_pos q2] at h
      refine Ev_iload_n (x := v2) rfl dX6_countIn_42 ?_
      cases h
      exact Ev_iret rfl rfl dX6_countIn_43 ⟨rfl, rfl⟩
    · rw [if_neg q2] at h
      refine Ev_aload_n (x := v0) rfl dX6_countIn_12 ?_
      refine Ev_iload_n (x := v3) rfl dX6_countIn_13 ?_
      obtain ⟨x4, g3, h⟩ := bsome h
      refine Ev_callVi (np := 1) (vs := [.int v3]) (rest := []) mdX6_has lkX6_51 ⟨_, rfl, rfl⟩ (oX6_has g3) (rX6_has g3) rfl rfl (Nat.le_of_ble_eq_true rfl) (Nat.le_of_ble_eq_true rfl) dX6_countIn_14 ?_
      refine Ev_if_eq (tgt := 36) dX6_countIn_17 (by decide) (fun q5 => ?_) (fun q5 => ?_)
      · rw [if_pos q5] at h
        refine Ev_iinc (x := v3) (v := (v3 + 1)) (loc2 := [some (.ref v0), some (.int v1), some (.int v2), some (.int (v3 + 1))]) rfl (congrArg (v3 + ·) ic_1) (Nat.le_of_ble_eq_true rfl) rfl rfl dX6_countIn_36 ?_
        refine Ev_goto (tgt := 4) dX6_countIn_39 (by decide) ?_
        exact ih v0 v1 v2 (v3 + 1) h
      · rw [if_neg q5] at h
        refine Ev_aload_n (x := v0) rfl dX6_countIn_20 ?_
        obtain ⟨a6, g6, h⟩ := bsome h
        refine Ev_getR flX6_11 dX6_countIn_21 g6 ?_
        refine Ev_iload_n (x := v3) rfl dX6_countIn_24 ?_
        obtain ⟨a7, g7, h⟩ := bsome h
        refine Ev_aald dX6_countIn_25 g7 ?_
        obtain ⟨x8, g8, h⟩ := bsome h
        refine Ev_getI flX6_29 dX6_countIn_26 g8 ?_
        refine Ev_iload_n (x := v1) rfl dX6_countIn_29 ?_
        refine Ev_icmp_ne (tgt := 36) dX6_countIn_30 (by decide) (fun q9 => ?_) (fun q9 => ?_)
        · rw [if_neg q9] at h
          refine Ev_iinc (x := v3) (v := (v3 + 1)) (loc2 := [some (.ref v0), some (.int v1), some (.int v2), some (.int (v3 + 1))]) rfl (congrArg (v3 + ·) ic_1) (Nat.le_of_ble_eq_true rfl) rfl rfl dX6_countIn_36 ?_
          refine Ev_goto (tgt := 4) dX6_countIn_39 (by decide) ?_
          exact ih v0 v1 v2 (v3 + 1) h
        · rw [if_pos q9] at h
          refine Ev_iinc (x := v2) (v := (v2 + 1)) (loc2 := [some (.ref v0), some (.int v1), some (.int (v2 + 1)), some (.int v3)]) rfl (congrArg (v2 + ·) ic_1) (Nat.le_of_ble_eq_true rfl) rfl rfl dX6_countIn_33 ?_
          refine Ev_iinc (x := v3) (v := (v3 + 1)) (loc2 := [some (.ref v0), some (.int v1), some (.int (v2 + 1)), some (.int (v3 + 1))]) rfl (congrArg (v3 + ·) ic_1) (Nat.le_of_ble_eq_true rfl) rfl rfl dX6_countIn_36 ?_
          refine Ev_goto (tgt := 4) dX6_countIn_39 (by decide) ?_
          exact ih v0 v1 (v2 + 1) (v3 + 1) h
def fX6_countIn (M : mM) (v0 : Nat) (v1 : Int32) : Option Int32 :=
    if isO M v0 6 = true then
      fX6_countIn_c4 M FUEL v0 v1 0 0
    else none
theorem oX6_countIn {M : mM} {v0 : Nat} {v1 : Int32} {y : Int32} (h : fX6_countIn M v0 v1 = some y) : isO M v0 6 = true := by
  unfold fX6_countIn at h
  exact (gsome h).1
set_option maxRecDepth 20000 in
set_option maxHeartbeats 4000000 in
theorem rX6_countIn {E : mE} {M : mM} {v0 : Nat} {v1 : Int32} {x : Int32} (h : fX6_countIn M v0 v1 = some x) : EvC mX6_countIn E 1 0 0 [.ref v0, .int v1] M (some (.int x)) M := by
  unfold fX6_countIn at h
  replace h := (gsome h).2
  refine EvC.of [some (.ref v0), some (.int v1), none, none] pnX6_countIn rfl (Nat.le_of_ble_eq_true rfl) ?_
  refine Ev_iconst ic_0 dX6_countIn_0 ?_
  refine Ev_istore_n (loc2 := [some (.ref v0), some (.int v1), some (.int 0), none]) (Nat.le_of_ble_eq_true rfl) rfl rfl dX6_countIn_1 ?_
  refine Ev_iconst ic_0 dX6_countIn_2 ?_
  refine Ev_istore_n (loc2 := [some (.ref v0), some (.int v1), some (.int 0), some (.int 0)]) (Nat.le_of_ble_eq_true rfl) rfl rfl dX6_countIn_3 ?_
  exact rX6_countIn_c4 FUEL v0 v1 0 0 h
