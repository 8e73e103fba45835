/-! printed by wip/whole/gen.py -/
/-! TinselRiver$Strand.<init>()V -/
def fX4_init (M : mM) (v0 : Nat) : Option mM :=
    if isO M v0 4 = true then
      (some (M ++ [.inl (2, dfX2)])).bind fun M1 =>
      (fX2_init_12 M1 (List.length M)).bind fun M2 =>
      (sV M2 v0 4 0 (.ref (List.length M))).bind fun M3 =>
      some M3
    else none
theorem oX4_init {M : mM} {v0 : Nat} {y : mM} (h : fX4_init M v0 = some y) : isO M v0 4 = true := by
  unfold fX4_init at h
  exact (gsome h).1
set_option maxRecDepth 20000 in
set_option maxHeartbeats 4000000 in
theorem rX4_init {E : mE} {M : mM} {v0 : Nat} {Mf : mM} (h : fX4_init M v0 = some Mf) : EvC mX4_init E 2 2 14 [.ref v0] M none Mf := by
  unfold fX4_init at h
  replace h := (gsome h).2
  refine EvC.of [some (.ref v0)] pnX4_init rfl (Nat.le_of_ble_eq_true rfl) ?_
  refine Ev_aload_n (x := v0) rfl dX4_init_0 ?_
  refine Ev_objInit lkX4_3 md_oi1 md_oi2 (Nat.le_of_ble_eq_true rfl) (Nat.le_of_ble_eq_true rfl) dX4_init_1 ?_
  refine Ev_aload_n (x := v0) rfl dX4_init_4 ?_
  obtain ⟨M1, g1, h⟩ := bsome h
  refine Ev_new_e (ci := 2) (q := (RX2, TX2, 2)) (fs := dfX2) rfl clX4_9 inX2 iniX2 rfl dfX2_ok rfl (Nat.le_of_ble_eq_true rfl) (Nat.le_of_ble_eq_true rfl) (Option.some.inj g1) dX4_init_5 ?_
  refine Ev_dup rfl dX4_init_8 ?_
  refine Ev_bipush bp_12 dX4_init_9 ?_
  obtain ⟨M2, g2, h⟩ := bsome h
  refine Ev_callI (np := 1) (vs := [.int 12]) (rest := [.ref (List.length M), .ref v0]) mdX2_init (Or.inl lkX4_11) (rX2_init_12 g2) rfl rfl (Nat.le_of_ble_eq_true rfl) (Nat.le_of_ble_eq_true rfl) (Nat.le_of_ble_eq_true rfl) (Nat.le_of_ble_eq_true rfl) dX4_init_11 ?_
  obtain ⟨M3, g3, h⟩ := bsome h
  refine Ev_put (v := .ref (List.length M)) flX4_14 ⟨rfl, rfl⟩ (fun q hq => by cases hq; exact Or.inr ⟨rfl, rfl, rfl, _, mT0_tbl (i := 67) (by decide +kernel) (by decide +kernel), rfl⟩) dX4_init_14 g3 ?_
  cases h
  exact Ev_vret rfl dX4_init_17 ⟨rfl, rfl⟩
/-! TinselRiver$Strand.setTo(LTinselRiver$Strand;)V -/
def fX4_setTo (M : mM) (v0 : Nat) (v1 : Nat) : Option mM :=
    if isO M v0 4 = true then
      (gR M v0 4 0).bind fun a1 =>
      (gR M v1 4 0).bind fun a2 =>
      (fX2_setTo M a1 a2).bind fun M4 =>
      (gI M4 v1 4 1).bind fun x5 =>
      (sV M4 v0 4 1 (.int x5)).bind fun M6 =>
      (gI M6 v1 4 2).bind fun x7 =>
      (sV M6 v0 4 2 (.int x7)).bind fun M8 =>
      some M8
    else none
theorem oX4_setTo {M : mM} {v0 : Nat} {v1 : Nat} {y : mM} (h : fX4_setTo M v0 v1 = some y) : isO M v0 4 = true := by
  unfold fX4_setTo at h
  exact (gsome h).1
set_option maxRecDepth 20000 in
set_option maxHeartbeats 4000000 in
theorem rX4_setTo {E : mE} {M : mM} {v0 : Nat} {v1 : Nat} {Mf : mM} (h : fX4_setTo M v0 v1 = some Mf) : EvC mX4_setTo E 2 0 0 [.ref v0, .ref v1] M none Mf := by
  unfold fX4_setTo at h
  replace h := (gsome h).2
  refine EvC.of [some (.ref v0), some (.ref v1)] pnX4_setTo rfl (Nat.le_of_ble_eq_true rfl) ?_
  refine Ev_aload_n (x := v0) rfl dX4_setTo_0 ?_
  obtain ⟨a1, g1, h⟩ := bsome h
  refine Ev_getR flX4_14 dX4_setTo_1 g1 ?_
  refine Ev_aload_n (x := v1) rfl dX4_setTo_4 ?_
  obtain ⟨a2, g2, h⟩ := bsome h
  refine Ev_getR flX4_14 dX4_setTo_5 g2 ?_
  obtain ⟨M4, g3, h⟩ := bsome h
  refine Ev_callVv (np := 1) (vs := [.ref a2]) (rest := []) mdX2_setTo lkX4_20 ⟨_, rfl, rfl⟩ (oX2_setTo g3) (rX2_setTo g3) rfl rfl (Nat.le_of_ble_eq_true rfl) (Nat.le_of_ble_eq_true rfl) dX4_setTo_8 ?_
  refine Ev_aload_n (x := v0) rfl dX4_setTo_11 ?_
  refine Ev_aload_n (x := v1) rfl dX4_setTo_12 ?_
  obtain ⟨x5, g5, h⟩ := bsome h
  refine Ev_getI flX4_24 dX4_setTo_13 g5 ?_
  obtain ⟨M6, g6, h⟩ := bsome h
  refine Ev_put (v := .int x5) flX4_24 ⟨rfl, rfl⟩ (fun q hq => by cases hq; exact Or.inl rfl) dX4_setTo_16 g6 ?_
  refine Ev_aload_n (x := v0) rfl dX4_setTo_19 ?_
  refine Ev_aload_n (x := v1) rfl dX4_setTo_20 ?_
  obtain ⟨x7, g7, h⟩ := bsome h
  refine Ev_getI flX4_28 dX4_setTo_21 g7 ?_
  obtain ⟨M8, g8, h⟩ := bsome h
  refine Ev_put (v := .int x7) flX4_28 ⟨rfl, rfl⟩ (fun q hq => by cases hq; exact Or.inl rfl) dX4_setTo_24 g8 ?_
  cases h
  exact Ev_vret rfl dX4_setTo_27 ⟨rfl, rfl⟩
