/-! printed by wip/whole/gen.py -/
/-! TinselRiver$Slots.<init>()V -/
def fX3_init (M : mM) (v0 : Nat) : Option mM :=
    if isO M v0 3 = true then
      (some (M ++ [.inr (.inr (true, List.replicate 2 .null))])).bind fun M1 =>
      (sV M1 v0 3 0 (.ref (List.length M))).bind fun M2 =>
      (gR M2 v0 3 0).bind fun a4 =>
      (some (M2 ++ [.inl (6, dfX6)])).bind fun M5 =>
      (fX6_init M5 (List.length M2)).bind fun M6 =>
      (qS M6 true a4 0 (List.length M2)).bind fun M7 =>
      (gR M7 v0 3 0).bind fun a9 =>
      (some (M7 ++ [.inl (6, dfX6)])).bind fun M10 =>
      (fX6_init M10 (List.length M7)).bind fun M11 =>
      (qS M11 true a9 1 (List.length M7)).bind fun M12 =>
      some M12
    else none
theorem oX3_init {M : mM} {v0 : Nat} {y : mM} (h : fX3_init M v0 = some y) : isO M v0 3 = true := by
  unfold fX3_init at h
  exact (gsome h).1
set_option maxRecDepth 20000 in
set_option maxHeartbeats 4000000 in
theorem rX3_init {E : mE} {M : mM} {v0 : Nat} {Mf : mM} (h : fX3_init M v0 = some Mf) : EvC mX3_init E 4 29 152 [.ref v0] M none Mf := by
  unfold fX3_init at h
  replace h := (gsome h).2
  refine EvC.of [some (.ref v0), none] pnX3_init rfl (Nat.le_of_ble_eq_true rfl) ?_
  refine Ev_aload_n (x := v0) rfl dX3_init_0 ?_
  refine Ev_objInit lkX3_3 md_oi1 md_oi2 (Nat.le_of_ble_eq_true rfl) (Nat.le_of_ble_eq_true rfl) dX3_init_1 ?_
  refine Ev_aload_n (x := v0) rfl dX3_init_4 ?_
  refine Ev_iconst ic_2 dX3_init_5 ?_
  obtain ⟨M1, g1, h⟩ := bsome h
  refine Ev_anew_e (z := true) (N := 2) clX3_9 (by decide) (by decide) (Nat.le_of_ble_eq_true rfl) (Nat.le_of_ble_eq_true rfl) (Nat.le_of_ble_eq_true rfl) (Option.some.inj g1) dX3_init_6 ?_
  obtain ⟨M2, g2, h⟩ := bsome h
  refine Ev_put (v := .ref (List.length M)) flX3_11 ⟨rfl, rfl⟩ (fun q hq => by cases hq; exact Or.inr ⟨rfl, rfl, rfl, _, mT0_tbl (i := 125) (by decide +kernel) (by decide +kernel), rfl⟩) dX3_init_9 g2 ?_
  refine Ev_iconst ic_0 dX3_init_12 ?_
  refine Ev_istore_n (loc2 := [some (.ref v0), some (.int 0)]) (Nat.le_of_ble_eq_true rfl) rfl rfl dX3_init_13 ?_
  refine Ev_iload_n (x := 0) rfl dX3_init_14 ?_
  refine Ev_iconst ic_2 dX3_init_15 ?_
  refine Ev_icmp_ge (tgt := 38) dX3_init_16 (by decide) (fun q3 => absurd q3 (by decide)) (fun _ => ?_)
  refine Ev_aload_n (x := v0) rfl dX3_init_19 ?_
  obtain ⟨a4, g4, h⟩ := bsome h
  refine Ev_getR flX3_11 dX3_init_20 g4 ?_
  refine Ev_iload_n (x := 0) rfl dX3_init_23 ?_
  obtain ⟨M5, g5, h⟩ := bsome h
  refine Ev_new_e (ci := 6) (q := (RX6, TX6, 3)) (fs := dfX6) rfl clX3_9 inX6 iniX6 rfl dfX6_ok rfl (Nat.le_of_ble_eq_true rfl) (Nat.le_of_ble_eq_true rfl) (Option.some.inj g5) dX3_init_24 ?_
  refine Ev_dup rfl dX3_init_27 ?_
  obtain ⟨M6, g6, h⟩ := bsome h
  refine Ev_callI (np := 0) (vs := []) (rest := [.ref (List.length M2), .int 0, .ref a4]) mdX6_init (Or.inl lkX3_17) (rX6_init g6) rfl rfl (Nat.le_of_ble_eq_true rfl) (Nat.le_of_ble_eq_true rfl) (Nat.le_of_ble_eq_true rfl) (Nat.le_of_ble_eq_true rfl) dX3_init_28 ?_
  obtain ⟨M7, g7, h⟩ := bsome h
  refine Ev_aast dX3_init_31 g7 ?_
  refine Ev_iinc (x := 0) (v := 1) (loc2 := [some (.ref v0), some (.int 1)]) rfl (by decide) (Nat.le_of_ble_eq_true rfl) rfl rfl dX3_init_32 ?_
  refine Ev_goto (tgt := 14) dX3_init_35 (by decide) ?_
  refine Ev_iload_n (x := 1) rfl dX3_init_14 ?_
  refine Ev_iconst ic_2 dX3_init_15 ?_
  refine Ev_icmp_ge (tgt := 38) dX3_init_16 (by decide) (fun q8 => absurd q8 (by decide)) (fun _ => ?_)
  refine Ev_aload_n (x := v0) rfl dX3_init_19 ?_
  obtain ⟨a9, g9, h⟩ := bsome h
  refine Ev_getR flX3_11 dX3_init_20 g9 ?_
  refine Ev_iload_n (x := 1) rfl dX3_init_23 ?_
  obtain ⟨M10, g10, h⟩ := bsome h
  refine Ev_new_e (ci := 6) (q := (RX6, TX6, 3)) (fs := dfX6) rfl clX3_9 inX6 iniX6 rfl dfX6_ok rfl (Nat.le_of_ble_eq_true rfl) (Nat.le_of_ble_eq_true rfl) (Option.some.inj g10) dX3_init_24 ?_
  refine Ev_dup rfl dX3_init_27 ?_
  obtain ⟨M11, g11, h⟩ := bsome h
  refine Ev_callI (np := 0) (vs := []) (rest := [.ref (List.length M7), .int 1, .ref a9]) mdX6_init (Or.inl lkX3_17) (rX6_init g11) rfl rfl (Nat.le_of_ble_eq_true rfl) (Nat.le_of_ble_eq_true rfl) (Nat.le_of_ble_eq_true rfl) (Nat.le_of_ble_eq_true rfl) dX3_init_28 ?_
  obtain ⟨M12, g12, h⟩ := bsome h
  refine Ev_aast dX3_init_31 g12 ?_
  refine Ev_iinc (x := 1) (v := 2) (loc2 := [some (.ref v0), some (.int 2)]) rfl (by decide) (Nat.le_of_ble_eq_true rfl) rfl rfl dX3_init_32 ?_
  refine Ev_goto (tgt := 14) dX3_init_35 (by decide) ?_
  refine Ev_iload_n (x := 2) rfl dX3_init_14 ?_
  refine Ev_iconst ic_2 dX3_init_15 ?_
  refine Ev_icmp_ge (tgt := 38) dX3_init_16 (by decide) (fun _ => ?_) (fun q13 => absurd q13 (by decide))
  cases h
  exact Ev_vret rfl dX3_init_38 ⟨rfl, rfl⟩
/-! TinselRiver$Slots.clear()V -/
def fX3_clear (M : mM) (v0 : Nat) : Option mM :=
    if isO M v0 3 = true then
      (sV M v0 3 1 (.int 0)).bind fun M1 =>
      some M1
    else none
theorem oX3_clear {M : mM} {v0 : Nat} {y : mM} (h : fX3_clear M v0 = some y) : isO M v0 3 = true := by
  unfold fX3_clear at h
  exact (gsome h).1
set_option maxRecDepth 20000 in
set_option maxHeartbeats 4000000 in
theorem rX3_clear {E : mE} {M : mM} {v0 : Nat} {Mf : mM} (h : fX3_clear M v0 = some Mf) : EvC mX3_clear E 0 0 0 [.ref v0] M none Mf := by
  unfold fX3_clear at h
  replace h := (gsome h).2
  refine EvC.of [some (.ref v0)] pnX3_clear rfl (Nat.le_of_ble_eq_true rfl) ?_
  refine Ev_aload_n (x := v0) rfl dX3_clear_0 ?_
  refine Ev_iconst ic_0 dX3_clear_1 ?_
  obtain ⟨M1, g1, h⟩ := bsome h
  refine Ev_put (v := .int 0) flX3_18 ⟨rfl, rfl⟩ (fun q hq => by cases hq; exact Or.inl rfl) dX3_clear_2 g1 ?_
  cases h
  exact Ev_vret rfl dX3_clear_5 ⟨rfl, rfl⟩
/-! TinselRiver$Slots.put(ILTinselRiver$Valley;)I -/
def fX3_put (M : mM) (v0 : Nat) (v1 : Int32) (v2 : Nat) : Option (Int32 × mM) :=
    if isO M v0 3 = true then
      if v1 < 0 then
        (some ((-1), M))
      else
        (if v1 < 2 then
          ((gR M v0 3 0).bind fun a3 =>
          (qI M true a3 v1).bind fun a4 =>
          (fX6_setTo M a4 v2).bind fun M6 =>
          (gI M6 v0 3 1).bind fun x7 =>
          (sV M6 v0 3 1 (.int (x7 ||| (1 <<< (v1 &&& 31))))).bind fun M8 =>
          (gI M8 v2 6 2).bind fun x9 =>
          some (x9, M8))
        else
          (some ((-1), M)))
    else none
theorem oX3_put {M : mM} {v0 : Nat} {v1 : Int32} {v2 : Nat} {y : (Int32 × mM)} (h : fX3_put M v0 v1 v2 = some y) : isO M v0 3 = true := by
  unfold fX3_put at h
  exact (gsome h).1
set_option maxRecDepth 20000 in
set_option maxHeartbeats 4000000 in
theorem rX3_put {E : mE} {M : mM} {v0 : Nat} {v1 : Int32} {v2 : Nat} {x : Int32} {Mf : mM} (h : fX3_put M v0 v1 v2 = some (x, Mf)) : EvC mX3_put E 4 0 0 [.ref v0, .int v1, .ref v2] M (some (.int x)) Mf := by
  unfold fX3_put at h
  replace h := (gsome h).2
  refine EvC.of [some (.ref v0), some (.int v1), some (.ref v2)] pnX3_put rfl (Nat.le_of_ble_eq_true rfl) ?_
  refine Ev_iload_n (x := v1) rfl dX3_put_0 ?_
  refine Ev_if_lt (tgt := 9) dX3_put_1 (by decide) (fun q1 => ?_) (fun q1 => ?_)
  · rw [if_pos q1] at h
    refine Ev_iconst ic_m1 dX3_put_9 ?_
    cases h
    exact Ev_iret rfl rfl dX3_put_10 ⟨rfl, rfl⟩
  · rw [if_neg q1] at h
    refine Ev_iload_n (x := v1) rfl dX3_put_4 ?_
    refine Ev_iconst ic_2 dX3_put_5 ?_
    refine Ev_icmp_lt (tgt := 11) dX3_put_6 (by decide) (fun q2 => ?_) (fun q2 => ?_)
    · rw [if_pos q2] at h
      refine Ev_aload_n (x := v0) rfl dX3_put_11 ?_
      obtain ⟨a3, g3, h⟩ := bsome h
      refine Ev_getR flX3_11 dX3_put_12 g3 ?_
      refine Ev_iload_n (x := v1) rfl dX3_put_15 ?_
      obtain ⟨a4, g4, h⟩ := bsome h
      refine Ev_aald dX3_put_16 g4 ?_
      refine Ev_aload_n (x := v2) rfl dX3_put_17 ?_
      obtain ⟨M6, g5, h⟩ := bsome h
      refine Ev_callVv (np := 1) (vs := [.ref v2]) (rest := []) mdX6_setTo lkX3_22 ⟨_, rfl, rfl⟩ (oX6_setTo g5) (rX6_setTo g5) rfl rfl (Nat.le_of_ble_eq_true rfl) (Nat.le_of_ble_eq_true rfl) dX3_put_18 ?_
      refine Ev_aload_n (x := v0) rfl dX3_put_21 ?_
      refine Ev_dup rfl dX3_put_22 ?_
      obtain ⟨x7, g7, h⟩ := bsome h
      refine Ev_getI flX3_18 dX3_put_23 g7 ?_
      refine Ev_iconst ic_1 dX3_put_26 ?_
      refine Ev_iload_n (x := v1) rfl dX3_put_27 ?_
      refine Ev_ishl dX3_put_28 ?_
      refine Ev_ior dX3_put_29 ?_
      obtain ⟨M8, g8, h⟩ := bsome h
      refine Ev_put (v := .int (x7 ||| (1 <<< (v1 &&& 31)))) flX3_18 ⟨rfl, rfl⟩ (fun q hq => by cases hq; exact Or.inl rfl) dX3_put_30 g8 ?_
      refine Ev_aload_n (x := v2) rfl dX3_put_33 ?_
      obtain ⟨x9, g9, h⟩ := bsome h
      refine Ev_getI flX3_26 dX3_put_34 g9 ?_
      cases h
      exact Ev_iret rfl rfl dX3_put_37 ⟨rfl, rfl⟩
    · rw [if_neg q2] at h
      refine Ev_iconst ic_m1 dX3_put_9 ?_
      cases h
      exact Ev_iret rfl rfl dX3_put_10 ⟨rfl, rfl⟩
/-! TinselRiver$Slots.bringBack(ILTinselRiver$Valley;)I -/
def fX3_bringBack (M : mM) (v0 : Nat) (v1 : Int32) (v2 : Nat) : Option (Int32 × mM) :=
    if isO M v0 3 = true then
      if v1 < 0 then
        (some ((-1), M))
      else
        (if v1 < 2 then
          ((gI M v0 3 1).bind fun x3 =>
          if ((x3 >>> (v1 &&& 31)) &&& 1) = 0 then
            (some ((-3), M))
          else
            ((gR M v0 3 0).bind fun a5 =>
            (qI M true a5 v1).bind fun a6 =>
            (fX6_setTo M v2 a6).bind fun M8 =>
            (gI M8 v2 6 2).bind fun x9 =>
            some (x9, M8)))
        else
          (some ((-1), M)))
    else none
theorem oX3_bringBack {M : mM} {v0 : Nat} {v1 : Int32} {v2 : Nat} {y : (Int32 × mM)} (h : fX3_bringBack M v0 v1 v2 = some y) : isO M v0 3 = true := by
  unfold fX3_bringBack at h
  exact (gsome h).1
set_option maxRecDepth 20000 in
set_option maxHeartbeats 4000000 in
theorem rX3_bringBack {E : mE} {M : mM} {v0 : Nat} {v1 : Int32} {v2 : Nat} {x : Int32} {Mf : mM} (h : fX3_bringBack M v0 v1 v2 = some (x, Mf)) : EvC mX3_bringBack E 4 0 0 [.ref v0, .int v1, .ref v2] M (some (.int x)) Mf := by
  unfold fX3_bringBack at h
  replace h := (gsome h).2
  refine EvC.of [some (.ref v0), some (.int v1), some (.ref v2)] pnX3_bringBack rfl (Nat.le_of_ble_eq_true rfl) ?_
  refine Ev_iload_n (x := v1) rfl dX3_bringBack_0 ?_
  refine Ev_if_lt (tgt := 9) dX3_bringBack_1 (by decide) (fun q1 => ?_) (fun q1 => ?_)
  · rw [if_pos q1] at h
    refine Ev_iconst ic_m1 dX3_bringBack_9 ?_
    cases h
    exact Ev_iret rfl rfl dX3_bringBack_10 ⟨rfl, rfl⟩
  · rw [if_neg q1] at h
    refine Ev_iload_n (x := v1) rfl dX3_bringBack_4 ?_
    refine Ev_iconst ic_2 dX3_bringBack_5 ?_
    refine Ev_icmp_lt (tgt := 11) dX3_bringBack_6 (by decide) (fun q2 => ?_) (fun q2 => ?_)
    · rw [if_pos q2] at h
      refine Ev_aload_n (x := v0) rfl dX3_bringBack_11 ?_
      obtain ⟨x3, g3, h⟩ := bsome h
      refine Ev_getI flX3_18 dX3_bringBack_12 g3 ?_
      refine Ev_iload_n (x := v1) rfl dX3_bringBack_15 ?_
      refine Ev_ishr dX3_bringBack_16 ?_
      refine Ev_iconst ic_1 dX3_bringBack_17 ?_
      refine Ev_iand dX3_bringBack_18 ?_
      refine Ev_if_ne (tgt := 25) dX3_bringBack_19 (by decide) (fun q4 => ?_) (fun q4 => ?_)
      · rw [if_neg q4] at h
        refine Ev_aload_n (x := v2) rfl dX3_bringBack_25 ?_
        refine Ev_aload_n (x := v0) rfl dX3_bringBack_26 ?_
        obtain ⟨a5, g5, h⟩ := bsome h
        refine Ev_getR flX3_11 dX3_bringBack_27 g5 ?_
        refine Ev_iload_n (x := v1) rfl dX3_bringBack_30 ?_
        obtain ⟨a6, g6, h⟩ := bsome h
        refine Ev_aald dX3_bringBack_31 g6 ?_
        obtain ⟨M8, g7, h⟩ := bsome h
        refine Ev_callVv (np := 1) (vs := [.ref a6]) (rest := []) mdX6_setTo lkX3_22 ⟨_, rfl, rfl⟩ (oX6_setTo g7) (rX6_setTo g7) rfl rfl (Nat.le_of_ble_eq_true rfl) (Nat.le_of_ble_eq_true rfl) dX3_bringBack_32 ?_
        refine Ev_aload_n (x := v2) rfl dX3_bringBack_35 ?_
        obtain ⟨x9, g9, h⟩ := bsome h
        refine Ev_getI flX3_26 dX3_bringBack_36 g9 ?_
        cases h
        exact Ev_iret rfl rfl dX3_bringBack_39 ⟨rfl, rfl⟩
      · rw [if_pos q4] at h
        refine Ev_bipush bp_m3 dX3_bringBack_22 ?_
        cases h
        exact Ev_iret rfl rfl dX3_bringBack_24 ⟨rfl, rfl⟩
    · rw [if_neg q2] at h
      refine Ev_iconst ic_m1 dX3_bringBack_9 ?_
      cases h
      exact Ev_iret rfl rfl dX3_bringBack_10 ⟨rfl, rfl⟩
