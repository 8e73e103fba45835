/-! printed by wip/whole/gen.py -/
/-! TinselRiver$Acts.<init>()V -/
def fX0_init (M : mM) (v0 : Nat) : Option mM :=
    if isO M v0 0 = true then
      (some (M ++ [.inr (.inr (true, List.replicate 14 .null))])).bind fun M1 =>
      (sV M1 v0 0 0 (.ref (List.length M))).bind fun M2 =>
      (gR M2 v0 0 0).bind fun a4 =>
      (some (M2 ++ [.inl (6, dfX6)])).bind fun M5 =>
      (fX6_init M5 (List.length M2)).bind fun M6 =>
      (qS M6 true a4 0 (List.length M2)).bind fun M7 =>
      (gR M7 v0 0 0).bind fun a9 =>
      (some (M7 ++ [.inl (6, dfX6)])).bind fun M10 =>
      (fX6_init M10 (List.length M7)).bind fun M11 =>
      (qS M11 true a9 1 (List.length M7)).bind fun M12 =>
      (gR M12 v0 0 0).bind fun a14 =>
      (some (M12 ++ [.inl (6, dfX6)])).bind fun M15 =>
      (fX6_init M15 (List.length M12)).bind fun M16 =>
      (qS M16 true a14 2 (List.length M12)).bind fun M17 =>
      (gR M17 v0 0 0).bind fun a19 =>
      (some (M17 ++ [.inl (6, dfX6)])).bind fun M20 =>
      (fX6_init M20 (List.length M17)).bind fun M21 =>
      (qS M21 true a19 3 (List.length M17)).bind fun M22 =>
      (gR M22 v0 0 0).bind fun a24 =>
      (some (M22 ++ [.inl (6, dfX6)])).bind fun M25 =>
      (fX6_init M25 (List.length M22)).bind fun M26 =>
      (qS M26 true a24 4 (List.length M22)).bind fun M27 =>
      (gR M27 v0 0 0).bind fun a29 =>
      (some (M27 ++ [.inl (6, dfX6)])).bind fun M30 =>
      (fX6_init M30 (List.length M27)).bind fun M31 =>
      (qS M31 true a29 5 (List.length M27)).bind fun M32 =>
      (gR M32 v0 0 0).bind fun a34 =>
      (some (M32 ++ [.inl (6, dfX6)])).bind fun M35 =>
      (fX6_init M35 (List.length M32)).bind fun M36 =>
      (qS M36 true a34 6 (List.length M32)).bind fun M37 =>
      (gR M37 v0 0 0).bind fun a39 =>
      (some (M37 ++ [.inl (6, dfX6)])).bind fun M40 =>
      (fX6_init M40 (List.length M37)).bind fun M41 =>
      (qS M41 true a39 7 (List.length M37)).bind fun M42 =>
      (gR M42 v0 0 0).bind fun a44 =>
      (some (M42 ++ [.inl (6, dfX6)])).bind fun M45 =>
      (fX6_init M45 (List.length M42)).bind fun M46 =>
      (qS M46 true a44 8 (List.length M42)).bind fun M47 =>
      (gR M47 v0 0 0).bind fun a49 =>
      (some (M47 ++ [.inl (6, dfX6)])).bind fun M50 =>
      (fX6_init M50 (List.length M47)).bind fun M51 =>
      (qS M51 true a49 9 (List.length M47)).bind fun M52 =>
      (gR M52 v0 0 0).bind fun a54 =>
      (some (M52 ++ [.inl (6, dfX6)])).bind fun M55 =>
      (fX6_init M55 (List.length M52)).bind fun M56 =>
      (qS M56 true a54 10 (List.length M52)).bind fun M57 =>
      (gR M57 v0 0 0).bind fun a59 =>
      (some (M57 ++ [.inl (6, dfX6)])).bind fun M60 =>
      (fX6_init M60 (List.length M57)).bind fun M61 =>
      (qS M61 true a59 11 (List.length M57)).bind fun M62 =>
      (gR M62 v0 0 0).bind fun a64 =>
      (some (M62 ++ [.inl (6, dfX6)])).bind fun M65 =>
      (fX6_init M65 (List.length M62)).bind fun M66 =>
      (qS M66 true a64 12 (List.length M62)).bind fun M67 =>
      (gR M67 v0 0 0).bind fun a69 =>
      (some (M67 ++ [.inl (6, dfX6)])).bind fun M70 =>
      (fX6_init M70 (List.length M67)).bind fun M71 =>
      (qS M71 true a69 13 (List.length M67)).bind fun M72 =>
      some M72
    else none
theorem oX0_init {M : mM} {v0 : Nat} {y : mM} (h : fX0_init M v0 = some y) : isO M v0 0 = true := by
  unfold fX0_init at h
  exact (gsome h).1
set_option maxRecDepth 20000 in
set_option maxHeartbeats 4000000 in
theorem rX0_init {E : mE} {M : mM} {v0 : Nat} {Mf : mM} (h : fX0_init M v0 = some Mf) : EvC mX0_init E 4 197 1064 [.ref v0] M none Mf := by
  unfold fX0_init at h
  replace h := (gsome h).2
  refine EvC.of [some (.ref v0), none] pnX0_init rfl (Nat.le_of_ble_eq_true rfl) ?_
  refine Ev_aload_n (x := v0) rfl dX0_init_0 ?_
  refine Ev_objInit lkX0_3 md_oi1 md_oi2 (Nat.le_of_ble_eq_true rfl) (Nat.le_of_ble_eq_true rfl) dX0_init_1 ?_
  refine Ev_aload_n (x := v0) rfl dX0_init_4 ?_
  refine Ev_bipush bp_14 dX0_init_5 ?_
  obtain ⟨M1, g1, h⟩ := bsome h
  refine Ev_anew_e (z := true) (N := 14) clX0_9 (by decide) (by decide) (Nat.le_of_ble_eq_true rfl) (Nat.le_of_ble_eq_true rfl) (Nat.le_of_ble_eq_true rfl) (Option.some.inj g1) dX0_init_7 ?_
  obtain ⟨M2, g2, h⟩ := bsome h
  refine Ev_put (v := .ref (List.length M)) flX0_11 ⟨rfl, rfl⟩ (fun q hq => by cases hq; exact Or.inr ⟨rfl, rfl, rfl, _, mT0_tbl (i := 106) (by decide +kernel) (by decide +kernel), rfl⟩) dX0_init_10 g2 ?_
  refine Ev_iconst ic_0 dX0_init_13 ?_
  refine Ev_istore_n (loc2 := [some (.ref v0), some (.int 0)]) (Nat.le_of_ble_eq_true rfl) rfl rfl dX0_init_14 ?_
  refine Ev_iload_n (x := 0) rfl dX0_init_15 ?_
  refine Ev_bipush bp_14 dX0_init_16 ?_
  refine Ev_icmp_ge (tgt := 40) dX0_init_18 (by decide) (fun q3 => absurd q3 (by decide)) (fun _ => ?_)
  refine Ev_aload_n (x := v0) rfl dX0_init_21 ?_
  obtain ⟨a4, g4, h⟩ := bsome h
  refine Ev_getR flX0_11 dX0_init_22 g4 ?_
  refine Ev_iload_n (x := 0) rfl dX0_init_25 ?_
  obtain ⟨M5, g5, h⟩ := bsome h
  refine Ev_new_e (ci := 6) (q := (RX6, TX6, 3)) (fs := dfX6) rfl clX0_9 inX6 iniX6 rfl dfX6_ok rfl (Nat.le_of_ble_eq_true rfl) (Nat.le_of_ble_eq_true rfl) (Option.some.inj g5) dX0_init_26 ?_
  refine Ev_dup rfl dX0_init_29 ?_
  obtain ⟨M6, g6, h⟩ := bsome h
  refine Ev_callI (np := 0) (vs := []) (rest := [.ref (List.length M2), .int 0, .ref a4]) mdX6_init (Or.inl lkX0_17) (rX6_init g6) rfl rfl (Nat.le_of_ble_eq_true rfl) (Nat.le_of_ble_eq_true rfl) (Nat.le_of_ble_eq_true rfl) (Nat.le_of_ble_eq_true rfl) dX0_init_30 ?_
  obtain ⟨M7, g7, h⟩ := bsome h
  refine Ev_aast dX0_init_33 g7 ?_
  refine Ev_iinc (x := 0) (v := 1) (loc2 := [some (.ref v0), some (.int 1)]) rfl (by decide) (Nat.le_of_ble_eq_true rfl) rfl rfl dX0_init_34 ?_
  refine Ev_goto (tgt := 15) dX0_init_37 (by decide) ?_
  refine Ev_iload_n (x := 1) rfl dX0_init_15 ?_
  refine Ev_bipush bp_14 dX0_init_16 ?_
  refine Ev_icmp_ge (tgt := 40) dX0_init_18 (by decide) (fun q8 => absurd q8 (by decide)) (fun _ => ?_)
  refine Ev_aload_n (x := v0) rfl dX0_init_21 ?_
  obtain ⟨a9, g9, h⟩ := bsome h
  refine Ev_getR flX0_11 dX0_init_22 g9 ?_
  refine Ev_iload_n (x := 1) rfl dX0_init_25 ?_
  obtain ⟨M10, g10, h⟩ := bsome h
  refine Ev_new_e (ci := 6) (q := (RX6, TX6, 3)) (fs := dfX6) rfl clX0_9 inX6 iniX6 rfl dfX6_ok rfl (Nat.le_of_ble_eq_true rfl) (Nat.le_of_ble_eq_true rfl) (Option.some.inj g10) dX0_init_26 ?_
  refine Ev_dup rfl dX0_init_29 ?_
  obtain ⟨M11, g11, h⟩ := bsome h
  refine Ev_callI (np := 0) (vs := []) (rest := [.ref (List.length M7), .int 1, .ref a9]) mdX6_init (Or.inl lkX0_17) (rX6_init g11) rfl rfl (Nat.le_of_ble_eq_true rfl) (Nat.le_of_ble_eq_true rfl) (Nat.le_of_ble_eq_true rfl) (Nat.le_of_ble_eq_true rfl) dX0_init_30 ?_
  obtain ⟨M12, g12, h⟩ := bsome h
  refine Ev_aast dX0_init_33 g12 ?_
  refine Ev_iinc (x := 1) (v := 2) (loc2 := [some (.ref v0), some (.int 2)]) rfl (by decide) (Nat.le_of_ble_eq_true rfl) rfl rfl dX0_init_34 ?_
  refine Ev_goto (tgt := 15) dX0_init_37 (by decide) ?_
  refine Ev_iload_n (x := 2) rfl dX0_init_15 ?_
  refine Ev_bipush bp_14 dX0_init_16 ?_
  refine Ev_icmp_ge (tgt := 40) dX0_init_18 (by decide) (fun q13 => absurd q13 (by decide)) (fun _ => ?_)
  refine Ev_aload_n (x := v0) rfl dX0_init_21 ?_
  obtain ⟨a14, g14, h⟩ := bsome h
  refine Ev_getR flX0_11 dX0_init_22 g14 ?_
  refine Ev_iload_n (x := 2) rfl dX0_init_25 ?_
  obtain ⟨M15, g15, h⟩ := bsome h
  refine Ev_new_e (ci := 6) (q := (RX6, TX6, 3)) (fs := dfX6) rfl clX0_9 inX6 iniX6 rfl dfX6_ok rfl (Nat.le_of_ble_eq_true rfl) (Nat.le_of_ble_eq_true rfl) (Option.some.inj g15) dX0_init_26 ?_
  refine Ev_dup rfl dX0_init_29 ?_
  obtain ⟨M16, g16, h⟩ := bsome h
  refine Ev_callI (np := 0) (vs := []) (rest := [.ref (List.length M12), .int 2, .ref a14]) mdX6_init (Or.inl lkX0_17) (rX6_init g16) rfl rfl (Nat.le_of_ble_eq_true rfl) (Nat.le_of_ble_eq_true rfl) (Nat.le_of_ble_eq_true rfl) (Nat.le_of_ble_eq_true rfl) dX0_init_30 ?_
  obtain ⟨M17, g17, h⟩ := bsome h
  refine Ev_aast dX0_init_33 g17 ?_
  refine Ev_iinc (x := 2) (v := 3) (loc2 := [some (.ref v0), some (.int 3)]) rfl (by decide) (Nat.le_of_ble_eq_true rfl) rfl rfl dX0_init_34 ?_
  refine Ev_goto (tgt := 15) dX0_init_37 (by decide) ?_
  refine Ev_iload_n (x := 3) rfl dX0_init_15 ?_
  refine Ev_bipush bp_14 dX0_init_16 ?_
  refine Ev_icmp_ge (tgt := 40) dX0_init_18 (by decide) (fun q18 => absurd q18 (by decide)) (fun _ => ?_)
  refine Ev_aload_n (x := v0) rfl dX0_init_21 ?_
  obtain ⟨a19, g19, h⟩ := bsome h
  refine Ev_getR flX0_11 dX0_init_22 g19 ?_
  refine Ev_iload_n (x := 3) rfl dX0_init_25 ?_
  obtain ⟨M20, g20, h⟩ := bsome h
  refine Ev_new_e (ci := 6) (q := (RX6, TX6, 3)) (fs := dfX6) rfl clX0_9 inX6 iniX6 rfl dfX6_ok rfl (Nat.le_of_ble_eq_true rfl) (Nat.le_of_ble_eq_true rfl) (Option.some.inj g20) dX0_init_26 ?_
  refine Ev_dup rfl dX0_init_29 ?_
  obtain ⟨M21, g21, h⟩ := bsome h
  refine Ev_callI (np := 0) (vs := []) (rest := [.ref (List.length M17), .int 3, .ref a19]) mdX6_init (Or.inl lkX0_17) (rX6_init g21) rfl rfl (Nat.le_of_ble_eq_true rfl) (Nat.le_of_ble_eq_true rfl) (Nat.le_of_ble_eq_true rfl) (Nat.le_of_ble_eq_true rfl) dX0_init_30 ?_
  obtain ⟨M22, g22, h⟩ := bsome h
  refine Ev_aast dX0_init_33 g22 ?_
  refine Ev_iinc (x := 3) (v := 4) (loc2 := [some (.ref v0), some (.int 4)]) rfl (by decide) (Nat.le_of_ble_eq_true rfl) rfl rfl dX0_init_34 ?_
  refine Ev_goto (tgt := 15) dX0_init_37 (by decide) ?_
  refine Ev_iload_n (x := 4) rfl dX0_init_15 ?_
  refine Ev_bipush bp_14 dX0_init_16 ?_
  refine Ev_icmp_ge (tgt := 40) dX0_init_18 (by decide) (fun q23 => absurd q23 (by decide)) (fun _ => ?_)
  refine Ev_aload_n (x := v0) rfl dX0_init_21 ?_
  obtain ⟨a24, g24, h⟩ := bsome h
  refine Ev_getR flX0_11 dX0_init_22 g24 ?_
  refine Ev_iload_n (x := 4) rfl dX0_init_25 ?_
  obtain ⟨M25, g25, h⟩ := bsome h
  refine Ev_new_e (ci := 6) (q := (RX6, TX6, 3)) (fs := dfX6) rfl clX0_9 inX6 iniX6 rfl dfX6_ok rfl (Nat.le_of_ble_eq_true rfl) (Nat.le_of_ble_eq_true rfl) (Option.some.inj g25) dX0_init_26 ?_
  refine Ev_dup rfl dX0_init_29 ?_
  obtain ⟨M26, g26, h⟩ := bsome h
  refine Ev_callI (np := 0) (vs := []) (rest := [.ref (List.length M22), .int 4, .ref a24]) mdX6_init (Or.inl lkX0_17) (rX6_init g26) rfl rfl (Nat.le_of_ble_eq_true rfl) (Nat.le_of_ble_eq_true rfl) (Nat.le_of_ble_eq_true rfl) (Nat.le_of_ble_eq_true rfl) dX0_init_30 ?_
  obtain ⟨M27, g27, h⟩ := bsome h
  refine Ev_aast dX0_init_33 g27 ?_
  refine Ev_iinc (x := 4) (v := 5) (loc2 := [some (.ref v0), some (.int 5)]) rfl (by decide) (Nat.le_of_ble_eq_true rfl) rfl rfl dX0_init_34 ?_
  refine Ev_goto (tgt := 15) dX0_init_37 (by decide) ?_
  refine Ev_iload_n (x := 5) rfl dX0_init_15 ?_
  refine Ev_bipush bp_14 dX0_init_16 ?_
  refine Ev_icmp_ge (tgt := 40) dX0_init_18 (by decide) (fun q28 => absurd q28 (by decide)) (fun _ => ?_)
  refine Ev_aload_n (x := v0) rfl dX0_init_21 ?_
  obtain ⟨a29, g29, h⟩ := bsome h
  refine Ev_getR flX0_11 dX0_init_22 g29 ?_
  refine Ev_iload_n (x := 5) rfl dX0_init_25 ?_
  obtain ⟨M30, g30, h⟩ := bsome h
  refine Ev_new_e (ci := 6) (q := (RX6, TX6, 3)) (fs := dfX6) rfl clX0_9 inX6 iniX6 rfl dfX6_ok rfl (Nat.le_of_ble_eq_true rfl) (Nat.le_of_ble_eq_true rfl) (Option.some.inj g30) dX0_init_26 ?_
  refine Ev_dup rfl dX0_init_29 ?_
  obtain ⟨M31, g31, h⟩ := bsome h
  refine Ev_callI (np := 0) (vs := []) (rest := [.ref (List.length M27), .int 5, .ref a29]) mdX6_init (Or.inl lkX0_17) (rX6_init g31) rfl rfl (Nat.le_of_ble_eq_true rfl) (Nat.le_of_ble_eq_true rfl) (Nat.le_of_ble_eq_true rfl) (Nat.le_of_ble_eq_true rfl) dX0_init_30 ?_
  obtain ⟨M32, g32, h⟩ := bsome h
  refine Ev_aast dX0_init_33 g32 ?_
  refine Ev_iinc (x := 5) (v := 6) (loc2 := [some (.ref v0), some (.int 6)]) rfl (by decide) (Nat.le_of_ble_eq_true rfl) rfl rfl dX0_init_34 ?_
  refine Ev_goto (tgt := 15) dX0_init_37 (by decide) ?_
  refine Ev_iload_n (x := 6) rfl dX0_init_15 ?_
  refine Ev_bipush bp_14 dX0_init_16 ?_
  refine Ev_icmp_ge (tgt := 40) dX0_init_18 (by decide) (fun q33 => absurd q33 (by decide)) (fun _ => ?_)
  refine Ev_aload_n (x := v0) rfl dX0_init_21 ?_
  obtain ⟨a34, g34, h⟩ := bsome h
  refine Ev_getR flX0_11 dX0_init_22 g34 ?_
  refine Ev_iload_n (x := 6) rfl dX0_init_25 ?_
  obtain ⟨M35, g35, h⟩ := bsome h
  refine Ev_new_e (ci := 6) (q := (RX6, TX6, 3)) (fs := dfX6) rfl clX0_9 inX6 iniX6 rfl dfX6_ok rfl (Nat.le_of_ble_eq_true rfl) (Nat.le_of_ble_eq_true rfl) (Option.some.inj g35) dX0_init_26 ?_
  refine Ev_dup rfl dX0_init_29 ?_
  obtain ⟨M36, g36, h⟩ := bsome h
  refine Ev_callI (np := 0) (vs := []) (rest := [.ref (List.length M32), .int 6, .ref a34]) mdX6_init (Or.inl lkX0_17) (rX6_init g36) rfl rfl (Nat.le_of_ble_eq_true rfl) (Nat.le_of_ble_eq_true rfl) (Nat.le_of_ble_eq_true rfl) (Nat.le_of_ble_eq_true rfl) dX0_init_30 ?_
  obtain ⟨M37, g37, h⟩ := bsome h
  refine Ev_aast dX0_init_33 g37 ?_
  refine Ev_iinc (x := 6) (v := 7) (loc2 := [some (.ref v0), some (.int 7)]) rfl (by decide) (Nat.le_of_ble_eq_true rfl) rfl rfl dX0_init_34 ?_
  refine Ev_goto (tgt := 15) dX0_init_37 (by decide) ?_
  refine Ev_iload_n (x := 7) rfl dX0_init_15 ?_
  refine Ev_bipush bp_14 dX0_init_16 ?_
  refine Ev_icmp_ge (tgt := 40) dX0_init_18 (by decide) (fun q38 => absurd q38 (by decide)) (fun _ => ?_)
  refine Ev_aload_n (x := v0) rfl dX0_init_21 ?_
  obtain ⟨a39, g39, h⟩ := bsome h
  refine Ev_getR flX0_11 dX0_init_22 g39 ?_
  refine Ev_iload_n (x := 7) rfl dX0_init_25 ?_
  obtain ⟨M40, g40, h⟩ := bsome h
  refine Ev_new_e (ci := 6) (q := (RX6, TX6, 3)) (fs := dfX6) rfl clX0_9 inX6 iniX6 rfl dfX6_ok rfl (Nat.le_of_ble_eq_true rfl) (Nat.le_of_ble_eq_true rfl) (Option.some.inj g40) dX0_init_26 ?_
  refine Ev_dup rfl dX0_init_29 ?_
  obtain ⟨M41, g41, h⟩ := bsome h
  refine Ev_callI (np := 0) (vs := []) (rest := [.ref (List.length M37), .int 7, .ref a39]) mdX6_init (Or.inl lkX0_17) (rX6_init g41) rfl rfl (Nat.le_of_ble_eq_true rfl) (Nat.le_of_ble_eq_true rfl) (Nat.le_of_ble_eq_true rfl) (Nat.le_of_ble_eq_true rfl) dX0_init_30 ?_
  obtain ⟨M42, g42, h⟩ := bsome h
  refine Ev_aast dX0_init_33 g42 ?_
  refine Ev_iinc (x := 7) (v := 8) (loc2 := [some (.ref v0), some (.int 8)]) rfl (by decide) (Nat.le_of_ble_eq_true rfl) rfl rfl dX0_init_34 ?_
  refine Ev_goto (tgt := 15) dX0_init_37 (by decide) ?_
  refine Ev_iload_n (x := 8) rfl dX0_init_15 ?_
  refine Ev_bipush bp_14 dX0_init_16 ?_
  refine Ev_icmp_ge (tgt := 40) dX0_init_18 (by decide) (fun q43 => absurd q43 (by decide)) (fun _ => ?_)
  refine Ev_aload_n (x := v0) rfl dX0_init_21 ?_
  obtain ⟨a44, g44, h⟩ := bsome h
  refine Ev_getR flX0_11 dX0_init_22 g44 ?_
  refine Ev_iload_n (x := 8) rfl dX0_init_25 ?_
  obtain ⟨M45, g45, h⟩ := bsome h
  refine Ev_new_e (ci := 6) (q := (RX6, TX6, 3)) (fs := dfX6) rfl clX0_9 inX6 iniX6 rfl dfX6_ok rfl (Nat.le_of_ble_eq_true rfl) (Nat.le_of_ble_eq_true rfl) (Option.some.inj g45) dX0_init_26 ?_
  refine Ev_dup rfl dX0_init_29 ?_
  obtain ⟨M46, g46, h⟩ := bsome h
  refine Ev_callI (np := 0) (vs := []) (rest := [.ref (List.length M42), .int 8, .ref a44]) mdX6_init (Or.inl lkX0_17) (rX6_init g46) rfl rfl (Nat.le_of_ble_eq_true rfl) (Nat.le_of_ble_eq_true rfl) (Nat.le_of_ble_eq_true rfl) (Nat.le_of_ble_eq_true rfl) dX0_init_30 ?_
  obtain ⟨M47, g47, h⟩ := bsome h
  refine Ev_aast dX0_init_33 g47 ?_
  refine Ev_iinc (x := 8) (v := 9) (loc2 := [some (.ref v0), some (.int 9)]) rfl (by decide) (Nat.le_of_ble_eq_true rfl) rfl rfl dX0_init_34 ?_
  refine Ev_goto (tgt := 15) dX0_init_37 (by decide) ?_
  refine Ev_iload_n (x := 9) rfl dX0_init_15 ?_
  refine Ev_bipush bp_14 dX0_init_16 ?_
  refine Ev_icmp_ge (tgt := 40) dX0_init_18 (by decide) (fun q48 => absurd q48 (by decide)) (fun _ => ?_)
  refine Ev_aload_n (x := v0) rfl dX0_init_21 ?_
  obtain ⟨a49, g49, h⟩ := bsome h
  refine Ev_getR flX0_11 dX0_init_22 g49 ?_
  refine Ev_iload_n (x := 9) rfl dX0_init_25 ?_
  obtain ⟨M50, g50, h⟩ := bsome h
  refine Ev_new_e (ci := 6) (q := (RX6, TX6, 3)) (fs := dfX6) rfl clX0_9 inX6 iniX6 rfl dfX6_ok rfl (Nat.le_of_ble_eq_true rfl) (Nat.le_of_ble_eq_true rfl) (Option.some.inj g50) dX0_init_26 ?_
  refine Ev_dup rfl dX0_init_29 ?_
  obtain ⟨M51, g51, h⟩ := bsome h
  refine Ev_callI (np := 0) (vs := []) (rest := [.ref (List.length M47), .int 9, .ref a49]) mdX6_init (Or.inl lkX0_17) (rX6_init g51) rfl rfl (Nat.le_of_ble_eq_true rfl) (Nat.le_of_ble_eq_true rfl) (Nat.le_of_ble_eq_true rfl) (Nat.le_of_ble_eq_true rfl) dX0_init_30 ?_
  obtain ⟨M52, g52, h⟩ := bsome h
  refine Ev_aast dX0_init_33 g52 ?_
  refine Ev_iinc (x := 9) (v := 10) (loc2 := [some (.ref v0), some (.int 10)]) rfl (by decide) (Nat.le_of_ble_eq_true rfl) rfl rfl dX0_init_34 ?_
  refine Ev_goto (tgt := 15) dX0_init_37 (by decide) ?_
  refine Ev_iload_n (x := 10) rfl dX0_init_15 ?_
  refine Ev_bipush bp_14 dX0_init_16 ?_
  refine Ev_icmp_ge (tgt := 40) dX0_init_18 (by decide) (fun q53 => absurd q53 (by decide)) (fun _ => ?_)
  refine Ev_aload_n (x := v0) rfl dX0_init_21 ?_
  obtain ⟨a54, g54, h⟩ := bsome h
  refine Ev_getR flX0_11 dX0_init_22 g54 ?_
  refine Ev_iload_n (x := 10) rfl dX0_init_25 ?_
  obtain ⟨M55, g55, h⟩ := bsome h
  refine Ev_new_e (ci := 6) (q := (RX6, TX6, 3)) (fs := dfX6) rfl clX0_9 inX6 iniX6 rfl dfX6_ok rfl (Nat.le_of_ble_eq_true rfl) (Nat.le_of_ble_eq_true rfl) (Option.some.inj g55) dX0_init_26 ?_
  refine Ev_dup rfl dX0_init_29 ?_
  obtain ⟨M56, g56, h⟩ := bsome h
  refine Ev_callI (np := 0) (vs := []) (rest := [.ref (List.length M52), .int 10, .ref a54]) mdX6_init (Or.inl lkX0_17) (rX6_init g56) rfl rfl (Nat.le_of_ble_eq_true rfl) (Nat.le_of_ble_eq_true rfl) (Nat.le_of_ble_eq_true rfl) (Nat.le_of_ble_eq_true rfl) dX0_init_30 ?_
  obtain ⟨M57, g57, h⟩ := bsome h
  refine Ev_aast dX0_init_33 g57 ?_
  refine Ev_iinc (x := 10) (v := 11) (loc2 := [some (.ref v0), some (.int 11)]) rfl (by decide) (Nat.le_of_ble_eq_true rfl) rfl rfl dX0_init_34 ?_
  refine Ev_goto (tgt := 15) dX0_init_37 (by decide) ?_
  refine Ev_iload_n (x := 11) rfl dX0_init_15 ?_
  refine Ev_bipush bp_14 dX0_init_16 ?_
  refine Ev_icmp_ge (tgt := 40) dX0_init_18 (by decide) (fun q58 => absurd q58 (by decide)) (fun _ => ?_)
  refine Ev_aload_n (x := v0) rfl dX0_init_21 ?_
  obtain ⟨a59, g59, h⟩ := bsome h
  refine Ev_getR flX0_11 dX0_init_22 g59 ?_
  refine Ev_iload_n (x := 11) rfl dX0_init_25 ?_
  obtain ⟨M60, g60, h⟩ := bsome h
  refine Ev_new_e (ci := 6) (q := (RX6, TX6, 3)) (fs := dfX6) rfl clX0_9 inX6 iniX6 rfl dfX6_ok rfl (Nat.le_of_ble_eq_true rfl) (Nat.le_of_ble_eq_true rfl) (Option.some.inj g60) dX0_init_26 ?_
  refine Ev_dup rfl dX0_init_29 ?_
  obtain ⟨M61, g61, h⟩ := bsome h
  refine Ev_callI (np := 0) (vs := []) (rest := [.ref (List.length M57), .int 11, .ref a59]) mdX6_init (Or.inl lkX0_17) (rX6_init g61) rfl rfl (Nat.le_of_ble_eq_true rfl) (Nat.le_of_ble_eq_true rfl) (Nat.le_of_ble_eq_true rfl) (Nat.le_of_ble_eq_true rfl) dX0_init_30 ?_
  obtain ⟨M62, g62, h⟩ := bsome h
  refine Ev_aast dX0_init_33 g62 ?_
  refine Ev_iinc (x := 11) (v := 12) (loc2 := [some (.ref v0), some (.int 12)]) rfl (by decide) (Nat.le_of_ble_eq_true rfl) rfl rfl dX0_init_34 ?_
  refine Ev_goto (tgt := 15) dX0_init_37 (by decide) ?_
  refine Ev_iload_n (x := 12) rfl dX0_init_15 ?_
  refine Ev_bipush bp_14 dX0_init_16 ?_
  refine Ev_icmp_ge (tgt := 40) dX0_init_18 (by decide) (fun q63 => absurd q63 (by decide)) (fun _ => ?_)
  refine Ev_aload_n (x := v0) rfl dX0_init_21 ?_
  obtain ⟨a64, g64, h⟩ := bsome h
  refine Ev_getR flX0_11 dX0_init_22 g64 ?_
  refine Ev_iload_n (x := 12) rfl dX0_init_25 ?_
  obtain ⟨M65, g65, h⟩ := bsome h
  refine Ev_new_e (ci := 6) (q := (RX6, TX6, 3)) (fs := dfX6) rfl clX0_9 inX6 iniX6 rfl dfX6_ok rfl (Nat.le_of_ble_eq_true rfl) (Nat.le_of_ble_eq_true rfl) (Option.some.inj g65) dX0_init_26 ?_
  refine Ev_dup rfl dX0_init_29 ?_
  obtain ⟨M66, g66, h⟩ := bsome h
  refine Ev_callI (np := 0) (vs := []) (rest := [.ref (List.length M62), .int 12, .ref a64]) mdX6_init (Or.inl lkX0_17) (rX6_init g66) rfl rfl (Nat.le_of_ble_eq_true rfl) (Nat.le_of_ble_eq_true rfl) (Nat.le_of_ble_eq_true rfl) (Nat.le_of_ble_eq_true rfl) dX0_init_30 ?_
  obtain ⟨M67, g67, h⟩ := bsome h
  refine Ev_aast dX0_init_33 g67 ?_
  refine Ev_iinc (x := 12) (v := 13) (loc2 := [some (.ref v0), some (.int 13)]) rfl (by decide) (Nat.le_of_ble_eq_true rfl) rfl rfl dX0_init_34 ?_
  refine Ev_goto (tgt := 15) dX0_init_37 (by decide) ?_
  refine Ev_iload_n (x := 13) rfl dX0_init_15 ?_
  refine Ev_bipush bp_14 dX0_init_16 ?_
  refine Ev_icmp_ge (tgt := 40) dX0_init_18 (by decide) (fun q68 => absurd q68 (by decide)) (fun _ => ?_)
  refine Ev_aload_n (x := v0) rfl dX0_init_21 ?_
  obtain ⟨a69, g69, h⟩ := bsome h
  refine Ev_getR flX0_11 dX0_init_22 g69 ?_
  refine Ev_iload_n (x := 13) rfl dX0_init_25 ?_
  obtain ⟨M70, g70, h⟩ := bsome h
  refine Ev_new_e (ci := 6) (q := (RX6, TX6, 3)) (fs := dfX6) rfl clX0_9 inX6 iniX6 rfl dfX6_ok rfl (Nat.le_of_ble_eq_true rfl) (Nat.le_of_ble_eq_true rfl) (Option.some.inj g70) dX0_init_26 ?_
  refine Ev_dup rfl dX0_init_29 ?_
  obtain ⟨M71, g71, h⟩ := bsome h
  refine Ev_callI (np := 0) (vs := []) (rest := [.ref (List.length M67), .int 13, .ref a69]) mdX6_init (Or.inl lkX0_17) (rX6_init g71) rfl rfl (Nat.le_of_ble_eq_true rfl) (Nat.le_of_ble_eq_true rfl) (Nat.le_of_ble_eq_true rfl) (Nat.le_of_ble_eq_true rfl) dX0_init_30 ?_
  obtain ⟨M72, g72, h⟩ := bsome h
  refine Ev_aast dX0_init_33 g72 ?_
  refine Ev_iinc (x := 13) (v := 14) (loc2 := [some (.ref v0), some (.int 14)]) rfl (by decide) (Nat.le_of_ble_eq_true rfl) rfl rfl dX0_init_34 ?_
  refine Ev_goto (tgt := 15) dX0_init_37 (by decide) ?_
  refine Ev_iload_n (x := 14) rfl dX0_init_15 ?_
  refine Ev_bipush bp_14 dX0_init_16 ?_
  refine Ev_icmp_ge (tgt := 40) dX0_init_18 (by decide) (fun _ => ?_) (fun q73 => absurd q73 (by decide))
  cases h
  exact Ev_vret rfl dX0_init_40 ⟨rfl, rfl⟩
/-! TinselRiver$Acts.clear()V -/
def fX0_clear (M : mM) (v0 : Nat) : Option mM :=
    if isO M v0 0 = true then
      (sV M v0 0 1 (.int 0)).bind fun M1 =>
      (sV M1 v0 0 2 (.int 0)).bind fun M2 =>
      some M2
    else none
theorem oX0_clear {M : mM} {v0 : Nat} {y : mM} (h : fX0_clear M v0 = some y) : isO M v0 0 = true := by
  unfold fX0_clear at h
  exact (gsome h).1
set_option maxRecDepth 20000 in
set_option maxHeartbeats 4000000 in
theorem rX0_clear {E : mE} {M : mM} {v0 : Nat} {Mf : mM} (h : fX0_clear M v0 = some Mf) : EvC mX0_clear E 0 0 0 [.ref v0] M none Mf := by
  unfold fX0_clear at h
  replace h := (gsome h).2
  refine EvC.of [some (.ref v0)] pnX0_clear rfl (Nat.le_of_ble_eq_true rfl) ?_
  refine Ev_aload_n (x := v0) rfl dX0_clear_0 ?_
  refine Ev_iconst ic_0 dX0_clear_1 ?_
  obtain ⟨M1, g1, h⟩ := bsome h
  refine Ev_put (v := .int 0) flX0_18 ⟨rfl, rfl⟩ (fun q hq => by cases hq; exact Or.inl rfl) dX0_clear_2 g1 ?_
  refine Ev_aload_n (x := v0) rfl dX0_clear_5 ?_
  refine Ev_iconst ic_0 dX0_clear_6 ?_
  obtain ⟨M2, g2, h⟩ := bsome h
  refine Ev_put (v := .int 0) flX0_22 ⟨rfl, rfl⟩ (fun q hq => by cases hq; exact Or.inl rfl) dX0_clear_7 g2 ?_
  cases h
  exact Ev_vret rfl dX0_clear_10 ⟨rfl, rfl⟩
/-! TinselRiver$Acts.remember(LTinselRiver$Valley;)V -/
def fX0_remember (M : mM) (v0 : Nat) (v1 : Nat) : Option mM :=
    if isO M v0 0 = true then
      (gI M v0 0 2).bind fun x1 =>
      if x1 = 14 then
        ((gI M v0 0 1).bind fun x11 =>
        (sV M v0 0 1 (.int ((x11 + 1) - (x11 + 1) / 14 * 14))).bind fun M12 =>
        (gI M12 v0 0 2).bind fun x13 =>
        (sV M12 v0 0 2 (.int (x13 - 1))).bind fun M14 =>
        (gR M14 v0 0 0).bind fun a15 =>
        (gI M14 v0 0 1).bind fun x16 =>
        (gI M14 v0 0 2).bind fun x17 =>
        (qI M14 true a15 ((x16 + x17) - (x16 + x17) / 14 * 14)).bind fun a18 =>
        (fX6_setTo M14 a18 v1).bind fun M20 =>
        (gI M20 v0 0 2).bind fun x21 =>
        (sV M20 v0 0 2 (.int (x21 + 1))).bind fun M22 =>
        some M22)
      else
        ((gR M v0 0 0).bind fun a3 =>
        (gI M v0 0 1).bind fun x4 =>
        (gI M v0 0 2).bind fun x5 =>
        (qI M true a3 ((x4 + x5) - (x4 + x5) / 14 * 14)).bind fun a6 =>
        (fX6_setTo M a6 v1).bind fun M8 =>
        (gI M8 v0 0 2).bind fun x9 =>
        (sV M8 v0 0 2 (.int (x9 + 1))).bind fun M10 =>
        some M10)
    else none
theorem oX0_remember {M : mM} {v0 : Nat} {v1 : Nat} {y : mM} (h : fX0_remember M v0 v1 = some y) : isO M v0 0 = true := by
  unfold fX0_remember at h
  exact (gsome h).1
set_option maxRecDepth 20000 in
set_option maxHeartbeats 4000000 in
theorem rX0_remember {E : mE} {M : mM} {v0 : Nat} {v1 : Nat} {Mf : mM} (h : fX0_remember M v0 v1 = some Mf) : EvC mX0_remember E 4 0 0 [.ref v0, .ref v1] M none Mf := by
  unfold fX0_remember at h
  replace h := (gsome h).2
  refine EvC.of [some (.ref v0), some (.ref v1)] pnX0_remember rfl (Nat.le_of_ble_eq_true rfl) ?_
  refine Ev_aload_n (x := v0) rfl dX0_remember_0 ?_
  obtain ⟨x1, g1, h⟩ := bsome h
  refine Ev_getI flX0_22 dX0_remember_1 g1 ?_
  refine Ev_bipush bp_14 dX0_remember_4 ?_
  refine Ev_icmp_ne (tgt := 32) dX0_remember_6 (by decide) (fun q2 => ?_) (fun q2 => ?_)
  · rw [if_neg q2] at h
    refine Ev_aload_n (x := v0) rfl dX0_remember_32 ?_
    obtain ⟨a3, g3, h⟩ := bsome h
    refine Ev_getR flX0_11 dX0_remember_33 g3 ?_
    refine Ev_aload_n (x := v0) rfl dX0_remember_36 ?_
    obtain ⟨x4, g4, h⟩ := bsome h
    refine Ev_getI flX0_18 dX0_remember_37 g4 ?_
    refine Ev_aload_n (x := v0) rfl dX0_remember_40 ?_
    obtain ⟨x5, g5, h⟩ := bsome h
    refine Ev_getI flX0_22 dX0_remember_41 g5 ?_
    refine Ev_iadd dX0_remember_44 ?_
    refine Ev_bipush bp_14 dX0_remember_45 ?_
    refine Ev_irem (by decide) dX0_remember_47 ?_
    obtain ⟨a6, g6, h⟩ := bsome h
    refine Ev_aald dX0_remember_48 g6 ?_
    refine Ev_aload_n (x := v1) rfl dX0_remember_49 ?_
    obtain ⟨M8, g7, h⟩ := bsome h
    refine Ev_callVv (np := 1) (vs := [.ref v1]) (rest := []) mdX6_setTo lkX0_25 ⟨_, rfl, rfl⟩ (oX6_setTo g7) (rX6_setTo g7) rfl rfl (Nat.le_of_ble_eq_true rfl) (Nat.le_of_ble_eq_true rfl) dX0_remember_50 ?_
    refine Ev_aload_n (x := v0) rfl dX0_remember_53 ?_
    refine Ev_dup rfl dX0_remember_54 ?_
    obtain ⟨x9, g9, h⟩ := bsome h
    refine Ev_getI flX0_22 dX0_remember_55 g9 ?_
    refine Ev_iconst ic_1 dX0_remember_58 ?_
    refine Ev_iadd dX0_remember_59 ?_
    obtain ⟨M10, g10, h⟩ := bsome h
    refine Ev_put (v := .int (x9 + 1)) flX0_22 ⟨rfl, rfl⟩ (fun q hq => by cases hq; exact Or.inl rfl) dX0_remember_60 g10 ?_
    cases h
    exact Ev_vret rfl dX0_remember_63 ⟨rfl, rfl⟩
  · rw [if_pos q2] at h
    refine Ev_aload_n (x := v0) rfl dX0_remember_9 ?_
    refine Ev_aload_n (x := v0) rfl dX0_remember_10 ?_
    obtain ⟨x11, g11, h⟩ := bsome h
    refine Ev_getI flX0_18 dX0_remember_11 g11 ?_
    refine Ev_iconst ic_1 dX0_remember_14 ?_
    refine Ev_iadd dX0_remember_15 ?_
    refine Ev_bipush bp_14 dX0_remember_16 ?_
    refine Ev_irem (by decide) dX0_remember_18 ?_
    obtain ⟨M12, g12, h⟩ := bsome h
    refine Ev_put (v := .int ((x11 + 1) - (x11 + 1) / 14 * 14)) flX0_18 ⟨rfl, rfl⟩ (fun q hq => by cases hq; exact Or.inl rfl) dX0_remember_19 g12 ?_
    refine Ev_aload_n (x := v0) rfl dX0_remember_22 ?_
    refine Ev_dup rfl dX0_remember_23 ?_
    obtain ⟨x13, g13, h⟩ := bsome h
    refine Ev_getI flX0_22 dX0_remember_24 g13 ?_
    refine Ev_iconst ic_1 dX0_remember_27 ?_
    refine Ev_isub dX0_remember_28 ?_
    obtain ⟨M14, g14, h⟩ := bsome h
    refine Ev_put (v := .int (x13 - 1)) flX0_22 ⟨rfl, rfl⟩ (fun q hq => by cases hq; exact Or.inl rfl) dX0_remember_29 g14 ?_
    refine Ev_aload_n (x := v0) rfl dX0_remember_32 ?_
    obtain ⟨a15, g15, h⟩ := bsome h
    refine Ev_getR flX0_11 dX0_remember_33 g15 ?_
    refine Ev_aload_n (x := v0) rfl dX0_remember_36 ?_
    obtain ⟨x16, g16, h⟩ := bsome h
    refine Ev_getI flX0_18 dX0_remember_37 g16 ?_
    refine Ev_aload_n (x := v0) rfl dX0_remember_40 ?_
    obtain ⟨x17, g17, h⟩ := bsome h
    refine Ev_getI flX0_22 dX0_remember_41 g17 ?_
    refine Ev_iadd dX0_remember_44 ?_
    refine Ev_bipush bp_14 dX0_remember_45 ?_
    refine Ev_irem (by decide) dX0_remember_47 ?_
    obtain ⟨a18, g18, h⟩ := bsome h
    refine Ev_aald dX0_remember_48 g18 ?_
    refine Ev_aload_n (x := v1) rfl dX0_remember_49 ?_
    obtain ⟨M20, g19, h⟩ := bsome h
    refine Ev_callVv (np := 1) (vs := [.ref v1]) (rest := []) mdX6_setTo lkX0_25 ⟨_, rfl, rfl⟩ (oX6_setTo g19) (rX6_setTo g19) rfl rfl (Nat.le_of_ble_eq_true rfl) (Nat.le_of_ble_eq_true rfl) dX0_remember_50 ?_
    refine Ev_aload_n (x := v0) rfl dX0_remember_53 ?_
    refine Ev_dup rfl dX0_remember_54 ?_
    obtain ⟨x21, g21, h⟩ := bsome h
    refine Ev_getI flX0_22 dX0_remember_55 g21 ?_
    refine Ev_iconst ic_1 dX0_remember_58 ?_
    refine Ev_iadd dX0_remember_59 ?_
    obtain ⟨M22, g22, h⟩ := bsome h
    refine Ev_put (v := .int (x21 + 1)) flX0_22 ⟨rfl, rfl⟩ (fun q hq => by cases hq; exact Or.inl rfl) dX0_remember_60 g22 ?_
    cases h
    exact Ev_vret rfl dX0_remember_63 ⟨rfl, rfl⟩
/-! TinselRiver$Acts.takeBack(LTinselRiver$Valley;)I -/
def fX0_takeBack (M : mM) (v0 : Nat) (v1 : Nat) : Option (Int32 × mM) :=
    if isO M v0 0 = true then
      (gI M v0 0 2).bind fun x1 =>
      if x1 = 0 then
        (some ((-3), M))
      else
        ((gI M v0 0 2).bind fun x3 =>
        (sV M v0 0 2 (.int (x3 - 1))).bind fun M4 =>
        (gR M4 v0 0 0).bind fun a5 =>
        (gI M4 v0 0 1).bind fun x6 =>
        (gI M4 v0 0 2).bind fun x7 =>
        (qI M4 true a5 ((x6 + x7) - (x6 + x7) / 14 * 14)).bind fun a8 =>
        (fX6_setTo M4 v1 a8).bind fun M10 =>
        (gI M10 v0 0 2).bind fun x11 =>
        some (x11, M10))
    else none
theorem oX0_takeBack {M : mM} {v0 : Nat} {v1 : Nat} {y : (Int32 × mM)} (h : fX0_takeBack M v0 v1 = some y) : isO M v0 0 = true := by
  unfold fX0_takeBack at h
  exact (gsome h).1
set_option maxRecDepth 20000 in
set_option maxHeartbeats 4000000 in
theorem rX0_takeBack {E : mE} {M : mM} {v0 : Nat} {v1 : Nat} {x : Int32} {Mf : mM} (h : fX0_takeBack M v0 v1 = some (x, Mf)) : EvC mX0_takeBack E 4 0 0 [.ref v0, .ref v1] M (some (.int x)) Mf := by
  unfold fX0_takeBack at h
  replace h := (gsome h).2
  refine EvC.of [some (.ref v0), some (.ref v1)] pnX0_takeBack rfl (Nat.le_of_ble_eq_true rfl) ?_
  refine Ev_aload_n (x := v0) rfl dX0_takeBack_0 ?_
  obtain ⟨x1, g1, h⟩ := bsome h
  refine Ev_getI flX0_22 dX0_takeBack_1 g1 ?_
  refine Ev_if_ne (tgt := 10) dX0_takeBack_4 (by decide) (fun q2 => ?_) (fun q2 => ?_)
  · rw [if_neg q2] at h
    refine Ev_aload_n (x := v0) rfl dX0_takeBack_10 ?_
    refine Ev_dup rfl dX0_takeBack_11 ?_
    obtain ⟨x3, g3, h⟩ := bsome h
    refine Ev_getI flX0_22 dX0_takeBack_12 g3 ?_
    refine Ev_iconst ic_1 dX0_takeBack_15 ?_
    refine Ev_isub dX0_takeBack_16 ?_
    obtain ⟨M4, g4, h⟩ := bsome h
    refine Ev_put (v := .int (x3 - 1)) flX0_22 ⟨rfl, rfl⟩ (fun q hq => by cases hq; exact Or.inl rfl) dX0_takeBack_17 g4 ?_
    refine Ev_aload_n (x := v1) rfl dX0_takeBack_20 ?_
    refine Ev_aload_n (x := v0) rfl dX0_takeBack_21 ?_
    obtain ⟨a5, g5, h⟩ := bsome h
    refine Ev_getR flX0_11 dX0_takeBack_22 g5 ?_
    refine Ev_aload_n (x := v0) rfl dX0_takeBack_25 ?_
    obtain ⟨x6, g6, h⟩ := bsome h
    refine Ev_getI flX0_18 dX0_takeBack_26 g6 ?_
    refine Ev_aload_n (x := v0) rfl dX0_takeBack_29 ?_
    obtain ⟨x7, g7, h⟩ := bsome h
    refine Ev_getI flX0_22 dX0_takeBack_30 g7 ?_
    refine Ev_iadd dX0_takeBack_33 ?_
    refine Ev_bipush bp_14 dX0_takeBack_34 ?_
    refine Ev_irem (by decide) dX0_takeBack_36 ?_
    obtain ⟨a8, g8, h⟩ := bsome h
    refine Ev_aald dX0_takeBack_37 g8 ?_
    obtain ⟨M10, g9, h⟩ := bsome h
    refine Ev_callVv (np := 1) (vs := [.ref a8]) (rest := []) mdX6_setTo lkX0_25 ⟨_, rfl, rfl⟩ (oX6_setTo g9) (rX6_setTo g9) rfl rfl (Nat.le_of_ble_eq_true rfl) (Nat.le_of_ble_eq_true rfl) dX0_takeBack_38 ?_
    refine Ev_aload_n (x := v0) rfl dX0_takeBack_41 ?_
    obtain ⟨x11, g11, h⟩ := bsome h
    refine Ev_getI flX0_22 dX0_takeBack_42 g11 ?_
    cases h
    exact Ev_iret rfl rfl dX0_takeBack_45 ⟨rfl, rfl⟩
  · rw [if_pos q2] at h
    refine Ev_bipush bp_m3 dX0_takeBack_7 ?_
    cases h
    exact Ev_iret rfl rfl dX0_takeBack_9 ⟨rfl, rfl⟩
