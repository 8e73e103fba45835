/-! printed by wip/whole/gen.py -/
/-! TinselRiver$Row.<init>(I)V {1: 12} -/
def fX2_init_12 (M : mM) (v0 : Nat) : Option mM :=
    if isO M v0 2 = true then
      (some (M ++ [.inr (.inl (false, List.replicate 12 0))])).bind fun M1 =>
      (sV M1 v0 2 0 (.ref (List.length M))).bind fun M2 =>
      (sV M2 v0 2 1 (.int 0)).bind fun M3 =>
      some M3
    else none
theorem oX2_init_12 {M : mM} {v0 : Nat} {y : mM} (h : fX2_init_12 M v0 = some y) : isO M v0 2 = true := by
  unfold fX2_init_12 at h
  exact (gsome h).1
set_option maxRecDepth 20000 in
set_option maxHeartbeats 4000000 in
theorem rX2_init_12 {E : mE} {M : mM} {v0 : Nat} {Mf : mM} (h : fX2_init_12 M v0 = some Mf) : EvC mX2_init E 1 1 12 [.ref v0, .int 12] M none Mf := by
  unfold fX2_init_12 at h
  replace h := (gsome h).2
  refine EvC.of [some (.ref v0), some (.int 12)] pnX2_init rfl (Nat.le_of_ble_eq_true rfl) ?_
  refine Ev_aload_n (x := v0) rfl dX2_init_0 ?_
  refine Ev_objInit lkX2_3 md_oi1 md_oi2 (Nat.le_of_ble_eq_true rfl) (Nat.le_of_ble_eq_true rfl) dX2_init_1 ?_
  refine Ev_aload_n (x := v0) rfl dX2_init_4 ?_
  refine Ev_iload_n (x := 12) rfl dX2_init_5 ?_
  refine Ev_iconst ic_0 dX2_init_6 ?_
  refine Ev_mmax lkX2_9 (Nat.le_of_ble_eq_true rfl) (Nat.le_of_ble_eq_true rfl) dX2_init_7 ?_
  rw [show (if (12 : Int32) < 0 then 0 else 12) = (12 : Int32) from by decide]
  obtain ⟨M1, g1, h⟩ := bsome h
  refine Ev_newa_e (z := false) (N := 12) rfl ac_int (by decide) (by decide) (Nat.le_of_ble_eq_true rfl) (Nat.le_of_ble_eq_true rfl) (Nat.le_of_ble_eq_true rfl) (Option.some.inj g1) dX2_init_10 ?_
  obtain ⟨M2, g2, h⟩ := bsome h
  refine Ev_put (v := .ref (List.length M)) flX2_15 ⟨rfl, rfl⟩ (fun q hq => by cases hq; exact Or.inr ⟨rfl, rfl, rfl, _, mT0_tbl (i := 57) (by decide +kernel) (by decide +kernel), rfl⟩) dX2_init_12 g2 ?_
  refine Ev_aload_n (x := v0) rfl dX2_init_15 ?_
  refine Ev_iconst ic_0 dX2_init_16 ?_
  obtain ⟨M3, g3, h⟩ := bsome h
  refine Ev_put (v := .int 0) flX2_21 ⟨rfl, rfl⟩ (fun q hq => by cases hq; exact Or.inl rfl) dX2_init_17 g3 ?_
  cases h
  exact Ev_vret rfl dX2_init_20 ⟨rfl, rfl⟩
/-! TinselRiver$Row.<init>(I)V {1: 48} -/
def fX2_init_48 (M : mM) (v0 : Nat) : Option mM :=
    if isO M v0 2 = true then
      (some (M ++ [.inr (.inl (false, List.replicate 48 0))])).bind fun M1 =>
      (sV M1 v0 2 0 (.ref (List.length M))).bind fun M2 =>
      (sV M2 v0 2 1 (.int 0)).bind fun M3 =>
      some M3
    else none
theorem oX2_init_48 {M : mM} {v0 : Nat} {y : mM} (h : fX2_init_48 M v0 = some y) : isO M v0 2 = true := by
  unfold fX2_init_48 at h
  exact (gsome h).1
set_option maxRecDepth 20000 in
set_option maxHeartbeats 4000000 in
theorem rX2_init_48 {E : mE} {M : mM} {v0 : Nat} {Mf : mM} (h : fX2_init_48 M v0 = some Mf) : EvC mX2_init E 1 1 48 [.ref v0, .int 48] M none Mf := by
  unfold fX2_init_48 at h
  replace h := (gsome h).2
  refine EvC.of [some (.ref v0), some (.int 48)] pnX2_init rfl (Nat.le_of_ble_eq_true rfl) ?_
  refine Ev_aload_n (x := v0) rfl dX2_init_0 ?_
  refine Ev_objInit lkX2_3 md_oi1 md_oi2 (Nat.le_of_ble_eq_true rfl) (Nat.le_of_ble_eq_true rfl) dX2_init_1 ?_
  refine Ev_aload_n (x := v0) rfl dX2_init_4 ?_
  refine Ev_iload_n (x := 48) rfl dX2_init_5 ?_
  refine Ev_iconst ic_0 dX2_init_6 ?_
  refine Ev_mmax lkX2_9 (Nat.le_of_ble_eq_true rfl) (Nat.le_of_ble_eq_true rfl) dX2_init_7 ?_
  rw [show (if (48 : Int32) < 0 then 0 else 48) = (48 : Int32) from by decide]
  obtain ⟨M1, g1, h⟩ := bsome h
  refine Ev_newa_e (z := false) (N := 48) rfl ac_int (by decide) (by decide) (Nat.le_of_ble_eq_true rfl) (Nat.le_of_ble_eq_true rfl) (Nat.le_of_ble_eq_true rfl) (Option.some.inj g1) dX2_init_10 ?_
  obtain ⟨M2, g2, h⟩ := bsome h
  refine Ev_put (v := .ref (List.length M)) flX2_15 ⟨rfl, rfl⟩ (fun q hq => by cases hq; exact Or.inr ⟨rfl, rfl, rfl, _, mT0_tbl (i := 57) (by decide +kernel) (by decide +kernel), rfl⟩) dX2_init_12 g2 ?_
  refine Ev_aload_n (x := v0) rfl dX2_init_15 ?_
  refine Ev_iconst ic_0 dX2_init_16 ?_
  obtain ⟨M3, g3, h⟩ := bsome h
  refine Ev_put (v := .int 0) flX2_21 ⟨rfl, rfl⟩ (fun q hq => by cases hq; exact Or.inl rfl) dX2_init_17 g3 ?_
  cases h
  exact Ev_vret rfl dX2_init_20 ⟨rfl, rfl⟩
/-! TinselRiver$Row.setTo(LTinselRiver$Row;)V -/
def fX2_setTo_c18 : Nat → mM → Nat → Nat → Int32 → Option mM
  | 0, _, _, _, _ => none
  | n + 1, M, v0, v1, v2 =>
    (gI M v0 2 1).bind fun x1 =>
    if x1 ≤ v2 then
      (some M)
    else
      ((gR M v0 2 0).bind fun a3 =>
      (gR M v1 2 0).bind fun a4 =>
      (aI M false a4 v2).bind fun x5 =>
      (aS M false a3 v2 x5).bind fun M6 =>
      fX2_setTo_c18 n M6 v0 v1 (v2 + 1))
set_option maxRecDepth 20000 in
set_option maxHeartbeats 4000000 in
theorem rX2_setTo_c18 {E : mE} {Mf : mM} : ∀ (n : Nat) (M : mM) (v0 : Nat) (v1 : Nat) (v2 : Int32), fX2_setTo_c18 n M v0 v1 v2 = some Mf → Ev mX2_setTo E 1 0 0 none Mf 18 [some (.ref v0), some (.ref v1), some (.int v2)] [] M 0 0 := by
  intro n
  induction n with
  | zero => intro M v0 v1 v2 h; rw [fX2_setTo_c18.eq_1] at h; cases h
  | succ n ih =>
    intro M v0 v1 v2 h
    rw [fX2_setTo_c18.eq_2] at h
    refine Ev_iload_n (x := v2) rfl dX2_setTo_18 ?_
    refine Ev_aload_n (x := v0) rfl dX2_setTo_19 ?_
    obtain ⟨x1, g1, h⟩ := bsome h
    refine Ev_getI flX2_21 dX2_setTo_20 g1 ?_
    refine Ev_icmp_ge (tgt := 44) dX2_setTo_23 (by decide) (fun q2 => ?_) (fun q2 => ?_)
    · rw [if_pos q2] at h
      cases h
      exact Ev_vret rfl dX2_setTo_44 ⟨rfl, rfl⟩
    · rw [if_neg q2] at h
      refine Ev_aload_n (x := v0) rfl dX2_setTo_26 ?_
      obtain ⟨a3, g3, h⟩ := bsome h
      refine Ev_getR flX2_15 dX2_setTo_27 g3 ?_
      refine Ev_iload_n (x := v2) rfl dX2_setTo_30 ?_
      refine Ev_aload_n (x := v1) rfl dX2_setTo_31 ?_
      obtain ⟨a4, g4, h⟩ := bsome h
      refine Ev_getR flX2_15 dX2_setTo_32 g4 ?_
      refine Ev_iload_n (x := v2) rfl dX2_setTo_35 ?_
      obtain ⟨x5, g5, h⟩ := bsome h
      refine Ev_iald dX2_setTo_36 g5 ?_
      obtain ⟨M6, g6, h⟩ := bsome h
      refine Ev_iast dX2_setTo_37 g6 ?_
      refine Ev_iinc (x := v2) (v := (v2 + 1)) (loc2 := [some (.ref v0), some (.ref v1), some (.int (v2 + 1))]) rfl (congrArg (v2 + ·) ic_1) (Nat.le_of_ble_eq_true rfl) rfl rfl dX2_setTo_38 ?_
      refine Ev_goto (tgt := 18) dX2_setTo_41 (by decide) ?_
      exact ih M6 v0 v1 (v2 + 1) h
def fX2_setTo (M : mM) (v0 : Nat) (v1 : Nat) : Option mM :=
    if isO M v0 2 = true then
      (gI M v1 2 1).bind fun x1 =>
      (gR M v0 2 0).bind fun a2 =>
      (aLen M a2).bind fun x3 =>
      (sV M v0 2 1 (.int (if x3 < x1 then x3 else x1))).bind fun M4 =>
      fX2_setTo_c18 FUEL M4 v0 v1 0
    else none
theorem oX2_setTo {M : mM} {v0 : Nat} {v1 : Nat} {y : mM} (h : fX2_setTo M v0 v1 = some y) : isO M v0 2 = true := by
  unfold fX2_setTo at h
  exact (gsome h).1
set_option maxRecDepth 20000 in
set_option maxHeartbeats 4000000 in
theorem rX2_setTo {E : mE} {M : mM} {v0 : Nat} {v1 : Nat} {Mf : mM} (h : fX2_setTo M v0 v1 = some Mf) : EvC mX2_setTo E 1 0 0 [.ref v0, .ref v1] M none Mf := by
  unfold fX2_setTo at h
  replace h := (gsome h).2
  refine EvC.of [some (.ref v0), some (.ref v1), none] pnX2_setTo rfl (Nat.le_of_ble_eq_true rfl) ?_
  refine Ev_aload_n (x := v0) rfl dX2_setTo_0 ?_
  refine Ev_aload_n (x := v1) rfl dX2_setTo_1 ?_
  obtain ⟨x1, g1, h⟩ := bsome h
  refine Ev_getI flX2_21 dX2_setTo_2 g1 ?_
  refine Ev_aload_n (x := v0) rfl dX2_setTo_5 ?_
  obtain ⟨a2, g2, h⟩ := bsome h
  refine Ev_getR flX2_15 dX2_setTo_6 g2 ?_
  obtain ⟨x3, g3, h⟩ := bsome h
  refine Ev_alen dX2_setTo_9 g3 ?_
  refine Ev_mmin lkX2_25 (Nat.le_of_ble_eq_true rfl) (Nat.le_of_ble_eq_true rfl) dX2_setTo_10 ?_
  obtain ⟨M4, g4, h⟩ := bsome h
  refine Ev_put (v := .int (if x3 < x1 then x3 else x1)) flX2_21 ⟨rfl, rfl⟩ (fun q hq => by cases hq; exact Or.inl rfl) dX2_setTo_13 g4 ?_
  refine Ev_iconst ic_0 dX2_setTo_16 ?_
  refine Ev_istore_n (loc2 := [some (.ref v0), some (.ref v1), some (.int 0)]) (Nat.le_of_ble_eq_true rfl) rfl rfl dX2_setTo_17 ?_
  exact rX2_setTo_c18 FUEL M4 v0 v1 0 h
/-! TinselRiver$Row.bearsAt(ILTinselRiver$Row;)Z -/
def fX2_bearsAt_c21 (M : mM) : Nat → Nat → Int32 → Nat → Int32 → Option Int32
  | 0, _, _, _, _ => none
  | n + 1, v0, v1, v2, v3 =>
    (gI M v2 2 1).bind fun x1 =>
    if x1 ≤ v3 then
      (some 1)
    else
      ((gR M v0 2 0).bind fun a3 =>
      (aI M false a3 (v1 + v3)).bind fun x4 =>
      (gR M v2 2 0).bind fun a5 =>
      (aI M false a5 v3).bind fun x6 =>
      if x4 = x6 then
        (fX2_bearsAt_c21 M n v0 v1 v2 (v3 + 1))
      else
        (some 0))
set_option maxRecDepth 20000 in
set_option maxHeartbeats 4000000 in
theorem rX2_bearsAt_c21 {E : mE} {M : mM} {x : Int32} : ∀ (n : Nat) (v0 : Nat) (v1 : Int32) (v2 : Nat) (v3 : Int32), fX2_bearsAt_c21 M n v0 v1 v2 v3 = some x → Ev mX2_bearsAt E 0 0 0 (some (.int x)) M 21 [some (.ref v0), some (.int v1), some (.ref v2), some (.int v3)] [] M 0 0 := by
  intro n
  induction n with
  | zero => intro v0 v1 v2 v3 h; rw [fX2_bearsAt_c21.eq_1] at h; cases h
  | succ n ih =>
    intro v0 v1 v2 v3 h
    rw [fX2_bearsAt_c21.eq_2] at h
    refine Ev_iload_n (x := v3) rfl dX2_bearsAt_21 ?_
    refine Ev_aload_n (x := v2) rfl dX2_bearsAt_22 ?_
    obtain ⟨x1, g1, h⟩ := bsome h
    refine Ev_getI flX2_21 dX2_bearsAt_23 g1 ?_
    refine Ev_icmp_ge (tgt := 54) dX2_bearsAt_26 (by decide) (fun q2 => ?_) (fun q2 => ?_)
    · rw [if_pos q2] at h
      refine Ev_iconst ic_1 dX2_bearsAt_54 ?_
      cases h
      exact Ev_iret rfl rfl dX2_bearsAt_55 ⟨rfl, rfl⟩
    · rw [if_neg q2] at h
      refine Ev_aload_n (x := v0) rfl dX2_bearsAt_29 ?_
      obtain ⟨a3, g3, h⟩ := bsome h
      refine Ev_getR flX2_15 dX2_bearsAt_30 g3 ?_
      refine Ev_iload_n (x := v1) rfl dX2_bearsAt_33 ?_
      refine Ev_iload_n (x := v3) rfl dX2_bearsAt_34 ?_
      refine Ev_iadd dX2_bearsAt_35 ?_
      obtain ⟨x4, g4, h⟩ := bsome h
      refine Ev_iald dX2_bearsAt_36 g4 ?_
      refine Ev_aload_n (x := v2) rfl dX2_bearsAt_37 ?_
      obtain ⟨a5, g5, h⟩ := bsome h
      refine Ev_getR flX2_15 dX2_bearsAt_38 g5 ?_
      refine Ev_iload_n (x := v3) rfl dX2_bearsAt_41 ?_
      obtain ⟨x6, g6, h⟩ := bsome h
      refine Ev_iald dX2_bearsAt_42 g6 ?_
      refine Ev_icmp_eq (tgt := 48) dX2_bearsAt_43 (by decide) (fun q7 => ?_) (fun q7 => ?_)
      · rw [if_pos q7] at h
        refine Ev_iinc (x := v3) (v := (v3 + 1)) (loc2 := [some (.ref v0), some (.int v1), some (.ref v2), some (.int (v3 + 1))]) rfl (congrArg (v3 + ·) ic_1) (Nat.le_of_ble_eq_true rfl) rfl rfl dX2_bearsAt_48 ?_
        refine Ev_goto (tgt := 21) dX2_bearsAt_51 (by decide) ?_
        exact ih v0 v1 v2 (v3 + 1) h
      · rw [if_neg q7] at h
        refine Ev_iconst ic_0 dX2_bearsAt_46 ?_
        cases h
        exact Ev_iret rfl rfl dX2_bearsAt_47 ⟨rfl, rfl⟩
def fX2_bearsAt (M : mM) (v0 : Nat) (v1 : Int32) (v2 : Nat) : Option Int32 :=
    if isO M v0 2 = true then
      if v1 < 0 then
        (some 0)
      else
        ((gI M v0 2 1).bind fun x2 =>
        (gI M v2 2 1).bind fun x3 =>
        if v1 ≤ (x2 - x3) then
          (fX2_bearsAt_c21 M FUEL v0 v1 v2 0)
        else
          (some 0))
    else none
theorem oX2_bearsAt {M : mM} {v0 : Nat} {v1 : Int32} {v2 : Nat} {y : Int32} (h : fX2_bearsAt M v0 v1 v2 = some y) : isO M v0 2 = true := by
  unfold fX2_bearsAt at h
  exact (gsome h).1
set_option maxRecDepth 20000 in
set_option maxHeartbeats 4000000 in
theorem rX2_bearsAt {E : mE} {M : mM} {v0 : Nat} {v1 : Int32} {v2 : Nat} {x : Int32} (h : fX2_bearsAt M v0 v1 v2 = some x) : EvC mX2_bearsAt E 0 0 0 [.ref v0, .int v1, .ref v2] M (some (.int x)) M := by
  unfold fX2_bearsAt at h
  replace h := (gsome h).2
  refine EvC.of [some (.ref v0), some (.int v1), some (.ref v2), none] pnX2_bearsAt rfl (Nat.le_of_ble_eq_true rfl) ?_
  refine Ev_iload_n (x := v1) rfl dX2_bearsAt_0 ?_
  refine Ev_if_lt (tgt := 17) dX2_bearsAt_1 (by decide) (fun q1 => ?_) (fun q1 => ?_)
  · rw [if_pos q1] at h
    refine Ev_iconst ic_0 dX2_bearsAt_17 ?_
    cases h
    exact Ev_iret rfl rfl dX2_bearsAt_18 ⟨rfl, rfl⟩
  · rw [if_neg q1] at h
    refine Ev_iload_n (x := v1) rfl dX2_bearsAt_4 ?_
    refine Ev_aload_n (x := v0) rfl dX2_bearsAt_5 ?_
    obtain ⟨x2, g2, h⟩ := bsome h
    refine Ev_getI flX2_21 dX2_bearsAt_6 g2 ?_
    refine Ev_aload_n (x := v2) rfl dX2_bearsAt_9 ?_
    obtain ⟨x3, g3, h⟩ := bsome h
    refine Ev_getI flX2_21 dX2_bearsAt_10 g3 ?_
    refine Ev_isub dX2_bearsAt_13 ?_
    refine Ev_icmp_le (tgt := 19) dX2_bearsAt_14 (by decide) (fun q4 => ?_) (fun q4 => ?_)
    · rw [if_pos q4] at h
      refine Ev_iconst ic_0 dX2_bearsAt_19 ?_
      refine Ev_istore_n (loc2 := [some (.ref v0), some (.int v1), some (.ref v2), some (.int 0)]) (Nat.le_of_ble_eq_true rfl) rfl rfl dX2_bearsAt_20 ?_
      exact rX2_bearsAt_c21 FUEL v0 v1 v2 0 h
    · rw [if_neg q4] at h
      refine Ev_iconst ic_0 dX2_bearsAt_17 ?_
      cases h
      exact Ev_iret rfl rfl dX2_bearsAt_18 ⟨rfl, rfl⟩
/-! TinselRiver$Row.clear()V -/
def fX2_clear (M : mM) (v0 : Nat) : Option mM :=
    if isO M v0 2 = true then
      (sV M v0 2 1 (.int 0)).bind fun M1 =>
      some M1
    else none
theorem oX2_clear {M : mM} {v0 : Nat} {y : mM} (h : fX2_clear M v0 = some y) : isO M v0 2 = true := by
  unfold fX2_clear at h
  exact (gsome h).1
set_option maxRecDepth 20000 in
set_option maxHeartbeats 4000000 in
theorem rX2_clear {E : mE} {M : mM} {v0 : Nat} {Mf : mM} (h : fX2_clear M v0 = some Mf) : EvC mX2_clear E 0 0 0 [.ref v0] M none Mf := by
  unfold fX2_clear at h
  replace h := (gsome h).2
  refine EvC.of [some (.ref v0)] pnX2_clear rfl (Nat.le_of_ble_eq_true rfl) ?_
  refine Ev_aload_n (x := v0) rfl dX2_clear_0 ?_
  refine Ev_iconst ic_0 dX2_clear_1 ?_
  obtain ⟨M1, g1, h⟩ := bsome h
  refine Ev_put (v := .int 0) flX2_21 ⟨rfl, rfl⟩ (fun q hq => by cases hq; exact Or.inl rfl) dX2_clear_2 g1 ?_
  cases h
  exact Ev_vret rfl dX2_clear_5 ⟨rfl, rfl⟩
/-! TinselRiver$Row.add(I)V -/
def fX2_add (M : mM) (v0 : Nat) (v1 : Int32) : Option mM :=
    if isO M v0 2 = true then
      (gI M v0 2 1).bind fun x1 =>
      (gR M v0 2 0).bind fun a2 =>
      (aLen M a2).bind fun x3 =>
      if x3 ≤ x1 then
        (some M)
      else
        ((gR M v0 2 0).bind fun a5 =>
        (gI M v0 2 1).bind fun x6 =>
        (aS M false a5 x6 v1).bind fun M7 =>
        (gI M7 v0 2 1).bind fun x8 =>
        (sV M7 v0 2 1 (.int (x8 + 1))).bind fun M9 =>
        some M9)
    else none
theorem oX2_add {M : mM} {v0 : Nat} {v1 : Int32} {y : mM} (h : fX2_add M v0 v1 = some y) : isO M v0 2 = true := by
  unfold fX2_add at h
  exact (gsome h).1
set_option maxRecDepth 20000 in
set_option maxHeartbeats 4000000 in
theorem rX2_add {E : mE} {M : mM} {v0 : Nat} {v1 : Int32} {Mf : mM} (h : fX2_add M v0 v1 = some Mf) : EvC mX2_add E 0 0 0 [.ref v0, .int v1] M none Mf := by
  unfold fX2_add at h
  replace h := (gsome h).2
  refine EvC.of [some (.ref v0), some (.int v1)] pnX2_add rfl (Nat.le_of_ble_eq_true rfl) ?_
  refine Ev_aload_n (x := v0) rfl dX2_add_0 ?_
  obtain ⟨x1, g1, h⟩ := bsome h
  refine Ev_getI flX2_21 dX2_add_1 g1 ?_
  refine Ev_aload_n (x := v0) rfl dX2_add_4 ?_
  obtain ⟨a2, g2, h⟩ := bsome h
  refine Ev_getR flX2_15 dX2_add_5 g2 ?_
  obtain ⟨x3, g3, h⟩ := bsome h
  refine Ev_alen dX2_add_8 g3 ?_
  refine Ev_icmp_ge (tgt := 32) dX2_add_9 (by decide) (fun q4 => ?_) (fun q4 => ?_)
  · rw [if_pos q4] at h
    cases h
    exact Ev_vret rfl dX2_add_32 ⟨rfl, rfl⟩
  · rw [if_neg q4] at h
    refine Ev_aload_n (x := v0) rfl dX2_add_12 ?_
    obtain ⟨a5, g5, h⟩ := bsome h
    refine Ev_getR flX2_15 dX2_add_13 g5 ?_
    refine Ev_aload_n (x := v0) rfl dX2_add_16 ?_
    obtain ⟨x6, g6, h⟩ := bsome h
    refine Ev_getI flX2_21 dX2_add_17 g6 ?_
    refine Ev_iload_n (x := v1) rfl dX2_add_20 ?_
    obtain ⟨M7, g7, h⟩ := bsome h
    refine Ev_iast dX2_add_21 g7 ?_
    refine Ev_aload_n (x := v0) rfl dX2_add_22 ?_
    refine Ev_dup rfl dX2_add_23 ?_
    obtain ⟨x8, g8, h⟩ := bsome h
    refine Ev_getI flX2_21 dX2_add_24 g8 ?_
    refine Ev_iconst ic_1 dX2_add_27 ?_
    refine Ev_iadd dX2_add_28 ?_
    obtain ⟨M9, g9, h⟩ := bsome h
    refine Ev_put (v := .int (x8 + 1)) flX2_21 ⟨rfl, rfl⟩ (fun q hq => by cases hq; exact Or.inl rfl) dX2_add_29 g9 ?_
    cases h
    exact Ev_vret rfl dX2_add_32 ⟨rfl, rfl⟩
/-! TinselRiver$Row.setFigures(IJ)V -/
def fX2_setFigures_c28 : Nat → mM → Nat → Int64 → Int32 → Option mM
  | 0, _, _, _, _ => none
  | n + 1, M, v0, v4, v6 =>
    if v6 < 0 then
      (some M)
    else
      ((gR M v0 2 0).bind fun a2 =>
      (aS M false a2 v6 (Int64.toInt32 (v4 - v4 / (10 : Int64) * (10 : Int64)))).bind fun M3 =>
      fX2_setFigures_c28 n M3 v0 (v4 / (10 : Int64)) (v6 + (-1)))
set_option maxRecDepth 20000 in
set_option maxHeartbeats 4000000 in
theorem rX2_setFigures_c28 {E : mE} {Mf : mM} : ∀ (n : Nat) (M : mM) (v0 : Nat) (v4 : Int64) (v6 : Int32), fX2_setFigures_c28 n M v0 v4 v6 = some Mf → Ev mX2_setFigures E 1 0 0 none Mf 28 [some (.ref v0), none, none, none, some (.long v4), none, some (.int v6)] [] M 0 0 := by
  intro n
  induction n with
  | zero => intro M v0 v4 v6 h; rw [fX2_setFigures_c28.eq_1] at h; cases h
  | succ n ih =>
    intro M v0 v4 v6 h
    rw [fX2_setFigures_c28.eq_2] at h
    refine Ev_iload (x := v6) rfl dX2_setFigures_28 ?_
    refine Ev_if_lt (tgt := 61) dX2_setFigures_30 (by decide) (fun q1 => ?_) (fun q1 => ?_)
    · rw [if_pos q1] at h
      cases h
      exact Ev_vret rfl dX2_setFigures_61 ⟨rfl, rfl⟩
    · rw [if_neg q1] at h
      refine Ev_aload_n (x := v0) rfl dX2_setFigures_33 ?_
      obtain ⟨a2, g2, h⟩ := bsome h
      refine Ev_getR flX2_15 dX2_setFigures_34 g2 ?_
      refine Ev_iload (x := v6) rfl dX2_setFigures_37 ?_
      refine Ev_lload (x := v4) rfl dX2_setFigures_39 ?_
      refine Ev_ldc2 csX2_28 dX2_setFigures_41 ?_
      refine Ev_lrem (by decide) dX2_setFigures_44 ?_
      refine Ev_l2i dX2_setFigures_45 ?_
      obtain ⟨M3, g3, h⟩ := bsome h
      refine Ev_iast dX2_setFigures_46 g3 ?_
      refine Ev_lload (x := v4) rfl dX2_setFigures_47 ?_
      refine Ev_ldc2 csX2_28 dX2_setFigures_49 ?_
      refine Ev_ldiv (by decide) dX2_setFigures_52 ?_
      refine Ev_lstore (loc2 := [some (.ref v0), none, none, none, some (.long (v4 / (10 : Int64))), none, some (.int v6)]) (Nat.le_of_ble_eq_true rfl) rfl rfl dX2_setFigures_53 ?_
      refine Ev_iinc (x := v6) (v := (v6 + (-1))) (loc2 := [some (.ref v0), none, none, none, some (.long (v4 / (10 : Int64))), none, some (.int (v6 + (-1)))]) rfl (congrArg (v6 + ·) ic_m1) (Nat.le_of_ble_eq_true rfl) rfl rfl dX2_setFigures_55 ?_
      refine Ev_goto (tgt := 28) dX2_setFigures_58 (by decide) ?_
      exact ih M3 v0 (v4 / (10 : Int64)) (v6 + (-1)) h
def fX2_setFigures (M : mM) (v0 : Nat) (v1 : Int32) (v2 : Int64) : Option mM :=
    if isO M v0 2 = true then
      (gR M v0 2 0).bind fun a1 =>
      (aLen M a1).bind fun x2 =>
      (sV M v0 2 1 (.int (if (if x2 < v1 then x2 else v1) < 0 then 0 else (if x2 < v1 then x2 else v1)))).bind fun M3 =>
      (gI M3 v0 2 1).bind fun x4 =>
      fX2_setFigures_c28 FUEL M3 v0 v2 (x4 - 1)
    else none
theorem oX2_setFigures {M : mM} {v0 : Nat} {v1 : Int32} {v2 : Int64} {y : mM} (h : fX2_setFigures M v0 v1 v2 = some y) : isO M v0 2 = true := by
  unfold fX2_setFigures at h
  exact (gsome h).1
set_option maxRecDepth 20000 in
set_option maxHeartbeats 4000000 in
theorem rX2_setFigures {E : mE} {M : mM} {v0 : Nat} {v1 : Int32} {v2 : Int64} {Mf : mM} (h : fX2_setFigures M v0 v1 v2 = some Mf) : EvC mX2_setFigures E 1 0 0 [.ref v0, .int v1, .long v2] M none Mf := by
  unfold fX2_setFigures at h
  replace h := (gsome h).2
  refine EvC.of [some (.ref v0), some (.int v1), some (.long v2), none, none, none, none] pnX2_setFigures rfl (Nat.le_of_ble_eq_true rfl) ?_
  refine Ev_aload_n (x := v0) rfl dX2_setFigures_0 ?_
  refine Ev_iload_n (x := v1) rfl dX2_setFigures_1 ?_
  refine Ev_aload_n (x := v0) rfl dX2_setFigures_2 ?_
  obtain ⟨a1, g1, h⟩ := bsome h
  refine Ev_getR flX2_15 dX2_setFigures_3 g1 ?_
  obtain ⟨x2, g2, h⟩ := bsome h
  refine Ev_alen dX2_setFigures_6 g2 ?_
  refine Ev_mmin lkX2_25 (Nat.le_of_ble_eq_true rfl) (Nat.le_of_ble_eq_true rfl) dX2_setFigures_7 ?_
  refine Ev_iconst ic_0 dX2_setFigures_10 ?_
  refine Ev_mmax lkX2_9 (Nat.le_of_ble_eq_true rfl) (Nat.le_of_ble_eq_true rfl) dX2_setFigures_11 ?_
  obtain ⟨M3, g3, h⟩ := bsome h
  refine Ev_put (v := .int (if (if x2 < v1 then x2 else v1) < 0 then 0 else (if x2 < v1 then x2 else v1))) flX2_21 ⟨rfl, rfl⟩ (fun q hq => by cases hq; exact Or.inl rfl) dX2_setFigures_14 g3 ?_
  refine Ev_lload_n (x := v2) rfl dX2_setFigures_17 ?_
  refine Ev_lstore (loc2 := [some (.ref v0), some (.int v1), some (.long v2), none, some (.long v2), none, none]) (Nat.le_of_ble_eq_true rfl) rfl rfl dX2_setFigures_18 ?_
  refine Ev_aload_n (x := v0) rfl dX2_setFigures_20 ?_
  obtain ⟨x4, g4, h⟩ := bsome h
  refine Ev_getI flX2_21 dX2_setFigures_21 g4 ?_
  refine Ev_iconst ic_1 dX2_setFigures_24 ?_
  refine Ev_isub dX2_setFigures_25 ?_
  refine Ev_istore (loc2 := [some (.ref v0), some (.int v1), some (.long v2), none, some (.long v2), none, some (.int (x4 - 1))]) (Nat.le_of_ble_eq_true rfl) rfl rfl dX2_setFigures_26 ?_
  refine Ev_drop 1 (loc2 := [some (.ref v0), none, some (.long v2), none, some (.long v2), none, some (.int (x4 - 1))]) rfl ?_
  refine Ev_drop 2 (loc2 := [some (.ref v0), none, none, none, some (.long v2), none, some (.int (x4 - 1))]) rfl ?_
  exact rX2_setFigures_c28 FUEL M3 v0 v2 (x4 - 1) h
/-! TinselRiver$Row.figures()J -/
def fX2_figures_c4 (M : mM) : Nat → Nat → Int64 → Int32 → Option Int64
  | 0, _, _, _ => none
  | n + 1, v0, v1, v3 =>
    (gI M v0 2 1).bind fun x1 =>
    if x1 ≤ v3 then
      (some v1)
    else
      ((gR M v0 2 0).bind fun a3 =>
      (aI M false a3 v3).bind fun x4 =>
      fX2_figures_c4 M n v0 (((10 : Int64) * v1) + (Int32.toInt64 x4)) (v3 + 1))
set_option maxRecDepth 20000 in
set_option maxHeartbeats 4000000 in
theorem rX2_figures_c4 {E : mE} {M : mM} {x : Int64} : ∀ (n : Nat) (v0 : Nat) (v1 : Int64) (v3 : Int32), fX2_figures_c4 M n v0 v1 v3 = some x → Ev mX2_figures E 0 0 0 (some (.long x)) M 4 [some (.ref v0), some (.long v1), none, some (.int v3)] [] M 0 0 := by
  intro n
  induction n with
  | zero => intro v0 v1 v3 h; rw [fX2_figures_c4.eq_1] at h; cases h
  | succ n ih =>
    intro v0 v1 v3 h
    rw [fX2_figures_c4.eq_2] at h
    refine Ev_iload_n (x := v3) rfl dX2_figures_4 ?_
    refine Ev_aload_n (x := v0) rfl dX2_figures_5 ?_
    obtain ⟨x1, g1, h⟩ := bsome h
    refine Ev_getI flX2_21 dX2_figures_6 g1 ?_
    refine Ev_icmp_ge (tgt := 32) dX2_figures_9 (by decide) (fun q2 => ?_) (fun q2 => ?_)
    · rw [if_pos q2] at h
      refine Ev_lload_n (x := v1) rfl dX2_figures_32 ?_
      cases h
      exact Ev_lret rfl dX2_figures_33 ⟨rfl, rfl⟩
    · rw [if_neg q2] at h
      refine Ev_ldc2 csX2_28 dX2_figures_12 ?_
      refine Ev_lload_n (x := v1) rfl dX2_figures_15 ?_
      refine Ev_lmul dX2_figures_16 ?_
      refine Ev_aload_n (x := v0) rfl dX2_figures_17 ?_
      obtain ⟨a3, g3, h⟩ := bsome h
      refine Ev_getR flX2_15 dX2_figures_18 g3 ?_
      refine Ev_iload_n (x := v3) rfl dX2_figures_21 ?_
      obtain ⟨x4, g4, h⟩ := bsome h
      refine Ev_iald dX2_figures_22 g4 ?_
      refine Ev_i2l dX2_figures_23 ?_
      refine Ev_ladd dX2_figures_24 ?_
      refine Ev_lstore_n (loc2 := [some (.ref v0), some (.long (((10 : Int64) * v1) + (Int32.toInt64 x4))), none, some (.int v3)]) (Nat.le_of_ble_eq_true rfl) rfl rfl dX2_figures_25 ?_
      refine Ev_iinc (x := v3) (v := (v3 + 1)) (loc2 := [some (.ref v0), some (.long (((10 : Int64) * v1) + (Int32.toInt64 x4))), none, some (.int (v3 + 1))]) rfl (congrArg (v3 + ·) ic_1) (Nat.le_of_ble_eq_true rfl) rfl rfl dX2_figures_26 ?_
      refine Ev_goto (tgt := 4) dX2_figures_29 (by decide) ?_
      exact ih v0 (((10 : Int64) * v1) + (Int32.toInt64 x4)) (v3 + 1) h
def fX2_figures (M : mM) (v0 : Nat) : Option Int64 :=
    if isO M v0 2 = true then
      fX2_figures_c4 M FUEL v0 (0 : Int64) 0
    else none
theorem oX2_figures {M : mM} {v0 : Nat} {y : Int64} (h : fX2_figures M v0 = some y) : isO M v0 2 = true := by
  unfold fX2_figures at h
  exact (gsome h).1
set_option maxRecDepth 20000 in
set_option maxHeartbeats 4000000 in
theorem rX2_figures {E : mE} {M : mM} {v0 : Nat} {x : Int64} (h : fX2_figures M v0 = some x) : EvC mX2_figures E 0 0 0 [.ref v0] M (some (.long x)) M := by
  unfold fX2_figures at h
  replace h := (gsome h).2
  refine EvC.of [some (.ref v0), none, none, none] pnX2_figures rfl (Nat.le_of_ble_eq_true rfl) ?_
  refine Ev_lconst (v := 0) (by decide) dX2_figures_0 ?_
  refine Ev_lstore_n (loc2 := [some (.ref v0), some (.long (0 : Int64)), none, none]) (Nat.le_of_ble_eq_true rfl) rfl rfl dX2_figures_1 ?_
  refine Ev_iconst ic_0 dX2_figures_2 ?_
  refine Ev_istore_n (loc2 := [some (.ref v0), some (.long (0 : Int64)), none, some (.int 0)]) (Nat.le_of_ble_eq_true rfl) rfl rfl dX2_figures_3 ?_
  exact rX2_figures_c4 FUEL v0 (0 : Int64) 0 h
/-! TinselRiver$Row.loseLast()V -/
def fX2_loseLast (M : mM) (v0 : Nat) : Option mM :=
    if isO M v0 2 = true then
      (gI M v0 2 1).bind fun x1 =>
      if x1 ≤ 0 then
        (some M)
      else
        ((gI M v0 2 1).bind fun x3 =>
        (sV M v0 2 1 (.int (x3 - 1))).bind fun M4 =>
        some M4)
    else none
theorem oX2_loseLast {M : mM} {v0 : Nat} {y : mM} (h : fX2_loseLast M v0 = some y) : isO M v0 2 = true := by
  unfold fX2_loseLast at h
  exact (gsome h).1
set_option maxRecDepth 20000 in
set_option maxHeartbeats 4000000 in
theorem rX2_loseLast {E : mE} {M : mM} {v0 : Nat} {Mf : mM} (h : fX2_loseLast M v0 = some Mf) : EvC mX2_loseLast E 0 0 0 [.ref v0] M none Mf := by
  unfold fX2_loseLast at h
  replace h := (gsome h).2
  refine EvC.of [some (.ref v0)] pnX2_loseLast rfl (Nat.le_of_ble_eq_true rfl) ?_
  refine Ev_aload_n (x := v0) rfl dX2_loseLast_0 ?_
  obtain ⟨x1, g1, h⟩ := bsome h
  refine Ev_getI flX2_21 dX2_loseLast_1 g1 ?_
  refine Ev_if_le (tgt := 17) dX2_loseLast_4 (by decide) (fun q2 => ?_) (fun q2 => ?_)
  · rw [if_pos q2] at h
    cases h
    exact Ev_vret rfl dX2_loseLast_17 ⟨rfl, rfl⟩
  · rw [if_neg q2] at h
    refine Ev_aload_n (x := v0) rfl dX2_loseLast_7 ?_
    refine Ev_dup rfl dX2_loseLast_8 ?_
    obtain ⟨x3, g3, h⟩ := bsome h
    refine Ev_getI flX2_21 dX2_loseLast_9 g3 ?_
    refine Ev_iconst ic_1 dX2_loseLast_12 ?_
    refine Ev_isub dX2_loseLast_13 ?_
    obtain ⟨M4, g4, h⟩ := bsome h
    refine Ev_put (v := .int (x3 - 1)) flX2_21 ⟨rfl, rfl⟩ (fun q hq => by cases hq; exact Or.inl rfl) dX2_loseLast_14 g4 ?_
    cases h
    exact Ev_vret rfl dX2_loseLast_17 ⟨rfl, rfl⟩
/-! TinselRiver$Row.loseFirst()V -/
def fX2_loseFirst_c9 : Nat → mM → Nat → Int32 → Option mM
  | 0, _, _, _ => none
  | n + 1, M, v0, v1 =>
    (gI M v0 2 1).bind fun x1 =>
    if x1 ≤ v1 then
      ((gI M v0 2 1).bind fun x3 =>
      (sV M v0 2 1 (.int (x3 - 1))).bind fun M4 =>
      some M4)
    else
      ((gR M v0 2 0).bind fun a5 =>
      (gR M v0 2 0).bind fun a6 =>
      (aI M false a6 v1).bind fun x7 =>
      (aS M false a5 (v1 - 1) x7).bind fun M8 =>
      fX2_loseFirst_c9 n M8 v0 (v1 + 1))
set_option maxRecDepth 20000 in
set_option maxHeartbeats 4000000 in
theorem rX2_loseFirst_c9 {E : mE} {Mf : mM} : ∀ (n : Nat) (M : mM) (v0 : Nat) (v1 : Int32), fX2_loseFirst_c9 n M v0 v1 = some Mf → Ev mX2_loseFirst E 0 0 0 none Mf 9 [some (.ref v0), some (.int v1)] [] M 0 0 := by
  intro n
  induction n with
  | zero => intro M v0 v1 h; rw [fX2_loseFirst_c9.eq_1] at h; cases h
  | succ n ih =>
    intro M v0 v1 h
    rw [fX2_loseFirst_c9.eq_2] at h
    refine Ev_iload_n (x := v1) rfl dX2_loseFirst_9 ?_
    refine Ev_aload_n (x := v0) rfl dX2_loseFirst_10 ?_
    obtain ⟨x1, g1, h⟩ := bsome h
    refine Ev_getI flX2_21 dX2_loseFirst_11 g1 ?_
    refine Ev_icmp_ge (tgt := 37) dX2_loseFirst_14 (by decide) (fun q2 => ?_) (fun q2 => ?_)
    · rw [if_pos q2] at h
      refine Ev_aload_n (x := v0) rfl dX2_loseFirst_37 ?_
      refine Ev_dup rfl dX2_loseFirst_38 ?_
      obtain ⟨x3, g3, h⟩ := bsome h
      refine Ev_getI flX2_21 dX2_loseFirst_39 g3 ?_
      refine Ev_iconst ic_1 dX2_loseFirst_42 ?_
      refine Ev_isub dX2_loseFirst_43 ?_
      obtain ⟨M4, g4, h⟩ := bsome h
      refine Ev_put (v := .int (x3 - 1)) flX2_21 ⟨rfl, rfl⟩ (fun q hq => by cases hq; exact Or.inl rfl) dX2_loseFirst_44 g4 ?_
      cases h
      exact Ev_vret rfl dX2_loseFirst_47 ⟨rfl, rfl⟩
    · rw [if_neg q2] at h
      refine Ev_aload_n (x := v0) rfl dX2_loseFirst_17 ?_
      obtain ⟨a5, g5, h⟩ := bsome h
      refine Ev_getR flX2_15 dX2_loseFirst_18 g5 ?_
      refine Ev_iload_n (x := v1) rfl dX2_loseFirst_21 ?_
      refine Ev_iconst ic_1 dX2_loseFirst_22 ?_
      refine Ev_isub dX2_loseFirst_23 ?_
      refine Ev_aload_n (x := v0) rfl dX2_loseFirst_24 ?_
      obtain ⟨a6, g6, h⟩ := bsome h
      refine Ev_getR flX2_15 dX2_loseFirst_25 g6 ?_
      refine Ev_iload_n (x := v1) rfl dX2_loseFirst_28 ?_
      obtain ⟨x7, g7, h⟩ := bsome h
      refine Ev_iald dX2_loseFirst_29 g7 ?_
      obtain ⟨M8, g8, h⟩ := bsome h
      refine Ev_iast dX2_loseFirst_30 g8 ?_
      refine Ev_iinc (x := v1) (v := (v1 + 1)) (loc2 := [some (.ref v0), some (.int (v1 + 1))]) rfl (congrArg (v1 + ·) ic_1) (Nat.le_of_ble_eq_true rfl) rfl rfl dX2_loseFirst_31 ?_
      refine Ev_goto (tgt := 9) dX2_loseFirst_34 (by decide) ?_
      exact ih M8 v0 (v1 + 1) h
def fX2_loseFirst (M : mM) (v0 : Nat) : Option mM :=
    if isO M v0 2 = true then
      (gI M v0 2 1).bind fun x1 =>
      if x1 ≤ 0 then
        (some M)
      else
        (fX2_loseFirst_c9 FUEL M v0 1)
    else none
theorem oX2_loseFirst {M : mM} {v0 : Nat} {y : mM} (h : fX2_loseFirst M v0 = some y) : isO M v0 2 = true := by
  unfold fX2_loseFirst at h
  exact (gsome h).1
set_option maxRecDepth 20000 in
set_option maxHeartbeats 4000000 in
theorem rX2_loseFirst {E : mE} {M : mM} {v0 : Nat} {Mf : mM} (h : fX2_loseFirst M v0 = some Mf) : EvC mX2_loseFirst E 0 0 0 [.ref v0] M none Mf := by
  unfold fX2_loseFirst at h
  replace h := (gsome h).2
  refine EvC.of [some (.ref v0), none] pnX2_loseFirst rfl (Nat.le_of_ble_eq_true rfl) ?_
  refine Ev_aload_n (x := v0) rfl dX2_loseFirst_0 ?_
  obtain ⟨x1, g1, h⟩ := bsome h
  refine Ev_getI flX2_21 dX2_loseFirst_1 g1 ?_
  refine Ev_if_le (tgt := 47) dX2_loseFirst_4 (by decide) (fun q2 => ?_) (fun q2 => ?_)
  · rw [if_pos q2] at h
    cases h
    exact Ev_vret rfl dX2_loseFirst_47 ⟨rfl, rfl⟩
  · rw [if_neg q2] at h
    refine Ev_iconst ic_1 dX2_loseFirst_7 ?_
    refine Ev_istore_n (loc2 := [some (.ref v0), some (.int 1)]) (Nat.le_of_ble_eq_true rfl) rfl rfl dX2_loseFirst_8 ?_
    exact rX2_loseFirst_c9 FUEL M v0 1 h
/-! TinselRiver$Row.reverse()V -/
def fX2_reverse_c2 : Nat → mM → Nat → Int32 → Option mM
  | 0, _, _, _ => none
  | n + 1, M, v0, v1 =>
    (gI M v0 2 1).bind fun x1 =>
    if (x1 / 2) ≤ v1 then
      (some M)
    else
      ((gR M v0 2 0).bind fun a3 =>
      (aI M false a3 v1).bind fun x4 =>
      (gR M v0 2 0).bind fun a5 =>
      (gR M v0 2 0).bind fun a6 =>
      (gI M v0 2 1).bind fun x7 =>
      (aI M false a6 ((x7 - 1) - v1)).bind fun x8 =>
      (aS M false a5 v1 x8).bind fun M9 =>
      (gR M9 v0 2 0).bind fun a10 =>
      (gI M9 v0 2 1).bind fun x11 =>
      (aS M9 false a10 ((x11 - 1) - v1) x4).bind fun M12 =>
      fX2_reverse_c2 n M12 v0 (v1 + 1))
set_option maxRecDepth 20000 in
set_option maxHeartbeats 4000000 in
theorem rX2_reverse_c2 {E : mE} {Mf : mM} : ∀ (n : Nat) (M : mM) (v0 : Nat) (v1 : Int32), fX2_reverse_c2 n M v0 v1 = some Mf → Ev mX2_reverse E 0 0 0 none Mf 2 [some (.ref v0), some (.int v1), none] [] M 0 0 := by
  intro n
  induction n with
  | zero => intro M v0 v1 h; rw [fX2_reverse_c2.eq_1] at h; cases h
  | succ n ih =>
    intro M v0 v1 h
    rw [fX2_reverse_c2.eq_2] at h
    refine Ev_iload_n (x := v1) rfl dX2_reverse_2 ?_
    refine Ev_aload_n (x := v0) rfl dX2_reverse_3 ?_
    obtain ⟨x1, g1, h⟩ := bsome h
    refine Ev_getI flX2_21 dX2_reverse_4 g1 ?_
    refine Ev_iconst ic_2 dX2_reverse_7 ?_
    refine Ev_idiv (by decide) dX2_reverse_8 ?_
    refine Ev_icmp_ge (tgt := 58) dX2_reverse_9 (by decide) (fun q2 => ?_) (fun q2 => ?_)
    · rw [if_pos q2] at h
      cases h
      exact Ev_vret rfl dX2_reverse_58 ⟨rfl, rfl⟩
    · rw [if_neg q2] at h
      refine Ev_aload_n (x := v0) rfl dX2_reverse_12 ?_
      obtain ⟨a3, g3, h⟩ := bsome h
      refine Ev_getR flX2_15 dX2_reverse_13 g3 ?_
      refine Ev_iload_n (x := v1) rfl dX2_reverse_16 ?_
      obtain ⟨x4, g4, h⟩ := bsome h
      refine Ev_iald dX2_reverse_17 g4 ?_
      refine Ev_istore_n (loc2 := [some (.ref v0), some (.int v1), some (.int x4)]) (Nat.le_of_ble_eq_true rfl) rfl rfl dX2_reverse_18 ?_
      refine Ev_aload_n (x := v0) rfl dX2_reverse_19 ?_
      obtain ⟨a5, g5, h⟩ := bsome h
      refine Ev_getR flX2_15 dX2_reverse_20 g5 ?_
      refine Ev_iload_n (x := v1) rfl dX2_reverse_23 ?_
      refine Ev_aload_n (x := v0) rfl dX2_reverse_24 ?_
      obtain ⟨a6, g6, h⟩ := bsome h
      refine Ev_getR flX2_15 dX2_reverse_25 g6 ?_
      refine Ev_aload_n (x := v0) rfl dX2_reverse_28 ?_
      obtain ⟨x7, g7, h⟩ := bsome h
      refine Ev_getI flX2_21 dX2_reverse_29 g7 ?_
      refine Ev_iconst ic_1 dX2_reverse_32 ?_
      refine Ev_isub dX2_reverse_33 ?_
      refine Ev_iload_n (x := v1) rfl dX2_reverse_34 ?_
      refine Ev_isub dX2_reverse_35 ?_
      obtain ⟨x8, g8, h⟩ := bsome h
      refine Ev_iald dX2_reverse_36 g8 ?_
      obtain ⟨M9, g9, h⟩ := bsome h
      refine Ev_iast dX2_reverse_37 g9 ?_
      refine Ev_aload_n (x := v0) rfl dX2_reverse_38 ?_
      obtain ⟨a10, g10, h⟩ := bsome h
      refine Ev_getR flX2_15 dX2_reverse_39 g10 ?_
      refine Ev_aload_n (x := v0) rfl dX2_reverse_42 ?_
      obtain ⟨x11, g11, h⟩ := bsome h
      refine Ev_getI flX2_21 dX2_reverse_43 g11 ?_
      refine Ev_iconst ic_1 dX2_reverse_46 ?_
      refine Ev_isub dX2_reverse_47 ?_
      refine Ev_iload_n (x := v1) rfl dX2_reverse_48 ?_
      refine Ev_isub dX2_reverse_49 ?_
      refine Ev_iload_n (x := x4) rfl dX2_reverse_50 ?_
      obtain ⟨M12, g12, h⟩ := bsome h
      refine Ev_iast dX2_reverse_51 g12 ?_
      refine Ev_iinc (x := v1) (v := (v1 + 1)) (loc2 := [some (.ref v0), some (.int (v1 + 1)), some (.int x4)]) rfl (congrArg (v1 + ·) ic_1) (Nat.le_of_ble_eq_true rfl) rfl rfl dX2_reverse_52 ?_
      refine Ev_goto (tgt := 2) dX2_reverse_55 (by decide) ?_
      refine Ev_drop 2 (loc2 := [some (.ref v0), some (.int (v1 + 1)), none]) rfl ?_
      exact ih M12 v0 (v1 + 1) h
def fX2_reverse (M : mM) (v0 : Nat) : Option mM :=
    if isO M v0 2 = true then
      fX2_reverse_c2 FUEL M v0 0
    else none
theorem oX2_reverse {M : mM} {v0 : Nat} {y : mM} (h : fX2_reverse M v0 = some y) : isO M v0 2 = true := by
  unfold fX2_reverse at h
  exact (gsome h).1
set_option maxRecDepth 20000 in
set_option maxHeartbeats 4000000 in
theorem rX2_reverse {E : mE} {M : mM} {v0 : Nat} {Mf : mM} (h : fX2_reverse M v0 = some Mf) : EvC mX2_reverse E 0 0 0 [.ref v0] M none Mf := by
  unfold fX2_reverse at h
  replace h := (gsome h).2
  refine EvC.of [some (.ref v0), none, none] pnX2_reverse rfl (Nat.le_of_ble_eq_true rfl) ?_
  refine Ev_iconst ic_0 dX2_reverse_0 ?_
  refine Ev_istore_n (loc2 := [some (.ref v0), some (.int 0), none]) (Nat.le_of_ble_eq_true rfl) rfl rfl dX2_reverse_1 ?_
  exact rX2_reverse_c2 FUEL M v0 0 h
/-! TinselRiver$Row.endsAs(LTinselRiver$Row;I)Z -/
def fX2_endsAs_c2 (M : mM) : Nat → Nat → Nat → Int32 → Int32 → Option Int32
  | 0, _, _, _, _ => none
  | n + 1, v0, v1, v2, v3 =>
    if v2 ≤ v3 then
      (some 1)
    else
      ((gR M v0 2 0).bind fun a2 =>
      (gI M v0 2 1).bind fun x3 =>
      (aI M false a2 ((x3 - v2) + v3)).bind fun x4 =>
      (gR M v1 2 0).bind fun a5 =>
      (aI M false a5 v3).bind fun x6 =>
      if x4 = x6 then
        (fX2_endsAs_c2 M n v0 v1 v2 (v3 + 1))
      else
        (some 0))
set_option maxRecDepth 20000 in
set_option maxHeartbeats 4000000 in
theorem rX2_endsAs_c2 {E : mE} {M : mM} {x : Int32} : ∀ (n : Nat) (v0 : Nat) (v1 : Nat) (v2 : Int32) (v3 : Int32), fX2_endsAs_c2 M n v0 v1 v2 v3 = some x → Ev mX2_endsAs E 0 0 0 (some (.int x)) M 2 [some (.ref v0), some (.ref v1), some (.int v2), some (.int v3)] [] M 0 0 := by
  intro n
  induction n with
  | zero => intro v0 v1 v2 v3 h; rw [fX2_endsAs_c2.eq_1] at h; cases h
  | succ n ih =>
    intro v0 v1 v2 v3 h
    rw [fX2_endsAs_c2.eq_2] at h
    refine Ev_iload_n (x := v3) rfl dX2_endsAs_2 ?_
    refine Ev_iload_n (x := v2) rfl dX2_endsAs_3 ?_
    refine Ev_icmp_ge (tgt := 37) dX2_endsAs_4 (by decide) (fun q1 => ?_) (fun q1 => ?_)
    · rw [if_pos q1] at h
      refine Ev_iconst ic_1 dX2_endsAs_37 ?_
      cases h
      exact Ev_iret rfl rfl dX2_endsAs_38 ⟨rfl, rfl⟩
    · rw [if_neg q1] at h
      refine Ev_aload_n (x := v0) rfl dX2_endsAs_7 ?_
      obtain ⟨a2, g2, h⟩ := bsome h
      refine Ev_getR flX2_15 dX2_endsAs_8 g2 ?_
      refine Ev_aload_n (x := v0) rfl dX2_endsAs_11 ?_
      obtain ⟨x3, g3, h⟩ := bsome h
      refine Ev_getI flX2_21 dX2_endsAs_12 g3 ?_
      refine Ev_iload_n (x := v2) rfl dX2_endsAs_15 ?_
      refine Ev_isub dX2_endsAs_16 ?_
      refine Ev_iload_n (x := v3) rfl dX2_endsAs_17 ?_
      refine Ev_iadd dX2_endsAs_18 ?_
      obtain ⟨x4, g4, h⟩ := bsome h
      refine Ev_iald dX2_endsAs_19 g4 ?_
      refine Ev_aload_n (x := v1) rfl dX2_endsAs_20 ?_
      obtain ⟨a5, g5, h⟩ := bsome h
      refine Ev_getR flX2_15 dX2_endsAs_21 g5 ?_
      refine Ev_iload_n (x := v3) rfl dX2_endsAs_24 ?_
      obtain ⟨x6, g6, h⟩ := bsome h
      refine Ev_iald dX2_endsAs_25 g6 ?_
      refine Ev_icmp_eq (tgt := 31) dX2_endsAs_26 (by decide) (fun q7 => ?_) (fun q7 => ?_)
      · rw [if_pos q7] at h
        refine Ev_iinc (x := v3) (v := (v3 + 1)) (loc2 := [some (.ref v0), some (.ref v1), some (.int v2), some (.int (v3 + 1))]) rfl (congrArg (v3 + ·) ic_1) (Nat.le_of_ble_eq_true rfl) rfl rfl dX2_endsAs_31 ?_
        refine Ev_goto (tgt := 2) dX2_endsAs_34 (by decide) ?_
        exact ih v0 v1 v2 (v3 + 1) h
      · rw [if_neg q7] at h
        refine Ev_iconst ic_0 dX2_endsAs_29 ?_
        cases h
        exact Ev_iret rfl rfl dX2_endsAs_30 ⟨rfl, rfl⟩
def fX2_endsAs (M : mM) (v0 : Nat) (v1 : Nat) (v2 : Int32) : Option Int32 :=
    if isO M v0 2 = true then
      fX2_endsAs_c2 M FUEL v0 v1 v2 0
    else none
theorem oX2_endsAs {M : mM} {v0 : Nat} {v1 : Nat} {v2 : Int32} {y : Int32} (h : fX2_endsAs M v0 v1 v2 = some y) : isO M v0 2 = true := by
  unfold fX2_endsAs at h
  exact (gsome h).1
set_option maxRecDepth 20000 in
set_option maxHeartbeats 4000000 in
theorem rX2_endsAs {E : mE} {M : mM} {v0 : Nat} {v1 : Nat} {v2 : Int32} {x : Int32} (h : fX2_endsAs M v0 v1 v2 = some x) : EvC mX2_endsAs E 0 0 0 [.ref v0, .ref v1, .int v2] M (some (.int x)) M := by
  unfold fX2_endsAs at h
  replace h := (gsome h).2
  refine EvC.of [some (.ref v0), some (.ref v1), some (.int v2), none] pnX2_endsAs rfl (Nat.le_of_ble_eq_true rfl) ?_
  refine Ev_iconst ic_0 dX2_endsAs_0 ?_
  refine Ev_istore_n (loc2 := [some (.ref v0), some (.ref v1), some (.int v2), some (.int 0)]) (Nat.le_of_ble_eq_true rfl) rfl rfl dX2_endsAs_1 ?_
  exact rX2_endsAs_c2 FUEL v0 v1 v2 0 h
/-! TinselRiver$Row.overlapWith(LTinselRiver$Row;)I -/
def fX2_overlapWith_c12 (M : mM) : Nat → Nat → Nat → Int32 → Option Int32
  | 0, _, _, _ => none
  | n + 1, v0, v1, v2 =>
    if v2 ≤ 0 then
      (some 0)
    else
      ((fX2_endsAs M v0 v1 v2).bind fun x3 =>
      if x3 = 0 then
        (fX2_overlapWith_c12 M n v0 v1 (v2 + (-1)))
      else
        (some v2))
set_option maxRecDepth 20000 in
set_option maxHeartbeats 4000000 in
theorem rX2_overlapWith_c12 {E : mE} {M : mM} {x : Int32} : ∀ (n : Nat) (v0 : Nat) (v1 : Nat) (v2 : Int32), fX2_overlapWith_c12 M n v0 v1 v2 = some x → Ev mX2_overlapWith E 1 0 0 (some (.int x)) M 12 [some (.ref v0), some (.ref v1), some (.int v2)] [] M 0 0 := by
  intro n
  induction n with
  | zero => intro v0 v1 v2 h; rw [fX2_overlapWith_c12.eq_1] at h; cases h
  | succ n ih =>
    intro v0 v1 v2 h
    rw [fX2_overlapWith_c12.eq_2] at h
    refine Ev_iload_n (x := v2) rfl dX2_overlapWith_12 ?_
    refine Ev_if_le (tgt := 33) dX2_overlapWith_13 (by decide) (fun q1 => ?_) (fun q1 => ?_)
    · rw [if_pos q1] at h
      refine Ev_iconst ic_0 dX2_overlapWith_33 ?_
      cases h
      exact Ev_iret rfl rfl dX2_overlapWith_34 ⟨rfl, rfl⟩
    · rw [if_neg q1] at h
      refine Ev_aload_n (x := v0) rfl dX2_overlapWith_16 ?_
      refine Ev_aload_n (x := v1) rfl dX2_overlapWith_17 ?_
      refine Ev_iload_n (x := v2) rfl dX2_overlapWith_18 ?_
      obtain ⟨x3, g2, h⟩ := bsome h
      refine Ev_callVi (np := 2) (vs := [.ref v1, .int v2]) (rest := []) mdX2_endsAs lkX2_30 ⟨_, rfl, rfl⟩ (oX2_endsAs g2) (rX2_endsAs g2) rfl rfl (Nat.le_of_ble_eq_true rfl) (Nat.le_of_ble_eq_true rfl) dX2_overlapWith_19 ?_
      refine Ev_if_eq (tgt := 27) dX2_overlapWith_22 (by decide) (fun q4 => ?_) (fun q4 => ?_)
      · rw [if_pos q4] at h
        refine Ev_iinc (x := v2) (v := (v2 + (-1))) (loc2 := [some (.ref v0), some (.ref v1), some (.int (v2 + (-1)))]) rfl (congrArg (v2 + ·) ic_m1) (Nat.le_of_ble_eq_true rfl) rfl rfl dX2_overlapWith_27 ?_
        refine Ev_goto (tgt := 12) dX2_overlapWith_30 (by decide) ?_
        exact ih v0 v1 (v2 + (-1)) h
      · rw [if_neg q4] at h
        refine Ev_iload_n (x := v2) rfl dX2_overlapWith_25 ?_
        cases h
        exact Ev_iret rfl rfl dX2_overlapWith_26 ⟨rfl, rfl⟩
def fX2_overlapWith (M : mM) (v0 : Nat) (v1 : Nat) : Option Int32 :=
    if isO M v0 2 = true then
      (gI M v0 2 1).bind fun x1 =>
      (gI M v1 2 1).bind fun x2 =>
      fX2_overlapWith_c12 M FUEL v0 v1 (if x2 < x1 then x2 else x1)
    else none
theorem oX2_overlapWith {M : mM} {v0 : Nat} {v1 : Nat} {y : Int32} (h : fX2_overlapWith M v0 v1 = some y) : isO M v0 2 = true := by
  unfold fX2_overlapWith at h
  exact (gsome h).1
set_option maxRecDepth 20000 in
set_option maxHeartbeats 4000000 in
theorem rX2_overlapWith {E : mE} {M : mM} {v0 : Nat} {v1 : Nat} {x : Int32} (h : fX2_overlapWith M v0 v1 = some x) : EvC mX2_overlapWith E 1 0 0 [.ref v0, .ref v1] M (some (.int x)) M := by
  unfold fX2_overlapWith at h
  replace h := (gsome h).2
  refine EvC.of [some (.ref v0), some (.ref v1), none] pnX2_overlapWith rfl (Nat.le_of_ble_eq_true rfl) ?_
  refine Ev_aload_n (x := v0) rfl dX2_overlapWith_0 ?_
  obtain ⟨x1, g1, h⟩ := bsome h
  refine Ev_getI flX2_21 dX2_overlapWith_1 g1 ?_
  refine Ev_aload_n (x := v1) rfl dX2_overlapWith_4 ?_
  obtain ⟨x2, g2, h⟩ := bsome h
  refine Ev_getI flX2_21 dX2_overlapWith_5 g2 ?_
  refine Ev_mmin lkX2_25 (Nat.le_of_ble_eq_true rfl) (Nat.le_of_ble_eq_true rfl) dX2_overlapWith_8 ?_
  refine Ev_istore_n (loc2 := [some (.ref v0), some (.ref v1), some (.int (if x2 < x1 then x2 else x1))]) (Nat.le_of_ble_eq_true rfl) rfl rfl dX2_overlapWith_11 ?_
  exact rX2_overlapWith_c12 FUEL v0 v1 (if x2 < x1 then x2 else x1) h
