/-! printed by wip/whole/gen.py -/
/-! TinselRiver$Laid.<init>()V -/
def fX1_init (M : mM) (v0 : Nat) : Option mM :=
    if isO M v0 1 = true then
      (some (M ++ [.inr (.inl (false, List.replicate 6 0))])).bind fun M1 =>
      (sV M1 v0 1 0 (.ref (List.length M))).bind fun M2 =>
      (some (M2 ++ [.inr (.inl (true, List.replicate 6 0))])).bind fun M3 =>
      (sV M3 v0 1 1 (.ref (List.length M2))).bind fun M4 =>
      some M4
    else none
theorem oX1_init {M : mM} {v0 : Nat} {y : mM} (h : fX1_init M v0 = some y) : isO M v0 1 = true := by
  unfold fX1_init at h
  exact (gsome h).1
set_option maxRecDepth 20000 in
set_option maxHeartbeats 4000000 in
theorem rX1_init {E : mE} {M : mM} {v0 : Nat} {Mf : mM} (h : fX1_init M v0 = some Mf) : EvC mX1_init E 1 2 12 [.ref v0] M none Mf := by
  unfold fX1_init at h
  replace h := (gsome h).2
  refine EvC.of [some (.ref v0)] pnX1_init rfl (Nat.le_of_ble_eq_true rfl) ?_
  refine Ev_aload_n (x := v0) rfl dX1_init_0 ?_
  refine Ev_objInit lkX1_3 md_oi1 md_oi2 (Nat.le_of_ble_eq_true rfl) (Nat.le_of_ble_eq_true rfl) dX1_init_1 ?_
  refine Ev_aload_n (x := v0) rfl dX1_init_4 ?_
  refine Ev_bipush bp_6 dX1_init_5 ?_
  obtain ⟨M1, g1, h⟩ := bsome h
  refine Ev_newa_e (z := false) (N := 6) rfl ac_int (by decide) (by decide) (Nat.le_of_ble_eq_true rfl) (Nat.le_of_ble_eq_true rfl) (Nat.le_of_ble_eq_true rfl) (Option.some.inj g1) dX1_init_7 ?_
  obtain ⟨M2, g2, h⟩ := bsome h
  refine Ev_put (v := .ref (List.length M)) flX1_9 ⟨rfl, rfl⟩ (fun q hq => by cases hq; exact Or.inr ⟨rfl, rfl, rfl, _, mT0_tbl (i := 138) (by decide +kernel) (by decide +kernel), rfl⟩) dX1_init_9 g2 ?_
  refine Ev_aload_n (x := v0) rfl dX1_init_12 ?_
  refine Ev_bipush bp_6 dX1_init_13 ?_
  obtain ⟨M3, g3, h⟩ := bsome h
  refine Ev_newa_e (z := true) (N := 6) rfl ac_boolean (by decide) (by decide) (Nat.le_of_ble_eq_true rfl) (Nat.le_of_ble_eq_true rfl) (Nat.le_of_ble_eq_true rfl) (Option.some.inj g3) dX1_init_15 ?_
  obtain ⟨M4, g4, h⟩ := bsome h
  refine Ev_put (v := .ref (List.length M2)) flX1_15 ⟨rfl, rfl⟩ (fun q hq => by cases hq; exact Or.inr ⟨rfl, rfl, rfl, _, mT0_tbl (i := 139) (by decide +kernel) (by decide +kernel), rfl⟩) dX1_init_17 g4 ?_
  cases h
  exact Ev_vret rfl dX1_init_20 ⟨rfl, rfl⟩
/-! TinselRiver$Laid.add(IZ)I -/
def fX1_add (M : mM) (v0 : Nat) (v1 : Int32) (v2 : Int32) : Option (Int32 × mM) :=
    if isO M v0 1 = true then
      (gI M v0 1 2).bind fun x1 =>
      if x1 < 6 then
        ((gR M v0 1 0).bind fun a3 =>
        (gI M v0 1 2).bind fun x4 =>
        (aS M false a3 x4 v1).bind fun M5 =>
        (gR M5 v0 1 1).bind fun a6 =>
        (gI M5 v0 1 2).bind fun x7 =>
        (aS M5 true a6 x7 (mzb v2)).bind fun M8 =>
        (gI M8 v0 1 2).bind fun x9 =>
        (sV M8 v0 1 2 (.int (x9 + 1))).bind fun M10 =>
        (gI M10 v0 1 2).bind fun x11 =>
        some (x11, M10))
      else
        (some ((-4), M))
    else none
theorem oX1_add {M : mM} {v0 : Nat} {v1 : Int32} {v2 : Int32} {y : (Int32 × mM)} (h : fX1_add M v0 v1 v2 = some y) : isO M v0 1 = true := by
  unfold fX1_add at h
  exact (gsome h).1
set_option maxRecDepth 20000 in
set_option maxHeartbeats 4000000 in
theorem rX1_add {E : mE} {M : mM} {v0 : Nat} {v1 : Int32} {v2 : Int32} {x : Int32} {Mf : mM} (h : fX1_add M v0 v1 v2 = some (x, Mf)) : EvC mX1_add E 0 0 0 [.ref v0, .int v1, .int v2] M (some (.int x)) Mf := by
  unfold fX1_add at h
  replace h := (gsome h).2
  refine EvC.of [some (.ref v0), some (.int v1), some (.int v2)] pnX1_add rfl (Nat.le_of_ble_eq_true rfl) ?_
  refine Ev_aload_n (x := v0) rfl dX1_add_0 ?_
  obtain ⟨x1, g1, h⟩ := bsome h
  refine Ev_getI flX1_19 dX1_add_1 g1 ?_
  refine Ev_bipush bp_6 dX1_add_4 ?_
  refine Ev_icmp_lt (tgt := 12) dX1_add_6 (by decide) (fun q2 => ?_) (fun q2 => ?_)
  · rw [if_pos q2] at h
    refine Ev_aload_n (x := v0) rfl dX1_add_12 ?_
    obtain ⟨a3, g3, h⟩ := bsome h
    refine Ev_getR flX1_9 dX1_add_13 g3 ?_
    refine Ev_aload_n (x := v0) rfl dX1_add_16 ?_
    obtain ⟨x4, g4, h⟩ := bsome h
    refine Ev_getI flX1_19 dX1_add_17 g4 ?_
    refine Ev_iload_n (x := v1) rfl dX1_add_20 ?_
    obtain ⟨M5, g5, h⟩ := bsome h
    refine Ev_iast dX1_add_21 g5 ?_
    refine Ev_aload_n (x := v0) rfl dX1_add_22 ?_
    obtain ⟨a6, g6, h⟩ := bsome h
    refine Ev_getR flX1_15 dX1_add_23 g6 ?_
    refine Ev_aload_n (x := v0) rfl dX1_add_26 ?_
    obtain ⟨x7, g7, h⟩ := bsome h
    refine Ev_getI flX1_19 dX1_add_27 g7 ?_
    refine Ev_iload_n (x := v2) rfl dX1_add_30 ?_
    obtain ⟨M8, g8, h⟩ := bsome h
    refine Ev_zast (mzb_ok v2) dX1_add_31 g8 ?_
    refine Ev_aload_n (x := v0) rfl dX1_add_32 ?_
    refine Ev_dup rfl dX1_add_33 ?_
    obtain ⟨x9, g9, h⟩ := bsome h
    refine Ev_getI flX1_19 dX1_add_34 g9 ?_
    refine Ev_iconst ic_1 dX1_add_37 ?_
    refine Ev_iadd dX1_add_38 ?_
    obtain ⟨M10, g10, h⟩ := bsome h
    refine Ev_put (v := .int (x9 + 1)) flX1_19 ⟨rfl, rfl⟩ (fun q hq => by cases hq; exact Or.inl rfl) dX1_add_39 g10 ?_
    refine Ev_aload_n (x := v0) rfl dX1_add_42 ?_
    obtain ⟨x11, g11, h⟩ := bsome h
    refine Ev_getI flX1_19 dX1_add_43 g11 ?_
    cases h
    exact Ev_iret rfl rfl dX1_add_46 ⟨rfl, rfl⟩
  · rw [if_neg q2] at h
    refine Ev_bipush bp_m4 dX1_add_9 ?_
    cases h
    exact Ev_iret rfl rfl dX1_add_11 ⟨rfl, rfl⟩
/-! TinselRiver$Laid.clear()I -/
def fX1_clear (M : mM) (v0 : Nat) : Option (Int32 × mM) :=
    if isO M v0 1 = true then
      (gI M v0 1 2).bind fun x1 =>
      (sV M v0 1 2 (.int 0)).bind fun M2 =>
      some (x1, M2)
    else none
theorem oX1_clear {M : mM} {v0 : Nat} {y : (Int32 × mM)} (h : fX1_clear M v0 = some y) : isO M v0 1 = true := by
  unfold fX1_clear at h
  exact (gsome h).1
set_option maxRecDepth 20000 in
set_option maxHeartbeats 4000000 in
theorem rX1_clear {E : mE} {M : mM} {v0 : Nat} {x : Int32} {Mf : mM} (h : fX1_clear M v0 = some (x, Mf)) : EvC mX1_clear E 0 0 0 [.ref v0] M (some (.int x)) Mf := by
  unfold fX1_clear at h
  replace h := (gsome h).2
  refine EvC.of [some (.ref v0), none] pnX1_clear rfl (Nat.le_of_ble_eq_true rfl) ?_
  refine Ev_aload_n (x := v0) rfl dX1_clear_0 ?_
  obtain ⟨x1, g1, h⟩ := bsome h
  refine Ev_getI flX1_19 dX1_clear_1 g1 ?_
  refine Ev_istore_n (loc2 := [some (.ref v0), some (.int x1)]) (Nat.le_of_ble_eq_true rfl) rfl rfl dX1_clear_4 ?_
  refine Ev_aload_n (x := v0) rfl dX1_clear_5 ?_
  refine Ev_iconst ic_0 dX1_clear_6 ?_
  obtain ⟨M2, g2, h⟩ := bsome h
  refine Ev_put (v := .int 0) flX1_19 ⟨rfl, rfl⟩ (fun q hq => by cases hq; exact Or.inl rfl) dX1_clear_7 g2 ?_
  refine Ev_iload_n (x := x1) rfl dX1_clear_10 ?_
  cases h
  exact Ev_iret rfl rfl dX1_clear_11 ⟨rfl, rfl⟩
/-! TinselRiver$Laid.isSo(LTinselRiver$Row;LTinselRiver$Row;)Z -/
def fX1_isSo_c2 (M : mM) : Nat → Nat → Nat → Nat → Int32 → Option Int32
  | 0, _, _, _, _ => none
  | n + 1, v0, v1, v2, v3 =>
    (gI M v0 1 2).bind fun x1 =>
    if x1 ≤ v3 then
      (some 1)
    else
      ((gR M v0 1 0).bind fun a3 =>
      (aI M false a3 v3).bind fun x4 =>
      (fX2_bearsAt M v2 x4 v1).bind fun x6 =>
      (gR M v0 1 1).bind fun a7 =>
      (aI M true a7 v3).bind fun x8 =>
      if x6 = x8 then
        (fX1_isSo_c2 M n v0 v1 v2 (v3 + 1))
      else
        (some 0))
set_option maxRecDepth 20000 in
set_option maxHeartbeats 4000000 in
theorem rX1_isSo_c2 {E : mE} {M : mM} {x : Int32} : ∀ (n : Nat) (v0 : Nat) (v1 : Nat) (v2 : Nat) (v3 : Int32), fX1_isSo_c2 M n v0 v1 v2 v3 = some x → Ev mX1_isSo E 1 0 0 (some (.int x)) M 2 [some (.ref v0), some (.ref v1), some (.ref v2), some (.int v3)] [] M 0 0 := by
  intro n
  induction n with
  | zero => intro v0 v1 v2 v3 h; rw [fX1_isSo_c2.eq_1] at h; cases h
  | succ n ih =>
    intro v0 v1 v2 v3 h
    rw [fX1_isSo_c2.eq_2] at h
    refine Ev_iload_n (x := v3) rfl dX1_isSo_2 ?_
    refine Ev_aload_n (x := v0) rfl dX1_isSo_3 ?_
    obtain ⟨x1, g1, h⟩ := bsome h
    refine Ev_getI flX1_19 dX1_isSo_4 g1 ?_
    refine Ev_icmp_ge (tgt := 38) dX1_isSo_7 (by decide) (fun q2 => ?_) (fun q2 => ?_)
    · rw [if_pos q2] at h
      refine Ev_iconst ic_1 dX1_isSo_38 ?_
      cases h
      exact Ev_iret rfl rfl dX1_isSo_39 ⟨rfl, rfl⟩
    · rw [if_neg q2] at h
      refine Ev_aload_n (x := v2) rfl dX1_isSo_10 ?_
      refine Ev_aload_n (x := v0) rfl dX1_isSo_11 ?_
      obtain ⟨a3, g3, h⟩ := bsome h
      refine Ev_getR flX1_9 dX1_isSo_12 g3 ?_
      refine Ev_iload_n (x := v3) rfl dX1_isSo_15 ?_
      obtain ⟨x4, g4, h⟩ := bsome h
      refine Ev_iald dX1_isSo_16 g4 ?_
      refine Ev_aload_n (x := v1) rfl dX1_isSo_17 ?_
      obtain ⟨x6, g5, h⟩ := bsome h
      refine Ev_callVi (np := 2) (vs := [.int x4, .ref v1]) (rest := []) mdX2_bearsAt lkX1_23 ⟨_, rfl, rfl⟩ (oX2_bearsAt g5) (rX2_bearsAt g5) rfl rfl (Nat.le_of_ble_eq_true rfl) (Nat.le_of_ble_eq_true rfl) dX1_isSo_18 ?_
      refine Ev_aload_n (x := v0) rfl dX1_isSo_21 ?_
      obtain ⟨a7, g7, h⟩ := bsome h
      refine Ev_getR flX1_15 dX1_isSo_22 g7 ?_
      refine Ev_iload_n (x := v3) rfl dX1_isSo_25 ?_
      obtain ⟨x8, g8, h⟩ := bsome h
      refine Ev_zald dX1_isSo_26 g8 ?_
      refine Ev_icmp_eq (tgt := 32) dX1_isSo_27 (by decide) (fun q9 => ?_) (fun q9 => ?_)
      · rw [if_pos q9] at h
        refine Ev_iinc (x := v3) (v := (v3 + 1)) (loc2 := [some (.ref v0), some (.ref v1), some (.ref v2), some (.int (v3 + 1))]) rfl (congrArg (v3 + ·) ic_1) (Nat.le_of_ble_eq_true rfl) rfl rfl dX1_isSo_32 ?_
        refine Ev_goto (tgt := 2) dX1_isSo_35 (by decide) ?_
        exact ih v0 v1 v2 (v3 + 1) h
      · rw [if_neg q9] at h
        refine Ev_iconst ic_0 dX1_isSo_30 ?_
        cases h
        exact Ev_iret rfl rfl dX1_isSo_31 ⟨rfl, rfl⟩
def fX1_isSo (M : mM) (v0 : Nat) (v1 : Nat) (v2 : Nat) : Option Int32 :=
    if isO M v0 1 = true then
      fX1_isSo_c2 M FUEL v0 v1 v2 0
    else none
theorem oX1_isSo {M : mM} {v0 : Nat} {v1 : Nat} {v2 : Nat} {y : Int32} (h : fX1_isSo M v0 v1 v2 = some y) : isO M v0 1 = true := by
  unfold fX1_isSo at h
  exact (gsome h).1
set_option maxRecDepth 20000 in
set_option maxHeartbeats 4000000 in
theorem rX1_isSo {E : mE} {M : mM} {v0 : Nat} {v1 : Nat} {v2 : Nat} {x : Int32} (h : fX1_isSo M v0 v1 v2 = some x) : EvC mX1_isSo E 1 0 0 [.ref v0, .ref v1, .ref v2] M (some (.int x)) M := by
  unfold fX1_isSo at h
  replace h := (gsome h).2
  refine EvC.of [some (.ref v0), some (.ref v1), some (.ref v2), none] pnX1_isSo rfl (Nat.le_of_ble_eq_true rfl) ?_
  refine Ev_iconst ic_0 dX1_isSo_0 ?_
  refine Ev_istore_n (loc2 := [some (.ref v0), some (.ref v1), some (.ref v2), some (.int 0)]) (Nat.le_of_ble_eq_true rfl) rfl rfl dX1_isSo_1 ?_
  exact rX1_isSo_c2 FUEL v0 v1 v2 0 h
