/-! printed by wip/whole/gen.py -/
/-! TinselRiver.turn(I)I -/
def fX7_turn (M : mM) (v0 : Nat) (v1 : Int32) : Option (Int32 × mM) :=
    if isO M v0 7 = true then
      (gR M v0 7 2).bind fun a1 =>
      (gR M v0 7 1).bind fun a2 =>
      (fX6_setTo M a1 a2).bind fun M4 =>
      (gR M4 v0 7 2).bind fun a5 =>
      (fX6_turnAbout M4 a5 v1).bind fun p7 =>
      (fX7_take p7.2 v0 p7.1).bind fun p9 =>
      some (p9.1, p9.2)
    else none
theorem oX7_turn {M : mM} {v0 : Nat} {v1 : Int32} {y : (Int32 × mM)} (h : fX7_turn M v0 v1 = some y) : isO M v0 7 = true := by
  unfold fX7_turn at h
  exact (gsome h).1
set_option maxRecDepth 20000 in
set_option maxHeartbeats 4000000 in
theorem rX7_turn {E : mE} {M : mM} {v0 : Nat} {v1 : Int32} {x : Int32} {Mf : mM} (h : fX7_turn M v0 v1 = some (x, Mf)) : EvC mX7_turn E 6 0 0 [.ref v0, .int v1] M (some (.int x)) Mf := by
  unfold fX7_turn at h
  replace h := (gsome h).2
  refine EvC.of [some (.ref v0), some (.int v1)] pnX7_turn rfl (Nat.le_of_ble_eq_true rfl) ?_
  refine Ev_aload_n (x := v0) rfl dX7_turn_0 ?_
  obtain ⟨a1, g1, h⟩ := bsome h
  refine Ev_getR flX7_23 dX7_turn_1 g1 ?_
  refine Ev_aload_n (x := v0) rfl dX7_turn_4 ?_
  obtain ⟨a2, g2, h⟩ := bsome h
  refine Ev_getR flX7_19 dX7_turn_5 g2 ?_
  obtain ⟨M4, g3, h⟩ := bsome h
  refine Ev_callVv (np := 1) (vs := [.ref a2]) (rest := []) mdX6_setTo lkX7_142 ⟨_, rfl, rfl⟩ (oX6_setTo g3) (rX6_setTo g3) rfl rfl (Nat.le_of_ble_eq_true rfl) (Nat.le_of_ble_eq_true rfl) dX7_turn_8 ?_
  refine Ev_aload_n (x := v0) rfl dX7_turn_11 ?_
  refine Ev_aload_n (x := v0) rfl dX7_turn_12 ?_
  obtain ⟨a5, g5, h⟩ := bsome h
  refine Ev_getR flX7_23 dX7_turn_13 g5 ?_
  refine Ev_iload_n (x := v1) rfl dX7_turn_16 ?_
  obtain ⟨p7, g6, h⟩ := bsome h
  refine Ev_callVi (np := 1) (vs := [.int v1]) (rest := [.ref v0]) mdX6_turnAbout lkX7_155 ⟨_, rfl, rfl⟩ (oX6_turnAbout g6) (rX6_turnAbout g6) rfl rfl (Nat.le_of_ble_eq_true rfl) (Nat.le_of_ble_eq_true rfl) dX7_turn_17 ?_
  obtain ⟨p9, g8, h⟩ := bsome h
  refine Ev_callVi (np := 1) (vs := [.int p7.1]) (rest := []) mdX7_take lkX7_148 ⟨_, rfl, rfl⟩ (oX7_take g8) (rX7_take g8) rfl rfl (Nat.le_of_ble_eq_true rfl) (Nat.le_of_ble_eq_true rfl) dX7_turn_20 ?_
  cases h
  exact Ev_iret rfl rfl dX7_turn_23 ⟨rfl, rfl⟩
/-! TinselRiver.snip(I)I -/
def fX7_snip (M : mM) (v0 : Nat) (v1 : Int32) : Option (Int32 × mM) :=
    if isO M v0 7 = true then
      (gR M v0 7 2).bind fun a1 =>
      (gR M v0 7 1).bind fun a2 =>
      (fX6_setTo M a1 a2).bind fun M4 =>
      (gR M4 v0 7 2).bind fun a5 =>
      (fX6_snipEnd M4 a5 v1).bind fun p7 =>
      (fX7_take p7.2 v0 p7.1).bind fun p9 =>
      some (p9.1, p9.2)
    else none
theorem oX7_snip {M : mM} {v0 : Nat} {v1 : Int32} {y : (Int32 × mM)} (h : fX7_snip M v0 v1 = some y) : isO M v0 7 = true := by
  unfold fX7_snip at h
  exact (gsome h).1
set_option maxRecDepth 20000 in
set_option maxHeartbeats 4000000 in
theorem rX7_snip {E : mE} {M : mM} {v0 : Nat} {v1 : Int32} {x : Int32} {Mf : mM} (h : fX7_snip M v0 v1 = some (x, Mf)) : EvC mX7_snip E 6 0 0 [.ref v0, .int v1] M (some (.int x)) Mf := by
  unfold fX7_snip at h
  replace h := (gsome h).2
  refine EvC.of [some (.ref v0), some (.int v1)] pnX7_snip rfl (Nat.le_of_ble_eq_true rfl) ?_
  refine Ev_aload_n (x := v0) rfl dX7_snip_0 ?_
  obtain ⟨a1, g1, h⟩ := bsome h
  refine Ev_getR flX7_23 dX7_snip_1 g1 ?_
  refine Ev_aload_n (x := v0) rfl dX7_snip_4 ?_
  obtain ⟨a2, g2, h⟩ := bsome h
  refine Ev_getR flX7_19 dX7_snip_5 g2 ?_
  obtain ⟨M4, g3, h⟩ := bsome h
  refine Ev_callVv (np := 1) (vs := [.ref a2]) (rest := []) mdX6_setTo lkX7_142 ⟨_, rfl, rfl⟩ (oX6_setTo g3) (rX6_setTo g3) rfl rfl (Nat.le_of_ble_eq_true rfl) (Nat.le_of_ble_eq_true rfl) dX7_snip_8 ?_
  refine Ev_aload_n (x := v0) rfl dX7_snip_11 ?_
  refine Ev_aload_n (x := v0) rfl dX7_snip_12 ?_
  obtain ⟨a5, g5, h⟩ := bsome h
  refine Ev_getR flX7_23 dX7_snip_13 g5 ?_
  refine Ev_iload_n (x := v1) rfl dX7_snip_16 ?_
  obtain ⟨p7, g6, h⟩ := bsome h
  refine Ev_callVi (np := 1) (vs := [.int v1]) (rest := [.ref v0]) mdX6_snipEnd lkX7_158 ⟨_, rfl, rfl⟩ (oX6_snipEnd g6) (rX6_snipEnd g6) rfl rfl (Nat.le_of_ble_eq_true rfl) (Nat.le_of_ble_eq_true rfl) dX7_snip_17 ?_
  obtain ⟨p9, g8, h⟩ := bsome h
  refine Ev_callVi (np := 1) (vs := [.int p7.1]) (rest := []) mdX7_take lkX7_148 ⟨_, rfl, rfl⟩ (oX7_take g8) (rX7_take g8) rfl rfl (Nat.le_of_ble_eq_true rfl) (Nat.le_of_ble_eq_true rfl) dX7_snip_20 ?_
  cases h
  exact Ev_iret rfl rfl dX7_snip_23 ⟨rfl, rfl⟩
/-! TinselRiver.join(II)I -/
def fX7_join (M : mM) (v0 : Nat) (v1 : Int32) (v2 : Int32) : Option (Int32 × mM) :=
    if isO M v0 7 = true then
      (gR M v0 7 2).bind fun a1 =>
      (gR M v0 7 1).bind fun a2 =>
      (fX6_setTo M a1 a2).bind fun M4 =>
      (gR M4 v0 7 2).bind fun a5 =>
      (fX6_joinTo M4 a5 v1 v2).bind fun p7 =>
      (fX7_take p7.2 v0 p7.1).bind fun p9 =>
      some (p9.1, p9.2)
    else none
theorem oX7_join {M : mM} {v0 : Nat} {v1 : Int32} {v2 : Int32} {y : (Int32 × mM)} (h : fX7_join M v0 v1 v2 = some y) : isO M v0 7 = true := by
  unfold fX7_join at h
  exact (gsome h).1
set_option maxRecDepth 20000 in
set_option maxHeartbeats 4000000 in
theorem rX7_join {E : mE} {M : mM} {v0 : Nat} {v1 : Int32} {v2 : Int32} {x : Int32} {Mf : mM} (h : fX7_join M v0 v1 v2 = some (x, Mf)) : EvC mX7_join E 6 0 0 [.ref v0, .int v1, .int v2] M (some (.int x)) Mf := by
  unfold fX7_join at h
  replace h := (gsome h).2
  refine EvC.of [some (.ref v0), some (.int v1), some (.int v2)] pnX7_join rfl (Nat.le_of_ble_eq_true rfl) ?_
  refine Ev_aload_n (x := v0) rfl dX7_join_0 ?_
  obtain ⟨a1, g1, h⟩ := bsome h
  refine Ev_getR flX7_23 dX7_join_1 g1 ?_
  refine Ev_aload_n (x := v0) rfl dX7_join_4 ?_
  obtain ⟨a2, g2, h⟩ := bsome h
  refine Ev_getR flX7_19 dX7_join_5 g2 ?_
  obtain ⟨M4, g3, h⟩ := bsome h
  refine Ev_callVv (np := 1) (vs := [.ref a2]) (rest := []) mdX6_setTo lkX7_142 ⟨_, rfl, rfl⟩ (oX6_setTo g3) (rX6_setTo g3) rfl rfl (Nat.le_of_ble_eq_true rfl) (Nat.le_of_ble_eq_true rfl) dX7_join_8 ?_
  refine Ev_aload_n (x := v0) rfl dX7_join_11 ?_
  refine Ev_aload_n (x := v0) rfl dX7_join_12 ?_
  obtain ⟨a5, g5, h⟩ := bsome h
  refine Ev_getR flX7_23 dX7_join_13 g5 ?_
  refine Ev_iload_n (x := v1) rfl dX7_join_16 ?_
  refine Ev_iload_n (x := v2) rfl dX7_join_17 ?_
  obtain ⟨p7, g6, h⟩ := bsome h
  refine Ev_callVi (np := 2) (vs := [.int v1, .int v2]) (rest := [.ref v0]) mdX6_joinTo lkX7_161 ⟨_, rfl, rfl⟩ (oX6_joinTo g6) (rX6_joinTo g6) rfl rfl (Nat.le_of_ble_eq_true rfl) (Nat.le_of_ble_eq_true rfl) dX7_join_18 ?_
  obtain ⟨p9, g8, h⟩ := bsome h
  refine Ev_callVi (np := 1) (vs := [.int p7.1]) (rest := []) mdX7_take lkX7_148 ⟨_, rfl, rfl⟩ (oX7_take g8) (rX7_take g8) rfl rfl (Nat.le_of_ble_eq_true rfl) (Nat.le_of_ble_eq_true rfl) dX7_join_21 ?_
  cases h
  exact Ev_iret rfl rfl dX7_join_24 ⟨rfl, rfl⟩
/-! TinselRiver.undo()I -/
def fX7_undo (M : mM) (v0 : Nat) : Option (Int32 × mM) :=
    if isO M v0 7 = true then
      (gR M v0 7 3).bind fun a1 =>
      (gR M v0 7 1).bind fun a2 =>
      (fX0_takeBack M a1 a2).bind fun p4 =>
      some (p4.1, p4.2)
    else none
theorem oX7_undo {M : mM} {v0 : Nat} {y : (Int32 × mM)} (h : fX7_undo M v0 = some y) : isO M v0 7 = true := by
  unfold fX7_undo at h
  exact (gsome h).1
set_option maxRecDepth 20000 in
set_option maxHeartbeats 4000000 in
theorem rX7_undo {E : mE} {M : mM} {v0 : Nat} {x : Int32} {Mf : mM} (h : fX7_undo M v0 = some (x, Mf)) : EvC mX7_undo E 5 0 0 [.ref v0] M (some (.int x)) Mf := by
  unfold fX7_undo at h
  replace h := (gsome h).2
  refine EvC.of [some (.ref v0)] pnX7_undo rfl (Nat.le_of_ble_eq_true rfl) ?_
  refine Ev_aload_n (x := v0) rfl dX7_undo_0 ?_
  obtain ⟨a1, g1, h⟩ := bsome h
  refine Ev_getR flX7_29 dX7_undo_1 g1 ?_
  refine Ev_aload_n (x := v0) rfl dX7_undo_4 ?_
  obtain ⟨a2, g2, h⟩ := bsome h
  refine Ev_getR flX7_19 dX7_undo_5 g2 ?_
  obtain ⟨p4, g3, h⟩ := bsome h
  refine Ev_callVi (np := 1) (vs := [.ref a2]) (rest := []) mdX0_takeBack lkX7_164 ⟨_, rfl, rfl⟩ (oX0_takeBack g3) (rX0_takeBack g3) rfl rfl (Nat.le_of_ble_eq_true rfl) (Nat.le_of_ble_eq_true rfl) dX7_undo_8 ?_
  cases h
  exact Ev_iret rfl rfl dX7_undo_11 ⟨rfl, rfl⟩
/-! TinselRiver.later(II)I -/
def fX7_later_c39 : Nat → mM → Nat → Int32 → Int32 → Int32 → Option (Int32 × mM)
  | 0, _, _, _, _, _ => none
  | n + 1, M, v0, v1, v2, v3 =>
    if v2 ≤ v3 then
      ((gR M v0 7 2).bind fun a2 =>
      (gR M a2 6 0).bind fun a3 =>
      (qI M false a3 v1).bind fun a4 =>
      (gR M a4 4 0).bind fun a5 =>
      (gI M a5 2 1).bind fun x6 =>
      some (x6, M))
    else
      ((gR M v0 7 2).bind fun a7 =>
      (fX6_passWinter M a7).bind fun p9 =>
      fX7_later_c39 n p9.2 v0 v1 v2 (v3 + 1))
set_option maxRecDepth 20000 in
set_option maxHeartbeats 4000000 in
theorem rX7_later_c39 {E : mE} {x : Int32} {Mf : mM} : ∀ (n : Nat) (M : mM) (v0 : Nat) (v1 : Int32) (v2 : Int32) (v3 : Int32), fX7_later_c39 n M v0 v1 v2 v3 = some (x, Mf) → Ev mX7_later E 4 0 0 (some (.int x)) Mf 39 [some (.ref v0), some (.int v1), some (.int v2), some (.int v3)] [] M 0 0 := by
  intro n
  induction n with
  | zero => intro M v0 v1 v2 v3 h; rw [fX7_later_c39.eq_1] at h; cases h
  | succ n ih =>
    intro M v0 v1 v2 v3 h
    rw [fX7_later_c39.eq_2] at h
    refine Ev_iload_n (x := v3) rfl dX7_later_39 ?_
    refine Ev_iload_n (x := v2) rfl dX7_later_40 ?_
    refine Ev_icmp_ge (tgt := 58) dX7_later_41 (by decide) (fun q1 => ?_) (fun q1 => ?_)
    · rw [if_pos q1] at h
      refine Ev_aload_n (x := v0) rfl dX7_later_58 ?_
      obtain ⟨a2, g2, h⟩ := bsome h
      refine Ev_getR flX7_23 dX7_later_59 g2 ?_
      obtain ⟨a3, g3, h⟩ := bsome h
      refine Ev_getR flX7_113 dX7_later_62 g3 ?_
      refine Ev_iload_n (x := v1) rfl dX7_later_65 ?_
      obtain ⟨a4, g4, h⟩ := bsome h
      refine Ev_aald dX7_later_66 g4 ?_
      obtain ⟨a5, g5, h⟩ := bsome h
      refine Ev_getR flX7_125 dX7_later_67 g5 ?_
      obtain ⟨x6, g6, h⟩ := bsome h
      refine Ev_getI flX7_102 dX7_later_70 g6 ?_
      cases h
      exact Ev_iret rfl rfl dX7_later_73 ⟨rfl, rfl⟩
    · rw [if_neg q1] at h
      refine Ev_aload_n (x := v0) rfl dX7_later_44 ?_
      obtain ⟨a7, g7, h⟩ := bsome h
      refine Ev_getR flX7_23 dX7_later_45 g7 ?_
      obtain ⟨p9, g8, h⟩ := bsome h
      refine Ev_callVi (np := 0) (vs := []) (rest := []) mdX6_passWinter lkX7_145 ⟨_, rfl, rfl⟩ (oX6_passWinter g8) (rX6_passWinter g8) rfl rfl (Nat.le_of_ble_eq_true rfl) (Nat.le_of_ble_eq_true rfl) dX7_later_48 ?_
      refine Ev_pop rfl dX7_later_51 ?_
      refine Ev_iinc (x := v3) (v := (v3 + 1)) (loc2 := [some (.ref v0), some (.int v1), some (.int v2), some (.int (v3 + 1))]) rfl (congrArg (v3 + ·) ic_1) (Nat.le_of_ble_eq_true rfl) rfl rfl dX7_later_52 ?_
      refine Ev_goto (tgt := 39) dX7_later_55 (by decide) ?_
      exact ih p9.2 v0 v1 v2 (v3 + 1) h
def fX7_later (M : mM) (v0 : Nat) (v1 : Int32) (v2 : Int32) : Option (Int32 × mM) :=
    if isO M v0 7 = true then
      (gR M v0 7 1).bind fun a1 =>
      (fX6_has M a1 v1).bind fun x3 =>
      if x3 = 0 then
        (some ((-1), M))
      else
        (if v2 < 0 then
          (some ((-2), M))
        else
          (if v2 ≤ 20 then
            ((gR M v0 7 2).bind fun a7 =>
            (gR M v0 7 1).bind fun a8 =>
            (fX6_setTo M a7 a8).bind fun M10 =>
            fX7_later_c39 FUEL M10 v0 v1 v2 0)
          else
            (some ((-2), M))))
    else none
theorem oX7_later {M : mM} {v0 : Nat} {v1 : Int32} {v2 : Int32} {y : (Int32 × mM)} (h : fX7_later M v0 v1 v2 = some y) : isO M v0 7 = true := by
  unfold fX7_later at h
  exact (gsome h).1
set_option maxRecDepth 20000 in
set_option maxHeartbeats 4000000 in
theorem rX7_later {E : mE} {M : mM} {v0 : Nat} {v1 : Int32} {v2 : Int32} {x : Int32} {Mf : mM} (h : fX7_later M v0 v1 v2 = some (x, Mf)) : EvC mX7_later E 4 0 0 [.ref v0, .int v1, .int v2] M (some (.int x)) Mf := by
  unfold fX7_later at h
  replace h := (gsome h).2
  refine EvC.of [some (.ref v0), some (.int v1), some (.int v2), none] pnX7_later rfl (Nat.le_of_ble_eq_true rfl) ?_
  refine Ev_aload_n (x := v0) rfl dX7_later_0 ?_
  obtain ⟨a1, g1, h⟩ := bsome h
  refine Ev_getR flX7_19 dX7_later_1 g1 ?_
  refine Ev_iload_n (x := v1) rfl dX7_later_4 ?_
  obtain ⟨x3, g2, h⟩ := bsome h
  refine Ev_callVi (np := 1) (vs := [.int v1]) (rest := []) mdX6_has lkX7_109 ⟨_, rfl, rfl⟩ (oX6_has g2) (rX6_has g2) rfl rfl (Nat.le_of_ble_eq_true rfl) (Nat.le_of_ble_eq_true rfl) dX7_later_5 ?_
  refine Ev_if_ne (tgt := 13) dX7_later_8 (by decide) (fun q4 => ?_) (fun q4 => ?_)
  · rw [if_neg q4] at h
    refine Ev_iload_n (x := v2) rfl dX7_later_13 ?_
    refine Ev_if_lt (tgt := 23) dX7_later_14 (by decide) (fun q5 => ?_) (fun q5 => ?_)
    · rw [if_pos q5] at h
      refine Ev_bipush bp_m2 dX7_later_23 ?_
      cases h
      exact Ev_iret rfl rfl dX7_later_25 ⟨rfl, rfl⟩
    · rw [if_neg q5] at h
      refine Ev_iload_n (x := v2) rfl dX7_later_17 ?_
      refine Ev_bipush bp_20 dX7_later_18 ?_
      refine Ev_icmp_le (tgt := 26) dX7_later_20 (by decide) (fun q6 => ?_) (fun q6 => ?_)
      · rw [if_pos q6] at h
        refine Ev_aload_n (x := v0) rfl dX7_later_26 ?_
        obtain ⟨a7, g7, h⟩ := bsome h
        refine Ev_getR flX7_23 dX7_later_27 g7 ?_
        refine Ev_aload_n (x := v0) rfl dX7_later_30 ?_
        obtain ⟨a8, g8, h⟩ := bsome h
        refine Ev_getR flX7_19 dX7_later_31 g8 ?_
        obtain ⟨M10, g9, h⟩ := bsome h
        refine Ev_callVv (np := 1) (vs := [.ref a8]) (rest := []) mdX6_setTo lkX7_142 ⟨_, rfl, rfl⟩ (oX6_setTo g9) (rX6_setTo g9) rfl rfl (Nat.le_of_ble_eq_true rfl) (Nat.le_of_ble_eq_true rfl) dX7_later_34 ?_
        refine Ev_iconst ic_0 dX7_later_37 ?_
        refine Ev_istore_n (loc2 := [some (.ref v0), some (.int v1), some (.int v2), some (.int 0)]) (Nat.le_of_ble_eq_true rfl) rfl rfl dX7_later_38 ?_
        exact rX7_later_c39 FUEL M10 v0 v1 v2 0 h
      · rw [if_neg q6] at h
        refine Ev_bipush bp_m2 dX7_later_23 ?_
        cases h
        exact Ev_iret rfl rfl dX7_later_25 ⟨rfl, rfl⟩
  · rw [if_pos q4] at h
    refine Ev_iconst ic_m1 dX7_later_11 ?_
    cases h
    exact Ev_iret rfl rfl dX7_later_12 ⟨rfl, rfl⟩
/-! TinselRiver.lasts(I)I -/
def fX7_lasts_c26 : Nat → mM → Nat → Int32 → Int32 → Option (Int32 × mM)
  | 0, _, _, _, _ => none
  | n + 1, M, v0, v1, v2 =>
    if 20 < v2 then
      (some ((-9), M))
    else
      ((gR M v0 7 2).bind fun a2 =>
      (fX6_passWinter M a2).bind fun p4 =>
      (gR p4.2 v0 7 2).bind fun a5 =>
      (fX6_has p4.2 a5 v1).bind fun x7 =>
      if x7 = 0 then
        (some (v2, p4.2))
      else
        (fX7_lasts_c26 n p4.2 v0 v1 (v2 + 1)))
set_option maxRecDepth 20000 in
set_option maxHeartbeats 4000000 in
theorem rX7_lasts_c26 {E : mE} {x : Int32} {Mf : mM} : ∀ (n : Nat) (M : mM) (v0 : Nat) (v1 : Int32) (v2 : Int32), fX7_lasts_c26 n M v0 v1 v2 = some (x, Mf) → Ev mX7_lasts E 4 0 0 (some (.int x)) Mf 26 [some (.ref v0), some (.int v1), some (.int v2)] [] M 0 0 := by
  intro n
  induction n with
  | zero => intro M v0 v1 v2 h; rw [fX7_lasts_c26.eq_1] at h; cases h
  | succ n ih =>
    intro M v0 v1 v2 h
    rw [fX7_lasts_c26.eq_2] at h
    refine Ev_iload_n (x := v2) rfl dX7_lasts_26 ?_
    refine Ev_bipush bp_20 dX7_lasts_27 ?_
    refine Ev_icmp_gt (tgt := 59) dX7_lasts_29 (by decide) (fun q1 => ?_) (fun q1 => ?_)
    · rw [if_pos q1] at h
      refine Ev_bipush bp_m9 dX7_lasts_59 ?_
      cases h
      exact Ev_iret rfl rfl dX7_lasts_61 ⟨rfl, rfl⟩
    · rw [if_neg q1] at h
      refine Ev_aload_n (x := v0) rfl dX7_lasts_32 ?_
      obtain ⟨a2, g2, h⟩ := bsome h
      refine Ev_getR flX7_23 dX7_lasts_33 g2 ?_
      obtain ⟨p4, g3, h⟩ := bsome h
      refine Ev_callVi (np := 0) (vs := []) (rest := []) mdX6_passWinter lkX7_145 ⟨_, rfl, rfl⟩ (oX6_passWinter g3) (rX6_passWinter g3) rfl rfl (Nat.le_of_ble_eq_true rfl) (Nat.le_of_ble_eq_true rfl) dX7_lasts_36 ?_
      refine Ev_pop rfl dX7_lasts_39 ?_
      refine Ev_aload_n (x := v0) rfl dX7_lasts_40 ?_
      obtain ⟨a5, g5, h⟩ := bsome h
      refine Ev_getR flX7_23 dX7_lasts_41 g5 ?_
      refine Ev_iload_n (x := v1) rfl dX7_lasts_44 ?_
      obtain ⟨x7, g6, h⟩ := bsome h
      refine Ev_callVi (np := 1) (vs := [.int v1]) (rest := []) mdX6_has lkX7_109 ⟨_, rfl, rfl⟩ (oX6_has g6) (rX6_has g6) rfl rfl (Nat.le_of_ble_eq_true rfl) (Nat.le_of_ble_eq_true rfl) dX7_lasts_45 ?_
      refine Ev_if_ne (tgt := 53) dX7_lasts_48 (by decide) (fun q8 => ?_) (fun q8 => ?_)
      · rw [if_neg q8] at h
        refine Ev_iinc (x := v2) (v := (v2 + 1)) (loc2 := [some (.ref v0), some (.int v1), some (.int (v2 + 1))]) rfl (congrArg (v2 + ·) ic_1) (Nat.le_of_ble_eq_true rfl) rfl rfl dX7_lasts_53 ?_
        refine Ev_goto (tgt := 26) dX7_lasts_56 (by decide) ?_
        exact ih p4.2 v0 v1 (v2 + 1) h
      · rw [if_pos q8] at h
        refine Ev_iload_n (x := v2) rfl dX7_lasts_51 ?_
        cases h
        exact Ev_iret rfl rfl dX7_lasts_52 ⟨rfl, rfl⟩
def fX7_lasts (M : mM) (v0 : Nat) (v1 : Int32) : Option (Int32 × mM) :=
    if isO M v0 7 = true then
      (gR M v0 7 1).bind fun a1 =>
      (fX6_has M a1 v1).bind fun x3 =>
      if x3 = 0 then
        (some ((-1), M))
      else
        ((gR M v0 7 2).bind fun a5 =>
        (gR M v0 7 1).bind fun a6 =>
        (fX6_setTo M a5 a6).bind fun M8 =>
        fX7_lasts_c26 FUEL M8 v0 v1 1)
    else none
theorem oX7_lasts {M : mM} {v0 : Nat} {v1 : Int32} {y : (Int32 × mM)} (h : fX7_lasts M v0 v1 = some y) : isO M v0 7 = true := by
  unfold fX7_lasts at h
  exact (gsome h).1
set_option maxRecDepth 20000 in
set_option maxHeartbeats 4000000 in
theorem rX7_lasts {E : mE} {M : mM} {v0 : Nat} {v1 : Int32} {x : Int32} {Mf : mM} (h : fX7_lasts M v0 v1 = some (x, Mf)) : EvC mX7_lasts E 4 0 0 [.ref v0, .int v1] M (some (.int x)) Mf := by
  unfold fX7_lasts at h
  replace h := (gsome h).2
  refine EvC.of [some (.ref v0), some (.int v1), none] pnX7_lasts rfl (Nat.le_of_ble_eq_true rfl) ?_
  refine Ev_aload_n (x := v0) rfl dX7_lasts_0 ?_
  obtain ⟨a1, g1, h⟩ := bsome h
  refine Ev_getR flX7_19 dX7_lasts_1 g1 ?_
  refine Ev_iload_n (x := v1) rfl dX7_lasts_4 ?_
  obtain ⟨x3, g2, h⟩ := bsome h
  refine Ev_callVi (np := 1) (vs := [.int v1]) (rest := []) mdX6_has lkX7_109 ⟨_, rfl, rfl⟩ (oX6_has g2) (rX6_has g2) rfl rfl (Nat.le_of_ble_eq_true rfl) (Nat.le_of_ble_eq_true rfl) dX7_lasts_5 ?_
  refine Ev_if_ne (tgt := 13) dX7_lasts_8 (by decide) (fun q4 => ?_) (fun q4 => ?_)
  · rw [if_neg q4] at h
    refine Ev_aload_n (x := v0) rfl dX7_lasts_13 ?_
    obtain ⟨a5, g5, h⟩ := bsome h
    refine Ev_getR flX7_23 dX7_lasts_14 g5 ?_
    refine Ev_aload_n (x := v0) rfl dX7_lasts_17 ?_
    obtain ⟨a6, g6, h⟩ := bsome h
    refine Ev_getR flX7_19 dX7_lasts_18 g6 ?_
    obtain ⟨M8, g7, h⟩ := bsome h
    refine Ev_callVv (np := 1) (vs := [.ref a6]) (rest := []) mdX6_setTo lkX7_142 ⟨_, rfl, rfl⟩ (oX6_setTo g7) (rX6_setTo g7) rfl rfl (Nat.le_of_ble_eq_true rfl) (Nat.le_of_ble_eq_true rfl) dX7_lasts_21 ?_
    refine Ev_iconst ic_1 dX7_lasts_24 ?_
    refine Ev_istore_n (loc2 := [some (.ref v0), some (.int v1), some (.int 1)]) (Nat.le_of_ble_eq_true rfl) rfl rfl dX7_lasts_25 ?_
    exact rX7_lasts_c26 FUEL M8 v0 v1 1 h
  · rw [if_pos q4] at h
    refine Ev_iconst ic_m1 dX7_lasts_11 ?_
    cases h
    exact Ev_iret rfl rfl dX7_lasts_12 ⟨rfl, rfl⟩
/-! TinselRiver.overlap(II)I -/
def fX7_overlap (M : mM) (v0 : Nat) (v1 : Int32) (v2 : Int32) : Option Int32 :=
    if isO M v0 7 = true then
      (gR M v0 7 1).bind fun a1 =>
      (fX6_has M a1 v1).bind fun x3 =>
      if x3 = 0 then
        (some (-1))
      else
        ((gR M v0 7 1).bind fun a5 =>
        (fX6_has M a5 v2).bind fun x7 =>
        if x7 = 0 then
          (some (-1))
        else
          (if v1 = v2 then
            (some (-2))
          else
            ((gR M v0 7 1).bind fun a10 =>
            (gR M a10 6 0).bind fun a11 =>
            (qI M false a11 v1).bind fun a12 =>
            (gR M a12 4 0).bind fun a13 =>
            (gR M v0 7 1).bind fun a14 =>
            (gR M a14 6 0).bind fun a15 =>
            (qI M false a15 v2).bind fun a16 =>
            (gR M a16 4 0).bind fun a17 =>
            (fX2_overlapWith M a13 a17).bind fun x19 =>
            some x19)))
    else none
theorem oX7_overlap {M : mM} {v0 : Nat} {v1 : Int32} {v2 : Int32} {y : Int32} (h : fX7_overlap M v0 v1 v2 = some y) : isO M v0 7 = true := by
  unfold fX7_overlap at h
  exact (gsome h).1
set_option maxRecDepth 20000 in
set_option maxHeartbeats 4000000 in
theorem rX7_overlap {E : mE} {M : mM} {v0 : Nat} {v1 : Int32} {v2 : Int32} {x : Int32} (h : fX7_overlap M v0 v1 v2 = some x) : EvC mX7_overlap E 2 0 0 [.ref v0, .int v1, .int v2] M (some (.int x)) M := by
  unfold fX7_overlap at h
  replace h := (gsome h).2
  refine EvC.of [some (.ref v0), some (.int v1), some (.int v2)] pnX7_overlap rfl (Nat.le_of_ble_eq_true rfl) ?_
  refine Ev_aload_n (x := v0) rfl dX7_overlap_0 ?_
  obtain ⟨a1, g1, h⟩ := bsome h
  refine Ev_getR flX7_19 dX7_overlap_1 g1 ?_
  refine Ev_iload_n (x := v1) rfl dX7_overlap_4 ?_
  obtain ⟨x3, g2, h⟩ := bsome h
  refine Ev_callVi (np := 1) (vs := [.int v1]) (rest := []) mdX6_has lkX7_109 ⟨_, rfl, rfl⟩ (oX6_has g2) (rX6_has g2) rfl rfl (Nat.le_of_ble_eq_true rfl) (Nat.le_of_ble_eq_true rfl) dX7_overlap_5 ?_
  refine Ev_if_eq (tgt := 22) dX7_overlap_8 (by decide) (fun q4 => ?_) (fun q4 => ?_)
  · rw [if_pos q4] at h
    refine Ev_iconst ic_m1 dX7_overlap_22 ?_
    cases h
    exact Ev_iret rfl rfl dX7_overlap_23 ⟨rfl, rfl⟩
  · rw [if_neg q4] at h
    refine Ev_aload_n (x := v0) rfl dX7_overlap_11 ?_
    obtain ⟨a5, g5, h⟩ := bsome h
    refine Ev_getR flX7_19 dX7_overlap_12 g5 ?_
    refine Ev_iload_n (x := v2) rfl dX7_overlap_15 ?_
    obtain ⟨x7, g6, h⟩ := bsome h
    refine Ev_callVi (np := 1) (vs := [.int v2]) (rest := []) mdX6_has lkX7_109 ⟨_, rfl, rfl⟩ (oX6_has g6) (rX6_has g6) rfl rfl (Nat.le_of_ble_eq_true rfl) (Nat.le_of_ble_eq_true rfl) dX7_overlap_16 ?_
    refine Ev_if_ne (tgt := 24) dX7_overlap_19 (by decide) (fun q8 => ?_) (fun q8 => ?_)
    · rw [if_neg q8] at h
      refine Ev_iload_n (x := v1) rfl dX7_overlap_24 ?_
      refine Ev_iload_n (x := v2) rfl dX7_overlap_25 ?_
      refine Ev_icmp_ne (tgt := 32) dX7_overlap_26 (by decide) (fun q9 => ?_) (fun q9 => ?_)
      · rw [if_neg q9] at h
        refine Ev_aload_n (x := v0) rfl dX7_overlap_32 ?_
        obtain ⟨a10, g10, h⟩ := bsome h
        refine Ev_getR flX7_19 dX7_overlap_33 g10 ?_
        obtain ⟨a11, g11, h⟩ := bsome h
        refine Ev_getR flX7_113 dX7_overlap_36 g11 ?_
        refine Ev_iload_n (x := v1) rfl dX7_overlap_39 ?_
        obtain ⟨a12, g12, h⟩ := bsome h
        refine Ev_aald dX7_overlap_40 g12 ?_
        obtain ⟨a13, g13, h⟩ := bsome h
        refine Ev_getR flX7_125 dX7_overlap_41 g13 ?_
        refine Ev_aload_n (x := v0) rfl dX7_overlap_44 ?_
        obtain ⟨a14, g14, h⟩ := bsome h
        refine Ev_getR flX7_19 dX7_overlap_45 g14 ?_
        obtain ⟨a15, g15, h⟩ := bsome h
        refine Ev_getR flX7_113 dX7_overlap_48 g15 ?_
        refine Ev_iload_n (x := v2) rfl dX7_overlap_51 ?_
        obtain ⟨a16, g16, h⟩ := bsome h
        refine Ev_aald dX7_overlap_52 g16 ?_
        obtain ⟨a17, g17, h⟩ := bsome h
        refine Ev_getR flX7_125 dX7_overlap_53 g17 ?_
        obtain ⟨x19, g18, h⟩ := bsome h
        refine Ev_callVi (np := 1) (vs := [.ref a17]) (rest := []) mdX2_overlapWith lkX7_171 ⟨_, rfl, rfl⟩ (oX2_overlapWith g18) (rX2_overlapWith g18) rfl rfl (Nat.le_of_ble_eq_true rfl) (Nat.le_of_ble_eq_true rfl) dX7_overlap_56 ?_
        cases h
        exact Ev_iret rfl rfl dX7_overlap_59 ⟨rfl, rfl⟩
      · rw [if_pos q9] at h
        refine Ev_bipush bp_m2 dX7_overlap_29 ?_
        cases h
        exact Ev_iret rfl rfl dX7_overlap_31 ⟨rfl, rfl⟩
    · rw [if_pos q8] at h
      refine Ev_iconst ic_m1 dX7_overlap_22 ?_
      cases h
      exact Ev_iret rfl rfl dX7_overlap_23 ⟨rfl, rfl⟩
/-! TinselRiver.figureOf(III)I -/
def fX7_figureOf (M : mM) (v0 : Int32) (v1 : Int32) (v2 : Int32) : Option Int32 :=
    some ((v0 >>> ((2 * ((v1 - 1) - v2)) &&& 31)) &&& 3)
set_option maxRecDepth 20000 in
set_option maxHeartbeats 4000000 in
theorem rX7_figureOf {E : mE} {M : mM} {v0 : Int32} {v1 : Int32} {v2 : Int32} {x : Int32} (h : fX7_figureOf M v0 v1 v2 = some x) : EvC mX7_figureOf E 0 0 0 [.int v0, .int v1, .int v2] M (some (.int x)) M := by
  unfold fX7_figureOf at h
  refine EvC.of [some (.int v0), some (.int v1), some (.int v2)] pnX7_figureOf rfl (Nat.le_of_ble_eq_true rfl) ?_
  refine Ev_iload_n (x := v0) rfl dX7_figureOf_0 ?_
  refine Ev_iconst ic_2 dX7_figureOf_1 ?_
  refine Ev_iload_n (x := v1) rfl dX7_figureOf_2 ?_
  refine Ev_iconst ic_1 dX7_figureOf_3 ?_
  refine Ev_isub dX7_figureOf_4 ?_
  refine Ev_iload_n (x := v2) rfl dX7_figureOf_5 ?_
  refine Ev_isub dX7_figureOf_6 ?_
  refine Ev_imul dX7_figureOf_7 ?_
  refine Ev_ishr dX7_figureOf_8 ?_
  refine Ev_iconst ic_3 dX7_figureOf_9 ?_
  refine Ev_iand dX7_figureOf_10 ?_
  cases h
  exact Ev_iret rfl rfl dX7_figureOf_11 ⟨rfl, rfl⟩
/-! TinselRiver.flow(II)I -/
def fX7_flow_c12 : Nat → mM → Nat → Int32 → Int32 → Int32 → Int32 → Option (Int32 × mM)
  | 0, _, _, _, _, _, _ => none
  | n + 1, M, v0, v1, v2, v3, v4 =>
    if v2 ≤ v4 then
      (some (v3, M))
    else
      ((fX7_figureOf M v1 v2 v4).bind fun x3 =>
      (gR M v0 7 7).bind fun a4 =>
      (gR M v0 7 1).bind fun a5 =>
      (gR M a5 6 0).bind fun a6 =>
      (qI M false a6 x3).bind fun a7 =>
      (gR M a7 4 0).bind fun a8 =>
      (fX2_addBehind M a4 a8).bind fun M10 =>
      fX7_flow_c12 n M10 v0 v1 v2 (((10 * v3) + x3) + 1) (v4 + 1))
set_option maxRecDepth 20000 in
set_option maxHeartbeats 4000000 in
theorem rX7_flow_c12 {E : mE} {x : Int32} {Mf : mM} : ∀ (n : Nat) (M : mM) (v0 : Nat) (v1 : Int32) (v2 : Int32) (v3 : Int32) (v4 : Int32), fX7_flow_c12 n M v0 v1 v2 v3 v4 = some (x, Mf) → Ev mX7_flow E 3 0 0 (some (.int x)) Mf 12 [some (.ref v0), some (.int v1), some (.int v2), some (.int v3), some (.int v4), none] [] M 0 0 := by
  intro n
  induction n with
  | zero => intro M v0 v1 v2 v3 v4 h; rw [fX7_flow_c12.eq_1] at h; cases h
  | succ n ih =>
    intro M v0 v1 v2 v3 v4 h
    rw [fX7_flow_c12.eq_2] at h
    refine Ev_iload (x := v4) rfl dX7_flow_12 ?_
    refine Ev_iload_n (x := v2) rfl dX7_flow_14 ?_
    refine Ev_icmp_ge (tgt := 63) dX7_flow_15 (by decide) (fun q1 => ?_) (fun q1 => ?_)
    · rw [if_pos q1] at h
      refine Ev_iload_n (x := v3) rfl dX7_flow_63 ?_
      cases h
      exact Ev_iret rfl rfl dX7_flow_64 ⟨rfl, rfl⟩
    · rw [if_neg q1] at h
      refine Ev_iload_n (x := v1) rfl dX7_flow_18 ?_
      refine Ev_iload_n (x := v2) rfl dX7_flow_19 ?_
      refine Ev_iload (x := v4) rfl dX7_flow_20 ?_
      obtain ⟨x3, g2, h⟩ := bsome h
      refine Ev_callSi (np := 3) (vs := [.int v1, .int v2, .int v4]) (rest := []) mdX7_figureOf lkX7_189 (rX7_figureOf g2) rfl rfl (Nat.le_of_ble_eq_true rfl) (Nat.le_of_ble_eq_true rfl) dX7_flow_22 ?_
      refine Ev_istore (loc2 := [some (.ref v0), some (.int v1), some (.int v2), some (.int v3), some (.int v4), some (.int x3)]) (Nat.le_of_ble_eq_true rfl) rfl rfl dX7_flow_25 ?_
      refine Ev_aload_n (x := v0) rfl dX7_flow_27 ?_
      obtain ⟨a4, g4, h⟩ := bsome h
      refine Ev_getR flX7_56 dX7_flow_28 g4 ?_
      refine Ev_aload_n (x := v0) rfl dX7_flow_31 ?_
      obtain ⟨a5, g5, h⟩ := bsome h
      refine Ev_getR flX7_19 dX7_flow_32 g5 ?_
      obtain ⟨a6, g6, h⟩ := bsome h
      refine Ev_getR flX7_113 dX7_flow_35 g6 ?_
      refine Ev_iload (x := x3) rfl dX7_flow_38 ?_
      obtain ⟨a7, g7, h⟩ := bsome h
      refine Ev_aald dX7_flow_40 g7 ?_
      obtain ⟨a8, g8, h⟩ := bsome h
      refine Ev_getR flX7_125 dX7_flow_41 g8 ?_
      obtain ⟨M10, g9, h⟩ := bsome h
      refine Ev_callVv (np := 1) (vs := [.ref a8]) (rest := []) mdX2_addBehind lkX7_194 ⟨_, rfl, rfl⟩ (oX2_addBehind g9) (rX2_addBehind g9) rfl rfl (Nat.le_of_ble_eq_true rfl) (Nat.le_of_ble_eq_true rfl) dX7_flow_44 ?_
      refine Ev_bipush bp_10 dX7_flow_47 ?_
      refine Ev_iload_n (x := v3) rfl dX7_flow_49 ?_
      refine Ev_imul dX7_flow_50 ?_
      refine Ev_iload (x := x3) rfl dX7_flow_51 ?_
      refine Ev_iadd dX7_flow_53 ?_
      refine Ev_iconst ic_1 dX7_flow_54 ?_
      refine Ev_iadd dX7_flow_55 ?_
      refine Ev_istore_n (loc2 := [some (.ref v0), some (.int v1), some (.int v2), some (.int (((10 * v3) + x3) + 1)), some (.int v4), some (.int x3)]) (Nat.le_of_ble_eq_true rfl) rfl rfl dX7_flow_56 ?_
      refine Ev_iinc (x := v4) (v := (v4 + 1)) (loc2 := [some (.ref v0), some (.int v1), some (.int v2), some (.int (((10 * v3) + x3) + 1)), some (.int (v4 + 1)), some (.int x3)]) rfl (congrArg (v4 + ·) ic_1) (Nat.le_of_ble_eq_true rfl) rfl rfl dX7_flow_57 ?_
      refine Ev_goto (tgt := 12) dX7_flow_60 (by decide) ?_
      refine Ev_drop 5 (loc2 := [some (.ref v0), some (.int v1), some (.int v2), some (.int (((10 * v3) + x3) + 1)), some (.int (v4 + 1)), none]) rfl ?_
      exact ih M10 v0 v1 v2 (((10 * v3) + x3) + 1) (v4 + 1) h
def fX7_flow (M : mM) (v0 : Nat) (v1 : Int32) (v2 : Int32) : Option (Int32 × mM) :=
    if isO M v0 7 = true then
      (gR M v0 7 7).bind fun a1 =>
      (fX2_clear M a1).bind fun M3 =>
      fX7_flow_c12 FUEL M3 v0 v1 v2 0 0
    else none
theorem oX7_flow {M : mM} {v0 : Nat} {v1 : Int32} {v2 : Int32} {y : (Int32 × mM)} (h : fX7_flow M v0 v1 v2 = some y) : isO M v0 7 = true := by
  unfold fX7_flow at h
  exact (gsome h).1
set_option maxRecDepth 20000 in
set_option maxHeartbeats 4000000 in
theorem rX7_flow {E : mE} {M : mM} {v0 : Nat} {v1 : Int32} {v2 : Int32} {x : Int32} {Mf : mM} (h : fX7_flow M v0 v1 v2 = some (x, Mf)) : EvC mX7_flow E 3 0 0 [.ref v0, .int v1, .int v2] M (some (.int x)) Mf := by
  unfold fX7_flow at h
  replace h := (gsome h).2
  refine EvC.of [some (.ref v0), some (.int v1), some (.int v2), none, none, none] pnX7_flow rfl (Nat.le_of_ble_eq_true rfl) ?_
  refine Ev_iconst ic_0 dX7_flow_0 ?_
  refine Ev_istore_n (loc2 := [some (.ref v0), some (.int v1), some (.int v2), some (.int 0), none, none]) (Nat.le_of_ble_eq_true rfl) rfl rfl dX7_flow_1 ?_
  refine Ev_aload_n (x := v0) rfl dX7_flow_2 ?_
  obtain ⟨a1, g1, h⟩ := bsome h
  refine Ev_getR flX7_56 dX7_flow_3 g1 ?_
  obtain ⟨M3, g2, h⟩ := bsome h
  refine Ev_callVv (np := 0) (vs := []) (rest := []) mdX2_clear lkX7_193 ⟨_, rfl, rfl⟩ (oX2_clear g2) (rX2_clear g2) rfl rfl (Nat.le_of_ble_eq_true rfl) (Nat.le_of_ble_eq_true rfl) dX7_flow_6 ?_
  refine Ev_iconst ic_0 dX7_flow_9 ?_
  refine Ev_istore (loc2 := [some (.ref v0), some (.int v1), some (.int v2), some (.int 0), some (.int 0), none]) (Nat.le_of_ble_eq_true rfl) rfl rfl dX7_flow_10 ?_
  exact rX7_flow_c12 FUEL M3 v0 v1 v2 0 0 h
/-! TinselRiver.isOrder(II)Z -/
def fX7_isOrder_c5 (M : mM) : Nat → Nat → Int32 → Int32 → Int32 → Int32 → Option Int32
  | 0, _, _, _, _, _ => none
  | n + 1, v0, v1, v2, v3, v4 =>
    if v2 ≤ v4 then
      ((gR M v0 7 1).bind fun a2 =>
      (fX6_whoIsThere M a2).bind fun x4 =>
      if v3 = x4 then
        (some 1)
      else
        (some 0))
    else
      ((fX7_figureOf M v1 v2 v4).bind fun x7 =>
      fX7_isOrder_c5 M n v0 v1 v2 (v3 ||| (1 <<< (x7 &&& 31))) (v4 + 1))
set_option maxRecDepth 20000 in
set_option maxHeartbeats 4000000 in
theorem rX7_isOrder_c5 {E : mE} {M : mM} {x : Int32} : ∀ (n : Nat) (v0 : Nat) (v1 : Int32) (v2 : Int32) (v3 : Int32) (v4 : Int32), fX7_isOrder_c5 M n v0 v1 v2 v3 v4 = some x → Ev mX7_isOrder E 2 0 0 (some (.int x)) M 5 [some (.ref v0), some (.int v1), some (.int v2), some (.int v3), some (.int v4)] [] M 0 0 := by
  intro n
  induction n with
  | zero => intro v0 v1 v2 v3 v4 h; rw [fX7_isOrder_c5.eq_1] at h; cases h
  | succ n ih =>
    intro v0 v1 v2 v3 v4 h
    rw [fX7_isOrder_c5.eq_2] at h
    refine Ev_iload (x := v4) rfl dX7_isOrder_5 ?_
    refine Ev_iload_n (x := v2) rfl dX7_isOrder_7 ?_
    refine Ev_icmp_ge (tgt := 29) dX7_isOrder_8 (by decide) (fun q1 => ?_) (fun q1 => ?_)
    · rw [if_pos q1] at h
      refine Ev_iload_n (x := v3) rfl dX7_isOrder_29 ?_
      refine Ev_aload_n (x := v0) rfl dX7_isOrder_30 ?_
      obtain ⟨a2, g2, h⟩ := bsome h
      refine Ev_getR flX7_19 dX7_isOrder_31 g2 ?_
      obtain ⟨x4, g3, h⟩ := bsome h
      refine Ev_callVi (np := 0) (vs := []) (rest := [.int v3]) mdX6_whoIsThere lkX7_174 ⟨_, rfl, rfl⟩ (oX6_whoIsThere g3) (rX6_whoIsThere g3) rfl rfl (Nat.le_of_ble_eq_true rfl) (Nat.le_of_ble_eq_true rfl) dX7_isOrder_34 ?_
      refine Ev_icmp_ne (tgt := 44) dX7_isOrder_37 (by decide) (fun q5 => ?_) (fun q5 => ?_)
      · rw [if_neg q5] at h
        refine Ev_iconst ic_0 dX7_isOrder_44 ?_
        cases h
        exact Ev_iret rfl rfl dX7_isOrder_45 ⟨rfl, rfl⟩
      · rw [if_pos q5] at h
        refine Ev_iconst ic_1 dX7_isOrder_40 ?_
        refine Ev_goto (tgt := 45) dX7_isOrder_41 (by decide) ?_
        cases h
        exact Ev_iret rfl rfl dX7_isOrder_45 ⟨rfl, rfl⟩
    · rw [if_neg q1] at h
      refine Ev_iload_n (x := v3) rfl dX7_isOrder_11 ?_
      refine Ev_iconst ic_1 dX7_isOrder_12 ?_
      refine Ev_iload_n (x := v1) rfl dX7_isOrder_13 ?_
      refine Ev_iload_n (x := v2) rfl dX7_isOrder_14 ?_
      refine Ev_iload (x := v4) rfl dX7_isOrder_15 ?_
      obtain ⟨x7, g6, h⟩ := bsome h
      refine Ev_callSi (np := 3) (vs := [.int v1, .int v2, .int v4]) (rest := [.int 1, .int v3]) mdX7_figureOf lkX7_189 (rX7_figureOf g6) rfl rfl (Nat.le_of_ble_eq_true rfl) (Nat.le_of_ble_eq_true rfl) dX7_isOrder_17 ?_
      refine Ev_ishl dX7_isOrder_20 ?_
      refine Ev_ior dX7_isOrder_21 ?_
      refine Ev_istore_n (loc2 := [some (.ref v0), some (.int v1), some (.int v2), some (.int (v3 ||| (1 <<< (x7 &&& 31)))), some (.int v4)]) (Nat.le_of_ble_eq_true rfl) rfl rfl dX7_isOrder_22 ?_
      refine Ev_iinc (x := v4) (v := (v4 + 1)) (loc2 := [some (.ref v0), some (.int v1), some (.int v2), some (.int (v3 ||| (1 <<< (x7 &&& 31)))), some (.int (v4 + 1))]) rfl (congrArg (v4 + ·) ic_1) (Nat.le_of_ble_eq_true rfl) rfl rfl dX7_isOrder_23 ?_
      refine Ev_goto (tgt := 5) dX7_isOrder_26 (by decide) ?_
      exact ih v0 v1 v2 (v3 ||| (1 <<< (x7 &&& 31))) (v4 + 1) h
def fX7_isOrder (M : mM) (v0 : Nat) (v1 : Int32) (v2 : Int32) : Option Int32 :=
    if isO M v0 7 = true then
      fX7_isOrder_c5 M FUEL v0 v1 v2 0 0
    else none
theorem oX7_isOrder {M : mM} {v0 : Nat} {v1 : Int32} {v2 : Int32} {y : Int32} (h : fX7_isOrder M v0 v1 v2 = some y) : isO M v0 7 = true := by
  unfold fX7_isOrder at h
  exact (gsome h).1
set_option maxRecDepth 20000 in
set_option maxHeartbeats 4000000 in
theorem rX7_isOrder {E : mE} {M : mM} {v0 : Nat} {v1 : Int32} {v2 : Int32} {x : Int32} (h : fX7_isOrder M v0 v1 v2 = some x) : EvC mX7_isOrder E 2 0 0 [.ref v0, .int v1, .int v2] M (some (.int x)) M := by
  unfold fX7_isOrder at h
  replace h := (gsome h).2
  refine EvC.of [some (.ref v0), some (.int v1), some (.int v2), none, none] pnX7_isOrder rfl (Nat.le_of_ble_eq_true rfl) ?_
  refine Ev_iconst ic_0 dX7_isOrder_0 ?_
  refine Ev_istore_n (loc2 := [some (.ref v0), some (.int v1), some (.int v2), some (.int 0), none]) (Nat.le_of_ble_eq_true rfl) rfl rfl dX7_isOrder_1 ?_
  refine Ev_iconst ic_0 dX7_isOrder_2 ?_
  refine Ev_istore (loc2 := [some (.ref v0), some (.int v1), some (.int v2), some (.int 0), some (.int 0)]) (Nat.le_of_ble_eq_true rfl) rfl rfl dX7_isOrder_3 ?_
  exact rX7_isOrder_c5 FUEL v0 v1 v2 0 0 h
