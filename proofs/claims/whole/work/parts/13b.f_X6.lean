/-! printed by wip/whole/gen.py -/
/-! TinselRiver$Valley.floodFrom(I)V -/
def fX6_floodFrom_c2 : Nat → mM → Nat → Int32 → Int32 → Option mM
  | 0, _, _, _, _ => none
  | n + 1, M, v0, v1, v2 =>
    (gI M v0 6 1).bind fun x1 =>
    if x1 ≤ v2 then
      (some M)
    else
      (if v2 = v1 then
        (fX6_floodFrom_c2 n M v0 v1 (v2 + 1))
      else
        ((gR M v0 6 0).bind fun a4 =>
        (qI M false a4 v2).bind fun a5 =>
        (gI M a5 4 1).bind fun x6 =>
        (gR M v0 6 0).bind fun a7 =>
        (qI M false a7 v1).bind fun a8 =>
        (gI M a8 4 1).bind fun x9 =>
        if x6 = x9 then
          ((gR M v0 6 0).bind fun a11 =>
          (qI M false a11 v2).bind fun a12 =>
          (gR M a12 4 0).bind fun a13 =>
          (fX2_loseFirst M a13).bind fun M15 =>
          fX6_floodFrom_c2 n M15 v0 v1 (v2 + 1))
        else
          (fX6_floodFrom_c2 n M v0 v1 (v2 + 1))))
set_option maxRecDepth 20000 in
set_option maxHeartbeats 4000000 in
theorem rX6_floodFrom_c2 {E : mE} {Mf : mM} : ∀ (n : Nat) (M : mM) (v0 : Nat) (v1 : Int32) (v2 : Int32), fX6_floodFrom_c2 n M v0 v1 v2 = some Mf → Ev mX6_floodFrom E 1 0 0 none Mf 2 [some (.ref v0), some (.int v1), some (.int v2)] [] M 0 0 := by
  intro n
  induction n with
  | zero => intro M v0 v1 v2 h; rw [fX6_floodFrom_c2.eq_1] at h; cases h
  | succ n ih =>
    intro M v0 v1 v2 h
    rw [fX6_floodFrom_c2.eq_2] at h
    refine Ev_iload_n (x := v2) rfl dX6_floodFrom_2 ?_
    refine Ev_aload_n (x := v0) rfl dX6_floodFrom_3 ?_
    obtain ⟨x1, g1, h⟩ := bsome h
    refine Ev_getI flX6_18 dX6_floodFrom_4 g1 ?_
    refine Ev_icmp_ge (tgt := 54) dX6_floodFrom_7 (by decide) (fun q2 => ?_) (fun q2 => ?_)
    · rw [if_pos q2] at h
      cases h
      exact Ev_vret rfl dX6_floodFrom_54 ⟨rfl, rfl⟩
    · rw [if_neg q2] at h
      refine Ev_iload_n (x := v2) rfl dX6_floodFrom_10 ?_
      refine Ev_iload_n (x := v1) rfl dX6_floodFrom_11 ?_
      refine Ev_icmp_eq (tgt := 48) dX6_floodFrom_12 (by decide) (fun q3 => ?_) (fun q3 => ?_)
      · rw [if_pos q3] at h
        refine Ev_iinc (x := v2) (v := (v2 + 1)) (loc2 := [some (.ref v0), some (.int v1), some (.int (v2 + 1))]) rfl (congrArg (v2 + ·) ic_1) (Nat.le_of_ble_eq_true rfl) rfl rfl dX6_floodFrom_48 ?_
        refine Ev_goto (tgt := 2) dX6_floodFrom_51 (by decide) ?_
        exact ih M v0 v1 (v2 + 1) h
      · rw [if_neg q3] at h
        refine Ev_aload_n (x := v0) rfl dX6_floodFrom_15 ?_
        obtain ⟨a4, g4, h⟩ := bsome h
        refine Ev_getR flX6_11 dX6_floodFrom_16 g4 ?_
        refine Ev_iload_n (x := v2) rfl dX6_floodFrom_19 ?_
        obtain ⟨a5, g5, h⟩ := bsome h
        refine Ev_aald dX6_floodFrom_20 g5 ?_
        obtain ⟨x6, g6, h⟩ := bsome h
        refine Ev_getI flX6_29 dX6_floodFrom_21 g6 ?_
        refine Ev_aload_n (x := v0) rfl dX6_floodFrom_24 ?_
        obtain ⟨a7, g7, h⟩ := bsome h
        refine Ev_getR flX6_11 dX6_floodFrom_25 g7 ?_
        refine Ev_iload_n (x := v1) rfl dX6_floodFrom_28 ?_
        obtain ⟨a8, g8, h⟩ := bsome h
        refine Ev_aald dX6_floodFrom_29 g8 ?_
        obtain ⟨x9, g9, h⟩ := bsome h
        refine Ev_getI flX6_29 dX6_floodFrom_30 g9 ?_
        refine Ev_icmp_ne (tgt := 48) dX6_floodFrom_33 (by decide) (fun q10 => ?_) (fun q10 => ?_)
        · rw [if_neg q10] at h
          refine Ev_iinc (x := v2) (v := (v2 + 1)) (loc2 := [some (.ref v0), some (.int v1), some (.int (v2 + 1))]) rfl (congrArg (v2 + ·) ic_1) (Nat.le_of_ble_eq_true rfl) rfl rfl dX6_floodFrom_48 ?_
          refine Ev_goto (tgt := 2) dX6_floodFrom_51 (by decide) ?_
          exact ih M v0 v1 (v2 + 1) h
        · rw [if_pos q10] at h
          refine Ev_aload_n (x := v0) rfl dX6_floodFrom_36 ?_
          obtain ⟨a11, g11, h⟩ := bsome h
          refine Ev_getR flX6_11 dX6_floodFrom_37 g11 ?_
          refine Ev_iload_n (x := v2) rfl dX6_floodFrom_40 ?_
          obtain ⟨a12, g12, h⟩ := bsome h
          refine Ev_aald dX6_floodFrom_41 g12 ?_
          obtain ⟨a13, g13, h⟩ := bsome h
          refine Ev_getR flX6_35 dX6_floodFrom_42 g13 ?_
          obtain ⟨M15, g14, h⟩ := bsome h
          refine Ev_callVv (np := 0) (vs := []) (rest := []) mdX2_loseFirst lkX6_83 ⟨_, rfl, rfl⟩ (oX2_loseFirst g14) (rX2_loseFirst g14) rfl rfl (Nat.le_of_ble_eq_true rfl) (Nat.le_of_ble_eq_true rfl) dX6_floodFrom_45 ?_
          refine Ev_iinc (x := v2) (v := (v2 + 1)) (loc2 := [some (.ref v0), some (.int v1), some (.int (v2 + 1))]) rfl (congrArg (v2 + ·) ic_1) (Nat.le_of_ble_eq_true rfl) rfl rfl dX6_floodFrom_48 ?_
          refine Ev_goto (tgt := 2) dX6_floodFrom_51 (by decide) ?_
          exact ih M15 v0 v1 (v2 + 1) h
def fX6_floodFrom (M : mM) (v0 : Nat) (v1 : Int32) : Option mM :=
    if isO M v0 6 = true then
      fX6_floodFrom_c2 FUEL M v0 v1 0
    else none
theorem oX6_floodFrom {M : mM} {v0 : Nat} {v1 : Int32} {y : mM} (h : fX6_floodFrom M v0 v1 = some y) : isO M v0 6 = true := by
  unfold fX6_floodFrom at h
  exact (gsome h).1
set_option maxRecDepth 20000 in
set_option maxHeartbeats 4000000 in
theorem rX6_floodFrom {E : mE} {M : mM} {v0 : Nat} {v1 : Int32} {Mf : mM} (h : fX6_floodFrom M v0 v1 = some Mf) : EvC mX6_floodFrom E 1 0 0 [.ref v0, .int v1] M none Mf := by
  unfold fX6_floodFrom at h
  replace h := (gsome h).2
  refine EvC.of [some (.ref v0), some (.int v1), none] pnX6_floodFrom rfl (Nat.le_of_ble_eq_true rfl) ?_
  refine Ev_iconst ic_0 dX6_floodFrom_0 ?_
  refine Ev_istore_n (loc2 := [some (.ref v0), some (.int v1), some (.int 0)]) (Nat.le_of_ble_eq_true rfl) rfl rfl dX6_floodFrom_1 ?_
  exact rX6_floodFrom_c2 FUEL M v0 v1 0 h
/-! TinselRiver$Valley.winterOf(I)V -/
def fX6_winterOf (M : mM) (v0 : Nat) (v1 : Int32) : Option mM :=
    if isO M v0 6 = true then
      (gR M v0 6 0).bind fun a1 =>
      (qI M false a1 v1).bind fun a2 =>
      (gI M a2 4 2).bind fun x3 =>
      if x3 = 3 then
        ((fX6_floodFrom M v0 v1).bind fun M34 =>
        some M34)
      else
        ((gI M a2 4 2).bind fun x5 =>
        if x5 = 0 then
          ((gI M a2 4 1).bind fun x7 =>
          (fX6_countIn M v0 x7).bind fun x9 =>
          if x9 < 3 then
            (some M)
          else
            ((gR M a2 4 0).bind fun a11 =>
            (fX2_loseLast M a11).bind fun M13 =>
            (gI M13 a2 4 2).bind fun x14 =>
            if x14 = 1 then
              ((gR M13 a2 4 0).bind fun a16 =>
              (fX2_loseFirst M13 a16).bind fun M18 =>
              some M18)
            else
              (some M13)))
        else
          ((gI M a2 4 2).bind fun x19 =>
          if x19 = 1 then
            ((gI M a2 4 1).bind fun x21 =>
            (fX6_countIn M v0 x21).bind fun x23 =>
            if x23 < 3 then
              (some M)
            else
              ((gR M a2 4 0).bind fun a25 =>
              (fX2_loseLast M a25).bind fun M27 =>
              (gI M27 a2 4 2).bind fun x28 =>
              if x28 = 1 then
                ((gR M27 a2 4 0).bind fun a30 =>
                (fX2_loseFirst M27 a30).bind fun M32 =>
                some M32)
              else
                (some M27)))
          else
            (some M)))
    else none
theorem oX6_winterOf {M : mM} {v0 : Nat} {v1 : Int32} {y : mM} (h : fX6_winterOf M v0 v1 = some y) : isO M v0 6 = true := by
  unfold fX6_winterOf at h
  exact (gsome h).1
set_option maxRecDepth 20000 in
set_option maxHeartbeats 4000000 in
theorem rX6_winterOf {E : mE} {M : mM} {v0 : Nat} {v1 : Int32} {Mf : mM} (h : fX6_winterOf M v0 v1 = some Mf) : EvC mX6_winterOf E 2 0 0 [.ref v0, .int v1] M none Mf := by
  unfold fX6_winterOf at h
  replace h := (gsome h).2
  refine EvC.of [some (.ref v0), some (.int v1), none] pnX6_winterOf rfl (Nat.le_of_ble_eq_true rfl) ?_
  refine Ev_aload_n (x := v0) rfl dX6_winterOf_0 ?_
  obtain ⟨a1, g1, h⟩ := bsome h
  refine Ev_getR flX6_11 dX6_winterOf_1 g1 ?_
  refine Ev_iload_n (x := v1) rfl dX6_winterOf_4 ?_
  obtain ⟨a2, g2, h⟩ := bsome h
  refine Ev_aald dX6_winterOf_5 g2 ?_
  refine Ev_astore_n (loc2 := [some (.ref v0), some (.int v1), some (.ref a2)]) (Nat.le_of_ble_eq_true rfl) rfl rfl dX6_winterOf_6 ?_
  refine Ev_aload_n (x := a2) rfl dX6_winterOf_7 ?_
  obtain ⟨x3, g3, h⟩ := bsome h
  refine Ev_getI flX6_32 dX6_winterOf_8 g3 ?_
  refine Ev_iconst ic_3 dX6_winterOf_11 ?_
  refine Ev_icmp_ne (tgt := 23) dX6_winterOf_12 (by decide) (fun q4 => ?_) (fun q4 => ?_)
  · rw [if_neg q4] at h
    refine Ev_aload_n (x := a2) rfl dX6_winterOf_23 ?_
    obtain ⟨x5, g5, h⟩ := bsome h
    refine Ev_getI flX6_32 dX6_winterOf_24 g5 ?_
    refine Ev_if_eq (tgt := 38) dX6_winterOf_27 (by decide) (fun q6 => ?_) (fun q6 => ?_)
    · rw [if_pos q6] at h
      refine Ev_aload_n (x := v0) rfl dX6_winterOf_38 ?_
      refine Ev_aload_n (x := a2) rfl dX6_winterOf_39 ?_
      obtain ⟨x7, g7, h⟩ := bsome h
      refine Ev_getI flX6_29 dX6_winterOf_40 g7 ?_
      obtain ⟨x9, g8, h⟩ := bsome h
      refine Ev_callVi (np := 1) (vs := [.int x7]) (rest := []) mdX6_countIn lkX6_77 ⟨_, rfl, rfl⟩ (oX6_countIn g8) (rX6_countIn g8) rfl rfl (Nat.le_of_ble_eq_true rfl) (Nat.le_of_ble_eq_true rfl) dX6_winterOf_43 ?_
      refine Ev_iconst ic_3 dX6_winterOf_46 ?_
      refine Ev_icmp_lt (tgt := 72) dX6_winterOf_47 (by decide) (fun q10 => ?_) (fun q10 => ?_)
      · rw [if_pos q10] at h
        cases h
        exact Ev_vret rfl dX6_winterOf_72 ⟨rfl, rfl⟩
      · rw [if_neg q10] at h
        refine Ev_aload_n (x := a2) rfl dX6_winterOf_50 ?_
        obtain ⟨a11, g11, h⟩ := bsome h
        refine Ev_getR flX6_35 dX6_winterOf_51 g11 ?_
        obtain ⟨M13, g12, h⟩ := bsome h
        refine Ev_callVv (np := 0) (vs := []) (rest := []) mdX2_loseLast lkX6_80 ⟨_, rfl, rfl⟩ (oX2_loseLast g12) (rX2_loseLast g12) rfl rfl (Nat.le_of_ble_eq_true rfl) (Nat.le_of_ble_eq_true rfl) dX6_winterOf_54 ?_
        refine Ev_aload_n (x := a2) rfl dX6_winterOf_57 ?_
        obtain ⟨x14, g14, h⟩ := bsome h
        refine Ev_getI flX6_32 dX6_winterOf_58 g14 ?_
        refine Ev_iconst ic_1 dX6_winterOf_61 ?_
        refine Ev_icmp_ne (tgt := 72) dX6_winterOf_62 (by decide) (fun q15 => ?_) (fun q15 => ?_)
        · rw [if_neg q15] at h
          cases h
          exact Ev_vret rfl dX6_winterOf_72 ⟨rfl, rfl⟩
        · rw [if_pos q15] at h
          refine Ev_aload_n (x := a2) rfl dX6_winterOf_65 ?_
          obtain ⟨a16, g16, h⟩ := bsome h
          refine Ev_getR flX6_35 dX6_winterOf_66 g16 ?_
          obtain ⟨M18, g17, h⟩ := bsome h
          refine Ev_callVv (np := 0) (vs := []) (rest := []) mdX2_loseFirst lkX6_83 ⟨_, rfl, rfl⟩ (oX2_loseFirst g17) (rX2_loseFirst g17) rfl rfl (Nat.le_of_ble_eq_true rfl) (Nat.le_of_ble_eq_true rfl) dX6_winterOf_69 ?_
          cases h
          exact Ev_vret rfl dX6_winterOf_72 ⟨rfl, rfl⟩
    · rw [if_neg q6] at h
      refine Ev_aload_n (x := a2) rfl dX6_winterOf_30 ?_
      obtain ⟨x19, g19, h⟩ := bsome h
      refine Ev_getI flX6_32 dX6_winterOf_31 g19 ?_
      refine Ev_iconst ic_1 dX6_winterOf_34 ?_
      refine Ev_icmp_ne (tgt := 72) dX6_winterOf_35 (by decide) (fun q20 => ?_) (fun q20 => ?_)
      · rw [if_neg q20] at h
        cases h
        exact Ev_vret rfl dX6_winterOf_72 ⟨rfl, rfl⟩
      · rw [if_pos q20] at h
        refine Ev_aload_n (x := v0) rfl dX6_winterOf_38 ?_
        refine Ev_aload_n (x := a2) rfl dX6_winterOf_39 ?_
        obtain ⟨x21, g21, h⟩ := bsome h
        refine Ev_getI flX6_29 dX6_winterOf_40 g21 ?_
        obtain ⟨x23, g22, h⟩ := bsome h
        refine Ev_callVi (np := 1) (vs := [.int x21]) (rest := []) mdX6_countIn lkX6_77 ⟨_, rfl, rfl⟩ (oX6_countIn g22) (rX6_countIn g22) rfl rfl (Nat.le_of_ble_eq_true rfl) (Nat.le_of_ble_eq_true rfl) dX6_winterOf_43 ?_
        refine Ev_iconst ic_3 dX6_winterOf_46 ?_
        refine Ev_icmp_lt (tgt := 72) dX6_winterOf_47 (by decide) (fun q24 => ?_) (fun q24 => ?_)
        · rw [if_pos q24] at h
          cases h
          exact Ev_vret rfl dX6_winterOf_72 ⟨rfl, rfl⟩
        · rw [if_neg q24] at h
          refine Ev_aload_n (x := a2) rfl dX6_winterOf_50 ?_
          obtain ⟨a25, g25, h⟩ := bsome h
          refine Ev_getR flX6_35 dX6_winterOf_51 g25 ?_
          obtain ⟨M27, g26, h⟩ := bsome h
          refine Ev_callVv (np := 0) (vs := []) (rest := []) mdX2_loseLast lkX6_80 ⟨_, rfl, rfl⟩ (oX2_loseLast g26) (rX2_loseLast g26) rfl rfl (Nat.le_of_ble_eq_true rfl) (Nat.le_of_ble_eq_true rfl) dX6_winterOf_54 ?_
          refine Ev_aload_n (x := a2) rfl dX6_winterOf_57 ?_
          obtain ⟨x28, g28, h⟩ := bsome h
          refine Ev_getI flX6_32 dX6_winterOf_58 g28 ?_
          refine Ev_iconst ic_1 dX6_winterOf_61 ?_
          refine Ev_icmp_ne (tgt := 72) dX6_winterOf_62 (by decide) (fun q29 => ?_) (fun q29 => ?_)
          · rw [if_neg q29] at h
            cases h
            exact Ev_vret rfl dX6_winterOf_72 ⟨rfl, rfl⟩
          · rw [if_pos q29] at h
            refine Ev_aload_n (x := a2) rfl dX6_winterOf_65 ?_
            obtain ⟨a30, g30, h⟩ := bsome h
            refine Ev_getR flX6_35 dX6_winterOf_66 g30 ?_
            obtain ⟨M32, g31, h⟩ := bsome h
            refine Ev_callVv (np := 0) (vs := []) (rest := []) mdX2_loseFirst lkX6_83 ⟨_, rfl, rfl⟩ (oX2_loseFirst g31) (rX2_loseFirst g31) rfl rfl (Nat.le_of_ble_eq_true rfl) (Nat.le_of_ble_eq_true rfl) dX6_winterOf_69 ?_
            cases h
            exact Ev_vret rfl dX6_winterOf_72 ⟨rfl, rfl⟩
  · rw [if_pos q4] at h
    refine Ev_aload_n (x := v0) rfl dX6_winterOf_15 ?_
    refine Ev_iload_n (x := v1) rfl dX6_winterOf_16 ?_
    obtain ⟨M34, g33, h⟩ := bsome h
    refine Ev_callVv (np := 1) (vs := [.int v1]) (rest := []) mdX6_floodFrom lkX6_74 ⟨_, rfl, rfl⟩ (oX6_floodFrom g33) (rX6_floodFrom g33) rfl rfl (Nat.le_of_ble_eq_true rfl) (Nat.le_of_ble_eq_true rfl) dX6_winterOf_17 ?_
    refine Ev_goto (tgt := 72) dX6_winterOf_20 (by decide) ?_
    cases h
    exact Ev_vret rfl dX6_winterOf_72 ⟨rfl, rfl⟩
/-! TinselRiver$Valley.passWinter()I -/
def fX6_passWinter_c10 : Nat → mM → Nat → Int32 → Int32 → Option (Int32 × mM)
  | 0, _, _, _, _ => none
  | n + 1, M, v0, v1, v2 =>
    (gI M v0 6 1).bind fun x1 =>
    if x1 ≤ v2 then
      ((gI M v0 6 2).bind fun x3 =>
      (sV M v0 6 2 (.int (x3 + 1))).bind fun M4 =>
      (fX6_whoIsThere M4 v0).bind fun x6 =>
      (fJ6_bitCount_0f7a4 M4 x6).bind fun x8 =>
      some ((v1 - x8), M4))
    else
      ((fX6_has M v0 v2).bind fun x10 =>
      if x10 = 0 then
        (fX6_passWinter_c10 n M v0 v1 (v2 + 1))
      else
        ((fX6_winterOf M v0 v2).bind fun M13 =>
        fX6_passWinter_c10 n M13 v0 v1 (v2 + 1)))
set_option maxRecDepth 20000 in
set_option maxHeartbeats 4000000 in
theorem rX6_passWinter_c10 {E : mE} {x : Int32} {Mf : mM} : ∀ (n : Nat) (M : mM) (v0 : Nat) (v1 : Int32) (v2 : Int32), fX6_passWinter_c10 n M v0 v1 v2 = some (x, Mf) → Ev mX6_passWinter E 3 0 0 (some (.int x)) Mf 10 [some (.ref v0), some (.int v1), some (.int v2)] [] M 0 0 := by
  intro n
  induction n with
  | zero => intro M v0 v1 v2 h; rw [fX6_passWinter_c10.eq_1] at h; cases h
  | succ n ih =>
    intro M v0 v1 v2 h
    rw [fX6_passWinter_c10.eq_2] at h
    refine Ev_iload_n (x := v2) rfl dX6_passWinter_10 ?_
    refine Ev_aload_n (x := v0) rfl dX6_passWinter_11 ?_
    obtain ⟨x1, g1, h⟩ := bsome h
    refine Ev_getI flX6_18 dX6_passWinter_12 g1 ?_
    refine Ev_icmp_ge (tgt := 37) dX6_passWinter_15 (by decide) (fun q2 => ?_) (fun q2 => ?_)
    · rw [if_pos q2] at h
      refine Ev_aload_n (x := v0) rfl dX6_passWinter_37 ?_
      refine Ev_dup rfl dX6_passWinter_38 ?_
      obtain ⟨x3, g3, h⟩ := bsome h
      refine Ev_getI flX6_22 dX6_passWinter_39 g3 ?_
      refine Ev_iconst ic_1 dX6_passWinter_42 ?_
      refine Ev_iadd dX6_passWinter_43 ?_
      obtain ⟨M4, g4, h⟩ := bsome h
      refine Ev_put (v := .int (x3 + 1)) flX6_22 ⟨rfl, rfl⟩ (fun q hq => by cases hq; exact Or.inl rfl) dX6_passWinter_44 g4 ?_
      refine Ev_iload_n (x := v1) rfl dX6_passWinter_47 ?_
      refine Ev_aload_n (x := v0) rfl dX6_passWinter_48 ?_
      obtain ⟨x6, g5, h⟩ := bsome h
      refine Ev_callVi (np := 0) (vs := []) (rest := [.int v1]) mdX6_whoIsThere lkX6_61 ⟨_, rfl, rfl⟩ (oX6_whoIsThere g5) (rX6_whoIsThere g5) rfl rfl (Nat.le_of_ble_eq_true rfl) (Nat.le_of_ble_eq_true rfl) dX6_passWinter_49 ?_
      obtain ⟨x8, g7, h⟩ := bsome h
      refine Ev_callSi (np := 1) (vs := [.int x6]) (rest := [.int v1]) mdJ6_bitCount_0f7a4 lkX6_65 (rJ6_bitCount_0f7a4 g7) rfl rfl (Nat.le_of_ble_eq_true rfl) (Nat.le_of_ble_eq_true rfl) dX6_passWinter_52 ?_
      refine Ev_isub dX6_passWinter_55 ?_
      cases h
      exact Ev_iret rfl rfl dX6_passWinter_56 ⟨rfl, rfl⟩
    · rw [if_neg q2] at h
      refine Ev_aload_n (x := v0) rfl dX6_passWinter_18 ?_
      refine Ev_iload_n (x := v2) rfl dX6_passWinter_19 ?_
      obtain ⟨x10, g9, h⟩ := bsome h
      refine Ev_callVi (np := 1) (vs := [.int v2]) (rest := []) mdX6_has lkX6_51 ⟨_, rfl, rfl⟩ (oX6_has g9) (rX6_has g9) rfl rfl (Nat.le_of_ble_eq_true rfl) (Nat.le_of_ble_eq_true rfl) dX6_passWinter_20 ?_
      refine Ev_if_eq (tgt := 31) dX6_passWinter_23 (by decide) (fun q11 => ?_) (fun q11 => ?_)
      · rw [if_pos q11] at h
        refine Ev_iinc (x := v2) (v := (v2 + 1)) (loc2 := [some (.ref v0), some (.int v1), some (.int (v2 + 1))]) rfl (congrArg (v2 + ·) ic_1) (Nat.le_of_ble_eq_true rfl) rfl rfl dX6_passWinter_31 ?_
        refine Ev_goto (tgt := 10) dX6_passWinter_34 (by decide) ?_
        exact ih M v0 v1 (v2 + 1) h
      · rw [if_neg q11] at h
        refine Ev_aload_n (x := v0) rfl dX6_passWinter_26 ?_
        refine Ev_iload_n (x := v2) rfl dX6_passWinter_27 ?_
        obtain ⟨M13, g12, h⟩ := bsome h
        refine Ev_callVv (np := 1) (vs := [.int v2]) (rest := []) mdX6_winterOf lkX6_71 ⟨_, rfl, rfl⟩ (oX6_winterOf g12) (rX6_winterOf g12) rfl rfl (Nat.le_of_ble_eq_true rfl) (Nat.le_of_ble_eq_true rfl) dX6_passWinter_28 ?_
        refine Ev_iinc (x := v2) (v := (v2 + 1)) (loc2 := [some (.ref v0), some (.int v1), some (.int (v2 + 1))]) rfl (congrArg (v2 + ·) ic_1) (Nat.le_of_ble_eq_true rfl) rfl rfl dX6_passWinter_31 ?_
        refine Ev_goto (tgt := 10) dX6_passWinter_34 (by decide) ?_
        exact ih M13 v0 v1 (v2 + 1) h
def fX6_passWinter (M : mM) (v0 : Nat) : Option (Int32 × mM) :=
    if isO M v0 6 = true then
      (fX6_whoIsThere M v0).bind fun x2 =>
      (fJ6_bitCount_0f7a4 M x2).bind fun x4 =>
      fX6_passWinter_c10 FUEL M v0 x4 0
    else none
theorem oX6_passWinter {M : mM} {v0 : Nat} {y : (Int32 × mM)} (h : fX6_passWinter M v0 = some y) : isO M v0 6 = true := by
  unfold fX6_passWinter at h
  exact (gsome h).1
set_option maxRecDepth 20000 in
set_option maxHeartbeats 4000000 in
theorem rX6_passWinter {E : mE} {M : mM} {v0 : Nat} {x : Int32} {Mf : mM} (h : fX6_passWinter M v0 = some (x, Mf)) : EvC mX6_passWinter E 3 0 0 [.ref v0] M (some (.int x)) Mf := by
  unfold fX6_passWinter at h
  replace h := (gsome h).2
  refine EvC.of [some (.ref v0), none, none] pnX6_passWinter rfl (Nat.le_of_ble_eq_true rfl) ?_
  refine Ev_aload_n (x := v0) rfl dX6_passWinter_0 ?_
  obtain ⟨x2, g1, h⟩ := bsome h
  refine Ev_callVi (np := 0) (vs := []) (rest := []) mdX6_whoIsThere lkX6_61 ⟨_, rfl, rfl⟩ (oX6_whoIsThere g1) (rX6_whoIsThere g1) rfl rfl (Nat.le_of_ble_eq_true rfl) (Nat.le_of_ble_eq_true rfl) dX6_passWinter_1 ?_
  obtain ⟨x4, g3, h⟩ := bsome h
  refine Ev_callSi (np := 1) (vs := [.int x2]) (rest := []) mdJ6_bitCount_0f7a4 lkX6_65 (rJ6_bitCount_0f7a4 g3) rfl rfl (Nat.le_of_ble_eq_true rfl) (Nat.le_of_ble_eq_true rfl) dX6_passWinter_4 ?_
  refine Ev_istore_n (loc2 := [some (.ref v0), some (.int x4), none]) (Nat.le_of_ble_eq_true rfl) rfl rfl dX6_passWinter_7 ?_
  refine Ev_iconst ic_0 dX6_passWinter_8 ?_
  refine Ev_istore_n (loc2 := [some (.ref v0), some (.int x4), some (.int 0)]) (Nat.le_of_ble_eq_true rfl) rfl rfl dX6_passWinter_9 ?_
  exact rX6_passWinter_c10 FUEL M v0 x4 0 h
/-! TinselRiver$Valley.hangIn(II)I -/
def fX6_hangIn (M : mM) (v0 : Nat) (v1 : Int32) (v2 : Int32) : Option (Int32 × mM) :=
    if isO M v0 6 = true then
      (fX6_has M v0 v1).bind fun x2 =>
      if x2 = 0 then
        (some ((-1), M))
      else
        (if v2 < 0 then
          (some ((-1), M))
        else
          (if v2 < 4 then
            ((gR M v0 6 0).bind fun a6 =>
            (qI M false a6 v1).bind fun a7 =>
            (gI M a7 4 1).bind fun x8 =>
            if x8 = v2 then
              (some ((-3), M))
            else
              ((gR M v0 6 0).bind fun a10 =>
              (qI M false a10 v1).bind fun a11 =>
              (sV M a11 4 1 (.int v2)).bind fun M12 =>
              (fX6_countIn M12 v0 v2).bind fun x14 =>
              some (x14, M12)))
          else
            (some ((-1), M))))
    else none
theorem oX6_hangIn {M : mM} {v0 : Nat} {v1 : Int32} {v2 : Int32} {y : (Int32 × mM)} (h : fX6_hangIn M v0 v1 v2 = some y) : isO M v0 6 = true := by
  unfold fX6_hangIn at h
  exact (gsome h).1
set_option maxRecDepth 20000 in
set_option maxHeartbeats 4000000 in
theorem rX6_hangIn {E : mE} {M : mM} {v0 : Nat} {v1 : Int32} {v2 : Int32} {x : Int32} {Mf : mM} (h : fX6_hangIn M v0 v1 v2 = some (x, Mf)) : EvC mX6_hangIn E 2 0 0 [.ref v0, .int v1, .int v2] M (some (.int x)) Mf := by
  unfold fX6_hangIn at h
  replace h := (gsome h).2
  refine EvC.of [some (.ref v0), some (.int v1), some (.int v2)] pnX6_hangIn rfl (Nat.le_of_ble_eq_true rfl) ?_
  refine Ev_aload_n (x := v0) rfl dX6_hangIn_0 ?_
  refine Ev_iload_n (x := v1) rfl dX6_hangIn_1 ?_
  obtain ⟨x2, g1, h⟩ := bsome h
  refine Ev_callVi (np := 1) (vs := [.int v1]) (rest := []) mdX6_has lkX6_51 ⟨_, rfl, rfl⟩ (oX6_has g1) (rX6_has g1) rfl rfl (Nat.le_of_ble_eq_true rfl) (Nat.le_of_ble_eq_true rfl) dX6_hangIn_2 ?_
  refine Ev_if_eq (tgt := 17) dX6_hangIn_5 (by decide) (fun q3 => ?_) (fun q3 => ?_)
  · rw [if_pos q3] at h
    refine Ev_iconst ic_m1 dX6_hangIn_17 ?_
    cases h
    exact Ev_iret rfl rfl dX6_hangIn_18 ⟨rfl, rfl⟩
  · rw [if_neg q3] at h
    refine Ev_iload_n (x := v2) rfl dX6_hangIn_8 ?_
    refine Ev_if_lt (tgt := 17) dX6_hangIn_9 (by decide) (fun q4 => ?_) (fun q4 => ?_)
    · rw [if_pos q4] at h
      refine Ev_iconst ic_m1 dX6_hangIn_17 ?_
      cases h
      exact Ev_iret rfl rfl dX6_hangIn_18 ⟨rfl, rfl⟩
    · rw [if_neg q4] at h
      refine Ev_iload_n (x := v2) rfl dX6_hangIn_12 ?_
      refine Ev_iconst ic_4 dX6_hangIn_13 ?_
      refine Ev_icmp_lt (tgt := 19) dX6_hangIn_14 (by decide) (fun q5 => ?_) (fun q5 => ?_)
      · rw [if_pos q5] at h
        refine Ev_aload_n (x := v0) rfl dX6_hangIn_19 ?_
        obtain ⟨a6, g6, h⟩ := bsome h
        refine Ev_getR flX6_11 dX6_hangIn_20 g6 ?_
        refine Ev_iload_n (x := v1) rfl dX6_hangIn_23 ?_
        obtain ⟨a7, g7, h⟩ := bsome h
        refine Ev_aald dX6_hangIn_24 g7 ?_
        obtain ⟨x8, g8, h⟩ := bsome h
        refine Ev_getI flX6_29 dX6_hangIn_25 g8 ?_
        refine Ev_iload_n (x := v2) rfl dX6_hangIn_28 ?_
        refine Ev_icmp_ne (tgt := 35) dX6_hangIn_29 (by decide) (fun q9 => ?_) (fun q9 => ?_)
        · rw [if_neg q9] at h
          refine Ev_aload_n (x := v0) rfl dX6_hangIn_35 ?_
          obtain ⟨a10, g10, h⟩ := bsome h
          refine Ev_getR flX6_11 dX6_hangIn_36 g10 ?_
          refine Ev_iload_n (x := v1) rfl dX6_hangIn_39 ?_
          obtain ⟨a11, g11, h⟩ := bsome h
          refine Ev_aald dX6_hangIn_40 g11 ?_
          refine Ev_iload_n (x := v2) rfl dX6_hangIn_41 ?_
          obtain ⟨M12, g12, h⟩ := bsome h
          refine Ev_put (v := .int v2) flX6_29 ⟨rfl, rfl⟩ (fun q hq => by cases hq; exact Or.inl rfl) dX6_hangIn_42 g12 ?_
          refine Ev_aload_n (x := v0) rfl dX6_hangIn_45 ?_
          refine Ev_iload_n (x := v2) rfl dX6_hangIn_46 ?_
          obtain ⟨x14, g13, h⟩ := bsome h
          refine Ev_callVi (np := 1) (vs := [.int v2]) (rest := []) mdX6_countIn lkX6_77 ⟨_, rfl, rfl⟩ (oX6_countIn g13) (rX6_countIn g13) rfl rfl (Nat.le_of_ble_eq_true rfl) (Nat.le_of_ble_eq_true rfl) dX6_hangIn_47 ?_
          cases h
          exact Ev_iret rfl rfl dX6_hangIn_50 ⟨rfl, rfl⟩
        · rw [if_pos q9] at h
          refine Ev_bipush bp_m3 dX6_hangIn_32 ?_
          cases h
          exact Ev_iret rfl rfl dX6_hangIn_34 ⟨rfl, rfl⟩
      · rw [if_neg q5] at h
        refine Ev_iconst ic_m1 dX6_hangIn_17 ?_
        cases h
        exact Ev_iret rfl rfl dX6_hangIn_18 ⟨rfl, rfl⟩
/-! TinselRiver$Valley.turnAbout(I)I -/
def fX6_turnAbout (M : mM) (v0 : Nat) (v1 : Int32) : Option (Int32 × mM) :=
    if isO M v0 6 = true then
      (fX6_has M v0 v1).bind fun x2 =>
      if x2 = 0 then
        (some ((-1), M))
      else
        ((gR M v0 6 0).bind fun a4 =>
        (qI M false a4 v1).bind fun a5 =>
        (gR M a5 4 0).bind fun a6 =>
        (fX2_reverse M a6).bind fun M8 =>
        (gR M8 v0 6 0).bind fun a9 =>
        (qI M8 false a9 v1).bind fun a10 =>
        (gR M8 a10 4 0).bind fun a11 =>
        (gR M8 a11 2 0).bind fun a12 =>
        (aI M8 false a12 0).bind fun x13 =>
        some (x13, M8))
    else none
theorem oX6_turnAbout {M : mM} {v0 : Nat} {v1 : Int32} {y : (Int32 × mM)} (h : fX6_turnAbout M v0 v1 = some y) : isO M v0 6 = true := by
  unfold fX6_turnAbout at h
  exact (gsome h).1
set_option maxRecDepth 20000 in
set_option maxHeartbeats 4000000 in
theorem rX6_turnAbout {E : mE} {M : mM} {v0 : Nat} {v1 : Int32} {x : Int32} {Mf : mM} (h : fX6_turnAbout M v0 v1 = some (x, Mf)) : EvC mX6_turnAbout E 1 0 0 [.ref v0, .int v1] M (some (.int x)) Mf := by
  unfold fX6_turnAbout at h
  replace h := (gsome h).2
  refine EvC.of [some (.ref v0), some (.int v1)] pnX6_turnAbout rfl (Nat.le_of_ble_eq_true rfl) ?_
  refine Ev_aload_n (x := v0) rfl dX6_turnAbout_0 ?_
  refine Ev_iload_n (x := v1) rfl dX6_turnAbout_1 ?_
  obtain ⟨x2, g1, h⟩ := bsome h
  refine Ev_callVi (np := 1) (vs := [.int v1]) (rest := []) mdX6_has lkX6_51 ⟨_, rfl, rfl⟩ (oX6_has g1) (rX6_has g1) rfl rfl (Nat.le_of_ble_eq_true rfl) (Nat.le_of_ble_eq_true rfl) dX6_turnAbout_2 ?_
  refine Ev_if_ne (tgt := 10) dX6_turnAbout_5 (by decide) (fun q3 => ?_) (fun q3 => ?_)
  · rw [if_neg q3] at h
    refine Ev_aload_n (x := v0) rfl dX6_turnAbout_10 ?_
    obtain ⟨a4, g4, h⟩ := bsome h
    refine Ev_getR flX6_11 dX6_turnAbout_11 g4 ?_
    refine Ev_iload_n (x := v1) rfl dX6_turnAbout_14 ?_
    obtain ⟨a5, g5, h⟩ := bsome h
    refine Ev_aald dX6_turnAbout_15 g5 ?_
    obtain ⟨a6, g6, h⟩ := bsome h
    refine Ev_getR flX6_35 dX6_turnAbout_16 g6 ?_
    obtain ⟨M8, g7, h⟩ := bsome h
    refine Ev_callVv (np := 0) (vs := []) (rest := []) mdX2_reverse lkX6_86 ⟨_, rfl, rfl⟩ (oX2_reverse g7) (rX2_reverse g7) rfl rfl (Nat.le_of_ble_eq_true rfl) (Nat.le_of_ble_eq_true rfl) dX6_turnAbout_19 ?_
    refine Ev_aload_n (x := v0) rfl dX6_turnAbout_22 ?_
    obtain ⟨a9, g9, h⟩ := bsome h
    refine Ev_getR flX6_11 dX6_turnAbout_23 g9 ?_
    refine Ev_iload_n (x := v1) rfl dX6_turnAbout_26 ?_
    obtain ⟨a10, g10, h⟩ := bsome h
    refine Ev_aald dX6_turnAbout_27 g10 ?_
    obtain ⟨a11, g11, h⟩ := bsome h
    refine Ev_getR flX6_35 dX6_turnAbout_28 g11 ?_
    obtain ⟨a12, g12, h⟩ := bsome h
    refine Ev_getR flX6_89 dX6_turnAbout_31 g12 ?_
    refine Ev_iconst ic_0 dX6_turnAbout_34 ?_
    obtain ⟨x13, g13, h⟩ := bsome h
    refine Ev_iald dX6_turnAbout_35 g13 ?_
    cases h
    exact Ev_iret rfl rfl dX6_turnAbout_36 ⟨rfl, rfl⟩
  · rw [if_pos q3] at h
    refine Ev_iconst ic_m1 dX6_turnAbout_8 ?_
    cases h
    exact Ev_iret rfl rfl dX6_turnAbout_9 ⟨rfl, rfl⟩
/-! TinselRiver$Valley.snipEnd(I)I -/
def fX6_snipEnd (M : mM) (v0 : Nat) (v1 : Int32) : Option (Int32 × mM) :=
    if isO M v0 6 = true then
      (fX6_has M v0 v1).bind fun x2 =>
      if x2 = 0 then
        (some ((-1), M))
      else
        ((gR M v0 6 0).bind fun a4 =>
        (qI M false a4 v1).bind fun a5 =>
        (gR M a5 4 0).bind fun a6 =>
        (gI M a6 2 1).bind fun x7 =>
        if 2 ≤ x7 then
          ((fX2_loseLast M a6).bind fun M10 =>
          (gR M10 a6 2 0).bind fun a11 =>
          (gI M10 a6 2 1).bind fun x12 =>
          (aI M10 false a11 x12).bind fun x13 =>
          some (x13, M10))
        else
          (some ((-3), M)))
    else none
theorem oX6_snipEnd {M : mM} {v0 : Nat} {v1 : Int32} {y : (Int32 × mM)} (h : fX6_snipEnd M v0 v1 = some y) : isO M v0 6 = true := by
  unfold fX6_snipEnd at h
  exact (gsome h).1
set_option maxRecDepth 20000 in
set_option maxHeartbeats 4000000 in
theorem rX6_snipEnd {E : mE} {M : mM} {v0 : Nat} {v1 : Int32} {x : Int32} {Mf : mM} (h : fX6_snipEnd M v0 v1 = some (x, Mf)) : EvC mX6_snipEnd E 1 0 0 [.ref v0, .int v1] M (some (.int x)) Mf := by
  unfold fX6_snipEnd at h
  replace h := (gsome h).2
  refine EvC.of [some (.ref v0), some (.int v1), none] pnX6_snipEnd rfl (Nat.le_of_ble_eq_true rfl) ?_
  refine Ev_aload_n (x := v0) rfl dX6_snipEnd_0 ?_
  refine Ev_iload_n (x := v1) rfl dX6_snipEnd_1 ?_
  obtain ⟨x2, g1, h⟩ := bsome h
  refine Ev_callVi (np := 1) (vs := [.int v1]) (rest := []) mdX6_has lkX6_51 ⟨_, rfl, rfl⟩ (oX6_has g1) (rX6_has g1) rfl rfl (Nat.le_of_ble_eq_true rfl) (Nat.le_of_ble_eq_true rfl) dX6_snipEnd_2 ?_
  refine Ev_if_ne (tgt := 10) dX6_snipEnd_5 (by decide) (fun q3 => ?_) (fun q3 => ?_)
  · rw [if_neg q3] at h
    refine Ev_aload_n (x := v0) rfl dX6_snipEnd_10 ?_
    obtain ⟨a4, g4, h⟩ := bsome h
    refine Ev_getR flX6_11 dX6_snipEnd_11 g4 ?_
    refine Ev_iload_n (x := v1) rfl dX6_snipEnd_14 ?_
    obtain ⟨a5, g5, h⟩ := bsome h
    refine Ev_aald dX6_snipEnd_15 g5 ?_
    obtain ⟨a6, g6, h⟩ := bsome h
    refine Ev_getR flX6_35 dX6_snipEnd_16 g6 ?_
    refine Ev_astore_n (loc2 := [some (.ref v0), some (.int v1), some (.ref a6)]) (Nat.le_of_ble_eq_true rfl) rfl rfl dX6_snipEnd_19 ?_
    refine Ev_aload_n (x := a6) rfl dX6_snipEnd_20 ?_
    obtain ⟨x7, g7, h⟩ := bsome h
    refine Ev_getI flX6_48 dX6_snipEnd_21 g7 ?_
    refine Ev_iconst ic_2 dX6_snipEnd_24 ?_
    refine Ev_icmp_ge (tgt := 31) dX6_snipEnd_25 (by decide) (fun q8 => ?_) (fun q8 => ?_)
    · rw [if_pos q8] at h
      refine Ev_aload_n (x := a6) rfl dX6_snipEnd_31 ?_
      obtain ⟨M10, g9, h⟩ := bsome h
      refine Ev_callVv (np := 0) (vs := []) (rest := []) mdX2_loseLast lkX6_80 ⟨_, rfl, rfl⟩ (oX2_loseLast g9) (rX2_loseLast g9) rfl rfl (Nat.le_of_ble_eq_true rfl) (Nat.le_of_ble_eq_true rfl) dX6_snipEnd_32 ?_
      refine Ev_aload_n (x := a6) rfl dX6_snipEnd_35 ?_
      obtain ⟨a11, g11, h⟩ := bsome h
      refine Ev_getR flX6_89 dX6_snipEnd_36 g11 ?_
      refine Ev_aload_n (x := a6) rfl dX6_snipEnd_39 ?_
      obtain ⟨x12, g12, h⟩ := bsome h
      refine Ev_getI flX6_48 dX6_snipEnd_40 g12 ?_
      obtain ⟨x13, g13, h⟩ := bsome h
      refine Ev_iald dX6_snipEnd_43 g13 ?_
      cases h
      exact Ev_iret rfl rfl dX6_snipEnd_44 ⟨rfl, rfl⟩
    · rw [if_neg q8] at h
      refine Ev_bipush bp_m3 dX6_snipEnd_28 ?_
      cases h
      exact Ev_iret rfl rfl dX6_snipEnd_30 ⟨rfl, rfl⟩
  · rw [if_pos q3] at h
    refine Ev_iconst ic_m1 dX6_snipEnd_8 ?_
    cases h
    exact Ev_iret rfl rfl dX6_snipEnd_9 ⟨rfl, rfl⟩
/-! TinselRiver$Valley.joinTo(II)I -/
def fX6_joinTo (M : mM) (v0 : Nat) (v1 : Int32) (v2 : Int32) : Option (Int32 × mM) :=
    if isO M v0 6 = true then
      (fX6_has M v0 v1).bind fun x2 =>
      if x2 = 0 then
        (some ((-1), M))
      else
        ((fX6_has M v0 v2).bind fun x5 =>
        if x5 = 0 then
          (some ((-1), M))
        else
          (if v1 = v2 then
            (some ((-2), M))
          else
            ((gR M v0 6 0).bind fun a8 =>
            (qI M false a8 v1).bind fun a9 =>
            (gI M a9 4 1).bind fun x10 =>
            (gR M v0 6 0).bind fun a11 =>
            (qI M false a11 v2).bind fun a12 =>
            (gI M a12 4 1).bind fun x13 =>
            if x10 = x13 then
              ((gR M v0 6 0).bind fun a15 =>
              (qI M false a15 v1).bind fun a16 =>
              (gR M a16 4 0).bind fun a17 =>
              (gR M v0 6 0).bind fun a18 =>
              (qI M false a18 v2).bind fun a19 =>
              (gR M a19 4 0).bind fun a20 =>
              (gI M a17 2 1).bind fun x21 =>
              (gI M a20 2 1).bind fun x22 =>
              (fX2_overlapWith M a17 a20).bind fun x24 =>
              if ((x21 + x22) - x24) ≤ 12 then
                ((fX2_addBehind M a17 a20).bind fun M27 =>
                (fX2_clear M27 a20).bind fun M29 =>
                (gI M29 a17 2 1).bind fun x30 =>
                some (x30, M29))
              else
                (some ((-4), M)))
            else
              (some ((-3), M)))))
    else none
theorem oX6_joinTo {M : mM} {v0 : Nat} {v1 : Int32} {v2 : Int32} {y : (Int32 × mM)} (h : fX6_joinTo M v0 v1 v2 = some y) : isO M v0 6 = true := by
  unfold fX6_joinTo at h
  exact (gsome h).1
set_option maxRecDepth 20000 in
set_option maxHeartbeats 4000000 in
theorem rX6_joinTo {E : mE} {M : mM} {v0 : Nat} {v1 : Int32} {v2 : Int32} {x : Int32} {Mf : mM} (h : fX6_joinTo M v0 v1 v2 = some (x, Mf)) : EvC mX6_joinTo E 3 0 0 [.ref v0, .int v1, .int v2] M (some (.int x)) Mf := by
  unfold fX6_joinTo at h
  replace h := (gsome h).2
  refine EvC.of [some (.ref v0), some (.int v1), some (.int v2), none, none] pnX6_joinTo rfl (Nat.le_of_ble_eq_true rfl) ?_
  refine Ev_aload_n (x := v0) rfl dX6_joinTo_0 ?_
  refine Ev_iload_n (x := v1) rfl dX6_joinTo_1 ?_
  obtain ⟨x2, g1, h⟩ := bsome h
  refine Ev_callVi (np := 1) (vs := [.int v1]) (rest := []) mdX6_has lkX6_51 ⟨_, rfl, rfl⟩ (oX6_has g1) (rX6_has g1) rfl rfl (Nat.le_of_ble_eq_true rfl) (Nat.le_of_ble_eq_true rfl) dX6_joinTo_2 ?_
  refine Ev_if_eq (tgt := 16) dX6_joinTo_5 (by decide) (fun q3 => ?_) (fun q3 => ?_)
  · rw [if_pos q3] at h
    refine Ev_iconst ic_m1 dX6_joinTo_16 ?_
    cases h
    exact Ev_iret rfl rfl dX6_joinTo_17 ⟨rfl, rfl⟩
  · rw [if_neg q3] at h
    refine Ev_aload_n (x := v0) rfl dX6_joinTo_8 ?_
    refine Ev_iload_n (x := v2) rfl dX6_joinTo_9 ?_
    obtain ⟨x5, g4, h⟩ := bsome h
    refine Ev_callVi (np := 1) (vs := [.int v2]) (rest := []) mdX6_has lkX6_51 ⟨_, rfl, rfl⟩ (oX6_has g4) (rX6_has g4) rfl rfl (Nat.le_of_ble_eq_true rfl) (Nat.le_of_ble_eq_true rfl) dX6_joinTo_10 ?_
    refine Ev_if_ne (tgt := 18) dX6_joinTo_13 (by decide) (fun q6 => ?_) (fun q6 => ?_)
    · rw [if_neg q6] at h
      refine Ev_iload_n (x := v1) rfl dX6_joinTo_18 ?_
      refine Ev_iload_n (x := v2) rfl dX6_joinTo_19 ?_
      refine Ev_icmp_ne (tgt := 26) dX6_joinTo_20 (by decide) (fun q7 => ?_) (fun q7 => ?_)
      · rw [if_neg q7] at h
        refine Ev_aload_n (x := v0) rfl dX6_joinTo_26 ?_
        obtain ⟨a8, g8, h⟩ := bsome h
        refine Ev_getR flX6_11 dX6_joinTo_27 g8 ?_
        refine Ev_iload_n (x := v1) rfl dX6_joinTo_30 ?_
        obtain ⟨a9, g9, h⟩ := bsome h
        refine Ev_aald dX6_joinTo_31 g9 ?_
        obtain ⟨x10, g10, h⟩ := bsome h
        refine Ev_getI flX6_29 dX6_joinTo_32 g10 ?_
        refine Ev_aload_n (x := v0) rfl dX6_joinTo_35 ?_
        obtain ⟨a11, g11, h⟩ := bsome h
        refine Ev_getR flX6_11 dX6_joinTo_36 g11 ?_
        refine Ev_iload_n (x := v2) rfl dX6_joinTo_39 ?_
        obtain ⟨a12, g12, h⟩ := bsome h
        refine Ev_aald dX6_joinTo_40 g12 ?_
        obtain ⟨x13, g13, h⟩ := bsome h
        refine Ev_getI flX6_29 dX6_joinTo_41 g13 ?_
        refine Ev_icmp_eq (tgt := 50) dX6_joinTo_44 (by decide) (fun q14 => ?_) (fun q14 => ?_)
        · rw [if_pos q14] at h
          refine Ev_aload_n (x := v0) rfl dX6_joinTo_50 ?_
          obtain ⟨a15, g15, h⟩ := bsome h
          refine Ev_getR flX6_11 dX6_joinTo_51 g15 ?_
          refine Ev_iload_n (x := v1) rfl dX6_joinTo_54 ?_
          obtain ⟨a16, g16, h⟩ := bsome h
          refine Ev_aald dX6_joinTo_55 g16 ?_
          obtain ⟨a17, g17, h⟩ := bsome h
          refine Ev_getR flX6_35 dX6_joinTo_56 g17 ?_
          refine Ev_astore_n (loc2 := [some (.ref v0), some (.int v1), some (.int v2), some (.ref a17), none]) (Nat.le_of_ble_eq_true rfl) rfl rfl dX6_joinTo_59 ?_
          refine Ev_aload_n (x := v0) rfl dX6_joinTo_60 ?_
          obtain ⟨a18, g18, h⟩ := bsome h
          refine Ev_getR flX6_11 dX6_joinTo_61 g18 ?_
          refine Ev_iload_n (x := v2) rfl dX6_joinTo_64 ?_
          obtain ⟨a19, g19, h⟩ := bsome h
          refine Ev_aald dX6_joinTo_65 g19 ?_
          obtain ⟨a20, g20, h⟩ := bsome h
          refine Ev_getR flX6_35 dX6_joinTo_66 g20 ?_
          refine Ev_astore (loc2 := [some (.ref v0), some (.int v1), some (.int v2), some (.ref a17), some (.ref a20)]) (Nat.le_of_ble_eq_true rfl) rfl rfl dX6_joinTo_69 ?_
          refine Ev_aload_n (x := a17) rfl dX6_joinTo_71 ?_
          obtain ⟨x21, g21, h⟩ := bsome h
          refine Ev_getI flX6_48 dX6_joinTo_72 g21 ?_
          refine Ev_aload (x := a20) rfl dX6_joinTo_75 ?_
          obtain ⟨x22, g22, h⟩ := bsome h
          refine Ev_getI flX6_48 dX6_joinTo_77 g22 ?_
          refine Ev_iadd dX6_joinTo_80 ?_
          refine Ev_aload_n (x := a17) rfl dX6_joinTo_81 ?_
          refine Ev_aload (x := a20) rfl dX6_joinTo_82 ?_
          obtain ⟨x24, g23, h⟩ := bsome h
          refine Ev_callVi (np := 1) (vs := [.ref a20]) (rest := [.int (x21 + x22)]) mdX2_overlapWith lkX6_93 ⟨_, rfl, rfl⟩ (oX2_overlapWith g23) (rX2_overlapWith g23) rfl rfl (Nat.le_of_ble_eq_true rfl) (Nat.le_of_ble_eq_true rfl) dX6_joinTo_84 ?_
          refine Ev_isub dX6_joinTo_87 ?_
          refine Ev_bipush bp_12 dX6_joinTo_88 ?_
          refine Ev_icmp_le (tgt := 96) dX6_joinTo_90 (by decide) (fun q25 => ?_) (fun q25 => ?_)
          · rw [if_pos q25] at h
            refine Ev_aload_n (x := a17) rfl dX6_joinTo_96 ?_
            refine Ev_aload (x := a20) rfl dX6_joinTo_97 ?_
            obtain ⟨M27, g26, h⟩ := bsome h
            refine Ev_callVv (np := 1) (vs := [.ref a20]) (rest := []) mdX2_addBehind lkX6_97 ⟨_, rfl, rfl⟩ (oX2_addBehind g26) (rX2_addBehind g26) rfl rfl (Nat.le_of_ble_eq_true rfl) (Nat.le_of_ble_eq_true rfl) dX6_joinTo_99 ?_
            refine Ev_aload (x := a20) rfl dX6_joinTo_102 ?_
            obtain ⟨M29, g28, h⟩ := bsome h
            refine Ev_callVv (np := 0) (vs := []) (rest := []) mdX2_clear lkX6_39 ⟨_, rfl, rfl⟩ (oX2_clear g28) (rX2_clear g28) rfl rfl (Nat.le_of_ble_eq_true rfl) (Nat.le_of_ble_eq_true rfl) dX6_joinTo_104 ?_
            refine Ev_aload_n (x := a17) rfl dX6_joinTo_107 ?_
            obtain ⟨x30, g30, h⟩ := bsome h
            refine Ev_getI flX6_48 dX6_joinTo_108 g30 ?_
            cases h
            exact Ev_iret rfl rfl dX6_joinTo_111 ⟨rfl, rfl⟩
          · rw [if_neg q25] at h
            refine Ev_bipush bp_m4 dX6_joinTo_93 ?_
            cases h
            exact Ev_iret rfl rfl dX6_joinTo_95 ⟨rfl, rfl⟩
        · rw [if_neg q14] at h
          refine Ev_bipush bp_m3 dX6_joinTo_47 ?_
          cases h
          exact Ev_iret rfl rfl dX6_joinTo_49 ⟨rfl, rfl⟩
      · rw [if_pos q7] at h
        refine Ev_bipush bp_m2 dX6_joinTo_23 ?_
        cases h
        exact Ev_iret rfl rfl dX6_joinTo_25 ⟨rfl, rfl⟩
    · rw [if_pos q6] at h
      refine Ev_iconst ic_m1 dX6_joinTo_16 ?_
      cases h
      exact Ev_iret rfl rfl dX6_joinTo_17 ⟨rfl, rfl⟩
