/-! printed by wip/whole/gen.py -/
/-! TinselRiverModel.readPart(I)V -/
def fX8_readPart_c94 : Nat → mM → Nat → Int32 → Option mM
  | 0, _, _, _ => none
  | n + 1, M, v0, v2 =>
    if 6 ≤ v2 then
      ((gR M v0 8 4).bind fun a2 =>
      (gI M v0 8 6).bind fun x3 =>
      (aS M false a2 x3 v2).bind fun M4 =>
      (gI M4 v0 8 6).bind fun x5 =>
      (sV M4 v0 8 6 (.int (x5 + 1))).bind fun M6 =>
      some M6)
    else
      ((fX8_isBend M v0).bind fun x8 =>
      if x8 = 0 then
        ((gR M v0 8 4).bind fun a10 =>
        (gI M v0 8 6).bind fun x11 =>
        (aS M false a10 x11 v2).bind fun M12 =>
        (gI M12 v0 8 6).bind fun x13 =>
        (sV M12 v0 8 6 (.int (x13 + 1))).bind fun M14 =>
        some M14)
      else
        ((gR M v0 8 5).bind fun a15 =>
        (gI M v0 8 6).bind fun x16 =>
        (gR M v0 8 7).bind fun a17 =>
        (gI M v0 8 9).bind fun x18 =>
        (aI M false a17 x18).bind fun x19 =>
        (aS M false a15 ((6 * x16) + v2) (x19 - 96)).bind fun M20 =>
        (gI M20 v0 8 9).bind fun x21 =>
        (sV M20 v0 8 9 (.int (x21 + 1))).bind fun M22 =>
        fX8_readPart_c94 n M22 v0 (v2 + 1)))
set_option maxRecDepth 20000 in
set_option maxHeartbeats 4000000 in
theorem rX8_readPart_c94 {E : mE} {Mf : mM} : ∀ (n : Nat) (M : mM) (v0 : Nat) (v2 : Int32), fX8_readPart_c94 n M v0 v2 = some Mf → Ev mX8_readPart E 2 0 0 none Mf 94 [some (.ref v0), none, some (.int v2)] [] M 0 0 := by
  intro n
  induction n with
  | zero => intro M v0 v2 h; rw [fX8_readPart_c94.eq_1] at h; cases h
  | succ n ih =>
    intro M v0 v2 h
    rw [fX8_readPart_c94.eq_2] at h
    refine Ev_iload_n (x := v2) rfl dX8_readPart_94 ?_
    refine Ev_bipush bp_6 dX8_readPart_95 ?_
    refine Ev_icmp_ge (tgt := 149) dX8_readPart_97 (by decide) (fun q1 => ?_) (fun q1 => ?_)
    · rw [if_pos q1] at h
      refine Ev_aload_n (x := v0) rfl dX8_readPart_149 ?_
      obtain ⟨a2, g2, h⟩ := bsome h
      refine Ev_getR flX8_19 dX8_readPart_150 g2 ?_
      refine Ev_aload_n (x := v0) rfl dX8_readPart_153 ?_
      obtain ⟨x3, g3, h⟩ := bsome h
      refine Ev_getI flX8_70 dX8_readPart_154 g3 ?_
      refine Ev_iload_n (x := v2) rfl dX8_readPart_157 ?_
      obtain ⟨M4, g4, h⟩ := bsome h
      refine Ev_iast dX8_readPart_158 g4 ?_
      refine Ev_aload_n (x := v0) rfl dX8_readPart_159 ?_
      refine Ev_dup rfl dX8_readPart_160 ?_
      obtain ⟨x5, g5, h⟩ := bsome h
      refine Ev_getI flX8_70 dX8_readPart_161 g5 ?_
      refine Ev_iconst ic_1 dX8_readPart_164 ?_
      refine Ev_iadd dX8_readPart_165 ?_
      obtain ⟨M6, g6, h⟩ := bsome h
      refine Ev_put (v := .int (x5 + 1)) flX8_70 ⟨rfl, rfl⟩ (fun q hq => by cases hq; exact Or.inl rfl) dX8_readPart_166 g6 ?_
      cases h
      exact Ev_vret rfl dX8_readPart_169 ⟨rfl, rfl⟩
    · rw [if_neg q1] at h
      refine Ev_aload_n (x := v0) rfl dX8_readPart_100 ?_
      obtain ⟨x8, g7, h⟩ := bsome h
      refine Ev_callVi (np := 0) (vs := []) (rest := []) mdX8_isBend lkX8_81 ⟨_, rfl, rfl⟩ (oX8_isBend g7) (rX8_isBend g7) rfl rfl (Nat.le_of_ble_eq_true rfl) (Nat.le_of_ble_eq_true rfl) dX8_readPart_101 ?_
      refine Ev_if_eq (tgt := 149) dX8_readPart_104 (by decide) (fun q9 => ?_) (fun q9 => ?_)
      · rw [if_pos q9] at h
        refine Ev_aload_n (x := v0) rfl dX8_readPart_149 ?_
        obtain ⟨a10, g10, h⟩ := bsome h
        refine Ev_getR flX8_19 dX8_readPart_150 g10 ?_
        refine Ev_aload_n (x := v0) rfl dX8_readPart_153 ?_
        obtain ⟨x11, g11, h⟩ := bsome h
        refine Ev_getI flX8_70 dX8_readPart_154 g11 ?_
        refine Ev_iload_n (x := v2) rfl dX8_readPart_157 ?_
        obtain ⟨M12, g12, h⟩ := bsome h
        refine Ev_iast dX8_readPart_158 g12 ?_
        refine Ev_aload_n (x := v0) rfl dX8_readPart_159 ?_
        refine Ev_dup rfl dX8_readPart_160 ?_
        obtain ⟨x13, g13, h⟩ := bsome h
        refine Ev_getI flX8_70 dX8_readPart_161 g13 ?_
        refine Ev_iconst ic_1 dX8_readPart_164 ?_
        refine Ev_iadd dX8_readPart_165 ?_
        obtain ⟨M14, g14, h⟩ := bsome h
        refine Ev_put (v := .int (x13 + 1)) flX8_70 ⟨rfl, rfl⟩ (fun q hq => by cases hq; exact Or.inl rfl) dX8_readPart_166 g14 ?_
        cases h
        exact Ev_vret rfl dX8_readPart_169 ⟨rfl, rfl⟩
      · rw [if_neg q9] at h
        refine Ev_aload_n (x := v0) rfl dX8_readPart_107 ?_
        obtain ⟨a15, g15, h⟩ := bsome h
        refine Ev_getR flX8_22 dX8_readPart_108 g15 ?_
        refine Ev_bipush bp_6 dX8_readPart_111 ?_
        refine Ev_aload_n (x := v0) rfl dX8_readPart_113 ?_
        obtain ⟨x16, g16, h⟩ := bsome h
        refine Ev_getI flX8_70 dX8_readPart_114 g16 ?_
        refine Ev_imul dX8_readPart_117 ?_
        refine Ev_iload_n (x := v2) rfl dX8_readPart_118 ?_
        refine Ev_iadd dX8_readPart_119 ?_
        refine Ev_aload_n (x := v0) rfl dX8_readPart_120 ?_
        obtain ⟨a17, g17, h⟩ := bsome h
        refine Ev_getR flX8_25 dX8_readPart_121 g17 ?_
        refine Ev_aload_n (x := v0) rfl dX8_readPart_124 ?_
        obtain ⟨x18, g18, h⟩ := bsome h
        refine Ev_getI flX8_63 dX8_readPart_125 g18 ?_
        obtain ⟨x19, g19, h⟩ := bsome h
        refine Ev_iald dX8_readPart_128 g19 ?_
        refine Ev_bipush bp_96 dX8_readPart_129 ?_
        refine Ev_isub dX8_readPart_131 ?_
        obtain ⟨M20, g20, h⟩ := bsome h
        refine Ev_iast dX8_readPart_132 g20 ?_
        refine Ev_aload_n (x := v0) rfl dX8_readPart_133 ?_
        refine Ev_dup rfl dX8_readPart_134 ?_
        obtain ⟨x21, g21, h⟩ := bsome h
        refine Ev_getI flX8_63 dX8_readPart_135 g21 ?_
        refine Ev_iconst ic_1 dX8_readPart_138 ?_
        refine Ev_iadd dX8_readPart_139 ?_
        obtain ⟨M22, g22, h⟩ := bsome h
        refine Ev_put (v := .int (x21 + 1)) flX8_63 ⟨rfl, rfl⟩ (fun q hq => by cases hq; exact Or.inl rfl) dX8_readPart_140 g22 ?_
        refine Ev_iinc (x := v2) (v := (v2 + 1)) (loc2 := [some (.ref v0), none, some (.int (v2 + 1))]) rfl (congrArg (v2 + ·) ic_1) (Nat.le_of_ble_eq_true rfl) rfl rfl dX8_readPart_143 ?_
        refine Ev_goto (tgt := 94) dX8_readPart_146 (by decide) ?_
        exact ih M22 v0 (v2 + 1) h
def fX8_readPart (M : mM) (v0 : Nat) (v1 : Int32) : Option mM :=
    if isO M v0 8 = true then
      if v1 = 83 then
        ((gI M v0 8 6).bind fun x4 =>
        if x4 = 4 then
          ((gI M v0 8 9).bind fun x23 =>
          (sV M v0 8 10 (.int x23)).bind fun M24 =>
          some M24)
        else
          ((gI M v0 8 9).bind fun x6 =>
          (sV M v0 8 9 (.int (x6 + 1))).bind fun M7 =>
          (gR M7 v0 8 3).bind fun a8 =>
          (gI M7 v0 8 6).bind fun x9 =>
          (fX8_nextOf M7 v0 48 3).bind fun p11 =>
          (aS p11.2 false a8 (2 * x9) p11.1).bind fun M12 =>
          (gR M12 v0 8 3).bind fun a13 =>
          (gI M12 v0 8 6).bind fun x14 =>
          (fX8_nextOf M12 v0 48 3).bind fun p16 =>
          (aS p16.2 false a13 ((2 * x14) + 1) p16.1).bind fun M17 =>
          (gR M17 v0 8 5).bind fun a18 =>
          (gI M17 v0 8 6).bind fun x19 =>
          (fX8_nextOf M17 v0 97 3).bind fun p21 =>
          (aS p21.2 false a18 (6 * x19) (p21.1 + 1)).bind fun M22 =>
          fX8_readPart_c94 FUEL M22 v0 1))
      else
        ((gI M v0 8 9).bind fun x2 =>
        (sV M v0 8 10 (.int x2)).bind fun M3 =>
        some M3)
    else none
theorem oX8_readPart {M : mM} {v0 : Nat} {v1 : Int32} {y : mM} (h : fX8_readPart M v0 v1 = some y) : isO M v0 8 = true := by
  unfold fX8_readPart at h
  exact (gsome h).1
set_option maxRecDepth 20000 in
set_option maxHeartbeats 4000000 in
theorem rX8_readPart {E : mE} {M : mM} {v0 : Nat} {v1 : Int32} {Mf : mM} (h : fX8_readPart M v0 v1 = some Mf) : EvC mX8_readPart E 2 0 0 [.ref v0, .int v1] M none Mf := by
  unfold fX8_readPart at h
  replace h := (gsome h).2
  refine EvC.of [some (.ref v0), some (.int v1), none] pnX8_readPart rfl (Nat.le_of_ble_eq_true rfl) ?_
  refine Ev_iload_n (x := v1) rfl dX8_readPart_0 ?_
  refine Ev_bipush bp_83 dX8_readPart_1 ?_
  refine Ev_icmp_ne (tgt := 14) dX8_readPart_3 (by decide) (fun q1 => ?_) (fun q1 => ?_)
  · rw [if_neg q1] at h
    refine Ev_aload_n (x := v0) rfl dX8_readPart_14 ?_
    refine Ev_aload_n (x := v0) rfl dX8_readPart_15 ?_
    obtain ⟨x2, g2, h⟩ := bsome h
    refine Ev_getI flX8_63 dX8_readPart_16 g2 ?_
    obtain ⟨M3, g3, h⟩ := bsome h
    refine Ev_put (v := .int x2) flX8_60 ⟨rfl, rfl⟩ (fun q hq => by cases hq; exact Or.inl rfl) dX8_readPart_19 g3 ?_
    cases h
    exact Ev_vret rfl dX8_readPart_22 ⟨rfl, rfl⟩
  · rw [if_pos q1] at h
    refine Ev_aload_n (x := v0) rfl dX8_readPart_6 ?_
    obtain ⟨x4, g4, h⟩ := bsome h
    refine Ev_getI flX8_70 dX8_readPart_7 g4 ?_
    refine Ev_iconst ic_4 dX8_readPart_10 ?_
    refine Ev_icmp_ne (tgt := 23) dX8_readPart_11 (by decide) (fun q5 => ?_) (fun q5 => ?_)
    · rw [if_neg q5] at h
      refine Ev_aload_n (x := v0) rfl dX8_readPart_23 ?_
      refine Ev_dup rfl dX8_readPart_24 ?_
      obtain ⟨x6, g6, h⟩ := bsome h
      refine Ev_getI flX8_63 dX8_readPart_25 g6 ?_
      refine Ev_iconst ic_1 dX8_readPart_28 ?_
      refine Ev_iadd dX8_readPart_29 ?_
      obtain ⟨M7, g7, h⟩ := bsome h
      refine Ev_put (v := .int (x6 + 1)) flX8_63 ⟨rfl, rfl⟩ (fun q hq => by cases hq; exact Or.inl rfl) dX8_readPart_30 g7 ?_
      refine Ev_aload_n (x := v0) rfl dX8_readPart_33 ?_
      obtain ⟨a8, g8, h⟩ := bsome h
      refine Ev_getR flX8_16 dX8_readPart_34 g8 ?_
      refine Ev_iconst ic_2 dX8_readPart_37 ?_
      refine Ev_aload_n (x := v0) rfl dX8_readPart_38 ?_
      obtain ⟨x9, g9, h⟩ := bsome h
      refine Ev_getI flX8_70 dX8_readPart_39 g9 ?_
      refine Ev_imul dX8_readPart_42 ?_
      refine Ev_aload_n (x := v0) rfl dX8_readPart_43 ?_
      refine Ev_bipush bp_48 dX8_readPart_44 ?_
      refine Ev_iconst ic_3 dX8_readPart_46 ?_
      obtain ⟨p11, g10, h⟩ := bsome h
      refine Ev_callVi (np := 2) (vs := [.int 48, .int 3]) (rest := [.int (2 * x9), .ref a8]) mdX8_nextOf lkX8_77 ⟨_, rfl, rfl⟩ (oX8_nextOf g10) (rX8_nextOf g10) rfl rfl (Nat.le_of_ble_eq_true rfl) (Nat.le_of_ble_eq_true rfl) dX8_readPart_47 ?_
      obtain ⟨M12, g12, h⟩ := bsome h
      refine Ev_iast dX8_readPart_50 g12 ?_
      refine Ev_aload_n (x := v0) rfl dX8_readPart_51 ?_
      obtain ⟨a13, g13, h⟩ := bsome h
      refine Ev_getR flX8_16 dX8_readPart_52 g13 ?_
      refine Ev_iconst ic_2 dX8_readPart_55 ?_
      refine Ev_aload_n (x := v0) rfl dX8_readPart_56 ?_
      obtain ⟨x14, g14, h⟩ := bsome h
      refine Ev_getI flX8_70 dX8_readPart_57 g14 ?_
      refine Ev_imul dX8_readPart_60 ?_
      refine Ev_iconst ic_1 dX8_readPart_61 ?_
      refine Ev_iadd dX8_readPart_62 ?_
      refine Ev_aload_n (x := v0) rfl dX8_readPart_63 ?_
      refine Ev_bipush bp_48 dX8_readPart_64 ?_
      refine Ev_iconst ic_3 dX8_readPart_66 ?_
      obtain ⟨p16, g15, h⟩ := bsome h
      refine Ev_callVi (np := 2) (vs := [.int 48, .int 3]) (rest := [.int ((2 * x14) + 1), .ref a13]) mdX8_nextOf lkX8_77 ⟨_, rfl, rfl⟩ (oX8_nextOf g15) (rX8_nextOf g15) rfl rfl (Nat.le_of_ble_eq_true rfl) (Nat.le_of_ble_eq_true rfl) dX8_readPart_67 ?_
      obtain ⟨M17, g17, h⟩ := bsome h
      refine Ev_iast dX8_readPart_70 g17 ?_
      refine Ev_aload_n (x := v0) rfl dX8_readPart_71 ?_
      obtain ⟨a18, g18, h⟩ := bsome h
      refine Ev_getR flX8_22 dX8_readPart_72 g18 ?_
      refine Ev_bipush bp_6 dX8_readPart_75 ?_
      refine Ev_aload_n (x := v0) rfl dX8_readPart_77 ?_
      obtain ⟨x19, g19, h⟩ := bsome h
      refine Ev_getI flX8_70 dX8_readPart_78 g19 ?_
      refine Ev_imul dX8_readPart_81 ?_
      refine Ev_aload_n (x := v0) rfl dX8_readPart_82 ?_
      refine Ev_bipush bp_97 dX8_readPart_83 ?_
      refine Ev_iconst ic_3 dX8_readPart_85 ?_
      obtain ⟨p21, g20, h⟩ := bsome h
      refine Ev_callVi (np := 2) (vs := [.int 97, .int 3]) (rest := [.int (6 * x19), .ref a18]) mdX8_nextOf lkX8_77 ⟨_, rfl, rfl⟩ (oX8_nextOf g20) (rX8_nextOf g20) rfl rfl (Nat.le_of_ble_eq_true rfl) (Nat.le_of_ble_eq_true rfl) dX8_readPart_86 ?_
      refine Ev_iconst ic_1 dX8_readPart_89 ?_
      refine Ev_iadd dX8_readPart_90 ?_
      obtain ⟨M22, g22, h⟩ := bsome h
      refine Ev_iast dX8_readPart_91 g22 ?_
      refine Ev_iconst ic_1 dX8_readPart_92 ?_
      refine Ev_istore_n (loc2 := [some (.ref v0), some (.int v1), some (.int 1)]) (Nat.le_of_ble_eq_true rfl) rfl rfl dX8_readPart_93 ?_
      refine Ev_drop 1 (loc2 := [some (.ref v0), none, some (.int 1)]) rfl ?_
      exact rX8_readPart_c94 FUEL M22 v0 1 h
    · rw [if_pos q5] at h
      refine Ev_aload_n (x := v0) rfl dX8_readPart_14 ?_
      refine Ev_aload_n (x := v0) rfl dX8_readPart_15 ?_
      obtain ⟨x23, g23, h⟩ := bsome h
      refine Ev_getI flX8_63 dX8_readPart_16 g23 ?_
      obtain ⟨M24, g24, h⟩ := bsome h
      refine Ev_put (v := .int x23) flX8_60 ⟨rfl, rfl⟩ (fun q hq => by cases hq; exact Or.inl rfl) dX8_readPart_19 g24 ?_
      cases h
      exact Ev_vret rfl dX8_readPart_22 ⟨rfl, rfl⟩
/-! TinselRiverModel.readText()I -/
def fX8_readText_c41 : Nat → mM → Nat → Option (Int32 × mM)
  | 0, _, _ => none
  | n + 1, M, v0 =>
    (gI M v0 8 10).bind fun x1 =>
    if x1 = (-9) then
      ((gI M v0 8 9).bind fun x4 =>
      (gI M v0 8 8).bind fun x5 =>
      if x5 ≤ x4 then
        ((gI M v0 8 10).bind fun x7 =>
        some (x7, M))
      else
        ((gR M v0 8 7).bind fun a8 =>
        (gI M v0 8 9).bind fun x9 =>
        (aI M false a8 x9).bind fun x10 =>
        (fX8_readPart M v0 x10).bind fun M12 =>
        fX8_readText_c41 n M12 v0))
    else
      ((gI M v0 8 10).bind fun x3 =>
      some (x3, M))
set_option maxRecDepth 20000 in
set_option maxHeartbeats 4000000 in
theorem rX8_readText_c41 {E : mE} {x : Int32} {Mf : mM} : ∀ (n : Nat) (M : mM) (v0 : Nat), fX8_readText_c41 n M v0 = some (x, Mf) → Ev mX8_readText E 3 0 0 (some (.int x)) Mf 41 [some (.ref v0)] [] M 0 0 := by
  intro n
  induction n with
  | zero => intro M v0 h; rw [fX8_readText_c41.eq_1] at h; cases h
  | succ n ih =>
    intro M v0 h
    rw [fX8_readText_c41.eq_2] at h
    refine Ev_aload_n (x := v0) rfl dX8_readText_41 ?_
    obtain ⟨x1, g1, h⟩ := bsome h
    refine Ev_getI flX8_60 dX8_readText_42 g1 ?_
    refine Ev_bipush bp_m9 dX8_readText_45 ?_
    refine Ev_icmp_ne (tgt := 77) dX8_readText_47 (by decide) (fun q2 => ?_) (fun q2 => ?_)
    · rw [if_neg q2] at h
      refine Ev_aload_n (x := v0) rfl dX8_readText_77 ?_
      obtain ⟨x3, g3, h⟩ := bsome h
      refine Ev_getI flX8_60 dX8_readText_78 g3 ?_
      cases h
      exact Ev_iret rfl rfl dX8_readText_81 ⟨rfl, rfl⟩
    · rw [if_pos q2] at h
      refine Ev_aload_n (x := v0) rfl dX8_readText_50 ?_
      obtain ⟨x4, g4, h⟩ := bsome h
      refine Ev_getI flX8_63 dX8_readText_51 g4 ?_
      refine Ev_aload_n (x := v0) rfl dX8_readText_54 ?_
      obtain ⟨x5, g5, h⟩ := bsome h
      refine Ev_getI flX8_56 dX8_readText_55 g5 ?_
      refine Ev_icmp_ge (tgt := 77) dX8_readText_58 (by decide) (fun q6 => ?_) (fun q6 => ?_)
      · rw [if_pos q6] at h
        refine Ev_aload_n (x := v0) rfl dX8_readText_77 ?_
        obtain ⟨x7, g7, h⟩ := bsome h
        refine Ev_getI flX8_60 dX8_readText_78 g7 ?_
        cases h
        exact Ev_iret rfl rfl dX8_readText_81 ⟨rfl, rfl⟩
      · rw [if_neg q6] at h
        refine Ev_aload_n (x := v0) rfl dX8_readText_61 ?_
        refine Ev_aload_n (x := v0) rfl dX8_readText_62 ?_
        obtain ⟨a8, g8, h⟩ := bsome h
        refine Ev_getR flX8_25 dX8_readText_63 g8 ?_
        refine Ev_aload_n (x := v0) rfl dX8_readText_66 ?_
        obtain ⟨x9, g9, h⟩ := bsome h
        refine Ev_getI flX8_63 dX8_readText_67 g9 ?_
        obtain ⟨x10, g10, h⟩ := bsome h
        refine Ev_iald dX8_readText_70 g10 ?_
        obtain ⟨M12, g11, h⟩ := bsome h
        refine Ev_callVv (np := 1) (vs := [.int x10]) (rest := []) mdX8_readPart lkX8_73 ⟨_, rfl, rfl⟩ (oX8_readPart g11) (rX8_readPart g11) rfl rfl (Nat.le_of_ble_eq_true rfl) (Nat.le_of_ble_eq_true rfl) dX8_readText_71 ?_
        refine Ev_goto (tgt := 41) dX8_readText_74 (by decide) ?_
        exact ih M12 v0 h
def fX8_readText (M : mM) (v0 : Nat) : Option (Int32 × mM) :=
    if isO M v0 8 = true then
      (sV M v0 8 9 (.int 0)).bind fun M1 =>
      (sV M1 v0 8 10 (.int (-9))).bind fun M2 =>
      (sV M2 v0 8 6 (.int 0)).bind fun M3 =>
      (gI M3 v0 8 8).bind fun x4 =>
      if x4 = 0 then
        (some (0, M3))
      else
        ((gR M3 v0 8 7).bind fun a6 =>
        (aI M3 false a6 0).bind fun x7 =>
        if x7 = 84 then
          ((sV M3 v0 8 9 (.int 1)).bind fun M9 =>
          fX8_readText_c41 FUEL M9 v0)
        else
          (some (0, M3)))
    else none
theorem oX8_readText {M : mM} {v0 : Nat} {y : (Int32 × mM)} (h : fX8_readText M v0 = some y) : isO M v0 8 = true := by
  unfold fX8_readText at h
  exact (gsome h).1
set_option maxRecDepth 20000 in
set_option maxHeartbeats 4000000 in
theorem rX8_readText {E : mE} {M : mM} {v0 : Nat} {x : Int32} {Mf : mM} (h : fX8_readText M v0 = some (x, Mf)) : EvC mX8_readText E 3 0 0 [.ref v0] M (some (.int x)) Mf := by
  unfold fX8_readText at h
  replace h := (gsome h).2
  refine EvC.of [some (.ref v0)] pnX8_readText rfl (Nat.le_of_ble_eq_true rfl) ?_
  refine Ev_aload_n (x := v0) rfl dX8_readText_0 ?_
  refine Ev_iconst ic_0 dX8_readText_1 ?_
  obtain ⟨M1, g1, h⟩ := bsome h
  refine Ev_put (v := .int 0) flX8_63 ⟨rfl, rfl⟩ (fun q hq => by cases hq; exact Or.inl rfl) dX8_readText_2 g1 ?_
  refine Ev_aload_n (x := v0) rfl dX8_readText_5 ?_
  refine Ev_bipush bp_m9 dX8_readText_6 ?_
  obtain ⟨M2, g2, h⟩ := bsome h
  refine Ev_put (v := .int (-9)) flX8_60 ⟨rfl, rfl⟩ (fun q hq => by cases hq; exact Or.inl rfl) dX8_readText_8 g2 ?_
  refine Ev_aload_n (x := v0) rfl dX8_readText_11 ?_
  refine Ev_iconst ic_0 dX8_readText_12 ?_
  obtain ⟨M3, g3, h⟩ := bsome h
  refine Ev_put (v := .int 0) flX8_70 ⟨rfl, rfl⟩ (fun q hq => by cases hq; exact Or.inl rfl) dX8_readText_13 g3 ?_
  refine Ev_aload_n (x := v0) rfl dX8_readText_16 ?_
  obtain ⟨x4, g4, h⟩ := bsome h
  refine Ev_getI flX8_56 dX8_readText_17 g4 ?_
  refine Ev_if_eq (tgt := 34) dX8_readText_20 (by decide) (fun q5 => ?_) (fun q5 => ?_)
  · rw [if_pos q5] at h
    refine Ev_iconst ic_0 dX8_readText_34 ?_
    cases h
    exact Ev_iret rfl rfl dX8_readText_35 ⟨rfl, rfl⟩
  · rw [if_neg q5] at h
    refine Ev_aload_n (x := v0) rfl dX8_readText_23 ?_
    obtain ⟨a6, g6, h⟩ := bsome h
    refine Ev_getR flX8_25 dX8_readText_24 g6 ?_
    refine Ev_iconst ic_0 dX8_readText_27 ?_
    obtain ⟨x7, g7, h⟩ := bsome h
    refine Ev_iald dX8_readText_28 g7 ?_
    refine Ev_bipush bp_84 dX8_readText_29 ?_
    refine Ev_icmp_eq (tgt := 36) dX8_readText_31 (by decide) (fun q8 => ?_) (fun q8 => ?_)
    · rw [if_pos q8] at h
      refine Ev_aload_n (x := v0) rfl dX8_readText_36 ?_
      refine Ev_iconst ic_1 dX8_readText_37 ?_
      obtain ⟨M9, g9, h⟩ := bsome h
      refine Ev_put (v := .int 1) flX8_63 ⟨rfl, rfl⟩ (fun q hq => by cases hq; exact Or.inl rfl) dX8_readText_38 g9 ?_
      exact rX8_readText_c41 FUEL M9 v0 h
    · rw [if_neg q8] at h
      refine Ev_iconst ic_0 dX8_readText_34 ?_
      cases h
      exact Ev_iret rfl rfl dX8_readText_35 ⟨rfl, rfl⟩
/-! TinselRiverModel.fault()I -/
def fX8_fault (M : mM) (v0 : Nat) : Option (Int32 × mM) :=
    if isO M v0 8 = true then
      (fX8_readText M v0).bind fun p2 =>
      some (p2.1, p2.2)
    else none
theorem oX8_fault {M : mM} {v0 : Nat} {y : (Int32 × mM)} (h : fX8_fault M v0 = some y) : isO M v0 8 = true := by
  unfold fX8_fault at h
  exact (gsome h).1
set_option maxRecDepth 20000 in
set_option maxHeartbeats 4000000 in
theorem rX8_fault {E : mE} {M : mM} {v0 : Nat} {x : Int32} {Mf : mM} (h : fX8_fault M v0 = some (x, Mf)) : EvC mX8_fault E 4 0 0 [.ref v0] M (some (.int x)) Mf := by
  unfold fX8_fault at h
  replace h := (gsome h).2
  refine EvC.of [some (.ref v0)] pnX8_fault rfl (Nat.le_of_ble_eq_true rfl) ?_
  refine Ev_aload_n (x := v0) rfl dX8_fault_0 ?_
  obtain ⟨p2, g1, h⟩ := bsome h
  refine Ev_callVi (np := 0) (vs := []) (rest := []) mdX8_readText lkX8_85 ⟨_, rfl, rfl⟩ (oX8_readText g1) (rX8_readText g1) rfl rfl (Nat.le_of_ble_eq_true rfl) (Nat.le_of_ble_eq_true rfl) dX8_fault_1 ?_
  cases h
  exact Ev_iret rfl rfl dX8_fault_4 ⟨rfl, rfl⟩
/-! TinselRiverModel.valley()I -/
def fX8_valley_c97 (k43 : mM → Nat → Int32 → Option (Int32 × mM)) : Nat → mM → Nat → Int32 → Int32 → Option (Int32 × mM)
  | 0, _, _, _, _ => none
  | n + 1, M, v0, v1, v2 =>
    (gR M v0 8 4).bind fun a1 =>
    (aI M false a1 v1).bind fun x2 =>
    if x2 ≤ v2 then
      (k43 M v0 (v1 + 1))
    else
      ((gR M v0 8 2).bind fun a4 =>
      (gR M v0 8 5).bind fun a5 =>
      (aI M false a5 ((6 * v1) + v2)).bind fun x6 =>
      (aS M false a4 ((8 + (12 * v1)) + v2) x6).bind fun M7 =>
      fX8_valley_c97 k43 n M7 v0 v1 (v2 + 1))
set_option maxRecDepth 20000 in
set_option maxHeartbeats 4000000 in
theorem rX8_valley_c97 {E : mE} {x : Int32} {Mf : mM} {k43 : mM → Nat → Int32 → Option (Int32 × mM)} (hk43 : ∀ (M : mM) (w0 : Nat) (w1 : Int32), k43 M w0 w1 = some (x, Mf) → Ev mX8_valley E 4 0 0 (some (.int x)) Mf 43 [some (.ref w0), some (.int w1), none] [] M 0 0) : ∀ (n : Nat) (M : mM) (v0 : Nat) (v1 : Int32) (v2 : Int32), fX8_valley_c97 k43 n M v0 v1 v2 = some (x, Mf) → Ev mX8_valley E 4 0 0 (some (.int x)) Mf 97 [some (.ref v0), some (.int v1), some (.int v2)] [] M 0 0 := by
  intro n
  induction n with
  | zero => intro M v0 v1 v2 h; rw [fX8_valley_c97.eq_1] at h; cases h
  | succ n ih =>
    intro M v0 v1 v2 h
    rw [fX8_valley_c97.eq_2] at h
    refine Ev_iload_n (x := v2) rfl dX8_valley_97 ?_
    refine Ev_aload_n (x := v0) rfl dX8_valley_98 ?_
    obtain ⟨a1, g1, h⟩ := bsome h
    refine Ev_getR flX8_19 dX8_valley_99 g1 ?_
    refine Ev_iload_n (x := v1) rfl dX8_valley_102 ?_
    obtain ⟨x2, g2, h⟩ := bsome h
    refine Ev_iald dX8_valley_103 g2 ?_
    refine Ev_icmp_ge (tgt := 138) dX8_valley_104 (by decide) (fun q3 => ?_) (fun q3 => ?_)
    · rw [if_pos q3] at h
      refine Ev_iinc (x := v1) (v := (v1 + 1)) (loc2 := [some (.ref v0), some (.int (v1 + 1)), some (.int v2)]) rfl (congrArg (v1 + ·) ic_1) (Nat.le_of_ble_eq_true rfl) rfl rfl dX8_valley_138 ?_
      refine Ev_goto (tgt := 43) dX8_valley_141 (by decide) ?_
      refine Ev_drop 2 (loc2 := [some (.ref v0), some (.int (v1 + 1)), none]) rfl ?_
      exact hk43 M v0 (v1 + 1) h
    · rw [if_neg q3] at h
      refine Ev_aload_n (x := v0) rfl dX8_valley_107 ?_
      obtain ⟨a4, g4, h⟩ := bsome h
      refine Ev_getR flX8_13 dX8_valley_108 g4 ?_
      refine Ev_bipush bp_8 dX8_valley_111 ?_
      refine Ev_bipush bp_12 dX8_valley_113 ?_
      refine Ev_iload_n (x := v1) rfl dX8_valley_115 ?_
      refine Ev_imul dX8_valley_116 ?_
      refine Ev_iadd dX8_valley_117 ?_
      refine Ev_iload_n (x := v2) rfl dX8_valley_118 ?_
      refine Ev_iadd dX8_valley_119 ?_
      refine Ev_aload_n (x := v0) rfl dX8_valley_120 ?_
      obtain ⟨a5, g5, h⟩ := bsome h
      refine Ev_getR flX8_22 dX8_valley_121 g5 ?_
      refine Ev_bipush bp_6 dX8_valley_124 ?_
      refine Ev_iload_n (x := v1) rfl dX8_valley_126 ?_
      refine Ev_imul dX8_valley_127 ?_
      refine Ev_iload_n (x := v2) rfl dX8_valley_128 ?_
      refine Ev_iadd dX8_valley_129 ?_
      obtain ⟨x6, g6, h⟩ := bsome h
      refine Ev_iald dX8_valley_130 g6 ?_
      obtain ⟨M7, g7, h⟩ := bsome h
      refine Ev_iast dX8_valley_131 g7 ?_
      refine Ev_iinc (x := v2) (v := (v2 + 1)) (loc2 := [some (.ref v0), some (.int v1), some (.int (v2 + 1))]) rfl (congrArg (v2 + ·) ic_1) (Nat.le_of_ble_eq_true rfl) rfl rfl dX8_valley_132 ?_
      refine Ev_goto (tgt := 97) dX8_valley_135 (by decide) ?_
      exact ih M7 v0 v1 (v2 + 1) h
def fX8_valley_c43 : Nat → mM → Nat → Int32 → Option (Int32 × mM)
  | 0, _, _, _ => none
  | n + 1, M, v0, v1 =>
    (gI M v0 8 0).bind fun x1 =>
    if x1 ≤ v1 then
      ((sV M v0 8 13 (.int 0)).bind fun M3 =>
      (gR M3 v0 8 22).bind fun a4 =>
      (aS M3 true a4 0 (mzb 0)).bind fun M5 =>
      (gR M5 v0 8 22).bind fun a6 =>
      (aS M5 true a6 1 (mzb 0)).bind fun M7 =>
      (gI M7 v0 8 0).bind fun x8 =>
      some (x8, M7))
    else
      ((gR M v0 8 2).bind fun a9 =>
      (gR M v0 8 3).bind fun a10 =>
      (aI M false a10 (2 * v1)).bind fun x11 =>
      (aS M false a9 v1 x11).bind fun M12 =>
      (gR M12 v0 8 1).bind fun a13 =>
      (gR M12 v0 8 3).bind fun a14 =>
      (aI M12 false a14 ((2 * v1) + 1)).bind fun x15 =>
      (aS M12 false a13 v1 x15).bind fun M16 =>
      (gR M16 v0 8 2).bind fun a17 =>
      (gR M16 v0 8 4).bind fun a18 =>
      (aI M16 false a18 v1).bind fun x19 =>
      (aS M16 false a17 (4 + v1) x19).bind fun M20 =>
      fX8_valley_c97 (fun M w0 w1 => fX8_valley_c43 n M w0 w1) FUEL M20 v0 v1 0)
set_option maxRecDepth 20000 in
set_option maxHeartbeats 4000000 in
theorem rX8_valley_c43 {E : mE} {x : Int32} {Mf : mM} : ∀ (n : Nat) (M : mM) (v0 : Nat) (v1 : Int32), fX8_valley_c43 n M v0 v1 = some (x, Mf) → Ev mX8_valley E 4 0 0 (some (.int x)) Mf 43 [some (.ref v0), some (.int v1), none] [] M 0 0 := by
  intro n
  induction n with
  | zero => intro M v0 v1 h; rw [fX8_valley_c43.eq_1] at h; cases h
  | succ n ih =>
    intro M v0 v1 h
    rw [fX8_valley_c43.eq_2] at h
    refine Ev_iload_n (x := v1) rfl dX8_valley_43 ?_
    refine Ev_aload_n (x := v0) rfl dX8_valley_44 ?_
    obtain ⟨x1, g1, h⟩ := bsome h
    refine Ev_getI flX8_89 dX8_valley_45 g1 ?_
    refine Ev_icmp_ge (tgt := 144) dX8_valley_48 (by decide) (fun q2 => ?_) (fun q2 => ?_)
    · rw [if_pos q2] at h
      refine Ev_aload_n (x := v0) rfl dX8_valley_144 ?_
      refine Ev_iconst ic_0 dX8_valley_145 ?_
      obtain ⟨M3, g3, h⟩ := bsome h
      refine Ev_put (v := .int 0) flX8_92 ⟨rfl, rfl⟩ (fun q hq => by cases hq; exact Or.inl rfl) dX8_valley_146 g3 ?_
      refine Ev_aload_n (x := v0) rfl dX8_valley_149 ?_
      obtain ⟨a4, g4, h⟩ := bsome h
      refine Ev_getR flX8_43 dX8_valley_150 g4 ?_
      refine Ev_iconst ic_0 dX8_valley_153 ?_
      refine Ev_iconst ic_0 dX8_valley_154 ?_
      obtain ⟨M5, g5, h⟩ := bsome h
      refine Ev_zast (mzb_ok 0) dX8_valley_155 g5 ?_
      refine Ev_aload_n (x := v0) rfl dX8_valley_156 ?_
      obtain ⟨a6, g6, h⟩ := bsome h
      refine Ev_getR flX8_43 dX8_valley_157 g6 ?_
      refine Ev_iconst ic_1 dX8_valley_160 ?_
      refine Ev_iconst ic_0 dX8_valley_161 ?_
      obtain ⟨M7, g7, h⟩ := bsome h
      refine Ev_zast (mzb_ok 0) dX8_valley_162 g7 ?_
      refine Ev_aload_n (x := v0) rfl dX8_valley_163 ?_
      obtain ⟨x8, g8, h⟩ := bsome h
      refine Ev_getI flX8_89 dX8_valley_164 g8 ?_
      cases h
      exact Ev_iret rfl rfl dX8_valley_167 ⟨rfl, rfl⟩
    · rw [if_neg q2] at h
      refine Ev_aload_n (x := v0) rfl dX8_valley_51 ?_
      obtain ⟨a9, g9, h⟩ := bsome h
      refine Ev_getR flX8_13 dX8_valley_52 g9 ?_
      refine Ev_iload_n (x := v1) rfl dX8_valley_55 ?_
      refine Ev_aload_n (x := v0) rfl dX8_valley_56 ?_
      obtain ⟨a10, g10, h⟩ := bsome h
      refine Ev_getR flX8_16 dX8_valley_57 g10 ?_
      refine Ev_iconst ic_2 dX8_valley_60 ?_
      refine Ev_iload_n (x := v1) rfl dX8_valley_61 ?_
      refine Ev_imul dX8_valley_62 ?_
      obtain ⟨x11, g11, h⟩ := bsome h
      refine Ev_iald dX8_valley_63 g11 ?_
      obtain ⟨M12, g12, h⟩ := bsome h
      refine Ev_iast dX8_valley_64 g12 ?_
      refine Ev_aload_n (x := v0) rfl dX8_valley_65 ?_
      obtain ⟨a13, g13, h⟩ := bsome h
      refine Ev_getR flX8_7 dX8_valley_66 g13 ?_
      refine Ev_iload_n (x := v1) rfl dX8_valley_69 ?_
      refine Ev_aload_n (x := v0) rfl dX8_valley_70 ?_
      obtain ⟨a14, g14, h⟩ := bsome h
      refine Ev_getR flX8_16 dX8_valley_71 g14 ?_
      refine Ev_iconst ic_2 dX8_valley_74 ?_
      refine Ev_iload_n (x := v1) rfl dX8_valley_75 ?_
      refine Ev_imul dX8_valley_76 ?_
      refine Ev_iconst ic_1 dX8_valley_77 ?_
      refine Ev_iadd dX8_valley_78 ?_
      obtain ⟨x15, g15, h⟩ := bsome h
      refine Ev_iald dX8_valley_79 g15 ?_
      obtain ⟨M16, g16, h⟩ := bsome h
      refine Ev_iast dX8_valley_80 g16 ?_
      refine Ev_aload_n (x := v0) rfl dX8_valley_81 ?_
      obtain ⟨a17, g17, h⟩ := bsome h
      refine Ev_getR flX8_13 dX8_valley_82 g17 ?_
      refine Ev_iconst ic_4 dX8_valley_85 ?_
      refine Ev_iload_n (x := v1) rfl dX8_valley_86 ?_
      refine Ev_iadd dX8_valley_87 ?_
      refine Ev_aload_n (x := v0) rfl dX8_valley_88 ?_
      obtain ⟨a18, g18, h⟩ := bsome h
      refine Ev_getR flX8_19 dX8_valley_89 g18 ?_
      refine Ev_iload_n (x := v1) rfl dX8_valley_92 ?_
      obtain ⟨x19, g19, h⟩ := bsome h
      refine Ev_iald dX8_valley_93 g19 ?_
      obtain ⟨M20, g20, h⟩ := bsome h
      refine Ev_iast dX8_valley_94 g20 ?_
      refine Ev_iconst ic_0 dX8_valley_95 ?_
      refine Ev_istore_n (loc2 := [some (.ref v0), some (.int v1), some (.int 0)]) (Nat.le_of_ble_eq_true rfl) rfl rfl dX8_valley_96 ?_
      exact rX8_valley_c97 (hk43 := fun M w0 w1 h => ih M w0 w1 h) FUEL M20 v0 v1 0 h
def fX8_valley_c22 : Nat → mM → Nat → Int32 → Option (Int32 × mM)
  | 0, _, _, _ => none
  | n + 1, M, v0, v1 =>
    if 57 ≤ v1 then
      (fX8_valley_c43 FUEL M v0 0)
    else
      ((gR M v0 8 2).bind fun a2 =>
      (aS M false a2 v1 0).bind fun M3 =>
      fX8_valley_c22 n M3 v0 (v1 + 1))
set_option maxRecDepth 20000 in
set_option maxHeartbeats 4000000 in
theorem rX8_valley_c22 {E : mE} {x : Int32} {Mf : mM} : ∀ (n : Nat) (M : mM) (v0 : Nat) (v1 : Int32), fX8_valley_c22 n M v0 v1 = some (x, Mf) → Ev mX8_valley E 4 0 0 (some (.int x)) Mf 22 [some (.ref v0), some (.int v1), none] [] M 0 0 := by
  intro n
  induction n with
  | zero => intro M v0 v1 h; rw [fX8_valley_c22.eq_1] at h; cases h
  | succ n ih =>
    intro M v0 v1 h
    rw [fX8_valley_c22.eq_2] at h
    refine Ev_iload_n (x := v1) rfl dX8_valley_22 ?_
    refine Ev_bipush bp_57 dX8_valley_23 ?_
    refine Ev_icmp_ge (tgt := 41) dX8_valley_25 (by decide) (fun q1 => ?_) (fun q1 => ?_)
    · rw [if_pos q1] at h
      refine Ev_iconst ic_0 dX8_valley_41 ?_
      refine Ev_istore_n (loc2 := [some (.ref v0), some (.int 0), none]) (Nat.le_of_ble_eq_true rfl) rfl rfl dX8_valley_42 ?_
      exact rX8_valley_c43 FUEL M v0 0 h
    · rw [if_neg q1] at h
      refine Ev_aload_n (x := v0) rfl dX8_valley_28 ?_
      obtain ⟨a2, g2, h⟩ := bsome h
      refine Ev_getR flX8_13 dX8_valley_29 g2 ?_
      refine Ev_iload_n (x := v1) rfl dX8_valley_32 ?_
      refine Ev_iconst ic_0 dX8_valley_33 ?_
      obtain ⟨M3, g3, h⟩ := bsome h
      refine Ev_iast dX8_valley_34 g3 ?_
      refine Ev_iinc (x := v1) (v := (v1 + 1)) (loc2 := [some (.ref v0), some (.int (v1 + 1)), none]) rfl (congrArg (v1 + ·) ic_1) (Nat.le_of_ble_eq_true rfl) rfl rfl dX8_valley_35 ?_
      refine Ev_goto (tgt := 22) dX8_valley_38 (by decide) ?_
      exact ih M3 v0 (v1 + 1) h
def fX8_valley (M : mM) (v0 : Nat) : Option (Int32 × mM) :=
    if isO M v0 8 = true then
      (fX8_readText M v0).bind fun p2 =>
      if p2.1 = (-9) then
        ((gI p2.2 v0 8 6).bind fun x4 =>
        (sV p2.2 v0 8 0 (.int x4)).bind fun M5 =>
        fX8_valley_c22 FUEL M5 v0 0)
      else
        (some ((-3), p2.2))
    else none
theorem oX8_valley {M : mM} {v0 : Nat} {y : (Int32 × mM)} (h : fX8_valley M v0 = some y) : isO M v0 8 = true := by
  unfold fX8_valley at h
  exact (gsome h).1
set_option maxRecDepth 20000 in
set_option maxHeartbeats 4000000 in
theorem rX8_valley {E : mE} {M : mM} {v0 : Nat} {x : Int32} {Mf : mM} (h : fX8_valley M v0 = some (x, Mf)) : EvC mX8_valley E 4 0 0 [.ref v0] M (some (.int x)) Mf := by
  unfold fX8_valley at h
  replace h := (gsome h).2
  refine EvC.of [some (.ref v0), none, none] pnX8_valley rfl (Nat.le_of_ble_eq_true rfl) ?_
  refine Ev_aload_n (x := v0) rfl dX8_valley_0 ?_
  obtain ⟨p2, g1, h⟩ := bsome h
  refine Ev_callVi (np := 0) (vs := []) (rest := []) mdX8_readText lkX8_85 ⟨_, rfl, rfl⟩ (oX8_readText g1) (rX8_readText g1) rfl rfl (Nat.le_of_ble_eq_true rfl) (Nat.le_of_ble_eq_true rfl) dX8_valley_1 ?_
  refine Ev_bipush bp_m9 dX8_valley_4 ?_
  refine Ev_icmp_eq (tgt := 12) dX8_valley_6 (by decide) (fun q3 => ?_) (fun q3 => ?_)
  · rw [if_pos q3] at h
    refine Ev_aload_n (x := v0) rfl dX8_valley_12 ?_
    refine Ev_aload_n (x := v0) rfl dX8_valley_13 ?_
    obtain ⟨x4, g4, h⟩ := bsome h
    refine Ev_getI flX8_70 dX8_valley_14 g4 ?_
    obtain ⟨M5, g5, h⟩ := bsome h
    refine Ev_put (v := .int x4) flX8_89 ⟨rfl, rfl⟩ (fun q hq => by cases hq; exact Or.inl rfl) dX8_valley_17 g5 ?_
    refine Ev_iconst ic_0 dX8_valley_20 ?_
    refine Ev_istore_n (loc2 := [some (.ref v0), some (.int 0), none]) (Nat.le_of_ble_eq_true rfl) rfl rfl dX8_valley_21 ?_
    exact rX8_valley_c22 FUEL M5 v0 0 h
  · rw [if_neg q3] at h
    refine Ev_bipush bp_m3 dX8_valley_9 ?_
    cases h
    exact Ev_iret rfl rfl dX8_valley_11 ⟨rfl, rfl⟩
/-! TinselRiverModel.isThere(II)Z -/
def fX8_isThere (M : mM) (v0 : Nat) (v1 : Int32) (v2 : Int32) : Option Int32 :=
    if isO M v0 8 = true then
      (gI M v0 8 0).bind fun x1 =>
      (fX8_in M (Int32.toInt64 v2) (0 : Int64) (Int32.toInt64 (x1 - 1))).bind fun x3 =>
      if x3 = 0 then
        (some 0)
      else
        ((gR M v0 8 2).bind fun a5 =>
        (aI M false a5 (((57 * v1) + 4) + v2)).bind fun x6 =>
        if x6 ≤ 0 then
          (some 0)
        else
          (some 1))
    else none
theorem oX8_isThere {M : mM} {v0 : Nat} {v1 : Int32} {v2 : Int32} {y : Int32} (h : fX8_isThere M v0 v1 v2 = some y) : isO M v0 8 = true := by
  unfold fX8_isThere at h
  exact (gsome h).1
set_option maxRecDepth 20000 in
set_option maxHeartbeats 4000000 in
theorem rX8_isThere {E : mE} {M : mM} {v0 : Nat} {v1 : Int32} {v2 : Int32} {x : Int32} (h : fX8_isThere M v0 v1 v2 = some x) : EvC mX8_isThere E 1 0 0 [.ref v0, .int v1, .int v2] M (some (.int x)) M := by
  unfold fX8_isThere at h
  replace h := (gsome h).2
  refine EvC.of [some (.ref v0), some (.int v1), some (.int v2)] pnX8_isThere rfl (Nat.le_of_ble_eq_true rfl) ?_
  refine Ev_iload_n (x := v2) rfl dX8_isThere_0 ?_
  refine Ev_i2l dX8_isThere_1 ?_
  refine Ev_lconst (v := 0) (by decide) dX8_isThere_2 ?_
  refine Ev_aload_n (x := v0) rfl dX8_isThere_3 ?_
  obtain ⟨x1, g1, h⟩ := bsome h
  refine Ev_getI flX8_89 dX8_isThere_4 g1 ?_
  refine Ev_iconst ic_1 dX8_isThere_7 ?_
  refine Ev_isub dX8_isThere_8 ?_
  refine Ev_i2l dX8_isThere_9 ?_
  obtain ⟨x3, g2, h⟩ := bsome h
  refine Ev_callSi (np := 3) (vs := [.long (Int32.toInt64 v2), .long (0 : Int64), .long (Int32.toInt64 (x1 - 1))]) (rest := []) mdX8_in lkX8_52 (rX8_in g2) rfl rfl (Nat.le_of_ble_eq_true rfl) (Nat.le_of_ble_eq_true rfl) dX8_isThere_10 ?_
  refine Ev_if_eq (tgt := 36) dX8_isThere_13 (by decide) (fun q4 => ?_) (fun q4 => ?_)
  · rw [if_pos q4] at h
    refine Ev_iconst ic_0 dX8_isThere_36 ?_
    cases h
    exact Ev_iret rfl rfl dX8_isThere_37 ⟨rfl, rfl⟩
  · rw [if_neg q4] at h
    refine Ev_aload_n (x := v0) rfl dX8_isThere_16 ?_
    obtain ⟨a5, g5, h⟩ := bsome h
    refine Ev_getR flX8_13 dX8_isThere_17 g5 ?_
    refine Ev_bipush bp_57 dX8_isThere_20 ?_
    refine Ev_iload_n (x := v1) rfl dX8_isThere_22 ?_
    refine Ev_imul dX8_isThere_23 ?_
    refine Ev_iconst ic_4 dX8_isThere_24 ?_
    refine Ev_iadd dX8_isThere_25 ?_
    refine Ev_iload_n (x := v2) rfl dX8_isThere_26 ?_
    refine Ev_iadd dX8_isThere_27 ?_
    obtain ⟨x6, g6, h⟩ := bsome h
    refine Ev_iald dX8_isThere_28 g6 ?_
    refine Ev_if_le (tgt := 36) dX8_isThere_29 (by decide) (fun q7 => ?_) (fun q7 => ?_)
    · rw [if_pos q7] at h
      refine Ev_iconst ic_0 dX8_isThere_36 ?_
      cases h
      exact Ev_iret rfl rfl dX8_isThere_37 ⟨rfl, rfl⟩
    · rw [if_neg q7] at h
      refine Ev_iconst ic_1 dX8_isThere_32 ?_
      refine Ev_goto (tgt := 37) dX8_isThere_33 (by decide) ?_
      cases h
      exact Ev_iret rfl rfl dX8_isThere_37 ⟨rfl, rfl⟩
/-! TinselRiverModel.bendAt(III)I -/
def fX8_bendAt (M : mM) (v0 : Nat) (v1 : Int32) (v2 : Int32) (v3 : Int32) : Option Int32 :=
    if isO M v0 8 = true then
      (gR M v0 8 2).bind fun a1 =>
      (aI M false a1 ((((57 * v1) + 8) + (12 * v2)) + v3)).bind fun x2 =>
      some x2
    else none
theorem oX8_bendAt {M : mM} {v0 : Nat} {v1 : Int32} {v2 : Int32} {v3 : Int32} {y : Int32} (h : fX8_bendAt M v0 v1 v2 v3 = some y) : isO M v0 8 = true := by
  unfold fX8_bendAt at h
  exact (gsome h).1
set_option maxRecDepth 20000 in
set_option maxHeartbeats 4000000 in
theorem rX8_bendAt {E : mE} {M : mM} {v0 : Nat} {v1 : Int32} {v2 : Int32} {v3 : Int32} {x : Int32} (h : fX8_bendAt M v0 v1 v2 v3 = some x) : EvC mX8_bendAt E 0 0 0 [.ref v0, .int v1, .int v2, .int v3] M (some (.int x)) M := by
  unfold fX8_bendAt at h
  replace h := (gsome h).2
  refine EvC.of [some (.ref v0), some (.int v1), some (.int v2), some (.int v3)] pnX8_bendAt rfl (Nat.le_of_ble_eq_true rfl) ?_
  refine Ev_aload_n (x := v0) rfl dX8_bendAt_0 ?_
  obtain ⟨a1, g1, h⟩ := bsome h
  refine Ev_getR flX8_13 dX8_bendAt_1 g1 ?_
  refine Ev_bipush bp_57 dX8_bendAt_4 ?_
  refine Ev_iload_n (x := v1) rfl dX8_bendAt_6 ?_
  refine Ev_imul dX8_bendAt_7 ?_
  refine Ev_bipush bp_8 dX8_bendAt_8 ?_
  refine Ev_iadd dX8_bendAt_10 ?_
  refine Ev_bipush bp_12 dX8_bendAt_11 ?_
  refine Ev_iload_n (x := v2) rfl dX8_bendAt_13 ?_
  refine Ev_imul dX8_bendAt_14 ?_
  refine Ev_iadd dX8_bendAt_15 ?_
  refine Ev_iload_n (x := v3) rfl dX8_bendAt_16 ?_
  refine Ev_iadd dX8_bendAt_17 ?_
  obtain ⟨x2, g2, h⟩ := bsome h
  refine Ev_iald dX8_bendAt_18 g2 ?_
  cases h
  exact Ev_iret rfl rfl dX8_bendAt_19 ⟨rfl, rfl⟩
/-! TinselRiverModel.loseLast(II)V -/
def fX8_loseLast (M : mM) (v0 : Nat) (v1 : Int32) (v2 : Int32) : Option mM :=
    if isO M v0 8 = true then
      (gR M v0 8 2).bind fun a1 =>
      (aI M false a1 (((57 * v1) + 4) + v2)).bind fun x2 =>
      (gR M v0 8 2).bind fun a3 =>
      (aI M false a3 (((57 * v1) + 4) + v2)).bind fun x4 =>
      if x4 ≤ 0 then
        ((aS M false a1 (((57 * v1) + 4) + v2) (x2 - 0)).bind fun M6 =>
        some M6)
      else
        ((aS M false a1 (((57 * v1) + 4) + v2) (x2 - 1)).bind fun M7 =>
        some M7)
    else none
theorem oX8_loseLast {M : mM} {v0 : Nat} {v1 : Int32} {v2 : Int32} {y : mM} (h : fX8_loseLast M v0 v1 v2 = some y) : isO M v0 8 = true := by
  unfold fX8_loseLast at h
  exact (gsome h).1
set_option maxRecDepth 20000 in
set_option maxHeartbeats 4000000 in
theorem rX8_loseLast {E : mE} {M : mM} {v0 : Nat} {v1 : Int32} {v2 : Int32} {Mf : mM} (h : fX8_loseLast M v0 v1 v2 = some Mf) : EvC mX8_loseLast E 0 0 0 [.ref v0, .int v1, .int v2] M none Mf := by
  unfold fX8_loseLast at h
  replace h := (gsome h).2
  refine EvC.of [some (.ref v0), some (.int v1), some (.int v2), none] pnX8_loseLast rfl (Nat.le_of_ble_eq_true rfl) ?_
  refine Ev_bipush bp_57 dX8_loseLast_0 ?_
  refine Ev_iload_n (x := v1) rfl dX8_loseLast_2 ?_
  refine Ev_imul dX8_loseLast_3 ?_
  refine Ev_iconst ic_4 dX8_loseLast_4 ?_
  refine Ev_iadd dX8_loseLast_5 ?_
  refine Ev_iload_n (x := v2) rfl dX8_loseLast_6 ?_
  refine Ev_iadd dX8_loseLast_7 ?_
  refine Ev_istore_n (loc2 := [some (.ref v0), some (.int v1), some (.int v2), some (.int (((57 * v1) + 4) + v2))]) (Nat.le_of_ble_eq_true rfl) rfl rfl dX8_loseLast_8 ?_
  refine Ev_aload_n (x := v0) rfl dX8_loseLast_9 ?_
  obtain ⟨a1, g1, h⟩ := bsome h
  refine Ev_getR flX8_13 dX8_loseLast_10 g1 ?_
  refine Ev_iload_n (x := (((57 * v1) + 4) + v2)) rfl dX8_loseLast_13 ?_
  refine Ev_dup2 rfl rfl dX8_loseLast_14 ?_
  obtain ⟨x2, g2, h⟩ := bsome h
  refine Ev_iald dX8_loseLast_15 g2 ?_
  refine Ev_aload_n (x := v0) rfl dX8_loseLast_16 ?_
  obtain ⟨a3, g3, h⟩ := bsome h
  refine Ev_getR flX8_13 dX8_loseLast_17 g3 ?_
  refine Ev_iload_n (x := (((57 * v1) + 4) + v2)) rfl dX8_loseLast_20 ?_
  obtain ⟨x4, g4, h⟩ := bsome h
  refine Ev_iald dX8_loseLast_21 g4 ?_
  refine Ev_if_le (tgt := 29) dX8_loseLast_22 (by decide) (fun q5 => ?_) (fun q5 => ?_)
  · rw [if_pos q5] at h
    refine Ev_iconst ic_0 dX8_loseLast_29 ?_
    refine Ev_isub dX8_loseLast_30 ?_
    obtain ⟨M6, g6, h⟩ := bsome h
    refine Ev_iast dX8_loseLast_31 g6 ?_
    cases h
    exact Ev_vret rfl dX8_loseLast_32 ⟨rfl, rfl⟩
  · rw [if_neg q5] at h
    refine Ev_iconst ic_1 dX8_loseLast_25 ?_
    refine Ev_goto (tgt := 30) dX8_loseLast_26 (by decide) ?_
    refine Ev_isub dX8_loseLast_30 ?_
    obtain ⟨M7, g7, h⟩ := bsome h
    refine Ev_iast dX8_loseLast_31 g7 ?_
    cases h
    exact Ev_vret rfl dX8_loseLast_32 ⟨rfl, rfl⟩
/-! TinselRiverModel.loseFirst(II)V -/
def fX8_loseFirst_c16 : Nat → mM → Nat → Int32 → Int32 → Int32 → Int32 → Option mM
  | 0, _, _, _, _, _, _ => none
  | n + 1, M, v0, v1, v2, v3, v4 =>
    if 11 ≤ v4 then
      ((fX8_loseLast M v0 v1 v2).bind fun M3 =>
      some M3)
    else
      ((gR M v0 8 2).bind fun a4 =>
      (gR M v0 8 2).bind fun a5 =>
      (aI M false a5 ((v3 + v4) + 1)).bind fun x6 =>
      (aS M false a4 (v3 + v4) x6).bind fun M7 =>
      fX8_loseFirst_c16 n M7 v0 v1 v2 v3 (v4 + 1))
set_option maxRecDepth 20000 in
set_option maxHeartbeats 4000000 in
theorem rX8_loseFirst_c16 {E : mE} {Mf : mM} : ∀ (n : Nat) (M : mM) (v0 : Nat) (v1 : Int32) (v2 : Int32) (v3 : Int32) (v4 : Int32), fX8_loseFirst_c16 n M v0 v1 v2 v3 v4 = some Mf → Ev mX8_loseFirst E 1 0 0 none Mf 16 [some (.ref v0), some (.int v1), some (.int v2), some (.int v3), some (.int v4)] [] M 0 0 := by
  intro n
  induction n with
  | zero => intro M v0 v1 v2 v3 v4 h; rw [fX8_loseFirst_c16.eq_1] at h; cases h
  | succ n ih =>
    intro M v0 v1 v2 v3 v4 h
    rw [fX8_loseFirst_c16.eq_2] at h
    refine Ev_iload (x := v4) rfl dX8_loseFirst_16 ?_
    refine Ev_bipush bp_11 dX8_loseFirst_18 ?_
    refine Ev_icmp_ge (tgt := 49) dX8_loseFirst_20 (by decide) (fun q1 => ?_) (fun q1 => ?_)
    · rw [if_pos q1] at h
      refine Ev_aload_n (x := v0) rfl dX8_loseFirst_49 ?_
      refine Ev_iload_n (x := v1) rfl dX8_loseFirst_50 ?_
      refine Ev_iload_n (x := v2) rfl dX8_loseFirst_51 ?_
      obtain ⟨M3, g2, h⟩ := bsome h
      refine Ev_callVv (np := 2) (vs := [.int v1, .int v2]) (rest := []) mdX8_loseLast lkX8_95 ⟨_, rfl, rfl⟩ (oX8_loseLast g2) (rX8_loseLast g2) rfl rfl (Nat.le_of_ble_eq_true rfl) (Nat.le_of_ble_eq_true rfl) dX8_loseFirst_52 ?_
      cases h
      exact Ev_vret rfl dX8_loseFirst_55 ⟨rfl, rfl⟩
    · rw [if_neg q1] at h
      refine Ev_aload_n (x := v0) rfl dX8_loseFirst_23 ?_
      obtain ⟨a4, g4, h⟩ := bsome h
      refine Ev_getR flX8_13 dX8_loseFirst_24 g4 ?_
      refine Ev_iload_n (x := v3) rfl dX8_loseFirst_27 ?_
      refine Ev_iload (x := v4) rfl dX8_loseFirst_28 ?_
      refine Ev_iadd dX8_loseFirst_30 ?_
      refine Ev_aload_n (x := v0) rfl dX8_loseFirst_31 ?_
      obtain ⟨a5, g5, h⟩ := bsome h
      refine Ev_getR flX8_13 dX8_loseFirst_32 g5 ?_
      refine Ev_iload_n (x := v3) rfl dX8_loseFirst_35 ?_
      refine Ev_iload (x := v4) rfl dX8_loseFirst_36 ?_
      refine Ev_iadd dX8_loseFirst_38 ?_
      refine Ev_iconst ic_1 dX8_loseFirst_39 ?_
      refine Ev_iadd dX8_loseFirst_40 ?_
      obtain ⟨x6, g6, h⟩ := bsome h
      refine Ev_iald dX8_loseFirst_41 g6 ?_
      obtain ⟨M7, g7, h⟩ := bsome h
      refine Ev_iast dX8_loseFirst_42 g7 ?_
      refine Ev_iinc (x := v4) (v := (v4 + 1)) (loc2 := [some (.ref v0), some (.int v1), some (.int v2), some (.int v3), some (.int (v4 + 1))]) rfl (congrArg (v4 + ·) ic_1) (Nat.le_of_ble_eq_true rfl) rfl rfl dX8_loseFirst_43 ?_
      refine Ev_goto (tgt := 16) dX8_loseFirst_46 (by decide) ?_
      exact ih M7 v0 v1 v2 v3 (v4 + 1) h
def fX8_loseFirst (M : mM) (v0 : Nat) (v1 : Int32) (v2 : Int32) : Option mM :=
    if isO M v0 8 = true then
      fX8_loseFirst_c16 FUEL M v0 v1 v2 (((57 * v1) + 8) + (12 * v2)) 0
    else none
theorem oX8_loseFirst {M : mM} {v0 : Nat} {v1 : Int32} {v2 : Int32} {y : mM} (h : fX8_loseFirst M v0 v1 v2 = some y) : isO M v0 8 = true := by
  unfold fX8_loseFirst at h
  exact (gsome h).1
set_option maxRecDepth 20000 in
set_option maxHeartbeats 4000000 in
theorem rX8_loseFirst {E : mE} {M : mM} {v0 : Nat} {v1 : Int32} {v2 : Int32} {Mf : mM} (h : fX8_loseFirst M v0 v1 v2 = some Mf) : EvC mX8_loseFirst E 1 0 0 [.ref v0, .int v1, .int v2] M none Mf := by
  unfold fX8_loseFirst at h
  replace h := (gsome h).2
  refine EvC.of [some (.ref v0), some (.int v1), some (.int v2), none, none] pnX8_loseFirst rfl (Nat.le_of_ble_eq_true rfl) ?_
  refine Ev_bipush bp_57 dX8_loseFirst_0 ?_
  refine Ev_iload_n (x := v1) rfl dX8_loseFirst_2 ?_
  refine Ev_imul dX8_loseFirst_3 ?_
  refine Ev_bipush bp_8 dX8_loseFirst_4 ?_
  refine Ev_iadd dX8_loseFirst_6 ?_
  refine Ev_bipush bp_12 dX8_loseFirst_7 ?_
  refine Ev_iload_n (x := v2) rfl dX8_loseFirst_9 ?_
  refine Ev_imul dX8_loseFirst_10 ?_
  refine Ev_iadd dX8_loseFirst_11 ?_
  refine Ev_istore_n (loc2 := [some (.ref v0), some (.int v1), some (.int v2), some (.int (((57 * v1) + 8) + (12 * v2))), none]) (Nat.le_of_ble_eq_true rfl) rfl rfl dX8_loseFirst_12 ?_
  refine Ev_iconst ic_0 dX8_loseFirst_13 ?_
  refine Ev_istore (loc2 := [some (.ref v0), some (.int v1), some (.int v2), some (.int (((57 * v1) + 8) + (12 * v2))), some (.int 0)]) (Nat.le_of_ble_eq_true rfl) rfl rfl dX8_loseFirst_14 ?_
  exact rX8_loseFirst_c16 FUEL M v0 v1 v2 (((57 * v1) + 8) + (12 * v2)) 0 h
