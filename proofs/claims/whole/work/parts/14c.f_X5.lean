/-! printed by wip/whole/gen.py -/
/-! TinselRiver$Text.<init>()V -/
def fX5_init (M : mM) (v0 : Nat) : Option mM :=
    if isO M v0 5 = true then
      (some (M ++ [.inr (.inl (false, List.replicate 48 0))])).bind fun M1 =>
      (sV M1 v0 5 0 (.ref (List.length M))).bind fun M2 =>
      some M2
    else none
theorem oX5_init {M : mM} {v0 : Nat} {y : mM} (h : fX5_init M v0 = some y) : isO M v0 5 = true := by
  unfold fX5_init at h
  exact (gsome h).1
set_option maxRecDepth 20000 in
set_option maxHeartbeats 4000000 in
theorem rX5_init {E : mE} {M : mM} {v0 : Nat} {Mf : mM} (h : fX5_init M v0 = some Mf) : EvC mX5_init E 1 1 48 [.ref v0] M none Mf := by
  unfold fX5_init at h
  replace h := (gsome h).2
  refine EvC.of [some (.ref v0)] pnX5_init rfl (Nat.le_of_ble_eq_true rfl) ?_
  refine Ev_aload_n (x := v0) rfl dX5_init_0 ?_
  refine Ev_objInit lkX5_3 md_oi1 md_oi2 (Nat.le_of_ble_eq_true rfl) (Nat.le_of_ble_eq_true rfl) dX5_init_1 ?_
  refine Ev_aload_n (x := v0) rfl dX5_init_4 ?_
  refine Ev_bipush bp_48 dX5_init_5 ?_
  obtain ⟨M1, g1, h⟩ := bsome h
  refine Ev_newa_e (z := false) (N := 48) rfl ac_int (by decide) (by decide) (Nat.le_of_ble_eq_true rfl) (Nat.le_of_ble_eq_true rfl) (Nat.le_of_ble_eq_true rfl) (Option.some.inj g1) dX5_init_7 ?_
  obtain ⟨M2, g2, h⟩ := bsome h
  refine Ev_put (v := .ref (List.length M)) flX5_9 ⟨rfl, rfl⟩ (fun q hq => by cases hq; exact Or.inr ⟨rfl, rfl, rfl, _, mT0_tbl (i := 26) (by decide +kernel) (by decide +kernel), rfl⟩) dX5_init_9 g2 ?_
  cases h
  exact Ev_vret rfl dX5_init_12 ⟨rfl, rfl⟩
/-! TinselRiver$Text.add(I)I -/
def fX5_add (M : mM) (v0 : Nat) (v1 : Int32) : Option (Int32 × mM) :=
    if isO M v0 5 = true then
      (gI M v0 5 1).bind fun x1 =>
      if x1 < 48 then
        ((gR M v0 5 0).bind fun a3 =>
        (gI M v0 5 1).bind fun x4 =>
        (aS M false a3 x4 v1).bind fun M5 =>
        (gI M5 v0 5 1).bind fun x6 =>
        (sV M5 v0 5 1 (.int (x6 + 1))).bind fun M7 =>
        (gI M7 v0 5 1).bind fun x8 =>
        some (x8, M7))
      else
        (some ((-4), M))
    else none
theorem oX5_add {M : mM} {v0 : Nat} {v1 : Int32} {y : (Int32 × mM)} (h : fX5_add M v0 v1 = some y) : isO M v0 5 = true := by
  unfold fX5_add at h
  exact (gsome h).1
set_option maxRecDepth 20000 in
set_option maxHeartbeats 4000000 in
theorem rX5_add {E : mE} {M : mM} {v0 : Nat} {v1 : Int32} {x : Int32} {Mf : mM} (h : fX5_add M v0 v1 = some (x, Mf)) : EvC mX5_add E 0 0 0 [.ref v0, .int v1] M (some (.int x)) Mf := by
  unfold fX5_add at h
  replace h := (gsome h).2
  refine EvC.of [some (.ref v0), some (.int v1)] pnX5_add rfl (Nat.le_of_ble_eq_true rfl) ?_
  refine Ev_aload_n (x := v0) rfl dX5_add_0 ?_
  obtain ⟨x1, g1, h⟩ := bsome h
  refine Ev_getI flX5_15 dX5_add_1 g1 ?_
  refine Ev_bipush bp_48 dX5_add_4 ?_
  refine Ev_icmp_lt (tgt := 12) dX5_add_6 (by decide) (fun q2 => ?_) (fun q2 => ?_)
  · rw [if_pos q2] at h
    refine Ev_aload_n (x := v0) rfl dX5_add_12 ?_
    obtain ⟨a3, g3, h⟩ := bsome h
    refine Ev_getR flX5_9 dX5_add_13 g3 ?_
    refine Ev_aload_n (x := v0) rfl dX5_add_16 ?_
    obtain ⟨x4, g4, h⟩ := bsome h
    refine Ev_getI flX5_15 dX5_add_17 g4 ?_
    refine Ev_iload_n (x := v1) rfl dX5_add_20 ?_
    obtain ⟨M5, g5, h⟩ := bsome h
    refine Ev_iast dX5_add_21 g5 ?_
    refine Ev_aload_n (x := v0) rfl dX5_add_22 ?_
    refine Ev_dup rfl dX5_add_23 ?_
    obtain ⟨x6, g6, h⟩ := bsome h
    refine Ev_getI flX5_15 dX5_add_24 g6 ?_
    refine Ev_iconst ic_1 dX5_add_27 ?_
    refine Ev_iadd dX5_add_28 ?_
    obtain ⟨M7, g7, h⟩ := bsome h
    refine Ev_put (v := .int (x6 + 1)) flX5_15 ⟨rfl, rfl⟩ (fun q hq => by cases hq; exact Or.inl rfl) dX5_add_29 g7 ?_
    refine Ev_aload_n (x := v0) rfl dX5_add_32 ?_
    obtain ⟨x8, g8, h⟩ := bsome h
    refine Ev_getI flX5_15 dX5_add_33 g8 ?_
    cases h
    exact Ev_iret rfl rfl dX5_add_36 ⟨rfl, rfl⟩
  · rw [if_neg q2] at h
    refine Ev_bipush bp_m4 dX5_add_9 ?_
    cases h
    exact Ev_iret rfl rfl dX5_add_11 ⟨rfl, rfl⟩
/-! TinselRiver$Text.clear()I -/
def fX5_clear (M : mM) (v0 : Nat) : Option (Int32 × mM) :=
    if isO M v0 5 = true then
      (gI M v0 5 1).bind fun x1 =>
      (sV M v0 5 1 (.int 0)).bind fun M2 =>
      some (x1, M2)
    else none
theorem oX5_clear {M : mM} {v0 : Nat} {y : (Int32 × mM)} (h : fX5_clear M v0 = some y) : isO M v0 5 = true := by
  unfold fX5_clear at h
  exact (gsome h).1
set_option maxRecDepth 20000 in
set_option maxHeartbeats 4000000 in
theorem rX5_clear {E : mE} {M : mM} {v0 : Nat} {x : Int32} {Mf : mM} (h : fX5_clear M v0 = some (x, Mf)) : EvC mX5_clear E 0 0 0 [.ref v0] M (some (.int x)) Mf := by
  unfold fX5_clear at h
  replace h := (gsome h).2
  refine EvC.of [some (.ref v0), none] pnX5_clear rfl (Nat.le_of_ble_eq_true rfl) ?_
  refine Ev_aload_n (x := v0) rfl dX5_clear_0 ?_
  obtain ⟨x1, g1, h⟩ := bsome h
  refine Ev_getI flX5_15 dX5_clear_1 g1 ?_
  refine Ev_istore_n (loc2 := [some (.ref v0), some (.int x1)]) (Nat.le_of_ble_eq_true rfl) rfl rfl dX5_clear_4 ?_
  refine Ev_aload_n (x := v0) rfl dX5_clear_5 ?_
  refine Ev_iconst ic_0 dX5_clear_6 ?_
  obtain ⟨M2, g2, h⟩ := bsome h
  refine Ev_put (v := .int 0) flX5_15 ⟨rfl, rfl⟩ (fun q hq => by cases hq; exact Or.inl rfl) dX5_clear_7 g2 ?_
  refine Ev_iload_n (x := x1) rfl dX5_clear_10 ?_
  cases h
  exact Ev_iret rfl rfl dX5_clear_11 ⟨rfl, rfl⟩
/-! TinselRiver$Text.isBend(I)Z -/
def fX5_isBend (M : mM) (v0 : Int32) : Option Int32 :=
    if v0 < 97 then
      (some 0)
    else
      (if 101 ≤ v0 then
        (some 0)
      else
        (some 1))
set_option maxRecDepth 20000 in
set_option maxHeartbeats 4000000 in
theorem rX5_isBend {E : mE} {M : mM} {v0 : Int32} {x : Int32} (h : fX5_isBend M v0 = some x) : EvC mX5_isBend E 0 0 0 [.int v0] M (some (.int x)) M := by
  unfold fX5_isBend at h
  refine EvC.of [some (.int v0)] pnX5_isBend rfl (Nat.le_of_ble_eq_true rfl) ?_
  refine Ev_iload_n (x := v0) rfl dX5_isBend_0 ?_
  refine Ev_bipush bp_97 dX5_isBend_1 ?_
  refine Ev_icmp_lt (tgt := 16) dX5_isBend_3 (by decide) (fun q1 => ?_) (fun q1 => ?_)
  · rw [if_pos q1] at h
    refine Ev_iconst ic_0 dX5_isBend_16 ?_
    cases h
    exact Ev_iret rfl rfl dX5_isBend_17 ⟨rfl, rfl⟩
  · rw [if_neg q1] at h
    refine Ev_iload_n (x := v0) rfl dX5_isBend_6 ?_
    refine Ev_bipush bp_101 dX5_isBend_7 ?_
    refine Ev_icmp_ge (tgt := 16) dX5_isBend_9 (by decide) (fun q2 => ?_) (fun q2 => ?_)
    · rw [if_pos q2] at h
      refine Ev_iconst ic_0 dX5_isBend_16 ?_
      cases h
      exact Ev_iret rfl rfl dX5_isBend_17 ⟨rfl, rfl⟩
    · rw [if_neg q2] at h
      refine Ev_iconst ic_1 dX5_isBend_12 ?_
      refine Ev_goto (tgt := 17) dX5_isBend_13 (by decide) ?_
      cases h
      exact Ev_iret rfl rfl dX5_isBend_17 ⟨rfl, rfl⟩
/-! TinselRiver$Text.isFigure(II)Z -/
def fX5_isFigure (M : mM) (v0 : Int32) (v1 : Int32) : Option Int32 :=
    if v0 < 48 then
      (some 0)
    else
      (if (48 + v1) ≤ v0 then
        (some 0)
      else
        (some 1))
set_option maxRecDepth 20000 in
set_option maxHeartbeats 4000000 in
theorem rX5_isFigure {E : mE} {M : mM} {v0 : Int32} {v1 : Int32} {x : Int32} (h : fX5_isFigure M v0 v1 = some x) : EvC mX5_isFigure E 0 0 0 [.int v0, .int v1] M (some (.int x)) M := by
  unfold fX5_isFigure at h
  refine EvC.of [some (.int v0), some (.int v1)] pnX5_isFigure rfl (Nat.le_of_ble_eq_true rfl) ?_
  refine Ev_iload_n (x := v0) rfl dX5_isFigure_0 ?_
  refine Ev_bipush bp_48 dX5_isFigure_1 ?_
  refine Ev_icmp_lt (tgt := 18) dX5_isFigure_3 (by decide) (fun q1 => ?_) (fun q1 => ?_)
  · rw [if_pos q1] at h
    refine Ev_iconst ic_0 dX5_isFigure_18 ?_
    cases h
    exact Ev_iret rfl rfl dX5_isFigure_19 ⟨rfl, rfl⟩
  · rw [if_neg q1] at h
    refine Ev_iload_n (x := v0) rfl dX5_isFigure_6 ?_
    refine Ev_bipush bp_48 dX5_isFigure_7 ?_
    refine Ev_iload_n (x := v1) rfl dX5_isFigure_9 ?_
    refine Ev_iadd dX5_isFigure_10 ?_
    refine Ev_icmp_ge (tgt := 18) dX5_isFigure_11 (by decide) (fun q2 => ?_) (fun q2 => ?_)
    · rw [if_pos q2] at h
      refine Ev_iconst ic_0 dX5_isFigure_18 ?_
      cases h
      exact Ev_iret rfl rfl dX5_isFigure_19 ⟨rfl, rfl⟩
    · rw [if_neg q2] at h
      refine Ev_iconst ic_1 dX5_isFigure_14 ?_
      refine Ev_goto (tgt := 19) dX5_isFigure_15 (by decide) ?_
      cases h
      exact Ev_iret rfl rfl dX5_isFigure_19 ⟨rfl, rfl⟩
/-! TinselRiver$Text.stateAfter(III)I -/
def fX5_stateAfter (M : mM) (v0 : Int32) (v1 : Int32) (v2 : Int32) : Option Int32 :=
    if v0 = 0 then
      (if v1 = 84 then
        (some 3)
      else
        (some (-1)))
    else
      (if v0 = 1 then
        ((fX5_isFigure M v1 4).bind fun x22 =>
        if x22 = 0 then
          (some (-1))
        else
          (some 2))
      else
        (if v0 = 2 then
          ((fX5_isFigure M v1 4).bind fun x19 =>
          if x19 = 0 then
            (some (-1))
          else
            (some 4))
        else
          (if v0 < 4 then
            (if v1 = 83 then
              (if v0 = 4 then
                (some (-1))
              else
                (if 4 ≤ v2 then
                  (some (-1))
                else
                  (some 1)))
            else
              (some (-1)))
          else
            (if 10 ≤ v0 then
              (if v1 = 83 then
                (if v0 = 4 then
                  (some (-1))
                else
                  (if 4 ≤ v2 then
                    (some (-1))
                  else
                    (some 1)))
              else
                (some (-1)))
            else
              ((fX5_isBend M v1).bind fun x13 =>
              if x13 = 0 then
                (if v1 = 83 then
                  (if v0 = 4 then
                    (some (-1))
                  else
                    (if 4 ≤ v2 then
                      (some (-1))
                    else
                      (some 1)))
                else
                  (some (-1)))
              else
                (some (v0 + 1)))))))
set_option maxRecDepth 20000 in
set_option maxHeartbeats 4000000 in
theorem rX5_stateAfter {E : mE} {M : mM} {v0 : Int32} {v1 : Int32} {v2 : Int32} {x : Int32} (h : fX5_stateAfter M v0 v1 v2 = some x) : EvC mX5_stateAfter E 1 0 0 [.int v0, .int v1, .int v2] M (some (.int x)) M := by
  unfold fX5_stateAfter at h
  refine EvC.of [some (.int v0), some (.int v1), some (.int v2)] pnX5_stateAfter rfl (Nat.le_of_ble_eq_true rfl) ?_
  refine Ev_iload_n (x := v0) rfl dX5_stateAfter_0 ?_
  refine Ev_if_ne (tgt := 16) dX5_stateAfter_1 (by decide) (fun q1 => ?_) (fun q1 => ?_)
  · rw [if_neg q1] at h
    refine Ev_iload_n (x := v0) rfl dX5_stateAfter_16 ?_
    refine Ev_iconst ic_1 dX5_stateAfter_17 ?_
    refine Ev_icmp_ne (tgt := 35) dX5_stateAfter_18 (by decide) (fun q2 => ?_) (fun q2 => ?_)
    · rw [if_neg q2] at h
      refine Ev_iload_n (x := v0) rfl dX5_stateAfter_35 ?_
      refine Ev_iconst ic_2 dX5_stateAfter_36 ?_
      refine Ev_icmp_ne (tgt := 54) dX5_stateAfter_37 (by decide) (fun q3 => ?_) (fun q3 => ?_)
      · rw [if_neg q3] at h
        refine Ev_iload_n (x := v0) rfl dX5_stateAfter_54 ?_
        refine Ev_iconst ic_4 dX5_stateAfter_55 ?_
        refine Ev_icmp_lt (tgt := 76) dX5_stateAfter_56 (by decide) (fun q4 => ?_) (fun q4 => ?_)
        · rw [if_pos q4] at h
          refine Ev_iload_n (x := v1) rfl dX5_stateAfter_76 ?_
          refine Ev_bipush bp_83 dX5_stateAfter_77 ?_
          refine Ev_icmp_ne (tgt := 96) dX5_stateAfter_79 (by decide) (fun q5 => ?_) (fun q5 => ?_)
          · rw [if_neg q5] at h
            refine Ev_iconst ic_m1 dX5_stateAfter_96 ?_
            cases h
            exact Ev_iret rfl rfl dX5_stateAfter_97 ⟨rfl, rfl⟩
          · rw [if_pos q5] at h
            refine Ev_iload_n (x := v0) rfl dX5_stateAfter_82 ?_
            refine Ev_iconst ic_4 dX5_stateAfter_83 ?_
            refine Ev_icmp_eq (tgt := 96) dX5_stateAfter_84 (by decide) (fun q6 => ?_) (fun q6 => ?_)
            · rw [if_pos q6] at h
              refine Ev_iconst ic_m1 dX5_stateAfter_96 ?_
              cases h
              exact Ev_iret rfl rfl dX5_stateAfter_97 ⟨rfl, rfl⟩
            · rw [if_neg q6] at h
              refine Ev_iload_n (x := v2) rfl dX5_stateAfter_87 ?_
              refine Ev_iconst ic_4 dX5_stateAfter_88 ?_
              refine Ev_icmp_ge (tgt := 96) dX5_stateAfter_89 (by decide) (fun q7 => ?_) (fun q7 => ?_)
              · rw [if_pos q7] at h
                refine Ev_iconst ic_m1 dX5_stateAfter_96 ?_
                cases h
                exact Ev_iret rfl rfl dX5_stateAfter_97 ⟨rfl, rfl⟩
              · rw [if_neg q7] at h
                refine Ev_iconst ic_1 dX5_stateAfter_92 ?_
                refine Ev_goto (tgt := 97) dX5_stateAfter_93 (by decide) ?_
                cases h
                exact Ev_iret rfl rfl dX5_stateAfter_97 ⟨rfl, rfl⟩
        · rw [if_neg q4] at h
          refine Ev_iload_n (x := v0) rfl dX5_stateAfter_59 ?_
          refine Ev_bipush bp_10 dX5_stateAfter_60 ?_
          refine Ev_icmp_ge (tgt := 76) dX5_stateAfter_62 (by decide) (fun q8 => ?_) (fun q8 => ?_)
          · rw [if_pos q8] at h
            refine Ev_iload_n (x := v1) rfl dX5_stateAfter_76 ?_
            refine Ev_bipush bp_83 dX5_stateAfter_77 ?_
            refine Ev_icmp_ne (tgt := 96) dX5_stateAfter_79 (by decide) (fun q9 => ?_) (fun q9 => ?_)
            · rw [if_neg q9] at h
              refine Ev_iconst ic_m1 dX5_stateAfter_96 ?_
              cases h
              exact Ev_iret rfl rfl dX5_stateAfter_97 ⟨rfl, rfl⟩
            · rw [if_pos q9] at h
              refine Ev_iload_n (x := v0) rfl dX5_stateAfter_82 ?_
              refine Ev_iconst ic_4 dX5_stateAfter_83 ?_
              refine Ev_icmp_eq (tgt := 96) dX5_stateAfter_84 (by decide) (fun q10 => ?_) (fun q10 => ?_)
              · rw [if_pos q10] at h
                refine Ev_iconst ic_m1 dX5_stateAfter_96 ?_
                cases h
                exact Ev_iret rfl rfl dX5_stateAfter_97 ⟨rfl, rfl⟩
              · rw [if_neg q10] at h
                refine Ev_iload_n (x := v2) rfl dX5_stateAfter_87 ?_
                refine Ev_iconst ic_4 dX5_stateAfter_88 ?_
                refine Ev_icmp_ge (tgt := 96) dX5_stateAfter_89 (by decide) (fun q11 => ?_) (fun q11 => ?_)
                · rw [if_pos q11] at h
                  refine Ev_iconst ic_m1 dX5_stateAfter_96 ?_
                  cases h
                  exact Ev_iret rfl rfl dX5_stateAfter_97 ⟨rfl, rfl⟩
                · rw [if_neg q11] at h
                  refine Ev_iconst ic_1 dX5_stateAfter_92 ?_
                  refine Ev_goto (tgt := 97) dX5_stateAfter_93 (by decide) ?_
                  cases h
                  exact Ev_iret rfl rfl dX5_stateAfter_97 ⟨rfl, rfl⟩
          · rw [if_neg q8] at h
            refine Ev_iload_n (x := v1) rfl dX5_stateAfter_65 ?_
            obtain ⟨x13, g12, h⟩ := bsome h
            refine Ev_callSi (np := 1) (vs := [.int v1]) (rest := []) mdX5_isBend lkX5_27 (rX5_isBend g12) rfl rfl (Nat.le_of_ble_eq_true rfl) (Nat.le_of_ble_eq_true rfl) dX5_stateAfter_66 ?_
            refine Ev_if_eq (tgt := 76) dX5_stateAfter_69 (by decide) (fun q14 => ?_) (fun q14 => ?_)
            · rw [if_pos q14] at h
              refine Ev_iload_n (x := v1) rfl dX5_stateAfter_76 ?_
              refine Ev_bipush bp_83 dX5_stateAfter_77 ?_
              refine Ev_icmp_ne (tgt := 96) dX5_stateAfter_79 (by decide) (fun q15 => ?_) (fun q15 => ?_)
              · rw [if_neg q15] at h
                refine Ev_iconst ic_m1 dX5_stateAfter_96 ?_
                cases h
                exact Ev_iret rfl rfl dX5_stateAfter_97 ⟨rfl, rfl⟩
              · rw [if_pos q15] at h
                refine Ev_iload_n (x := v0) rfl dX5_stateAfter_82 ?_
                refine Ev_iconst ic_4 dX5_stateAfter_83 ?_
                refine Ev_icmp_eq (tgt := 96) dX5_stateAfter_84 (by decide) (fun q16 => ?_) (fun q16 => ?_)
                · rw [if_pos q16] at h
                  refine Ev_iconst ic_m1 dX5_stateAfter_96 ?_
                  cases h
                  exact Ev_iret rfl rfl dX5_stateAfter_97 ⟨rfl, rfl⟩
                · rw [if_neg q16] at h
                  refine Ev_iload_n (x := v2) rfl dX5_stateAfter_87 ?_
                  refine Ev_iconst ic_4 dX5_stateAfter_88 ?_
                  refine Ev_icmp_ge (tgt := 96) dX5_stateAfter_89 (by decide) (fun q17 => ?_) (fun q17 => ?_)
                  · rw [if_pos q17] at h
                    refine Ev_iconst ic_m1 dX5_stateAfter_96 ?_
                    cases h
                    exact Ev_iret rfl rfl dX5_stateAfter_97 ⟨rfl, rfl⟩
                  · rw [if_neg q17] at h
                    refine Ev_iconst ic_1 dX5_stateAfter_92 ?_
                    refine Ev_goto (tgt := 97) dX5_stateAfter_93 (by decide) ?_
                    cases h
                    exact Ev_iret rfl rfl dX5_stateAfter_97 ⟨rfl, rfl⟩
            · rw [if_neg q14] at h
              refine Ev_iload_n (x := v0) rfl dX5_stateAfter_72 ?_
              refine Ev_iconst ic_1 dX5_stateAfter_73 ?_
              refine Ev_iadd dX5_stateAfter_74 ?_
              cases h
              exact Ev_iret rfl rfl dX5_stateAfter_75 ⟨rfl, rfl⟩
      · rw [if_pos q3] at h
        refine Ev_iload_n (x := v1) rfl dX5_stateAfter_40 ?_
        refine Ev_iconst ic_4 dX5_stateAfter_41 ?_
        obtain ⟨x19, g18, h⟩ := bsome h
        refine Ev_callSi (np := 2) (vs := [.int v1, .int 4]) (rest := []) mdX5_isFigure lkX5_23 (rX5_isFigure g18) rfl rfl (Nat.le_of_ble_eq_true rfl) (Nat.le_of_ble_eq_true rfl) dX5_stateAfter_42 ?_
        refine Ev_if_eq (tgt := 52) dX5_stateAfter_45 (by decide) (fun q20 => ?_) (fun q20 => ?_)
        · rw [if_pos q20] at h
          refine Ev_iconst ic_m1 dX5_stateAfter_52 ?_
          cases h
          exact Ev_iret rfl rfl dX5_stateAfter_53 ⟨rfl, rfl⟩
        · rw [if_neg q20] at h
          refine Ev_iconst ic_4 dX5_stateAfter_48 ?_
          refine Ev_goto (tgt := 53) dX5_stateAfter_49 (by decide) ?_
          cases h
          exact Ev_iret rfl rfl dX5_stateAfter_53 ⟨rfl, rfl⟩
    · rw [if_pos q2] at h
      refine Ev_iload_n (x := v1) rfl dX5_stateAfter_21 ?_
      refine Ev_iconst ic_4 dX5_stateAfter_22 ?_
      obtain ⟨x22, g21, h⟩ := bsome h
      refine Ev_callSi (np := 2) (vs := [.int v1, .int 4]) (rest := []) mdX5_isFigure lkX5_23 (rX5_isFigure g21) rfl rfl (Nat.le_of_ble_eq_true rfl) (Nat.le_of_ble_eq_true rfl) dX5_stateAfter_23 ?_
      refine Ev_if_eq (tgt := 33) dX5_stateAfter_26 (by decide) (fun q23 => ?_) (fun q23 => ?_)
      · rw [if_pos q23] at h
        refine Ev_iconst ic_m1 dX5_stateAfter_33 ?_
        cases h
        exact Ev_iret rfl rfl dX5_stateAfter_34 ⟨rfl, rfl⟩
      · rw [if_neg q23] at h
        refine Ev_iconst ic_2 dX5_stateAfter_29 ?_
        refine Ev_goto (tgt := 34) dX5_stateAfter_30 (by decide) ?_
        cases h
        exact Ev_iret rfl rfl dX5_stateAfter_34 ⟨rfl, rfl⟩
  · rw [if_pos q1] at h
    refine Ev_iload_n (x := v1) rfl dX5_stateAfter_4 ?_
    refine Ev_bipush bp_84 dX5_stateAfter_5 ?_
    refine Ev_icmp_ne (tgt := 14) dX5_stateAfter_7 (by decide) (fun q24 => ?_) (fun q24 => ?_)
    · rw [if_neg q24] at h
      refine Ev_iconst ic_m1 dX5_stateAfter_14 ?_
      cases h
      exact Ev_iret rfl rfl dX5_stateAfter_15 ⟨rfl, rfl⟩
    · rw [if_pos q24] at h
      refine Ev_iconst ic_3 dX5_stateAfter_10 ?_
      refine Ev_goto (tgt := 15) dX5_stateAfter_11 (by decide) ?_
      cases h
      exact Ev_iret rfl rfl dX5_stateAfter_15 ⟨rfl, rfl⟩
/-! TinselRiver$Text.firstFault()I -/
def fX5_firstFault_c6 (M : mM) : Nat → Nat → Int32 → Int32 → Int32 → Option Int32
  | 0, _, _, _, _ => none
  | n + 1, v0, v1, v2, v3 =>
    (gI M v0 5 1).bind fun x1 =>
    if x1 ≤ v3 then
      (if v1 = 3 then
        (some (-9))
      else
        (if v1 ≤ 4 then
          ((gI M v0 5 1).bind fun x5 =>
          some x5)
        else
          (some (-9))))
    else
      ((gR M v0 5 0).bind fun a6 =>
      (aI M false a6 v3).bind fun x7 =>
      (fX5_stateAfter M v1 x7 v2).bind fun x9 =>
      if x9 = (-1) then
        (some v3)
      else
        (if x9 = 1 then
          (fX5_firstFault_c6 M n v0 x9 (v2 + 1) (v3 + 1))
        else
          (fX5_firstFault_c6 M n v0 x9 v2 (v3 + 1))))
set_option maxRecDepth 20000 in
set_option maxHeartbeats 4000000 in
theorem rX5_firstFault_c6 {E : mE} {M : mM} {x : Int32} : ∀ (n : Nat) (v0 : Nat) (v1 : Int32) (v2 : Int32) (v3 : Int32), fX5_firstFault_c6 M n v0 v1 v2 v3 = some x → Ev mX5_firstFault E 2 0 0 (some (.int x)) M 6 [some (.ref v0), some (.int v1), some (.int v2), some (.int v3)] [] M 0 0 := by
  intro n
  induction n with
  | zero => intro v0 v1 v2 v3 h; rw [fX5_firstFault_c6.eq_1] at h; cases h
  | succ n ih =>
    intro v0 v1 v2 v3 h
    rw [fX5_firstFault_c6.eq_2] at h
    refine Ev_iload_n (x := v3) rfl dX5_firstFault_6 ?_
    refine Ev_aload_n (x := v0) rfl dX5_firstFault_7 ?_
    obtain ⟨x1, g1, h⟩ := bsome h
    refine Ev_getI flX5_15 dX5_firstFault_8 g1 ?_
    refine Ev_icmp_ge (tgt := 47) dX5_firstFault_11 (by decide) (fun q2 => ?_) (fun q2 => ?_)
    · rw [if_pos q2] at h
      refine Ev_iload_n (x := v1) rfl dX5_firstFault_47 ?_
      refine Ev_iconst ic_3 dX5_firstFault_48 ?_
      refine Ev_icmp_eq (tgt := 57) dX5_firstFault_49 (by decide) (fun q3 => ?_) (fun q3 => ?_)
      · rw [if_pos q3] at h
        refine Ev_bipush bp_m9 dX5_firstFault_57 ?_
        refine Ev_goto (tgt := 66) dX5_firstFault_59 (by decide) ?_
        cases h
        exact Ev_iret rfl rfl dX5_firstFault_66 ⟨rfl, rfl⟩
      · rw [if_neg q3] at h
        refine Ev_iload_n (x := v1) rfl dX5_firstFault_52 ?_
        refine Ev_iconst ic_4 dX5_firstFault_53 ?_
        refine Ev_icmp_le (tgt := 62) dX5_firstFault_54 (by decide) (fun q4 => ?_) (fun q4 => ?_)
        · rw [if_pos q4] at h
          refine Ev_aload_n (x := v0) rfl dX5_firstFault_62 ?_
          obtain ⟨x5, g5, h⟩ := bsome h
          refine Ev_getI flX5_15 dX5_firstFault_63 g5 ?_
          cases h
          exact Ev_iret rfl rfl dX5_firstFault_66 ⟨rfl, rfl⟩
        · rw [if_neg q4] at h
          refine Ev_bipush bp_m9 dX5_firstFault_57 ?_
          refine Ev_goto (tgt := 66) dX5_firstFault_59 (by decide) ?_
          cases h
          exact Ev_iret rfl rfl dX5_firstFault_66 ⟨rfl, rfl⟩
    · rw [if_neg q2] at h
      refine Ev_iload_n (x := v1) rfl dX5_firstFault_14 ?_
      refine Ev_aload_n (x := v0) rfl dX5_firstFault_15 ?_
      obtain ⟨a6, g6, h⟩ := bsome h
      refine Ev_getR flX5_9 dX5_firstFault_16 g6 ?_
      refine Ev_iload_n (x := v3) rfl dX5_firstFault_19 ?_
      obtain ⟨x7, g7, h⟩ := bsome h
      refine Ev_iald dX5_firstFault_20 g7 ?_
      refine Ev_iload_n (x := v2) rfl dX5_firstFault_21 ?_
      obtain ⟨x9, g8, h⟩ := bsome h
      refine Ev_callSi (np := 3) (vs := [.int v1, .int x7, .int v2]) (rest := []) mdX5_stateAfter lkX5_19 (rX5_stateAfter g8) rfl rfl (Nat.le_of_ble_eq_true rfl) (Nat.le_of_ble_eq_true rfl) dX5_firstFault_22 ?_
      refine Ev_istore_n (loc2 := [some (.ref v0), some (.int x9), some (.int v2), some (.int v3)]) (Nat.le_of_ble_eq_true rfl) rfl rfl dX5_firstFault_25 ?_
      refine Ev_iload_n (x := x9) rfl dX5_firstFault_26 ?_
      refine Ev_iconst ic_m1 dX5_firstFault_27 ?_
      refine Ev_icmp_ne (tgt := 33) dX5_firstFault_28 (by decide) (fun q10 => ?_) (fun q10 => ?_)
      · rw [if_neg q10] at h
        refine Ev_iload_n (x := x9) rfl dX5_firstFault_33 ?_
        refine Ev_iconst ic_1 dX5_firstFault_34 ?_
        refine Ev_icmp_ne (tgt := 41) dX5_firstFault_35 (by decide) (fun q11 => ?_) (fun q11 => ?_)
        · rw [if_neg q11] at h
          refine Ev_iinc (x := v3) (v := (v3 + 1)) (loc2 := [some (.ref v0), some (.int x9), some (.int v2), some (.int (v3 + 1))]) rfl (congrArg (v3 + ·) ic_1) (Nat.le_of_ble_eq_true rfl) rfl rfl dX5_firstFault_41 ?_
          refine Ev_goto (tgt := 6) dX5_firstFault_44 (by decide) ?_
          exact ih v0 x9 v2 (v3 + 1) h
        · rw [if_pos q11] at h
          refine Ev_iinc (x := v2) (v := (v2 + 1)) (loc2 := [some (.ref v0), some (.int x9), some (.int (v2 + 1)), some (.int v3)]) rfl (congrArg (v2 + ·) ic_1) (Nat.le_of_ble_eq_true rfl) rfl rfl dX5_firstFault_38 ?_
          refine Ev_iinc (x := v3) (v := (v3 + 1)) (loc2 := [some (.ref v0), some (.int x9), some (.int (v2 + 1)), some (.int (v3 + 1))]) rfl (congrArg (v3 + ·) ic_1) (Nat.le_of_ble_eq_true rfl) rfl rfl dX5_firstFault_41 ?_
          refine Ev_goto (tgt := 6) dX5_firstFault_44 (by decide) ?_
          exact ih v0 x9 (v2 + 1) (v3 + 1) h
      · rw [if_pos q10] at h
        refine Ev_iload_n (x := v3) rfl dX5_firstFault_31 ?_
        cases h
        exact Ev_iret rfl rfl dX5_firstFault_32 ⟨rfl, rfl⟩
def fX5_firstFault (M : mM) (v0 : Nat) : Option Int32 :=
    if isO M v0 5 = true then
      fX5_firstFault_c6 M FUEL v0 0 0 0
    else none
theorem oX5_firstFault {M : mM} {v0 : Nat} {y : Int32} (h : fX5_firstFault M v0 = some y) : isO M v0 5 = true := by
  unfold fX5_firstFault at h
  exact (gsome h).1
set_option maxRecDepth 20000 in
set_option maxHeartbeats 4000000 in
theorem rX5_firstFault {E : mE} {M : mM} {v0 : Nat} {x : Int32} (h : fX5_firstFault M v0 = some x) : EvC mX5_firstFault E 2 0 0 [.ref v0] M (some (.int x)) M := by
  unfold fX5_firstFault at h
  replace h := (gsome h).2
  refine EvC.of [some (.ref v0), none, none, none] pnX5_firstFault rfl (Nat.le_of_ble_eq_true rfl) ?_
  refine Ev_iconst ic_0 dX5_firstFault_0 ?_
  refine Ev_istore_n (loc2 := [some (.ref v0), some (.int 0), none, none]) (Nat.le_of_ble_eq_true rfl) rfl rfl dX5_firstFault_1 ?_
  refine Ev_iconst ic_0 dX5_firstFault_2 ?_
  refine Ev_istore_n (loc2 := [some (.ref v0), some (.int 0), some (.int 0), none]) (Nat.le_of_ble_eq_true rfl) rfl rfl dX5_firstFault_3 ?_
  refine Ev_iconst ic_0 dX5_firstFault_4 ?_
  refine Ev_istore_n (loc2 := [some (.ref v0), some (.int 0), some (.int 0), some (.int 0)]) (Nat.le_of_ble_eq_true rfl) rfl rfl dX5_firstFault_5 ?_
  exact rX5_firstFault_c6 FUEL v0 0 0 0 h
/-! TinselRiver$Text.tellTo(LTinselRiver$Valley;)V -/
def fX5_tellTo_c6 : Nat → mM → Nat → Nat → Int32 → Option mM
  | 0, _, _, _, _ => none
  | n + 1, M, v0, v1, v2 =>
    (gI M v0 5 1).bind fun x1 =>
    if x1 ≤ v2 then
      (some M)
    else
      ((gR M v0 5 0).bind fun a3 =>
      (aI M false a3 v2).bind fun x4 =>
      (fX5_isBend M x4).bind fun x6 =>
      if x6 = 0 then
        ((gR M v0 5 0).bind fun a8 =>
        (aI M false a8 v2).bind fun x9 =>
        if x9 = 83 then
          ((gI M v0 5 1).bind fun x11 =>
          if x11 ≤ (v2 + 2) then
            (fX5_tellTo_c6 n M v0 v1 (v2 + 1))
          else
            ((gR M v0 5 0).bind fun a13 =>
            (aI M false a13 (v2 + 1)).bind fun x14 =>
            (gR M v0 5 0).bind fun a15 =>
            (aI M false a15 (v2 + 2)).bind fun x16 =>
            (fX6_begin M v1 (x14 - 48) (x16 - 48)).bind fun M18 =>
            fX5_tellTo_c6 n M18 v0 v1 (v2 + 1)))
        else
          (fX5_tellTo_c6 n M v0 v1 (v2 + 1)))
      else
        ((gR M v0 5 0).bind fun a19 =>
        (aI M false a19 v2).bind fun x20 =>
        (fX6_bendLast M v1 ((x20 - 97) + 1)).bind fun M22 =>
        fX5_tellTo_c6 n M22 v0 v1 (v2 + 1)))
set_option maxRecDepth 20000 in
set_option maxHeartbeats 4000000 in
theorem rX5_tellTo_c6 {E : mE} {Mf : mM} : ∀ (n : Nat) (M : mM) (v0 : Nat) (v1 : Nat) (v2 : Int32), fX5_tellTo_c6 n M v0 v1 v2 = some Mf → Ev mX5_tellTo E 2 0 0 none Mf 6 [some (.ref v0), some (.ref v1), some (.int v2)] [] M 0 0 := by
  intro n
  induction n with
  | zero => intro M v0 v1 v2 h; rw [fX5_tellTo_c6.eq_1] at h; cases h
  | succ n ih =>
    intro M v0 v1 v2 h
    rw [fX5_tellTo_c6.eq_2] at h
    refine Ev_iload_n (x := v2) rfl dX5_tellTo_6 ?_
    refine Ev_aload_n (x := v0) rfl dX5_tellTo_7 ?_
    obtain ⟨x1, g1, h⟩ := bsome h
    refine Ev_getI flX5_15 dX5_tellTo_8 g1 ?_
    refine Ev_icmp_ge (tgt := 97) dX5_tellTo_11 (by decide) (fun q2 => ?_) (fun q2 => ?_)
    · rw [if_pos q2] at h
      cases h
      exact Ev_vret rfl dX5_tellTo_97 ⟨rfl, rfl⟩
    · rw [if_neg q2] at h
      refine Ev_aload_n (x := v0) rfl dX5_tellTo_14 ?_
      obtain ⟨a3, g3, h⟩ := bsome h
      refine Ev_getR flX5_9 dX5_tellTo_15 g3 ?_
      refine Ev_iload_n (x := v2) rfl dX5_tellTo_18 ?_
      obtain ⟨x4, g4, h⟩ := bsome h
      refine Ev_iald dX5_tellTo_19 g4 ?_
      obtain ⟨x6, g5, h⟩ := bsome h
      refine Ev_callSi (np := 1) (vs := [.int x4]) (rest := []) mdX5_isBend lkX5_27 (rX5_isBend g5) rfl rfl (Nat.le_of_ble_eq_true rfl) (Nat.le_of_ble_eq_true rfl) dX5_tellTo_20 ?_
      refine Ev_if_eq (tgt := 44) dX5_tellTo_23 (by decide) (fun q7 => ?_) (fun q7 => ?_)
      · rw [if_pos q7] at h
        refine Ev_aload_n (x := v0) rfl dX5_tellTo_44 ?_
        obtain ⟨a8, g8, h⟩ := bsome h
        refine Ev_getR flX5_9 dX5_tellTo_45 g8 ?_
        refine Ev_iload_n (x := v2) rfl dX5_tellTo_48 ?_
        obtain ⟨x9, g9, h⟩ := bsome h
        refine Ev_iald dX5_tellTo_49 g9 ?_
        refine Ev_bipush bp_83 dX5_tellTo_50 ?_
        refine Ev_icmp_ne (tgt := 91) dX5_tellTo_52 (by decide) (fun q10 => ?_) (fun q10 => ?_)
        · rw [if_neg q10] at h
          refine Ev_iinc (x := v2) (v := (v2 + 1)) (loc2 := [some (.ref v0), some (.ref v1), some (.int (v2 + 1))]) rfl (congrArg (v2 + ·) ic_1) (Nat.le_of_ble_eq_true rfl) rfl rfl dX5_tellTo_91 ?_
          refine Ev_goto (tgt := 6) dX5_tellTo_94 (by decide) ?_
          exact ih M v0 v1 (v2 + 1) h
        · rw [if_pos q10] at h
          refine Ev_iload_n (x := v2) rfl dX5_tellTo_55 ?_
          refine Ev_iconst ic_2 dX5_tellTo_56 ?_
          refine Ev_iadd dX5_tellTo_57 ?_
          refine Ev_aload_n (x := v0) rfl dX5_tellTo_58 ?_
          obtain ⟨x11, g11, h⟩ := bsome h
          refine Ev_getI flX5_15 dX5_tellTo_59 g11 ?_
          refine Ev_icmp_ge (tgt := 91) dX5_tellTo_62 (by decide) (fun q12 => ?_) (fun q12 => ?_)
          · rw [if_pos q12] at h
            refine Ev_iinc (x := v2) (v := (v2 + 1)) (loc2 := [some (.ref v0), some (.ref v1), some (.int (v2 + 1))]) rfl (congrArg (v2 + ·) ic_1) (Nat.le_of_ble_eq_true rfl) rfl rfl dX5_tellTo_91 ?_
            refine Ev_goto (tgt := 6) dX5_tellTo_94 (by decide) ?_
            exact ih M v0 v1 (v2 + 1) h
          · rw [if_neg q12] at h
            refine Ev_aload_n (x := v1) rfl dX5_tellTo_65 ?_
            refine Ev_aload_n (x := v0) rfl dX5_tellTo_66 ?_
            obtain ⟨a13, g13, h⟩ := bsome h
            refine Ev_getR flX5_9 dX5_tellTo_67 g13 ?_
            refine Ev_iload_n (x := v2) rfl dX5_tellTo_70 ?_
            refine Ev_iconst ic_1 dX5_tellTo_71 ?_
            refine Ev_iadd dX5_tellTo_72 ?_
            obtain ⟨x14, g14, h⟩ := bsome h
            refine Ev_iald dX5_tellTo_73 g14 ?_
            refine Ev_bipush bp_48 dX5_tellTo_74 ?_
            refine Ev_isub dX5_tellTo_76 ?_
            refine Ev_aload_n (x := v0) rfl dX5_tellTo_77 ?_
            obtain ⟨a15, g15, h⟩ := bsome h
            refine Ev_getR flX5_9 dX5_tellTo_78 g15 ?_
            refine Ev_iload_n (x := v2) rfl dX5_tellTo_81 ?_
            refine Ev_iconst ic_2 dX5_tellTo_82 ?_
            refine Ev_iadd dX5_tellTo_83 ?_
            obtain ⟨x16, g16, h⟩ := bsome h
            refine Ev_iald dX5_tellTo_84 g16 ?_
            refine Ev_bipush bp_48 dX5_tellTo_85 ?_
            refine Ev_isub dX5_tellTo_87 ?_
            obtain ⟨M18, g17, h⟩ := bsome h
            refine Ev_callVv (np := 2) (vs := [.int (x14 - 48), .int (x16 - 48)]) (rest := []) mdX6_begin lkX5_40 ⟨_, rfl, rfl⟩ (oX6_begin g17) (rX6_begin g17) rfl rfl (Nat.le_of_ble_eq_true rfl) (Nat.le_of_ble_eq_true rfl) dX5_tellTo_88 ?_
            refine Ev_iinc (x := v2) (v := (v2 + 1)) (loc2 := [some (.ref v0), some (.ref v1), some (.int (v2 + 1))]) rfl (congrArg (v2 + ·) ic_1) (Nat.le_of_ble_eq_true rfl) rfl rfl dX5_tellTo_91 ?_
            refine Ev_goto (tgt := 6) dX5_tellTo_94 (by decide) ?_
            exact ih M18 v0 v1 (v2 + 1) h
      · rw [if_neg q7] at h
        refine Ev_aload_n (x := v1) rfl dX5_tellTo_26 ?_
        refine Ev_aload_n (x := v0) rfl dX5_tellTo_27 ?_
        obtain ⟨a19, g19, h⟩ := bsome h
        refine Ev_getR flX5_9 dX5_tellTo_28 g19 ?_
        refine Ev_iload_n (x := v2) rfl dX5_tellTo_31 ?_
        obtain ⟨x20, g20, h⟩ := bsome h
        refine Ev_iald dX5_tellTo_32 g20 ?_
        refine Ev_bipush bp_97 dX5_tellTo_33 ?_
        refine Ev_isub dX5_tellTo_35 ?_
        refine Ev_iconst ic_1 dX5_tellTo_36 ?_
        refine Ev_iadd dX5_tellTo_37 ?_
        obtain ⟨M22, g21, h⟩ := bsome h
        refine Ev_callVv (np := 1) (vs := [.int ((x20 - 97) + 1)]) (rest := []) mdX6_bendLast lkX5_36 ⟨_, rfl, rfl⟩ (oX6_bendLast g21) (rX6_bendLast g21) rfl rfl (Nat.le_of_ble_eq_true rfl) (Nat.le_of_ble_eq_true rfl) dX5_tellTo_38 ?_
        refine Ev_goto (tgt := 91) dX5_tellTo_41 (by decide) ?_
        refine Ev_iinc (x := v2) (v := (v2 + 1)) (loc2 := [some (.ref v0), some (.ref v1), some (.int (v2 + 1))]) rfl (congrArg (v2 + ·) ic_1) (Nat.le_of_ble_eq_true rfl) rfl rfl dX5_tellTo_91 ?_
        refine Ev_goto (tgt := 6) dX5_tellTo_94 (by decide) ?_
        exact ih M22 v0 v1 (v2 + 1) h
def fX5_tellTo (M : mM) (v0 : Nat) (v1 : Nat) : Option mM :=
    if isO M v0 5 = true then
      (fX6_clear M v1).bind fun M2 =>
      fX5_tellTo_c6 FUEL M2 v0 v1 1
    else none
theorem oX5_tellTo {M : mM} {v0 : Nat} {v1 : Nat} {y : mM} (h : fX5_tellTo M v0 v1 = some y) : isO M v0 5 = true := by
  unfold fX5_tellTo at h
  exact (gsome h).1
set_option maxRecDepth 20000 in
set_option maxHeartbeats 4000000 in
theorem rX5_tellTo {E : mE} {M : mM} {v0 : Nat} {v1 : Nat} {Mf : mM} (h : fX5_tellTo M v0 v1 = some Mf) : EvC mX5_tellTo E 2 0 0 [.ref v0, .ref v1] M none Mf := by
  unfold fX5_tellTo at h
  replace h := (gsome h).2
  refine EvC.of [some (.ref v0), some (.ref v1), none] pnX5_tellTo rfl (Nat.le_of_ble_eq_true rfl) ?_
  refine Ev_aload_n (x := v1) rfl dX5_tellTo_0 ?_
  obtain ⟨M2, g1, h⟩ := bsome h
  refine Ev_callVv (np := 0) (vs := []) (rest := []) mdX6_clear lkX5_31 ⟨_, rfl, rfl⟩ (oX6_clear g1) (rX6_clear g1) rfl rfl (Nat.le_of_ble_eq_true rfl) (Nat.le_of_ble_eq_true rfl) dX5_tellTo_1 ?_
  refine Ev_iconst ic_1 dX5_tellTo_4 ?_
  refine Ev_istore_n (loc2 := [some (.ref v0), some (.ref v1), some (.int 1)]) (Nat.le_of_ble_eq_true rfl) rfl rfl dX5_tellTo_5 ?_
  exact rX5_tellTo_c6 FUEL M2 v0 v1 1 h
