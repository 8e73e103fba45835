/-! printed by wip/whole/gen.py -/
/-! TinselRiver.again(I)I -/
def fX7_again (M : mM) (v0 : Nat) (v1 : Int32) : Option (Int32 × mM) :=
    if isO M v0 7 = true then
      (gR M v0 7 4).bind fun a1 =>
      (gR M v0 7 1).bind fun a2 =>
      (fX3_bringBack M a1 v1 a2).bind fun p4 =>
      if p4.1 < 0 then
        (some (p4.1, p4.2))
      else
        ((gR p4.2 v0 7 3).bind fun a6 =>
        (fX0_clear p4.2 a6).bind fun M8 =>
        some (p4.1, M8))
    else none
theorem oX7_again {M : mM} {v0 : Nat} {v1 : Int32} {y : (Int32 × mM)} (h : fX7_again M v0 v1 = some y) : isO M v0 7 = true := by
  unfold fX7_again at h
  exact (gsome h).1
set_option maxRecDepth 20000 in
set_option maxHeartbeats 4000000 in
theorem rX7_again {E : mE} {M : mM} {v0 : Nat} {v1 : Int32} {x : Int32} {Mf : mM} (h : fX7_again M v0 v1 = some (x, Mf)) : EvC mX7_again E 5 0 0 [.ref v0, .int v1] M (some (.int x)) Mf := by
  unfold fX7_again at h
  replace h := (gsome h).2
  refine EvC.of [some (.ref v0), some (.int v1), none] pnX7_again rfl (Nat.le_of_ble_eq_true rfl) ?_
  refine Ev_aload_n (x := v0) rfl dX7_again_0 ?_
  obtain ⟨a1, g1, h⟩ := bsome h
  refine Ev_getR flX7_36 dX7_again_1 g1 ?_
  refine Ev_iload_n (x := v1) rfl dX7_again_4 ?_
  refine Ev_aload_n (x := v0) rfl dX7_again_5 ?_
  obtain ⟨a2, g2, h⟩ := bsome h
  refine Ev_getR flX7_19 dX7_again_6 g2 ?_
  obtain ⟨p4, g3, h⟩ := bsome h
  refine Ev_callVi (np := 2) (vs := [.int v1, .ref a2]) (rest := []) mdX3_bringBack lkX7_284 ⟨_, rfl, rfl⟩ (oX3_bringBack g3) (rX3_bringBack g3) rfl rfl (Nat.le_of_ble_eq_true rfl) (Nat.le_of_ble_eq_true rfl) dX7_again_9 ?_
  refine Ev_istore_n (loc2 := [some (.ref v0), some (.int v1), some (.int p4.1)]) (Nat.le_of_ble_eq_true rfl) rfl rfl dX7_again_12 ?_
  refine Ev_iload_n (x := p4.1) rfl dX7_again_13 ?_
  refine Ev_if_lt (tgt := 24) dX7_again_14 (by decide) (fun q5 => ?_) (fun q5 => ?_)
  · rw [if_pos q5] at h
    refine Ev_iload_n (x := p4.1) rfl dX7_again_24 ?_
    cases h
    exact Ev_iret rfl rfl dX7_again_25 ⟨rfl, rfl⟩
  · rw [if_neg q5] at h
    refine Ev_aload_n (x := v0) rfl dX7_again_17 ?_
    obtain ⟨a6, g6, h⟩ := bsome h
    refine Ev_getR flX7_29 dX7_again_18 g6 ?_
    obtain ⟨M8, g7, h⟩ := bsome h
    refine Ev_callVv (np := 0) (vs := []) (rest := []) mdX0_clear lkX7_91 ⟨_, rfl, rfl⟩ (oX0_clear g7) (rX0_clear g7) rfl rfl (Nat.le_of_ble_eq_true rfl) (Nat.le_of_ble_eq_true rfl) dX7_again_21 ?_
    refine Ev_iload_n (x := p4.1) rfl dX7_again_24 ?_
    cases h
    exact Ev_iret rfl rfl dX7_again_25 ⟨rfl, rfl⟩
/-! TinselRiver.count(I)I -/
def fX7_count (M : mM) (v0 : Nat) (v1 : Int32) : Option Int32 :=
    if isO M v0 7 = true then
      if v1 = 0 then
        ((gR M v0 7 0).bind fun a1 =>
        (gI M a1 5 1).bind fun x2 =>
        some x2)
      else
        (if v1 = 1 then
          ((gR M v0 7 1).bind fun a3 =>
          (gI M a3 6 1).bind fun x4 =>
          some x4)
        else
          (if v1 = 2 then
            ((gR M v0 7 1).bind fun a5 =>
            (fX6_whoIsThere M a5).bind fun x7 =>
            some x7)
          else
            (if v1 = 3 then
              ((gR M v0 7 1).bind fun a8 =>
              (fX6_bendsFrom M a8 0).bind fun x10 =>
              some x10)
            else
              (if v1 = 4 then
                ((gR M v0 7 1).bind fun a11 =>
                (gI M a11 6 2).bind fun x12 =>
                some x12)
              else
                (if v1 = 5 then
                  ((gR M v0 7 6).bind fun a13 =>
                  (gI M a13 2 1).bind fun x14 =>
                  some x14)
                else
                  (if v1 = 6 then
                    ((gR M v0 7 1).bind fun a15 =>
                    (fX6_housesInUse M a15).bind fun x17 =>
                    some x17)
                  else
                    (if v1 = 7 then
                      ((gR M v0 7 3).bind fun a18 =>
                      (gI M a18 0 2).bind fun x19 =>
                      some x19)
                    else
                      (if v1 = 8 then
                        ((gR M v0 7 5).bind fun a20 =>
                        (gI M a20 1 2).bind fun x21 =>
                        some x21)
                      else
                        (some (-2))))))))))
    else none
theorem oX7_count {M : mM} {v0 : Nat} {v1 : Int32} {y : Int32} (h : fX7_count M v0 v1 = some y) : isO M v0 7 = true := by
  unfold fX7_count at h
  exact (gsome h).1
set_option maxRecDepth 20000 in
set_option maxHeartbeats 4000000 in
theorem rX7_count {E : mE} {M : mM} {v0 : Nat} {v1 : Int32} {x : Int32} (h : fX7_count M v0 v1 = some x) : EvC mX7_count E 2 0 0 [.ref v0, .int v1] M (some (.int x)) M := by
  unfold fX7_count at h
  replace h := (gsome h).2
  refine EvC.of [some (.ref v0), some (.int v1)] pnX7_count rfl (Nat.le_of_ble_eq_true rfl) ?_
  refine Ev_iload_n (x := v1) rfl dX7_count_0 ?_
  by_cases q22 : v1 = 0
  · rw [if_pos q22] at h
    refine Ev_tswIn (tgt := 52) dX7_count_1 (by rw [q22]; decide) (by rw [q22]; decide) (by rw [q22]; rfl) (by decide) ?_
    refine Ev_aload_n (x := v0) rfl dX7_count_52 ?_
    obtain ⟨a1, g1, h⟩ := bsome h
    refine Ev_getR flX7_10 dX7_count_53 g1 ?_
    obtain ⟨x2, g2, h⟩ := bsome h
    refine Ev_getI flX7_287 dX7_count_56 g2 ?_
    cases h
    exact Ev_iret rfl rfl dX7_count_59 ⟨rfl, rfl⟩
  · rw [if_neg q22] at h
    by_cases q23 : v1 = 1
    · rw [if_pos q23] at h
      refine Ev_tswIn (tgt := 60) dX7_count_1 (by rw [q23]; decide) (by rw [q23]; decide) (by rw [q23]; rfl) (by decide) ?_
      refine Ev_aload_n (x := v0) rfl dX7_count_60 ?_
      obtain ⟨a3, g3, h⟩ := bsome h
      refine Ev_getR flX7_19 dX7_count_61 g3 ?_
      obtain ⟨x4, g4, h⟩ := bsome h
      refine Ev_getI flX7_94 dX7_count_64 g4 ?_
      cases h
      exact Ev_iret rfl rfl dX7_count_67 ⟨rfl, rfl⟩
    · rw [if_neg q23] at h
      by_cases q24 : v1 = 2
      · rw [if_pos q24] at h
        refine Ev_tswIn (tgt := 68) dX7_count_1 (by rw [q24]; decide) (by rw [q24]; decide) (by rw [q24]; rfl) (by decide) ?_
        refine Ev_aload_n (x := v0) rfl dX7_count_68 ?_
        obtain ⟨a5, g5, h⟩ := bsome h
        refine Ev_getR flX7_19 dX7_count_69 g5 ?_
        obtain ⟨x7, g6, h⟩ := bsome h
        refine Ev_callVi (np := 0) (vs := []) (rest := []) mdX6_whoIsThere lkX7_174 ⟨_, rfl, rfl⟩ (oX6_whoIsThere g6) (rX6_whoIsThere g6) rfl rfl (Nat.le_of_ble_eq_true rfl) (Nat.le_of_ble_eq_true rfl) dX7_count_72 ?_
        cases h
        exact Ev_iret rfl rfl dX7_count_75 ⟨rfl, rfl⟩
      · rw [if_neg q24] at h
        by_cases q25 : v1 = 3
        · rw [if_pos q25] at h
          refine Ev_tswIn (tgt := 76) dX7_count_1 (by rw [q25]; decide) (by rw [q25]; decide) (by rw [q25]; rfl) (by decide) ?_
          refine Ev_aload_n (x := v0) rfl dX7_count_76 ?_
          obtain ⟨a8, g8, h⟩ := bsome h
          refine Ev_getR flX7_19 dX7_count_77 g8 ?_
          refine Ev_iconst ic_0 dX7_count_80 ?_
          obtain ⟨x10, g9, h⟩ := bsome h
          refine Ev_callVi (np := 1) (vs := [.int 0]) (rest := []) mdX6_bendsFrom lkX7_208 ⟨_, rfl, rfl⟩ (oX6_bendsFrom g9) (rX6_bendsFrom g9) rfl rfl (Nat.le_of_ble_eq_true rfl) (Nat.le_of_ble_eq_true rfl) dX7_count_81 ?_
          cases h
          exact Ev_iret rfl rfl dX7_count_84 ⟨rfl, rfl⟩
        · rw [if_neg q25] at h
          by_cases q26 : v1 = 4
          · rw [if_pos q26] at h
            refine Ev_tswIn (tgt := 85) dX7_count_1 (by rw [q26]; decide) (by rw [q26]; decide) (by rw [q26]; rfl) (by decide) ?_
            refine Ev_aload_n (x := v0) rfl dX7_count_85 ?_
            obtain ⟨a11, g11, h⟩ := bsome h
            refine Ev_getR flX7_19 dX7_count_86 g11 ?_
            obtain ⟨x12, g12, h⟩ := bsome h
            refine Ev_getI flX7_288 dX7_count_89 g12 ?_
            cases h
            exact Ev_iret rfl rfl dX7_count_92 ⟨rfl, rfl⟩
          · rw [if_neg q26] at h
            by_cases q27 : v1 = 5
            · rw [if_pos q27] at h
              refine Ev_tswIn (tgt := 93) dX7_count_1 (by rw [q27]; decide) (by rw [q27]; decide) (by rw [q27]; rfl) (by decide) ?_
              refine Ev_aload_n (x := v0) rfl dX7_count_93 ?_
              obtain ⟨a13, g13, h⟩ := bsome h
              refine Ev_getR flX7_52 dX7_count_94 g13 ?_
              obtain ⟨x14, g14, h⟩ := bsome h
              refine Ev_getI flX7_102 dX7_count_97 g14 ?_
              cases h
              exact Ev_iret rfl rfl dX7_count_100 ⟨rfl, rfl⟩
            · rw [if_neg q27] at h
              by_cases q28 : v1 = 6
              · rw [if_pos q28] at h
                refine Ev_tswIn (tgt := 101) dX7_count_1 (by rw [q28]; decide) (by rw [q28]; decide) (by rw [q28]; rfl) (by decide) ?_
                refine Ev_aload_n (x := v0) rfl dX7_count_101 ?_
                obtain ⟨a15, g15, h⟩ := bsome h
                refine Ev_getR flX7_19 dX7_count_102 g15 ?_
                obtain ⟨x17, g16, h⟩ := bsome h
                refine Ev_callVi (np := 0) (vs := []) (rest := []) mdX6_housesInUse lkX7_291 ⟨_, rfl, rfl⟩ (oX6_housesInUse g16) (rX6_housesInUse g16) rfl rfl (Nat.le_of_ble_eq_true rfl) (Nat.le_of_ble_eq_true rfl) dX7_count_105 ?_
                cases h
                exact Ev_iret rfl rfl dX7_count_108 ⟨rfl, rfl⟩
              · rw [if_neg q28] at h
                by_cases q29 : v1 = 7
                · rw [if_pos q29] at h
                  refine Ev_tswIn (tgt := 109) dX7_count_1 (by rw [q29]; decide) (by rw [q29]; decide) (by rw [q29]; rfl) (by decide) ?_
                  refine Ev_aload_n (x := v0) rfl dX7_count_109 ?_
                  obtain ⟨a18, g18, h⟩ := bsome h
                  refine Ev_getR flX7_29 dX7_count_110 g18 ?_
                  obtain ⟨x19, g19, h⟩ := bsome h
                  refine Ev_getI flX7_294 dX7_count_113 g19 ?_
                  cases h
                  exact Ev_iret rfl rfl dX7_count_116 ⟨rfl, rfl⟩
                · rw [if_neg q29] at h
                  by_cases q30 : v1 = 8
                  · rw [if_pos q30] at h
                    refine Ev_tswIn (tgt := 117) dX7_count_1 (by rw [q30]; decide) (by rw [q30]; decide) (by rw [q30]; rfl) (by decide) ?_
                    refine Ev_aload_n (x := v0) rfl dX7_count_117 ?_
                    obtain ⟨a20, g20, h⟩ := bsome h
                    refine Ev_getR flX7_43 dX7_count_118 g20 ?_
                    obtain ⟨x21, g21, h⟩ := bsome h
                    refine Ev_getI flX7_295 dX7_count_121 g21 ?_
                    cases h
                    exact Ev_iret rfl rfl dX7_count_124 ⟨rfl, rfl⟩
                  · rw [if_neg q30] at h
                    refine Ev_tswOut (tgt := 125) dX7_count_1 (sw_out9 q22 q23 q24 q25 q26 q27 q28 q29 q30) (by decide) ?_
                    refine Ev_bipush bp_m2 dX7_count_125 ?_
                    cases h
                    exact Ev_iret rfl rfl dX7_count_127 ⟨rfl, rfl⟩
