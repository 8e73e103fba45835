/-! printed by wip/whole/gen.py -/
/-! TinselRiver.canBe(I)Z -/
def fX7_canBe (M : mM) (v0 : Nat) (v1 : Int32) : Option (Int32 × mM) :=
    if isO M v0 7 = true then
      if (v1 / 100) = 0 then
        (if v1 = 0 then
          ((gR M v0 7 2).bind fun a2 =>
          (fX6_passWinter M a2).bind fun p4 =>
          if p4.1 < 0 then
            (some (0, p4.2))
          else
            (some (1, p4.2)))
        else
          (some (0, M)))
      else
        (if (v1 / 100) = 1 then
          ((gR M v0 7 2).bind fun a6 =>
          (fX6_hangIn M a6 ((v1 / 10) - (v1 / 10) / 10 * 10) (v1 - v1 / 10 * 10)).bind fun p8 =>
          if p8.1 < 0 then
            (some (0, p8.2))
          else
            (some (1, p8.2)))
        else
          (if (v1 / 100) = 2 then
            (if ((v1 / 10) - (v1 / 10) / 10 * 10) = 0 then
              ((gR M v0 7 2).bind fun a11 =>
              (fX6_turnAbout M a11 (v1 - v1 / 10 * 10)).bind fun p13 =>
              if p13.1 < 0 then
                (some (0, p13.2))
              else
                (some (1, p13.2)))
            else
              (some (0, M)))
          else
            (if (v1 / 100) = 3 then
              (if ((v1 / 10) - (v1 / 10) / 10 * 10) = 0 then
                ((gR M v0 7 2).bind fun a16 =>
                (fX6_snipEnd M a16 (v1 - v1 / 10 * 10)).bind fun p18 =>
                if p18.1 < 0 then
                  (some (0, p18.2))
                else
                  (some (1, p18.2)))
              else
                (some (0, M)))
            else
              (if (v1 / 100) = 4 then
                ((gR M v0 7 2).bind fun a20 =>
                (fX6_joinTo M a20 ((v1 / 10) - (v1 / 10) / 10 * 10) (v1 - v1 / 10 * 10)).bind fun p22 =>
                if p22.1 < 0 then
                  (some (0, p22.2))
                else
                  (some (1, p22.2)))
              else
                (if (v1 / 100) = 5 then
                  ((gR M v0 7 2).bind fun a24 =>
                  (fX6_has M a24 ((v1 / 10) - (v1 / 10) / 10 * 10)).bind fun x26 =>
                  if x26 = 0 then
                    (some (0, M))
                  else
                    ((gR M v0 7 2).bind fun a28 =>
                    (gR M a28 6 0).bind fun a29 =>
                    (qI M false a29 ((v1 / 10) - (v1 / 10) / 10 * 10)).bind fun a30 =>
                    (gR M a30 4 0).bind fun a31 =>
                    (gI M a31 2 1).bind fun x32 =>
                    if x32 < (v1 - v1 / 10 * 10) then
                      (some (0, M))
                    else
                      (some (1, M))))
                else
                  (if (v1 / 100) = 6 then
                    (if ((v1 / 10) - (v1 / 10) / 10 * 10) = 0 then
                      ((gR M v0 7 2).bind fun a35 =>
                      (fX6_has M a35 (v1 - v1 / 10 * 10)).bind fun x37 =>
                      if x37 = 0 then
                        (some (0, M))
                      else
                        ((gR M v0 7 6).bind fun a39 =>
                        (gR M v0 7 2).bind fun a40 =>
                        (gR M a40 6 0).bind fun a41 =>
                        (qI M false a41 (v1 - v1 / 10 * 10)).bind fun a42 =>
                        (gR M a42 4 0).bind fun a43 =>
                        (fX2_firstPlaceOf M a39 a43).bind fun x45 =>
                        if x45 = (-9) then
                          (some (0, M))
                        else
                          (some (1, M))))
                    else
                      (some (0, M)))
                  else
                    (some (0, M))))))))
    else none
theorem oX7_canBe {M : mM} {v0 : Nat} {v1 : Int32} {y : (Int32 × mM)} (h : fX7_canBe M v0 v1 = some y) : isO M v0 7 = true := by
  unfold fX7_canBe at h
  exact (gsome h).1
set_option maxRecDepth 20000 in
set_option maxHeartbeats 4000000 in
theorem rX7_canBe {E : mE} {M : mM} {v0 : Nat} {v1 : Int32} {x : Int32} {Mf : mM} (h : fX7_canBe M v0 v1 = some (x, Mf)) : EvC mX7_canBe E 4 0 0 [.ref v0, .int v1] M (some (.int x)) Mf := by
  unfold fX7_canBe at h
  replace h := (gsome h).2
  refine EvC.of [some (.ref v0), some (.int v1), none, none] pnX7_canBe rfl (Nat.le_of_ble_eq_true rfl) ?_
  refine Ev_iload_n (x := v1) rfl dX7_canBe_0 ?_
  refine Ev_bipush bp_10 dX7_canBe_1 ?_
  refine Ev_idiv (by decide) dX7_canBe_3 ?_
  refine Ev_bipush bp_10 dX7_canBe_4 ?_
  refine Ev_irem (by decide) dX7_canBe_6 ?_
  refine Ev_istore_n (loc2 := [some (.ref v0), some (.int v1), some (.int ((v1 / 10) - (v1 / 10) / 10 * 10)), none]) (Nat.le_of_ble_eq_true rfl) rfl rfl dX7_canBe_7 ?_
  refine Ev_iload_n (x := v1) rfl dX7_canBe_8 ?_
  refine Ev_bipush bp_10 dX7_canBe_9 ?_
  refine Ev_irem (by decide) dX7_canBe_11 ?_
  refine Ev_istore_n (loc2 := [some (.ref v0), some (.int v1), some (.int ((v1 / 10) - (v1 / 10) / 10 * 10)), some (.int (v1 - v1 / 10 * 10))]) (Nat.le_of_ble_eq_true rfl) rfl rfl dX7_canBe_12 ?_
  refine Ev_iload_n (x := v1) rfl dX7_canBe_13 ?_
  refine Ev_bipush bp_100 dX7_canBe_14 ?_
  refine Ev_idiv (by decide) dX7_canBe_16 ?_
  by_cases q47 : (v1 / 100) = 0
  · rw [if_pos q47] at h
    refine Ev_tswIn (tgt := 60) dX7_canBe_17 (by rw [q47]; decide) (by rw [q47]; decide) (by rw [q47]; rfl) (by decide) ?_
    refine Ev_iload_n (x := v1) rfl dX7_canBe_60 ?_
    refine Ev_if_ne (tgt := 78) dX7_canBe_61 (by decide) (fun q1 => ?_) (fun q1 => ?_)
    · rw [if_neg q1] at h
      refine Ev_iconst ic_0 dX7_canBe_78 ?_
      cases h
      exact Ev_iret rfl rfl dX7_canBe_79 ⟨rfl, rfl⟩
    · rw [if_pos q1] at h
      refine Ev_aload_n (x := v0) rfl dX7_canBe_64 ?_
      obtain ⟨a2, g2, h⟩ := bsome h
      refine Ev_getR flX7_23 dX7_canBe_65 g2 ?_
      obtain ⟨p4, g3, h⟩ := bsome h
      refine Ev_callVi (np := 0) (vs := []) (rest := []) mdX6_passWinter lkX7_145 ⟨_, rfl, rfl⟩ (oX6_passWinter g3) (rX6_passWinter g3) rfl rfl (Nat.le_of_ble_eq_true rfl) (Nat.le_of_ble_eq_true rfl) dX7_canBe_68 ?_
      refine Ev_if_lt (tgt := 78) dX7_canBe_71 (by decide) (fun q5 => ?_) (fun q5 => ?_)
      · rw [if_pos q5] at h
        refine Ev_iconst ic_0 dX7_canBe_78 ?_
        cases h
        exact Ev_iret rfl rfl dX7_canBe_79 ⟨rfl, rfl⟩
      · rw [if_neg q5] at h
        refine Ev_iconst ic_1 dX7_canBe_74 ?_
        refine Ev_goto (tgt := 79) dX7_canBe_75 (by decide) ?_
        cases h
        exact Ev_iret rfl rfl dX7_canBe_79 ⟨rfl, rfl⟩
  · rw [if_neg q47] at h
    by_cases q48 : (v1 / 100) = 1
    · rw [if_pos q48] at h
      refine Ev_tswIn (tgt := 80) dX7_canBe_17 (by rw [q48]; decide) (by rw [q48]; decide) (by rw [q48]; rfl) (by decide) ?_
      refine Ev_aload_n (x := v0) rfl dX7_canBe_80 ?_
      obtain ⟨a6, g6, h⟩ := bsome h
      refine Ev_getR flX7_23 dX7_canBe_81 g6 ?_
      refine Ev_iload_n (x := ((v1 / 10) - (v1 / 10) / 10 * 10)) rfl dX7_canBe_84 ?_
      refine Ev_iload_n (x := (v1 - v1 / 10 * 10)) rfl dX7_canBe_85 ?_
      obtain ⟨p8, g7, h⟩ := bsome h
      refine Ev_callVi (np := 2) (vs := [.int ((v1 / 10) - (v1 / 10) / 10 * 10), .int (v1 - v1 / 10 * 10)]) (rest := []) mdX6_hangIn lkX7_151 ⟨_, rfl, rfl⟩ (oX6_hangIn g7) (rX6_hangIn g7) rfl rfl (Nat.le_of_ble_eq_true rfl) (Nat.le_of_ble_eq_true rfl) dX7_canBe_86 ?_
      refine Ev_if_lt (tgt := 96) dX7_canBe_89 (by decide) (fun q9 => ?_) (fun q9 => ?_)
      · rw [if_pos q9] at h
        refine Ev_iconst ic_0 dX7_canBe_96 ?_
        cases h
        exact Ev_iret rfl rfl dX7_canBe_97 ⟨rfl, rfl⟩
      · rw [if_neg q9] at h
        refine Ev_iconst ic_1 dX7_canBe_92 ?_
        refine Ev_goto (tgt := 97) dX7_canBe_93 (by decide) ?_
        cases h
        exact Ev_iret rfl rfl dX7_canBe_97 ⟨rfl, rfl⟩
    · rw [if_neg q48] at h
      by_cases q49 : (v1 / 100) = 2
      · rw [if_pos q49] at h
        refine Ev_tswIn (tgt := 98) dX7_canBe_17 (by rw [q49]; decide) (by rw [q49]; decide) (by rw [q49]; rfl) (by decide) ?_
        refine Ev_iload_n (x := ((v1 / 10) - (v1 / 10) / 10 * 10)) rfl dX7_canBe_98 ?_
        refine Ev_if_ne (tgt := 117) dX7_canBe_99 (by decide) (fun q10 => ?_) (fun q10 => ?_)
        · rw [if_neg q10] at h
          refine Ev_iconst ic_0 dX7_canBe_117 ?_
          cases h
          exact Ev_iret rfl rfl dX7_canBe_118 ⟨rfl, rfl⟩
        · rw [if_pos q10] at h
          refine Ev_aload_n (x := v0) rfl dX7_canBe_102 ?_
          obtain ⟨a11, g11, h⟩ := bsome h
          refine Ev_getR flX7_23 dX7_canBe_103 g11 ?_
          refine Ev_iload_n (x := (v1 - v1 / 10 * 10)) rfl dX7_canBe_106 ?_
          obtain ⟨p13, g12, h⟩ := bsome h
          refine Ev_callVi (np := 1) (vs := [.int (v1 - v1 / 10 * 10)]) (rest := []) mdX6_turnAbout lkX7_155 ⟨_, rfl, rfl⟩ (oX6_turnAbout g12) (rX6_turnAbout g12) rfl rfl (Nat.le_of_ble_eq_true rfl) (Nat.le_of_ble_eq_true rfl) dX7_canBe_107 ?_
          refine Ev_if_lt (tgt := 117) dX7_canBe_110 (by decide) (fun q14 => ?_) (fun q14 => ?_)
          · rw [if_pos q14] at h
            refine Ev_iconst ic_0 dX7_canBe_117 ?_
            cases h
            exact Ev_iret rfl rfl dX7_canBe_118 ⟨rfl, rfl⟩
          · rw [if_neg q14] at h
            refine Ev_iconst ic_1 dX7_canBe_113 ?_
            refine Ev_goto (tgt := 118) dX7_canBe_114 (by decide) ?_
            cases h
            exact Ev_iret rfl rfl dX7_canBe_118 ⟨rfl, rfl⟩
      · rw [if_neg q49] at h
        by_cases q50 : (v1 / 100) = 3
        · rw [if_pos q50] at h
          refine Ev_tswIn (tgt := 119) dX7_canBe_17 (by rw [q50]; decide) (by rw [q50]; decide) (by rw [q50]; rfl) (by decide) ?_
          refine Ev_iload_n (x := ((v1 / 10) - (v1 / 10) / 10 * 10)) rfl dX7_canBe_119 ?_
          refine Ev_if_ne (tgt := 138) dX7_canBe_120 (by decide) (fun q15 => ?_) (fun q15 => ?_)
          · rw [if_neg q15] at h
            refine Ev_iconst ic_0 dX7_canBe_138 ?_
            cases h
            exact Ev_iret rfl rfl dX7_canBe_139 ⟨rfl, rfl⟩
          · rw [if_pos q15] at h
            refine Ev_aload_n (x := v0) rfl dX7_canBe_123 ?_
            obtain ⟨a16, g16, h⟩ := bsome h
            refine Ev_getR flX7_23 dX7_canBe_124 g16 ?_
            refine Ev_iload_n (x := (v1 - v1 / 10 * 10)) rfl dX7_canBe_127 ?_
            obtain ⟨p18, g17, h⟩ := bsome h
            refine Ev_callVi (np := 1) (vs := [.int (v1 - v1 / 10 * 10)]) (rest := []) mdX6_snipEnd lkX7_158 ⟨_, rfl, rfl⟩ (oX6_snipEnd g17) (rX6_snipEnd g17) rfl rfl (Nat.le_of_ble_eq_true rfl) (Nat.le_of_ble_eq_true rfl) dX7_canBe_128 ?_
            refine Ev_if_lt (tgt := 138) dX7_canBe_131 (by decide) (fun q19 => ?_) (fun q19 => ?_)
            · rw [if_pos q19] at h
              refine Ev_iconst ic_0 dX7_canBe_138 ?_
              cases h
              exact Ev_iret rfl rfl dX7_canBe_139 ⟨rfl, rfl⟩
            · rw [if_neg q19] at h
              refine Ev_iconst ic_1 dX7_canBe_134 ?_
              refine Ev_goto (tgt := 139) dX7_canBe_135 (by decide) ?_
              cases h
              exact Ev_iret rfl rfl dX7_canBe_139 ⟨rfl, rfl⟩
        · rw [if_neg q50] at h
          by_cases q51 : (v1 / 100) = 4
          · rw [if_pos q51] at h
            refine Ev_tswIn (tgt := 140) dX7_canBe_17 (by rw [q51]; decide) (by rw [q51]; decide) (by rw [q51]; rfl) (by decide) ?_
            refine Ev_aload_n (x := v0) rfl dX7_canBe_140 ?_
            obtain ⟨a20, g20, h⟩ := bsome h
            refine Ev_getR flX7_23 dX7_canBe_141 g20 ?_
            refine Ev_iload_n (x := ((v1 / 10) - (v1 / 10) / 10 * 10)) rfl dX7_canBe_144 ?_
            refine Ev_iload_n (x := (v1 - v1 / 10 * 10)) rfl dX7_canBe_145 ?_
            obtain ⟨p22, g21, h⟩ := bsome h
            refine Ev_callVi (np := 2) (vs := [.int ((v1 / 10) - (v1 / 10) / 10 * 10), .int (v1 - v1 / 10 * 10)]) (rest := []) mdX6_joinTo lkX7_161 ⟨_, rfl, rfl⟩ (oX6_joinTo g21) (rX6_joinTo g21) rfl rfl (Nat.le_of_ble_eq_true rfl) (Nat.le_of_ble_eq_true rfl) dX7_canBe_146 ?_
            refine Ev_if_lt (tgt := 156) dX7_canBe_149 (by decide) (fun q23 => ?_) (fun q23 => ?_)
            · rw [if_pos q23] at h
              refine Ev_iconst ic_0 dX7_canBe_156 ?_
              cases h
              exact Ev_iret rfl rfl dX7_canBe_157 ⟨rfl, rfl⟩
            · rw [if_neg q23] at h
              refine Ev_iconst ic_1 dX7_canBe_152 ?_
              refine Ev_goto (tgt := 157) dX7_canBe_153 (by decide) ?_
              cases h
              exact Ev_iret rfl rfl dX7_canBe_157 ⟨rfl, rfl⟩
          · rw [if_neg q51] at h
            by_cases q52 : (v1 / 100) = 5
            · rw [if_pos q52] at h
              refine Ev_tswIn (tgt := 158) dX7_canBe_17 (by rw [q52]; decide) (by rw [q52]; decide) (by rw [q52]; rfl) (by decide) ?_
              refine Ev_aload_n (x := v0) rfl dX7_canBe_158 ?_
              obtain ⟨a24, g24, h⟩ := bsome h
              refine Ev_getR flX7_23 dX7_canBe_159 g24 ?_
              refine Ev_iload_n (x := ((v1 / 10) - (v1 / 10) / 10 * 10)) rfl dX7_canBe_162 ?_
              obtain ⟨x26, g25, h⟩ := bsome h
              refine Ev_callVi (np := 1) (vs := [.int ((v1 / 10) - (v1 / 10) / 10 * 10)]) (rest := []) mdX6_has lkX7_109 ⟨_, rfl, rfl⟩ (oX6_has g25) (rX6_has g25) rfl rfl (Nat.le_of_ble_eq_true rfl) (Nat.le_of_ble_eq_true rfl) dX7_canBe_163 ?_
              refine Ev_if_eq (tgt := 192) dX7_canBe_166 (by decide) (fun q27 => ?_) (fun q27 => ?_)
              · rw [if_pos q27] at h
                refine Ev_iconst ic_0 dX7_canBe_192 ?_
                cases h
                exact Ev_iret rfl rfl dX7_canBe_193 ⟨rfl, rfl⟩
              · rw [if_neg q27] at h
                refine Ev_aload_n (x := v0) rfl dX7_canBe_169 ?_
                obtain ⟨a28, g28, h⟩ := bsome h
                refine Ev_getR flX7_23 dX7_canBe_170 g28 ?_
                obtain ⟨a29, g29, h⟩ := bsome h
                refine Ev_getR flX7_113 dX7_canBe_173 g29 ?_
                refine Ev_iload_n (x := ((v1 / 10) - (v1 / 10) / 10 * 10)) rfl dX7_canBe_176 ?_
                obtain ⟨a30, g30, h⟩ := bsome h
                refine Ev_aald dX7_canBe_177 g30 ?_
                obtain ⟨a31, g31, h⟩ := bsome h
                refine Ev_getR flX7_125 dX7_canBe_178 g31 ?_
                obtain ⟨x32, g32, h⟩ := bsome h
                refine Ev_getI flX7_102 dX7_canBe_181 g32 ?_
                refine Ev_iload_n (x := (v1 - v1 / 10 * 10)) rfl dX7_canBe_184 ?_
                refine Ev_icmp_lt (tgt := 192) dX7_canBe_185 (by decide) (fun q33 => ?_) (fun q33 => ?_)
                · rw [if_pos q33] at h
                  refine Ev_iconst ic_0 dX7_canBe_192 ?_
                  cases h
                  exact Ev_iret rfl rfl dX7_canBe_193 ⟨rfl, rfl⟩
                · rw [if_neg q33] at h
                  refine Ev_iconst ic_1 dX7_canBe_188 ?_
                  refine Ev_goto (tgt := 193) dX7_canBe_189 (by decide) ?_
                  cases h
                  exact Ev_iret rfl rfl dX7_canBe_193 ⟨rfl, rfl⟩
            · rw [if_neg q52] at h
              by_cases q53 : (v1 / 100) = 6
              · rw [if_pos q53] at h
                refine Ev_tswIn (tgt := 194) dX7_canBe_17 (by rw [q53]; decide) (by rw [q53]; decide) (by rw [q53]; rfl) (by decide) ?_
                refine Ev_iload_n (x := ((v1 / 10) - (v1 / 10) / 10 * 10)) rfl dX7_canBe_194 ?_
                refine Ev_if_ne (tgt := 237) dX7_canBe_195 (by decide) (fun q34 => ?_) (fun q34 => ?_)
                · rw [if_neg q34] at h
                  refine Ev_iconst ic_0 dX7_canBe_237 ?_
                  cases h
                  exact Ev_iret rfl rfl dX7_canBe_238 ⟨rfl, rfl⟩
                · rw [if_pos q34] at h
                  refine Ev_aload_n (x := v0) rfl dX7_canBe_198 ?_
                  obtain ⟨a35, g35, h⟩ := bsome h
                  refine Ev_getR flX7_23 dX7_canBe_199 g35 ?_
                  refine Ev_iload_n (x := (v1 - v1 / 10 * 10)) rfl dX7_canBe_202 ?_
                  obtain ⟨x37, g36, h⟩ := bsome h
                  refine Ev_callVi (np := 1) (vs := [.int (v1 - v1 / 10 * 10)]) (rest := []) mdX6_has lkX7_109 ⟨_, rfl, rfl⟩ (oX6_has g36) (rX6_has g36) rfl rfl (Nat.le_of_ble_eq_true rfl) (Nat.le_of_ble_eq_true rfl) dX7_canBe_203 ?_
                  refine Ev_if_eq (tgt := 237) dX7_canBe_206 (by decide) (fun q38 => ?_) (fun q38 => ?_)
                  · rw [if_pos q38] at h
                    refine Ev_iconst ic_0 dX7_canBe_237 ?_
                    cases h
                    exact Ev_iret rfl rfl dX7_canBe_238 ⟨rfl, rfl⟩
                  · rw [if_neg q38] at h
                    refine Ev_aload_n (x := v0) rfl dX7_canBe_209 ?_
                    obtain ⟨a39, g39, h⟩ := bsome h
                    refine Ev_getR flX7_52 dX7_canBe_210 g39 ?_
                    refine Ev_aload_n (x := v0) rfl dX7_canBe_213 ?_
                    obtain ⟨a40, g40, h⟩ := bsome h
                    refine Ev_getR flX7_23 dX7_canBe_214 g40 ?_
                    obtain ⟨a41, g41, h⟩ := bsome h
                    refine Ev_getR flX7_113 dX7_canBe_217 g41 ?_
                    refine Ev_iload_n (x := (v1 - v1 / 10 * 10)) rfl dX7_canBe_220 ?_
                    obtain ⟨a42, g42, h⟩ := bsome h
                    refine Ev_aald dX7_canBe_221 g42 ?_
                    obtain ⟨a43, g43, h⟩ := bsome h
                    refine Ev_getR flX7_125 dX7_canBe_222 g43 ?_
                    obtain ⟨x45, g44, h⟩ := bsome h
                    refine Ev_callVi (np := 1) (vs := [.ref a43]) (rest := []) mdX2_firstPlaceOf lkX7_128 ⟨_, rfl, rfl⟩ (oX2_firstPlaceOf g44) (rX2_firstPlaceOf g44) rfl rfl (Nat.le_of_ble_eq_true rfl) (Nat.le_of_ble_eq_true rfl) dX7_canBe_225 ?_
                    refine Ev_bipush bp_m9 dX7_canBe_228 ?_
                    refine Ev_icmp_eq (tgt := 237) dX7_canBe_230 (by decide) (fun q46 => ?_) (fun q46 => ?_)
                    · rw [if_pos q46] at h
                      refine Ev_iconst ic_0 dX7_canBe_237 ?_
                      cases h
                      exact Ev_iret rfl rfl dX7_canBe_238 ⟨rfl, rfl⟩
                    · rw [if_neg q46] at h
                      refine Ev_iconst ic_1 dX7_canBe_233 ?_
                      refine Ev_goto (tgt := 238) dX7_canBe_234 (by decide) ?_
                      cases h
                      exact Ev_iret rfl rfl dX7_canBe_238 ⟨rfl, rfl⟩
              · rw [if_neg q53] at h
                refine Ev_tswOut (tgt := 239) dX7_canBe_17 (sw_out7 q47 q48 q49 q50 q51 q52 q53) (by decide) ?_
                refine Ev_iconst ic_0 dX7_canBe_239 ?_
                cases h
                exact Ev_iret rfl rfl dX7_canBe_240 ⟨rfl, rfl⟩
/-! TinselRiver.judge(IJ)I -/
def fX7_judge_c72 : Nat → mM → Nat → Int32 → Int64 → Int64 → Int32 → Option (Int32 × mM)
  | 0, _, _, _, _, _, _ => none
  | n + 1, M, v0, v1, v4, v6, v8 =>
    if v1 ≤ v8 then
      (some ((-9), M))
    else
      ((some (if (1 : Int64) < (v4 / (1000 : Int64)) then (v4 / (1000 : Int64)) else (1 : Int64))).bind fun x2 =>
      if x2 = 0 then none else
      (fX7_canBe M v0 (Int64.toInt32 (v6 / x2))).bind fun p5 =>
      if p5.1 = 0 then
        (some (v8, p5.2))
      else
        (if x2 = 0 then none else
        fX7_judge_c72 n p5.2 v0 v1 x2 (v6 - v6 / x2 * x2) (v8 + 1)))
set_option maxRecDepth 20000 in
set_option maxHeartbeats 4000000 in
theorem rX7_judge_c72 {E : mE} {x : Int32} {Mf : mM} : ∀ (n : Nat) (M : mM) (v0 : Nat) (v1 : Int32) (v4 : Int64) (v6 : Int64) (v8 : Int32), fX7_judge_c72 n M v0 v1 v4 v6 v8 = some (x, Mf) → Ev mX7_judge E 5 0 0 (some (.int x)) Mf 72 [some (.ref v0), some (.int v1), none, none, some (.long v4), none, some (.long v6), none, some (.int v8)] [] M 0 0 := by
  intro n
  induction n with
  | zero => intro M v0 v1 v4 v6 v8 h; rw [fX7_judge_c72.eq_1] at h; cases h
  | succ n ih =>
    intro M v0 v1 v4 v6 v8 h
    rw [fX7_judge_c72.eq_2] at h
    refine Ev_iload (x := v8) rfl dX7_judge_72 ?_
    refine Ev_iload_n (x := v1) rfl dX7_judge_74 ?_
    refine Ev_icmp_ge (tgt := 119) dX7_judge_75 (by decide) (fun q1 => ?_) (fun q1 => ?_)
    · rw [if_pos q1] at h
      refine Ev_bipush bp_m9 dX7_judge_119 ?_
      cases h
      exact Ev_iret rfl rfl dX7_judge_121 ⟨rfl, rfl⟩
    · rw [if_neg q1] at h
      refine Ev_lload (x := v4) rfl dX7_judge_78 ?_
      refine Ev_ldc2 csX7_218 dX7_judge_80 ?_
      refine Ev_ldiv (by decide) dX7_judge_83 ?_
      refine Ev_lconst (v := 1) (by decide) dX7_judge_84 ?_
      refine Ev_mmaxl lkX7_220 (Nat.le_of_ble_eq_true rfl) (Nat.le_of_ble_eq_true rfl) dX7_judge_85 ?_
      obtain ⟨x2, g2, h⟩ := bsome h
      refine Ev_lstore (loc2 := [some (.ref v0), some (.int v1), none, none, some (.long x2), none, some (.long v6), none, some (.int v8)]) (Nat.le_of_ble_eq_true rfl) rfl (by cases g2; rfl) dX7_judge_88 ?_
      refine Ev_aload_n (x := v0) rfl dX7_judge_90 ?_
      refine Ev_lload (x := v6) rfl dX7_judge_91 ?_
      refine Ev_lload (x := x2) rfl dX7_judge_93 ?_
      obtain ⟨z3, h⟩ := nsome h
      refine Ev_ldiv z3 dX7_judge_95 ?_
      refine Ev_l2i dX7_judge_96 ?_
      obtain ⟨p5, g4, h⟩ := bsome h
      refine Ev_callVi (np := 1) (vs := [.int (Int64.toInt32 (v6 / x2))]) (rest := []) mdX7_canBe lkX7_226 ⟨_, rfl, rfl⟩ (oX7_canBe g4) (rX7_canBe g4) rfl rfl (Nat.le_of_ble_eq_true rfl) (Nat.le_of_ble_eq_true rfl) dX7_judge_97 ?_
      refine Ev_if_ne (tgt := 106) dX7_judge_100 (by decide) (fun q6 => ?_) (fun q6 => ?_)
      · rw [if_neg q6] at h
        refine Ev_lload (x := v6) rfl dX7_judge_106 ?_
        refine Ev_lload (x := x2) rfl dX7_judge_108 ?_
        obtain ⟨z7, h⟩ := nsome h
        refine Ev_lrem z7 dX7_judge_110 ?_
        refine Ev_lstore (loc2 := [some (.ref v0), some (.int v1), none, none, some (.long x2), none, some (.long (v6 - v6 / x2 * x2)), none, some (.int v8)]) (Nat.le_of_ble_eq_true rfl) rfl rfl dX7_judge_111 ?_
        refine Ev_iinc (x := v8) (v := (v8 + 1)) (loc2 := [some (.ref v0), some (.int v1), none, none, some (.long x2), none, some (.long (v6 - v6 / x2 * x2)), none, some (.int (v8 + 1))]) rfl (congrArg (v8 + ·) ic_1) (Nat.le_of_ble_eq_true rfl) rfl rfl dX7_judge_113 ?_
        refine Ev_goto (tgt := 72) dX7_judge_116 (by decide) ?_
        exact ih p5.2 v0 v1 x2 (v6 - v6 / x2 * x2) (v8 + 1) h
      · rw [if_pos q6] at h
        refine Ev_iload (x := v8) rfl dX7_judge_103 ?_
        cases h
        exact Ev_iret rfl rfl dX7_judge_105 ⟨rfl, rfl⟩
def fX7_judge_c19 : Nat → mM → Nat → Int32 → Int64 → Int64 → Int32 → Option (Int32 × mM)
  | 0, _, _, _, _, _, _ => none
  | n + 1, M, v0, v1, v2, v4, v6 =>
    if v1 ≤ v6 then
      (if (lg_cmp v2 (0 : Int64)) < 0 then
        (some ((-2), M))
      else
        (if (lg_cmp v2 v4) < 0 then
          ((gR M v0 7 2).bind fun a4 =>
          (gR M v0 7 1).bind fun a5 =>
          (fX6_setTo M a4 a5).bind fun M7 =>
          fX7_judge_c72 FUEL M7 v0 v1 v4 v2 0)
        else
          (some ((-2), M))))
    else
      (fX7_judge_c19 n M v0 v1 v2 (v4 * (1000 : Int64)) (v6 + 1))
set_option maxRecDepth 20000 in
set_option maxHeartbeats 4000000 in
theorem rX7_judge_c19 {E : mE} {x : Int32} {Mf : mM} : ∀ (n : Nat) (M : mM) (v0 : Nat) (v1 : Int32) (v2 : Int64) (v4 : Int64) (v6 : Int32), fX7_judge_c19 n M v0 v1 v2 v4 v6 = some (x, Mf) → Ev mX7_judge E 5 0 0 (some (.int x)) Mf 19 [some (.ref v0), some (.int v1), some (.long v2), none, some (.long v4), none, some (.int v6), none, none] [] M 0 0 := by
  intro n
  induction n with
  | zero => intro M v0 v1 v2 v4 v6 h; rw [fX7_judge_c19.eq_1] at h; cases h
  | succ n ih =>
    intro M v0 v1 v2 v4 v6 h
    rw [fX7_judge_c19.eq_2] at h
    refine Ev_iload (x := v6) rfl dX7_judge_19 ?_
    refine Ev_iload_n (x := v1) rfl dX7_judge_21 ?_
    refine Ev_icmp_ge (tgt := 39) dX7_judge_22 (by decide) (fun q1 => ?_) (fun q1 => ?_)
    · rw [if_pos q1] at h
      refine Ev_lload_n (x := v2) rfl dX7_judge_39 ?_
      refine Ev_lconst (v := 0) (by decide) dX7_judge_40 ?_
      refine Ev_lcmp dX7_judge_41 ?_
      refine Ev_if_lt (tgt := 52) dX7_judge_42 (by decide) (fun q2 => ?_) (fun q2 => ?_)
      · rw [if_pos q2] at h
        refine Ev_bipush bp_m2 dX7_judge_52 ?_
        cases h
        exact Ev_iret rfl rfl dX7_judge_54 ⟨rfl, rfl⟩
      · rw [if_neg q2] at h
        refine Ev_lload_n (x := v2) rfl dX7_judge_45 ?_
        refine Ev_lload (x := v4) rfl dX7_judge_46 ?_
        refine Ev_lcmp dX7_judge_48 ?_
        refine Ev_if_lt (tgt := 55) dX7_judge_49 (by decide) (fun q3 => ?_) (fun q3 => ?_)
        · rw [if_pos q3] at h
          refine Ev_aload_n (x := v0) rfl dX7_judge_55 ?_
          obtain ⟨a4, g4, h⟩ := bsome h
          refine Ev_getR flX7_23 dX7_judge_56 g4 ?_
          refine Ev_aload_n (x := v0) rfl dX7_judge_59 ?_
          obtain ⟨a5, g5, h⟩ := bsome h
          refine Ev_getR flX7_19 dX7_judge_60 g5 ?_
          obtain ⟨M7, g6, h⟩ := bsome h
          refine Ev_callVv (np := 1) (vs := [.ref a5]) (rest := []) mdX6_setTo lkX7_142 ⟨_, rfl, rfl⟩ (oX6_setTo g6) (rX6_setTo g6) rfl rfl (Nat.le_of_ble_eq_true rfl) (Nat.le_of_ble_eq_true rfl) dX7_judge_63 ?_
          refine Ev_lload_n (x := v2) rfl dX7_judge_66 ?_
          refine Ev_lstore (loc2 := [some (.ref v0), some (.int v1), some (.long v2), none, some (.long v4), none, some (.long v2), none, none]) (Nat.le_of_ble_eq_true rfl) rfl rfl dX7_judge_67 ?_
          refine Ev_iconst ic_0 dX7_judge_69 ?_
          refine Ev_istore (loc2 := [some (.ref v0), some (.int v1), some (.long v2), none, some (.long v4), none, some (.long v2), none, some (.int 0)]) (Nat.le_of_ble_eq_true rfl) rfl rfl dX7_judge_70 ?_
          refine Ev_drop 2 (loc2 := [some (.ref v0), some (.int v1), none, none, some (.long v4), none, some (.long v2), none, some (.int 0)]) rfl ?_
          exact rX7_judge_c72 FUEL M7 v0 v1 v4 v2 0 h
        · rw [if_neg q3] at h
          refine Ev_bipush bp_m2 dX7_judge_52 ?_
          cases h
          exact Ev_iret rfl rfl dX7_judge_54 ⟨rfl, rfl⟩
    · rw [if_neg q1] at h
      refine Ev_lload (x := v4) rfl dX7_judge_25 ?_
      refine Ev_ldc2 csX7_218 dX7_judge_27 ?_
      refine Ev_lmul dX7_judge_30 ?_
      refine Ev_lstore (loc2 := [some (.ref v0), some (.int v1), some (.long v2), none, some (.long (v4 * (1000 : Int64))), none, some (.int v6), none, none]) (Nat.le_of_ble_eq_true rfl) rfl rfl dX7_judge_31 ?_
      refine Ev_iinc (x := v6) (v := (v6 + 1)) (loc2 := [some (.ref v0), some (.int v1), some (.long v2), none, some (.long (v4 * (1000 : Int64))), none, some (.int (v6 + 1)), none, none]) rfl (congrArg (v6 + ·) ic_1) (Nat.le_of_ble_eq_true rfl) rfl rfl dX7_judge_33 ?_
      refine Ev_goto (tgt := 19) dX7_judge_36 (by decide) ?_
      exact ih M v0 v1 v2 (v4 * (1000 : Int64)) (v6 + 1) h
def fX7_judge (M : mM) (v0 : Nat) (v1 : Int32) (v2 : Int64) : Option (Int32 × mM) :=
    if isO M v0 7 = true then
      if v1 < 1 then
        (some ((-2), M))
      else
        (if v1 ≤ 4 then
          (fX7_judge_c19 FUEL M v0 v1 v2 (1 : Int64) 0)
        else
          (some ((-2), M)))
    else none
theorem oX7_judge {M : mM} {v0 : Nat} {v1 : Int32} {v2 : Int64} {y : (Int32 × mM)} (h : fX7_judge M v0 v1 v2 = some y) : isO M v0 7 = true := by
  unfold fX7_judge at h
  exact (gsome h).1
set_option maxRecDepth 20000 in
set_option maxHeartbeats 4000000 in
theorem rX7_judge {E : mE} {M : mM} {v0 : Nat} {v1 : Int32} {v2 : Int64} {x : Int32} {Mf : mM} (h : fX7_judge M v0 v1 v2 = some (x, Mf)) : EvC mX7_judge E 5 0 0 [.ref v0, .int v1, .long v2] M (some (.int x)) Mf := by
  unfold fX7_judge at h
  replace h := (gsome h).2
  refine EvC.of [some (.ref v0), some (.int v1), some (.long v2), none, none, none, none, none, none] pnX7_judge rfl (Nat.le_of_ble_eq_true rfl) ?_
  refine Ev_iload_n (x := v1) rfl dX7_judge_0 ?_
  refine Ev_iconst ic_1 dX7_judge_1 ?_
  refine Ev_icmp_lt (tgt := 10) dX7_judge_2 (by decide) (fun q1 => ?_) (fun q1 => ?_)
  · rw [if_pos q1] at h
    refine Ev_bipush bp_m2 dX7_judge_10 ?_
    cases h
    exact Ev_iret rfl rfl dX7_judge_12 ⟨rfl, rfl⟩
  · rw [if_neg q1] at h
    refine Ev_iload_n (x := v1) rfl dX7_judge_5 ?_
    refine Ev_iconst ic_4 dX7_judge_6 ?_
    refine Ev_icmp_le (tgt := 13) dX7_judge_7 (by decide) (fun q2 => ?_) (fun q2 => ?_)
    · rw [if_pos q2] at h
      refine Ev_lconst (v := 1) (by decide) dX7_judge_13 ?_
      refine Ev_lstore (loc2 := [some (.ref v0), some (.int v1), some (.long v2), none, some (.long (1 : Int64)), none, none, none, none]) (Nat.le_of_ble_eq_true rfl) rfl rfl dX7_judge_14 ?_
      refine Ev_iconst ic_0 dX7_judge_16 ?_
      refine Ev_istore (loc2 := [some (.ref v0), some (.int v1), some (.long v2), none, some (.long (1 : Int64)), none, some (.int 0), none, none]) (Nat.le_of_ble_eq_true rfl) rfl rfl dX7_judge_17 ?_
      exact rX7_judge_c19 FUEL M v0 v1 v2 (1 : Int64) 0 h
    · rw [if_neg q2] at h
      refine Ev_bipush bp_m2 dX7_judge_10 ?_
      cases h
      exact Ev_iret rfl rfl dX7_judge_12 ⟨rfl, rfl⟩
/-! TinselRiver.lay(II)I -/
def fX7_lay (M : mM) (v0 : Nat) (v1 : Int32) (v2 : Int32) : Option (Int32 × mM) :=
    if isO M v0 7 = true then
      if v1 < 0 then
        (some ((-2), M))
      else
        (if 12 ≤ v1 then
          (some ((-2), M))
        else
          (if v2 < 0 then
            (some ((-2), M))
          else
            (if v2 ≤ 1 then
              ((gR M v0 7 5).bind fun a5 =>
              if v2 = 1 then
                ((fX1_add M a5 v1 1).bind fun p10 =>
                some (p10.1, p10.2))
              else
                ((fX1_add M a5 v1 0).bind fun p8 =>
                some (p8.1, p8.2)))
            else
              (some ((-2), M)))))
    else none
theorem oX7_lay {M : mM} {v0 : Nat} {v1 : Int32} {v2 : Int32} {y : (Int32 × mM)} (h : fX7_lay M v0 v1 v2 = some y) : isO M v0 7 = true := by
  unfold fX7_lay at h
  exact (gsome h).1
set_option maxRecDepth 20000 in
set_option maxHeartbeats 4000000 in
theorem rX7_lay {E : mE} {M : mM} {v0 : Nat} {v1 : Int32} {v2 : Int32} {x : Int32} {Mf : mM} (h : fX7_lay M v0 v1 v2 = some (x, Mf)) : EvC mX7_lay E 1 0 0 [.ref v0, .int v1, .int v2] M (some (.int x)) Mf := by
  unfold fX7_lay at h
  replace h := (gsome h).2
  refine EvC.of [some (.ref v0), some (.int v1), some (.int v2)] pnX7_lay rfl (Nat.le_of_ble_eq_true rfl) ?_
  refine Ev_iload_n (x := v1) rfl dX7_lay_0 ?_
  refine Ev_if_lt (tgt := 19) dX7_lay_1 (by decide) (fun q1 => ?_) (fun q1 => ?_)
  · rw [if_pos q1] at h
    refine Ev_bipush bp_m2 dX7_lay_19 ?_
    cases h
    exact Ev_iret rfl rfl dX7_lay_21 ⟨rfl, rfl⟩
  · rw [if_neg q1] at h
    refine Ev_iload_n (x := v1) rfl dX7_lay_4 ?_
    refine Ev_bipush bp_12 dX7_lay_5 ?_
    refine Ev_icmp_ge (tgt := 19) dX7_lay_7 (by decide) (fun q2 => ?_) (fun q2 => ?_)
    · rw [if_pos q2] at h
      refine Ev_bipush bp_m2 dX7_lay_19 ?_
      cases h
      exact Ev_iret rfl rfl dX7_lay_21 ⟨rfl, rfl⟩
    · rw [if_neg q2] at h
      refine Ev_iload_n (x := v2) rfl dX7_lay_10 ?_
      refine Ev_if_lt (tgt := 19) dX7_lay_11 (by decide) (fun q3 => ?_) (fun q3 => ?_)
      · rw [if_pos q3] at h
        refine Ev_bipush bp_m2 dX7_lay_19 ?_
        cases h
        exact Ev_iret rfl rfl dX7_lay_21 ⟨rfl, rfl⟩
      · rw [if_neg q3] at h
        refine Ev_iload_n (x := v2) rfl dX7_lay_14 ?_
        refine Ev_iconst ic_1 dX7_lay_15 ?_
        refine Ev_icmp_le (tgt := 22) dX7_lay_16 (by decide) (fun q4 => ?_) (fun q4 => ?_)
        · rw [if_pos q4] at h
          refine Ev_aload_n (x := v0) rfl dX7_lay_22 ?_
          obtain ⟨a5, g5, h⟩ := bsome h
          refine Ev_getR flX7_43 dX7_lay_23 g5 ?_
          refine Ev_iload_n (x := v1) rfl dX7_lay_26 ?_
          refine Ev_iload_n (x := v2) rfl dX7_lay_27 ?_
          refine Ev_iconst ic_1 dX7_lay_28 ?_
          refine Ev_icmp_ne (tgt := 36) dX7_lay_29 (by decide) (fun q6 => ?_) (fun q6 => ?_)
          · rw [if_neg q6] at h
            refine Ev_iconst ic_0 dX7_lay_36 ?_
            obtain ⟨p8, g7, h⟩ := bsome h
            refine Ev_callVi (np := 2) (vs := [.int v1, .int 0]) (rest := []) mdX1_add lkX7_229 ⟨_, rfl, rfl⟩ (oX1_add g7) (rX1_add g7) rfl rfl (Nat.le_of_ble_eq_true rfl) (Nat.le_of_ble_eq_true rfl) dX7_lay_37 ?_
            cases h
            exact Ev_iret rfl rfl dX7_lay_40 ⟨rfl, rfl⟩
          · rw [if_pos q6] at h
            refine Ev_iconst ic_1 dX7_lay_32 ?_
            refine Ev_goto (tgt := 37) dX7_lay_33 (by decide) ?_
            obtain ⟨p10, g9, h⟩ := bsome h
            refine Ev_callVi (np := 2) (vs := [.int v1, .int 1]) (rest := []) mdX1_add lkX7_229 ⟨_, rfl, rfl⟩ (oX1_add g9) (rX1_add g9) rfl rfl (Nat.le_of_ble_eq_true rfl) (Nat.le_of_ble_eq_true rfl) dX7_lay_37 ?_
            cases h
            exact Ev_iret rfl rfl dX7_lay_40 ⟨rfl, rfl⟩
        · rw [if_neg q4] at h
          refine Ev_bipush bp_m2 dX7_lay_19 ?_
          cases h
          exact Ev_iret rfl rfl dX7_lay_21 ⟨rfl, rfl⟩
/-! TinselRiver.unlay()I -/
def fX7_unlay (M : mM) (v0 : Nat) : Option (Int32 × mM) :=
    if isO M v0 7 = true then
      (gR M v0 7 5).bind fun a1 =>
      (fX1_clear M a1).bind fun p3 =>
      some (p3.1, p3.2)
    else none
theorem oX7_unlay {M : mM} {v0 : Nat} {y : (Int32 × mM)} (h : fX7_unlay M v0 = some y) : isO M v0 7 = true := by
  unfold fX7_unlay at h
  exact (gsome h).1
set_option maxRecDepth 20000 in
set_option maxHeartbeats 4000000 in
theorem rX7_unlay {E : mE} {M : mM} {v0 : Nat} {x : Int32} {Mf : mM} (h : fX7_unlay M v0 = some (x, Mf)) : EvC mX7_unlay E 1 0 0 [.ref v0] M (some (.int x)) Mf := by
  unfold fX7_unlay at h
  replace h := (gsome h).2
  refine EvC.of [some (.ref v0)] pnX7_unlay rfl (Nat.le_of_ble_eq_true rfl) ?_
  refine Ev_aload_n (x := v0) rfl dX7_unlay_0 ?_
  obtain ⟨a1, g1, h⟩ := bsome h
  refine Ev_getR flX7_43 dX7_unlay_1 g1 ?_
  obtain ⟨p3, g2, h⟩ := bsome h
  refine Ev_callVi (np := 0) (vs := []) (rest := []) mdX1_clear lkX7_232 ⟨_, rfl, rfl⟩ (oX1_clear g2) (rX1_clear g2) rfl rfl (Nat.le_of_ble_eq_true rfl) (Nat.le_of_ble_eq_true rfl) dX7_unlay_4 ?_
  cases h
  exact Ev_iret rfl rfl dX7_unlay_7 ⟨rfl, rfl⟩
/-! TinselRiver.guessRow(II)V -/
def fX7_guessRow_c9 : Nat → mM → Nat → Int32 → Int32 → Int32 → Option mM
  | 0, _, _, _, _, _ => none
  | n + 1, M, v0, v1, v2, v3 =>
    if v2 ≤ v3 then
      (some M)
    else
      ((gR M v0 7 8).bind fun a2 =>
      (fX7_figureOf M v1 v2 v3).bind fun x4 =>
      (fX2_add M a2 (x4 + 1)).bind fun M6 =>
      fX7_guessRow_c9 n M6 v0 v1 v2 (v3 + 1))
set_option maxRecDepth 20000 in
set_option maxHeartbeats 4000000 in
theorem rX7_guessRow_c9 {E : mE} {Mf : mM} : ∀ (n : Nat) (M : mM) (v0 : Nat) (v1 : Int32) (v2 : Int32) (v3 : Int32), fX7_guessRow_c9 n M v0 v1 v2 v3 = some Mf → Ev mX7_guessRow E 1 0 0 none Mf 9 [some (.ref v0), some (.int v1), some (.int v2), some (.int v3)] [] M 0 0 := by
  intro n
  induction n with
  | zero => intro M v0 v1 v2 v3 h; rw [fX7_guessRow_c9.eq_1] at h; cases h
  | succ n ih =>
    intro M v0 v1 v2 v3 h
    rw [fX7_guessRow_c9.eq_2] at h
    refine Ev_iload_n (x := v3) rfl dX7_guessRow_9 ?_
    refine Ev_iload_n (x := v2) rfl dX7_guessRow_10 ?_
    refine Ev_icmp_ge (tgt := 35) dX7_guessRow_11 (by decide) (fun q1 => ?_) (fun q1 => ?_)
    · rw [if_pos q1] at h
      cases h
      exact Ev_vret rfl dX7_guessRow_35 ⟨rfl, rfl⟩
    · rw [if_neg q1] at h
      refine Ev_aload_n (x := v0) rfl dX7_guessRow_14 ?_
      obtain ⟨a2, g2, h⟩ := bsome h
      refine Ev_getR flX7_59 dX7_guessRow_15 g2 ?_
      refine Ev_iload_n (x := v1) rfl dX7_guessRow_18 ?_
      refine Ev_iload_n (x := v2) rfl dX7_guessRow_19 ?_
      refine Ev_iload_n (x := v3) rfl dX7_guessRow_20 ?_
      obtain ⟨x4, g3, h⟩ := bsome h
      refine Ev_callSi (np := 3) (vs := [.int v1, .int v2, .int v3]) (rest := [.ref a2]) mdX7_figureOf lkX7_189 (rX7_figureOf g3) rfl rfl (Nat.le_of_ble_eq_true rfl) (Nat.le_of_ble_eq_true rfl) dX7_guessRow_21 ?_
      refine Ev_iconst ic_1 dX7_guessRow_24 ?_
      refine Ev_iadd dX7_guessRow_25 ?_
      obtain ⟨M6, g5, h⟩ := bsome h
      refine Ev_callVv (np := 1) (vs := [.int (x4 + 1)]) (rest := []) mdX2_add lkX7_241 ⟨_, rfl, rfl⟩ (oX2_add g5) (rX2_add g5) rfl rfl (Nat.le_of_ble_eq_true rfl) (Nat.le_of_ble_eq_true rfl) dX7_guessRow_26 ?_
      refine Ev_iinc (x := v3) (v := (v3 + 1)) (loc2 := [some (.ref v0), some (.int v1), some (.int v2), some (.int (v3 + 1))]) rfl (congrArg (v3 + ·) ic_1) (Nat.le_of_ble_eq_true rfl) rfl rfl dX7_guessRow_29 ?_
      refine Ev_goto (tgt := 9) dX7_guessRow_32 (by decide) ?_
      exact ih M6 v0 v1 v2 (v3 + 1) h
def fX7_guessRow (M : mM) (v0 : Nat) (v1 : Int32) (v2 : Int32) : Option mM :=
    if isO M v0 7 = true then
      (gR M v0 7 8).bind fun a1 =>
      (fX2_clear M a1).bind fun M3 =>
      fX7_guessRow_c9 FUEL M3 v0 v1 v2 0
    else none
theorem oX7_guessRow {M : mM} {v0 : Nat} {v1 : Int32} {v2 : Int32} {y : mM} (h : fX7_guessRow M v0 v1 v2 = some y) : isO M v0 7 = true := by
  unfold fX7_guessRow at h
  exact (gsome h).1
set_option maxRecDepth 20000 in
set_option maxHeartbeats 4000000 in
theorem rX7_guessRow {E : mE} {M : mM} {v0 : Nat} {v1 : Int32} {v2 : Int32} {Mf : mM} (h : fX7_guessRow M v0 v1 v2 = some Mf) : EvC mX7_guessRow E 1 0 0 [.ref v0, .int v1, .int v2] M none Mf := by
  unfold fX7_guessRow at h
  replace h := (gsome h).2
  refine EvC.of [some (.ref v0), some (.int v1), some (.int v2), none] pnX7_guessRow rfl (Nat.le_of_ble_eq_true rfl) ?_
  refine Ev_aload_n (x := v0) rfl dX7_guessRow_0 ?_
  obtain ⟨a1, g1, h⟩ := bsome h
  refine Ev_getR flX7_59 dX7_guessRow_1 g1 ?_
  obtain ⟨M3, g2, h⟩ := bsome h
  refine Ev_callVv (np := 0) (vs := []) (rest := []) mdX2_clear lkX7_193 ⟨_, rfl, rfl⟩ (oX2_clear g2) (rX2_clear g2) rfl rfl (Nat.le_of_ble_eq_true rfl) (Nat.le_of_ble_eq_true rfl) dX7_guessRow_4 ?_
  refine Ev_iconst ic_0 dX7_guessRow_7 ?_
  refine Ev_istore_n (loc2 := [some (.ref v0), some (.int v1), some (.int v2), some (.int 0)]) (Nat.le_of_ble_eq_true rfl) rfl rfl dX7_guessRow_8 ?_
  exact rX7_guessRow_c9 FUEL M3 v0 v1 v2 0 h
