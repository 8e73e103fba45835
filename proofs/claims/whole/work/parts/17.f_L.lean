/-! printed by wip/whole/gen.py -/
/-! TinselRiverLaw.law([I)Z -/
def fL_law_c18 : Nat → mM → Nat → Nat → Nat → Int32 → Option (Int32 × mM)
  | 0, _, _, _, _, _ => none
  | n + 1, M, v0, v1, v2, v3 =>
    (aLen M v0).bind fun x1 =>
    if (x1 - 4) < v3 then
      (some (1, M))
    else
      ((aI M false v0 v3).bind fun x3 =>
      if (x3 &&& 31) = 0 then
        ((aI M false v0 (v3 + 1)).bind fun x4 =>
        (fX7_write M v1 x4).bind fun p6 =>
        (aI p6.2 false v0 (v3 + 1)).bind fun x7 =>
        (fX8_write p6.2 v2 x7).bind fun p9 =>
        if p6.1 = p9.1 then
          (fL_law_c18 n p9.2 v0 v1 v2 (v3 + 4))
        else
          (some (0, p9.2)))
      else
        (if (x3 &&& 31) = 1 then
          ((fX7_wipe M v1).bind fun p12 =>
          (fX8_wipe p12.2 v2).bind fun p14 =>
          if p12.1 = p14.1 then
            (fL_law_c18 n p14.2 v0 v1 v2 (v3 + 4))
          else
            (some (0, p14.2)))
        else
          (if (x3 &&& 31) = 2 then
            ((fX7_fault M v1).bind fun x17 =>
            (fX8_fault M v2).bind fun p19 =>
            if x17 = p19.1 then
              (fL_law_c18 n p19.2 v0 v1 v2 (v3 + 4))
            else
              (some (0, p19.2)))
          else
            (if (x3 &&& 31) = 3 then
              ((fX7_valley M v1).bind fun p22 =>
              (fX8_valley p22.2 v2).bind fun p24 =>
              if p22.1 = p24.1 then
                (fL_law_c18 n p24.2 v0 v1 v2 (v3 + 4))
              else
                (some (0, p24.2)))
            else
              (if (x3 &&& 31) = 4 then
                ((aI M false v0 (v3 + 1)).bind fun x26 =>
                (aI M false v0 (v3 + 2)).bind fun x27 =>
                (aI M false v0 (v3 + 3)).bind fun x28 =>
                (fX7_bed M v1 x26 (((Int32.toInt64 x27) <<< (Int32.toInt64 32 &&& 63)) ||| ((Int32.toInt64 x28) &&& (4294967295 : Int64)))).bind fun p30 =>
                (aI p30.2 false v0 (v3 + 1)).bind fun x31 =>
                (aI p30.2 false v0 (v3 + 2)).bind fun x32 =>
                (aI p30.2 false v0 (v3 + 3)).bind fun x33 =>
                (fX8_bed p30.2 v2 x31 (((Int32.toInt64 x32) <<< (Int32.toInt64 32 &&& 63)) ||| ((Int32.toInt64 x33) &&& (4294967295 : Int64)))).bind fun p35 =>
                if p30.1 = p35.1 then
                  (fL_law_c18 n p35.2 v0 v1 v2 (v3 + 4))
                else
                  (some (0, p35.2)))
              else
                (if (x3 &&& 31) = 5 then
                  ((aI M false v0 (v3 + 1)).bind fun x37 =>
                  (aI M false v0 (v3 + 2)).bind fun x38 =>
                  (fX7_strand M v1 x37 x38).bind fun x40 =>
                  (aI M false v0 (v3 + 1)).bind fun x41 =>
                  (aI M false v0 (v3 + 2)).bind fun x42 =>
                  (fX8_strand M v2 x41 x42).bind fun x44 =>
                  if x40 = x44 then
                    (fL_law_c18 n M v0 v1 v2 (v3 + 4))
                  else
                    (some (0, M)))
                else
                  (if (x3 &&& 31) = 6 then
                    ((aI M false v0 (v3 + 1)).bind fun x46 =>
                    (fX7_bends M v1 x46).bind fun x48 =>
                    (aI M false v0 (v3 + 1)).bind fun x49 =>
                    (fX8_bends M v2 x49).bind fun x51 =>
                    if (lg_cmp x48 x51) = 0 then
                      (fL_law_c18 n M v0 v1 v2 (v3 + 4))
                    else
                      (some (0, M)))
                  else
                    (if (x3 &&& 31) = 7 then
                      ((fX7_winter M v1).bind fun p54 =>
                      (fX8_winter p54.2 v2).bind fun p56 =>
                      if p54.1 = p56.1 then
                        (fL_law_c18 n p56.2 v0 v1 v2 (v3 + 4))
                      else
                        (some (0, p56.2)))
                    else
                      (if (x3 &&& 31) = 8 then
                        ((aI M false v0 (v3 + 1)).bind fun x58 =>
                        (aI M false v0 (v3 + 2)).bind fun x59 =>
                        (fX7_hang M v1 x58 x59).bind fun p61 =>
                        (aI p61.2 false v0 (v3 + 1)).bind fun x62 =>
                        (aI p61.2 false v0 (v3 + 2)).bind fun x63 =>
                        (fX8_hang p61.2 v2 x62 x63).bind fun p65 =>
                        if p61.1 = p65.1 then
                          (fL_law_c18 n p65.2 v0 v1 v2 (v3 + 4))
                        else
                          (some (0, p65.2)))
                      else
                        (if (x3 &&& 31) = 9 then
                          ((aI M false v0 (v3 + 1)).bind fun x67 =>
                          (fX7_turn M v1 x67).bind fun p69 =>
                          (aI p69.2 false v0 (v3 + 1)).bind fun x70 =>
                          (fX8_turn p69.2 v2 x70).bind fun p72 =>
                          if p69.1 = p72.1 then
                            (fL_law_c18 n p72.2 v0 v1 v2 (v3 + 4))
                          else
                            (some (0, p72.2)))
                        else
                          (if (x3 &&& 31) = 10 then
                            ((aI M false v0 (v3 + 1)).bind fun x74 =>
                            (fX7_snip M v1 x74).bind fun p76 =>
                            (aI p76.2 false v0 (v3 + 1)).bind fun x77 =>
                            (fX8_snip p76.2 v2 x77).bind fun p79 =>
                            if p76.1 = p79.1 then
                              (fL_law_c18 n p79.2 v0 v1 v2 (v3 + 4))
                            else
                              (some (0, p79.2)))
                          else
                            (if (x3 &&& 31) = 11 then
                              ((aI M false v0 (v3 + 1)).bind fun x81 =>
                              (aI M false v0 (v3 + 2)).bind fun x82 =>
                              (fX7_join M v1 x81 x82).bind fun p84 =>
                              (aI p84.2 false v0 (v3 + 1)).bind fun x85 =>
                              (aI p84.2 false v0 (v3 + 2)).bind fun x86 =>
                              (fX8_join p84.2 v2 x85 x86).bind fun p88 =>
                              if p84.1 = p88.1 then
                                (fL_law_c18 n p88.2 v0 v1 v2 (v3 + 4))
                              else
                                (some (0, p88.2)))
                            else
                              (if (x3 &&& 31) = 12 then
                                ((fX7_undo M v1).bind fun p91 =>
                                (fX8_undo p91.2 v2).bind fun p93 =>
                                if p91.1 = p93.1 then
                                  (fL_law_c18 n p93.2 v0 v1 v2 (v3 + 4))
                                else
                                  (some (0, p93.2)))
                              else
                                (if (x3 &&& 31) = 13 then
                                  ((aI M false v0 (v3 + 1)).bind fun x95 =>
                                  (aI M false v0 (v3 + 2)).bind fun x96 =>
                                  (fX7_later M v1 x95 x96).bind fun p98 =>
                                  (aI p98.2 false v0 (v3 + 1)).bind fun x99 =>
                                  (aI p98.2 false v0 (v3 + 2)).bind fun x100 =>
                                  (fX8_later p98.2 v2 x99 x100).bind fun p102 =>
                                  if p98.1 = p102.1 then
                                    (fL_law_c18 n p102.2 v0 v1 v2 (v3 + 4))
                                  else
                                    (some (0, p102.2)))
                                else
                                  (if (x3 &&& 31) = 14 then
                                    ((aI M false v0 (v3 + 1)).bind fun x104 =>
                                    (fX7_lasts M v1 x104).bind fun p106 =>
                                    (aI p106.2 false v0 (v3 + 1)).bind fun x107 =>
                                    (fX8_lasts p106.2 v2 x107).bind fun p109 =>
                                    if p106.1 = p109.1 then
                                      (fL_law_c18 n p109.2 v0 v1 v2 (v3 + 4))
                                    else
                                      (some (0, p109.2)))
                                  else
                                    (if (x3 &&& 31) = 15 then
                                      ((aI M false v0 (v3 + 1)).bind fun x111 =>
                                      (aI M false v0 (v3 + 2)).bind fun x112 =>
                                      (fX7_overlap M v1 x111 x112).bind fun x114 =>
                                      (aI M false v0 (v3 + 1)).bind fun x115 =>
                                      (aI M false v0 (v3 + 2)).bind fun x116 =>
                                      (fX8_overlap M v2 x115 x116).bind fun x118 =>
                                      if x114 = x118 then
                                        (fL_law_c18 n M v0 v1 v2 (v3 + 4))
                                      else
                                        (some (0, M)))
                                    else
                                      (if (x3 &&& 31) = 16 then
                                        ((aI M false v0 (v3 + 1)).bind fun x120 =>
                                        (fX7_river M v1 x120).bind fun p122 =>
                                        (aI p122.2 false v0 (v3 + 1)).bind fun x123 =>
                                        (fX8_river p122.2 v2 x123).bind fun p125 =>
                                        if p122.1 = p125.1 then
                                          (fL_law_c18 n p125.2 v0 v1 v2 (v3 + 4))
                                        else
                                          (some (0, p125.2)))
                                      else
                                        (if (x3 &&& 31) = 17 then
                                          ((fX7_covered M v1).bind fun p128 =>
                                          (fX8_covered p128.2 v2).bind fun x130 =>
                                          if p128.1 = x130 then
                                            (fL_law_c18 n p128.2 v0 v1 v2 (v3 + 4))
                                          else
                                            (some (0, p128.2)))
                                        else
                                          (if (x3 &&& 31) = 18 then
                                            ((fX7_ways M v1).bind fun x133 =>
                                            (fX8_ways M v2).bind fun x135 =>
                                            if x133 = x135 then
                                              (fL_law_c18 n M v0 v1 v2 (v3 + 4))
                                            else
                                              (some (0, M)))
                                          else
                                            (if (x3 &&& 31) = 19 then
                                              ((aI M false v0 (v3 + 1)).bind fun x137 =>
                                              (aI M false v0 (v3 + 2)).bind fun x138 =>
                                              (aI M false v0 (v3 + 3)).bind fun x139 =>
                                              (fX7_judge M v1 x137 (((Int32.toInt64 x138) <<< (Int32.toInt64 32 &&& 63)) ||| ((Int32.toInt64 x139) &&& (4294967295 : Int64)))).bind fun p141 =>
                                              (aI p141.2 false v0 (v3 + 1)).bind fun x142 =>
                                              (aI p141.2 false v0 (v3 + 2)).bind fun x143 =>
                                              (aI p141.2 false v0 (v3 + 3)).bind fun x144 =>
                                              (fX8_judge p141.2 v2 x142 (((Int32.toInt64 x143) <<< (Int32.toInt64 32 &&& 63)) ||| ((Int32.toInt64 x144) &&& (4294967295 : Int64)))).bind fun p146 =>
                                              if p141.1 = p146.1 then
                                                (fL_law_c18 n p146.2 v0 v1 v2 (v3 + 4))
                                              else
                                                (some (0, p146.2)))
                                            else
                                              (if (x3 &&& 31) = 20 then
                                                ((aI M false v0 (v3 + 1)).bind fun x148 =>
                                                (aI M false v0 (v3 + 2)).bind fun x149 =>
                                                (fX7_lay M v1 x148 x149).bind fun p151 =>
                                                (aI p151.2 false v0 (v3 + 1)).bind fun x152 =>
                                                (aI p151.2 false v0 (v3 + 2)).bind fun x153 =>
                                                (fX8_lay p151.2 v2 x152 x153).bind fun p155 =>
                                                if p151.1 = p155.1 then
                                                  (fL_law_c18 n p155.2 v0 v1 v2 (v3 + 4))
                                                else
                                                  (some (0, p155.2)))
                                              else
                                                (if (x3 &&& 31) = 21 then
                                                  ((fX7_unlay M v1).bind fun p158 =>
                                                  (fX8_unlay p158.2 v2).bind fun p160 =>
                                                  if p158.1 = p160.1 then
                                                    (fL_law_c18 n p160.2 v0 v1 v2 (v3 + 4))
                                                  else
                                                    (some (0, p160.2)))
                                                else
                                                  (if (x3 &&& 31) = 22 then
                                                    ((aI M false v0 (v3 + 1)).bind fun x162 =>
                                                    (fX7_which M v1 x162).bind fun p164 =>
                                                    (aI p164.2 false v0 (v3 + 1)).bind fun x165 =>
                                                    (fX8_which p164.2 v2 x165).bind fun x167 =>
                                                    if p164.1 = x167 then
                                                      (fL_law_c18 n p164.2 v0 v1 v2 (v3 + 4))
                                                    else
                                                      (some (0, p164.2)))
                                                  else
                                                    (if (x3 &&& 31) = 23 then
                                                      ((aI M false v0 (v3 + 1)).bind fun x169 =>
                                                      (aI M false v0 (v3 + 2)).bind fun x170 =>
                                                      if x170 = 0 then
                                                        ((fX7_share M v1 x169 0).bind fun p173 =>
                                                        (aI p173.2 false v0 (v3 + 1)).bind fun x174 =>
                                                        (aI p173.2 false v0 (v3 + 2)).bind fun x175 =>
                                                        if x175 = 0 then
                                                          ((fX8_share p173.2 v2 x174 0).bind fun x178 =>
                                                          if p173.1 = x178 then
                                                            (fL_law_c18 n p173.2 v0 v1 v2 (v3 + 4))
                                                          else
                                                            (some (0, p173.2)))
                                                        else
                                                          ((fX8_share p173.2 v2 x174 1).bind fun x181 =>
                                                          if p173.1 = x181 then
                                                            (fL_law_c18 n p173.2 v0 v1 v2 (v3 + 4))
                                                          else
                                                            (some (0, p173.2))))
                                                      else
                                                        ((fX7_share M v1 x169 1).bind fun p184 =>
                                                        (aI p184.2 false v0 (v3 + 1)).bind fun x185 =>
                                                        (aI p184.2 false v0 (v3 + 2)).bind fun x186 =>
                                                        if x186 = 0 then
                                                          ((fX8_share p184.2 v2 x185 0).bind fun x189 =>
                                                          if p184.1 = x189 then
                                                            (fL_law_c18 n p184.2 v0 v1 v2 (v3 + 4))
                                                          else
                                                            (some (0, p184.2)))
                                                        else
                                                          ((fX8_share p184.2 v2 x185 1).bind fun x192 =>
                                                          if p184.1 = x192 then
                                                            (fL_law_c18 n p184.2 v0 v1 v2 (v3 + 4))
                                                          else
                                                            (some (0, p184.2)))))
                                                    else
                                                      (if (x3 &&& 31) = 24 then
                                                        ((aI M false v0 (v3 + 1)).bind fun x194 =>
                                                        (aI M false v0 (v3 + 2)).bind fun x195 =>
                                                        (aI M false v0 (v3 + 3)).bind fun x196 =>
                                                        (fX7_rests M v1 x194 x195 x196).bind fun p198 =>
                                                        (aI p198.2 false v0 (v3 + 1)).bind fun x199 =>
                                                        (aI p198.2 false v0 (v3 + 2)).bind fun x200 =>
                                                        (aI p198.2 false v0 (v3 + 3)).bind fun x201 =>
                                                        (fX8_rests p198.2 v2 x199 x200 x201).bind fun p203 =>
                                                        if p198.1 = p203.1 then
                                                          (fL_law_c18 n p203.2 v0 v1 v2 (v3 + 4))
                                                        else
                                                          (some (0, p203.2)))
                                                      else
                                                        (if (x3 &&& 31) = 25 then
                                                          ((aI M false v0 (v3 + 1)).bind fun x205 =>
                                                          (aI M false v0 (v3 + 2)).bind fun x206 =>
                                                          if x206 = 0 then
                                                            ((fX7_lost M v1 x205 0).bind fun p209 =>
                                                            (aI p209.2 false v0 (v3 + 1)).bind fun x210 =>
                                                            (aI p209.2 false v0 (v3 + 2)).bind fun x211 =>
                                                            if x211 = 0 then
                                                              ((fX8_lost p209.2 v2 x210 0).bind fun x214 =>
                                                              if p209.1 = x214 then
                                                                (fL_law_c18 n p209.2 v0 v1 v2 (v3 + 4))
                                                              else
                                                                (some (0, p209.2)))
                                                            else
                                                              ((fX8_lost p209.2 v2 x210 1).bind fun x217 =>
                                                              if p209.1 = x217 then
                                                                (fL_law_c18 n p209.2 v0 v1 v2 (v3 + 4))
                                                              else
                                                                (some (0, p209.2))))
                                                          else
                                                            ((fX7_lost M v1 x205 1).bind fun p220 =>
                                                            (aI p220.2 false v0 (v3 + 1)).bind fun x221 =>
                                                            (aI p220.2 false v0 (v3 + 2)).bind fun x222 =>
                                                            if x222 = 0 then
                                                              ((fX8_lost p220.2 v2 x221 0).bind fun x225 =>
                                                              if p220.1 = x225 then
                                                                (fL_law_c18 n p220.2 v0 v1 v2 (v3 + 4))
                                                              else
                                                                (some (0, p220.2)))
                                                            else
                                                              ((fX8_lost p220.2 v2 x221 1).bind fun x228 =>
                                                              if p220.1 = x228 then
                                                                (fL_law_c18 n p220.2 v0 v1 v2 (v3 + 4))
                                                              else
                                                                (some (0, p220.2)))))
                                                        else
                                                          (if (x3 &&& 31) = 26 then
                                                            ((aI M false v0 (v3 + 1)).bind fun x230 =>
                                                            (aI M false v0 (v3 + 2)).bind fun x231 =>
                                                            (fX7_seed M v1 (((Int32.toInt64 x230) <<< (Int32.toInt64 32 &&& 63)) ||| ((Int32.toInt64 x231) &&& (4294967295 : Int64)))).bind fun p233 =>
                                                            (aI p233.2 false v0 (v3 + 1)).bind fun x234 =>
                                                            (aI p233.2 false v0 (v3 + 2)).bind fun x235 =>
                                                            (fX8_seed p233.2 v2 (((Int32.toInt64 x234) <<< (Int32.toInt64 32 &&& 63)) ||| ((Int32.toInt64 x235) &&& (4294967295 : Int64)))).bind fun p237 =>
                                                            if (lg_cmp p233.1 p237.1) = 0 then
                                                              (fL_law_c18 n p237.2 v0 v1 v2 (v3 + 4))
                                                            else
                                                              (some (0, p237.2)))
                                                          else
                                                            (if (x3 &&& 31) = 27 then
                                                              ((aI M false v0 (v3 + 1)).bind fun x239 =>
                                                              (fX7_years M v1 x239).bind fun p241 =>
                                                              (aI p241.2 false v0 (v3 + 1)).bind fun x242 =>
                                                              (fX8_years p241.2 v2 x242).bind fun p244 =>
                                                              if p241.1 = p244.1 then
                                                                (fL_law_c18 n p244.2 v0 v1 v2 (v3 + 4))
                                                              else
                                                                (some (0, p244.2)))
                                                            else
                                                              (if (x3 &&& 31) = 28 then
                                                                ((aI M false v0 (v3 + 1)).bind fun x246 =>
                                                                (fX7_keep M v1 x246).bind fun p248 =>
                                                                (aI p248.2 false v0 (v3 + 1)).bind fun x249 =>
                                                                (fX8_keep p248.2 v2 x249).bind fun p251 =>
                                                                if p248.1 = p251.1 then
                                                                  (fL_law_c18 n p251.2 v0 v1 v2 (v3 + 4))
                                                                else
                                                                  (some (0, p251.2)))
                                                              else
                                                                (if (x3 &&& 31) = 29 then
                                                                  ((aI M false v0 (v3 + 1)).bind fun x253 =>
                                                                  (fX7_again M v1 x253).bind fun p255 =>
                                                                  (aI p255.2 false v0 (v3 + 1)).bind fun x256 =>
                                                                  (fX8_again p255.2 v2 x256).bind fun p258 =>
                                                                  if p255.1 = p258.1 then
                                                                    (fL_law_c18 n p258.2 v0 v1 v2 (v3 + 4))
                                                                  else
                                                                    (some (0, p258.2)))
                                                                else
                                                                  (if (x3 &&& 31) = 30 then
                                                                    ((aI M false v0 (v3 + 1)).bind fun x260 =>
                                                                    (fX7_count M v1 x260).bind fun x262 =>
                                                                    (aI M false v0 (v3 + 1)).bind fun x263 =>
                                                                    (fX8_count M v2 x263).bind fun x265 =>
                                                                    if x262 = x265 then
                                                                      (fL_law_c18 n M v0 v1 v2 (v3 + 4))
                                                                    else
                                                                      (some (0, M)))
                                                                  else
                                                                    (fL_law_c18 n M v0 v1 v2 (v3 + 4)))))))))))))))))))))))))))))))))
set_option maxRecDepth 20000 in
set_option maxHeartbeats 4000000 in
theorem rL_law_c18 {E : mE} {kc nc : Nat} {x : Int32} {Mf : mM} : ∀ (n : Nat) (M : mM) (v0 : Nat) (v1 : Nat) (v2 : Nat) (v3 : Int32), fL_law_c18 n M v0 v1 v2 v3 = some (x, Mf) → Ev mL_law E 2000 600000 7302250 (some (.int x)) Mf 18 [some (.ref v0), some (.ref v1), some (.ref v2), some (.int v3)] [] M kc nc := by
  intro n
  induction n with
  | zero => intro M v0 v1 v2 v3 h; rw [fL_law_c18.eq_1] at h; cases h
  | succ n ih =>
    intro M v0 v1 v2 v3 h
    rw [fL_law_c18.eq_2] at h
    refine Ev_iload_n (x := v3) rfl dL_law_18 ?_
    refine Ev_aload_n (x := v0) rfl dL_law_19 ?_
    obtain ⟨x1, g1, h⟩ := bsome h
    refine Ev_alen dL_law_20 g1 ?_
    refine Ev_iconst ic_4 dL_law_21 ?_
    refine Ev_isub dL_law_22 ?_
    refine Ev_icmp_gt (tgt := 1055) dL_law_23 (by decide) (fun q2 => ?_) (fun q2 => ?_)
    · rw [if_pos q2] at h
      refine Ev_iconst ic_1 dL_law_1055 ?_
      cases h
      exact Ev_iret rfl rfl dL_law_1056 ⟨rfl, rfl⟩
    · rw [if_neg q2] at h
      refine Ev_aload_n (x := v0) rfl dL_law_26 ?_
      refine Ev_iload_n (x := v3) rfl dL_law_27 ?_
      obtain ⟨x3, g3, h⟩ := bsome h
      refine Ev_iald dL_law_28 g3 ?_
      refine Ev_bipush bp_31 dL_law_29 ?_
      refine Ev_iand dL_law_31 ?_
      by_cases q267 : (x3 &&& 31) = 0
      · rw [if_pos q267] at h
        refine Ev_tswIn (tgt := 172) dL_law_32 (by rw [q267]; decide) (by rw [q267]; decide) (by rw [q267]; rfl) (by decide) ?_
        refine Ev_aload_n (x := v1) rfl dL_law_172 ?_
        refine Ev_aload_n (x := v0) rfl dL_law_173 ?_
        refine Ev_iload_n (x := v3) rfl dL_law_174 ?_
        refine Ev_iconst ic_1 dL_law_175 ?_
        refine Ev_iadd dL_law_176 ?_
        obtain ⟨x4, g4, h⟩ := bsome h
        refine Ev_iald dL_law_177 g4 ?_
        obtain ⟨p6, g5, h⟩ := bsome h
        refine Ev_callVi (np := 1) (vs := [.int x4]) (rest := []) mdX7_write lkL_13 ⟨_, rfl, rfl⟩ (oX7_write g5) (rX7_write g5) rfl rfl (Nat.le_of_ble_eq_true rfl) (Nat.le_of_ble_eq_true rfl) dL_law_178 ?_
        refine Ev_aload_n (x := v2) rfl dL_law_181 ?_
        refine Ev_aload_n (x := v0) rfl dL_law_182 ?_
        refine Ev_iload_n (x := v3) rfl dL_law_183 ?_
        refine Ev_iconst ic_1 dL_law_184 ?_
        refine Ev_iadd dL_law_185 ?_
        obtain ⟨x7, g7, h⟩ := bsome h
        refine Ev_iald dL_law_186 g7 ?_
        obtain ⟨p9, g8, h⟩ := bsome h
        refine Ev_callVi (np := 1) (vs := [.int x7]) (rest := [.int p6.1]) mdX8_write lkL_17 ⟨_, rfl, rfl⟩ (oX8_write g8) (rX8_write g8) rfl rfl (Nat.le_of_ble_eq_true rfl) (Nat.le_of_ble_eq_true rfl) dL_law_187 ?_
        refine Ev_icmp_eq (tgt := 1049) dL_law_190 (by decide) (fun q10 => ?_) (fun q10 => ?_)
        · rw [if_pos q10] at h
          refine Ev_iinc (x := v3) (v := (v3 + 4)) (loc2 := [some (.ref v0), some (.ref v1), some (.ref v2), some (.int (v3 + 4))]) rfl (congrArg (v3 + ·) ic_4) (Nat.le_of_ble_eq_true rfl) rfl rfl dL_law_1049 ?_
          refine Ev_goto (tgt := 18) dL_law_1052 (by decide) ?_
          exact ih p9.2 v0 v1 v2 (v3 + 4) h
        · rw [if_neg q10] at h
          refine Ev_iconst ic_0 dL_law_193 ?_
          cases h
          exact Ev_iret rfl rfl dL_law_194 ⟨rfl, rfl⟩
      · rw [if_neg q267] at h
        by_cases q268 : (x3 &&& 31) = 1
        · rw [if_pos q268] at h
          refine Ev_tswIn (tgt := 195) dL_law_32 (by rw [q268]; decide) (by rw [q268]; decide) (by rw [q268]; rfl) (by decide) ?_
          refine Ev_aload_n (x := v1) rfl dL_law_195 ?_
          obtain ⟨p12, g11, h⟩ := bsome h
          refine Ev_callVi (np := 0) (vs := []) (rest := []) mdX7_wipe lkL_18 ⟨_, rfl, rfl⟩ (oX7_wipe g11) (rX7_wipe g11) rfl rfl (Nat.le_of_ble_eq_true rfl) (Nat.le_of_ble_eq_true rfl) dL_law_196 ?_
          refine Ev_aload_n (x := v2) rfl dL_law_199 ?_
          obtain ⟨p14, g13, h⟩ := bsome h
          refine Ev_callVi (np := 0) (vs := []) (rest := [.int p12.1]) mdX8_wipe lkL_22 ⟨_, rfl, rfl⟩ (oX8_wipe g13) (rX8_wipe g13) rfl rfl (Nat.le_of_ble_eq_true rfl) (Nat.le_of_ble_eq_true rfl) dL_law_200 ?_
          refine Ev_icmp_eq (tgt := 1049) dL_law_203 (by decide) (fun q15 => ?_) (fun q15 => ?_)
          · rw [if_pos q15] at h
            refine Ev_iinc (x := v3) (v := (v3 + 4)) (loc2 := [some (.ref v0), some (.ref v1), some (.ref v2), some (.int (v3 + 4))]) rfl (congrArg (v3 + ·) ic_4) (Nat.le_of_ble_eq_true rfl) rfl rfl dL_law_1049 ?_
            refine Ev_goto (tgt := 18) dL_law_1052 (by decide) ?_
            exact ih p14.2 v0 v1 v2 (v3 + 4) h
          · rw [if_neg q15] at h
            refine Ev_iconst ic_0 dL_law_206 ?_
            cases h
            exact Ev_iret rfl rfl dL_law_207 ⟨rfl, rfl⟩
        · rw [if_neg q268] at h
          by_cases q269 : (x3 &&& 31) = 2
          · rw [if_pos q269] at h
            refine Ev_tswIn (tgt := 208) dL_law_32 (by rw [q269]; decide) (by rw [q269]; decide) (by rw [q269]; rfl) (by decide) ?_
            refine Ev_aload_n (x := v1) rfl dL_law_208 ?_
            obtain ⟨x17, g16, h⟩ := bsome h
            refine Ev_callVi (np := 0) (vs := []) (rest := []) mdX7_fault lkL_23 ⟨_, rfl, rfl⟩ (oX7_fault g16) (rX7_fault g16) rfl rfl (Nat.le_of_ble_eq_true rfl) (Nat.le_of_ble_eq_true rfl) dL_law_209 ?_
            refine Ev_aload_n (x := v2) rfl dL_law_212 ?_
            obtain ⟨p19, g18, h⟩ := bsome h
            refine Ev_callVi (np := 0) (vs := []) (rest := [.int x17]) mdX8_fault lkL_26 ⟨_, rfl, rfl⟩ (oX8_fault g18) (rX8_fault g18) rfl rfl (Nat.le_of_ble_eq_true rfl) (Nat.le_of_ble_eq_true rfl) dL_law_213 ?_
            refine Ev_icmp_eq (tgt := 1049) dL_law_216 (by decide) (fun q20 => ?_) (fun q20 => ?_)
            · rw [if_pos q20] at h
              refine Ev_iinc (x := v3) (v := (v3 + 4)) (loc2 := [some (.ref v0), some (.ref v1), some (.ref v2), some (.int (v3 + 4))]) rfl (congrArg (v3 + ·) ic_4) (Nat.le_of_ble_eq_true rfl) rfl rfl dL_law_1049 ?_
              refine Ev_goto (tgt := 18) dL_law_1052 (by decide) ?_
              exact ih p19.2 v0 v1 v2 (v3 + 4) h
            · rw [if_neg q20] at h
              refine Ev_iconst ic_0 dL_law_219 ?_
              cases h
              exact Ev_iret rfl rfl dL_law_220 ⟨rfl, rfl⟩
          · rw [if_neg q269] at h
            by_cases q270 : (x3 &&& 31) = 3
            · rw [if_pos q270] at h
              refine Ev_tswIn (tgt := 221) dL_law_32 (by rw [q270]; decide) (by rw [q270]; decide) (by rw [q270]; rfl) (by decide) ?_
              refine Ev_aload_n (x := v1) rfl dL_law_221 ?_
              obtain ⟨p22, g21, h⟩ := bsome h
              refine Ev_callVi (np := 0) (vs := []) (rest := []) mdX7_valley lkL_27 ⟨_, rfl, rfl⟩ (oX7_valley g21) (rX7_valley g21) rfl rfl (Nat.le_of_ble_eq_true rfl) (Nat.le_of_ble_eq_true rfl) dL_law_222 ?_
              refine Ev_aload_n (x := v2) rfl dL_law_225 ?_
              obtain ⟨p24, g23, h⟩ := bsome h
              refine Ev_callVi (np := 0) (vs := []) (rest := [.int p22.1]) mdX8_valley lkL_30 ⟨_, rfl, rfl⟩ (oX8_valley g23) (rX8_valley g23) rfl rfl (Nat.le_of_ble_eq_true rfl) (Nat.le_of_ble_eq_true rfl) dL_law_226 ?_
              refine Ev_icmp_eq (tgt := 1049) dL_law_229 (by decide) (fun q25 => ?_) (fun q25 => ?_)
              · rw [if_pos q25] at h
                refine Ev_iinc (x := v3) (v := (v3 + 4)) (loc2 := [some (.ref v0), some (.ref v1), some (.ref v2), some (.int (v3 + 4))]) rfl (congrArg (v3 + ·) ic_4) (Nat.le_of_ble_eq_true rfl) rfl rfl dL_law_1049 ?_
                refine Ev_goto (tgt := 18) dL_law_1052 (by decide) ?_
                exact ih p24.2 v0 v1 v2 (v3 + 4) h
              · rw [if_neg q25] at h
                refine Ev_iconst ic_0 dL_law_232 ?_
                cases h
                exact Ev_iret rfl rfl dL_law_233 ⟨rfl, rfl⟩
            · rw [if_neg q270] at h
              by_cases q271 : (x3 &&& 31) = 4
              · rw [if_pos q271] at h
                refine Ev_tswIn (tgt := 234) dL_law_32 (by rw [q271]; decide) (by rw [q271]; decide) (by rw [q271]; rfl) (by decide) ?_
                refine Ev_aload_n (x := v1) rfl dL_law_234 ?_
                refine Ev_aload_n (x := v0) rfl dL_law_235 ?_
                refine Ev_iload_n (x := v3) rfl dL_law_236 ?_
                refine Ev_iconst ic_1 dL_law_237 ?_
                refine Ev_iadd dL_law_238 ?_
                obtain ⟨x26, g26, h⟩ := bsome h
                refine Ev_iald dL_law_239 g26 ?_
                refine Ev_aload_n (x := v0) rfl dL_law_240 ?_
                refine Ev_iload_n (x := v3) rfl dL_law_241 ?_
                refine Ev_iconst ic_2 dL_law_242 ?_
                refine Ev_iadd dL_law_243 ?_
                obtain ⟨x27, g27, h⟩ := bsome h
                refine Ev_iald dL_law_244 g27 ?_
                refine Ev_i2l dL_law_245 ?_
                refine Ev_bipush bp_32 dL_law_246 ?_
                refine Ev_lshl dL_law_248 ?_
                refine Ev_aload_n (x := v0) rfl dL_law_249 ?_
                refine Ev_iload_n (x := v3) rfl dL_law_250 ?_
                refine Ev_iconst ic_3 dL_law_251 ?_
                refine Ev_iadd dL_law_252 ?_
                obtain ⟨x28, g28, h⟩ := bsome h
                refine Ev_iald dL_law_253 g28 ?_
                refine Ev_i2l dL_law_254 ?_
                refine Ev_ldc2 csL_31 dL_law_255 ?_
                refine Ev_land dL_law_258 ?_
                refine Ev_lor dL_law_259 ?_
                obtain ⟨p30, g29, h⟩ := bsome h
                refine Ev_callVi (np := 2) (vs := [.int x26, .long (((Int32.toInt64 x27) <<< (Int32.toInt64 32 &&& 63)) ||| ((Int32.toInt64 x28) &&& (4294967295 : Int64)))]) (rest := []) mdX7_bed lkL_33 ⟨_, rfl, rfl⟩ (oX7_bed g29) (rX7_bed g29) rfl rfl (Nat.le_of_ble_eq_true rfl) (Nat.le_of_ble_eq_true rfl) dL_law_260 ?_
                refine Ev_aload_n (x := v2) rfl dL_law_263 ?_
                refine Ev_aload_n (x := v0) rfl dL_law_264 ?_
                refine Ev_iload_n (x := v3) rfl dL_law_265 ?_
                refine Ev_iconst ic_1 dL_law_266 ?_
                refine Ev_iadd dL_law_267 ?_
                obtain ⟨x31, g31, h⟩ := bsome h
                refine Ev_iald dL_law_268 g31 ?_
                refine Ev_aload_n (x := v0) rfl dL_law_269 ?_
                refine Ev_iload_n (x := v3) rfl dL_law_270 ?_
                refine Ev_iconst ic_2 dL_law_271 ?_
                refine Ev_iadd dL_law_272 ?_
                obtain ⟨x32, g32, h⟩ := bsome h
                refine Ev_iald dL_law_273 g32 ?_
                refine Ev_i2l dL_law_274 ?_
                refine Ev_bipush bp_32 dL_law_275 ?_
                refine Ev_lshl dL_law_277 ?_
                refine Ev_aload_n (x := v0) rfl dL_law_278 ?_
                refine Ev_iload_n (x := v3) rfl dL_law_279 ?_
                refine Ev_iconst ic_3 dL_law_280 ?_
                refine Ev_iadd dL_law_281 ?_
                obtain ⟨x33, g33, h⟩ := bsome h
                refine Ev_iald dL_law_282 g33 ?_
                refine Ev_i2l dL_law_283 ?_
                refine Ev_ldc2 csL_31 dL_law_284 ?_
                refine Ev_land dL_law_287 ?_
                refine Ev_lor dL_law_288 ?_
                obtain ⟨p35, g34, h⟩ := bsome h
                refine Ev_callVi (np := 2) (vs := [.int x31, .long (((Int32.toInt64 x32) <<< (Int32.toInt64 32 &&& 63)) ||| ((Int32.toInt64 x33) &&& (4294967295 : Int64)))]) (rest := [.int p30.1]) mdX8_bed lkL_37 ⟨_, rfl, rfl⟩ (oX8_bed g34) (rX8_bed g34) rfl rfl (Nat.le_of_ble_eq_true rfl) (Nat.le_of_ble_eq_true rfl) dL_law_289 ?_
                refine Ev_icmp_eq (tgt := 1049) dL_law_292 (by decide) (fun q36 => ?_) (fun q36 => ?_)
                · rw [if_pos q36] at h
                  refine Ev_iinc (x := v3) (v := (v3 + 4)) (loc2 := [some (.ref v0), some (.ref v1), some (.ref v2), some (.int (v3 + 4))]) rfl (congrArg (v3 + ·) ic_4) (Nat.le_of_ble_eq_true rfl) rfl rfl dL_law_1049 ?_
                  refine Ev_goto (tgt := 18) dL_law_1052 (by decide) ?_
                  exact ih p35.2 v0 v1 v2 (v3 + 4) h
                · rw [if_neg q36] at h
                  refine Ev_iconst ic_0 dL_law_295 ?_
                  cases h
                  exact Ev_iret rfl rfl dL_law_296 ⟨rfl, rfl⟩
              · rw [if_neg q271] at h
                by_cases q272 : (x3 &&& 31) = 5
                · rw [if_pos q272] at h
                  refine Ev_tswIn (tgt := 297) dL_law_32 (by rw [q272]; decide) (by rw [q272]; decide) (by rw [q272]; rfl) (by decide) ?_
                  refine Ev_aload_n (x := v1) rfl dL_law_297 ?_
                  refine Ev_aload_n (x := v0) rfl dL_law_298 ?_
                  refine Ev_iload_n (x := v3) rfl dL_law_299 ?_
                  refine Ev_iconst ic_1 dL_law_300 ?_
                  refine Ev_iadd dL_law_301 ?_
                  obtain ⟨x37, g37, h⟩ := bsome h
                  refine Ev_iald dL_law_302 g37 ?_
                  refine Ev_aload_n (x := v0) rfl dL_law_303 ?_
                  refine Ev_iload_n (x := v3) rfl dL_law_304 ?_
                  refine Ev_iconst ic_2 dL_law_305 ?_
                  refine Ev_iadd dL_law_306 ?_
                  obtain ⟨x38, g38, h⟩ := bsome h
                  refine Ev_iald dL_law_307 g38 ?_
                  obtain ⟨x40, g39, h⟩ := bsome h
                  refine Ev_callVi (np := 2) (vs := [.int x37, .int x38]) (rest := []) mdX7_strand lkL_38 ⟨_, rfl, rfl⟩ (oX7_strand g39) (rX7_strand g39) rfl rfl (Nat.le_of_ble_eq_true rfl) (Nat.le_of_ble_eq_true rfl) dL_law_308 ?_
                  refine Ev_aload_n (x := v2) rfl dL_law_311 ?_
                  refine Ev_aload_n (x := v0) rfl dL_law_312 ?_
                  refine Ev_iload_n (x := v3) rfl dL_law_313 ?_
                  refine Ev_iconst ic_1 dL_law_314 ?_
                  refine Ev_iadd dL_law_315 ?_
                  obtain ⟨x41, g41, h⟩ := bsome h
                  refine Ev_iald dL_law_316 g41 ?_
                  refine Ev_aload_n (x := v0) rfl dL_law_317 ?_
                  refine Ev_iload_n (x := v3) rfl dL_law_318 ?_
                  refine Ev_iconst ic_2 dL_law_319 ?_
                  refine Ev_iadd dL_law_320 ?_
                  obtain ⟨x42, g42, h⟩ := bsome h
                  refine Ev_iald dL_law_321 g42 ?_
                  obtain ⟨x44, g43, h⟩ := bsome h
                  refine Ev_callVi (np := 2) (vs := [.int x41, .int x42]) (rest := [.int x40]) mdX8_strand lkL_42 ⟨_, rfl, rfl⟩ (oX8_strand g43) (rX8_strand g43) rfl rfl (Nat.le_of_ble_eq_true rfl) (Nat.le_of_ble_eq_true rfl) dL_law_322 ?_
                  refine Ev_icmp_eq (tgt := 1049) dL_law_325 (by decide) (fun q45 => ?_) (fun q45 => ?_)
                  · rw [if_pos q45] at h
                    refine Ev_iinc (x := v3) (v := (v3 + 4)) (loc2 := [some (.ref v0), some (.ref v1), some (.ref v2), some (.int (v3 + 4))]) rfl (congrArg (v3 + ·) ic_4) (Nat.le_of_ble_eq_true rfl) rfl rfl dL_law_1049 ?_
                    refine Ev_goto (tgt := 18) dL_law_1052 (by decide) ?_
                    exact ih M v0 v1 v2 (v3 + 4) h
                  · rw [if_neg q45] at h
                    refine Ev_iconst ic_0 dL_law_328 ?_
                    cases h
                    exact Ev_iret rfl rfl dL_law_329 ⟨rfl, rfl⟩
                · rw [if_neg q272] at h
                  by_cases q273 : (x3 &&& 31) = 6
                  · rw [if_pos q273] at h
                    refine Ev_tswIn (tgt := 330) dL_law_32 (by rw [q273]; decide) (by rw [q273]; decide) (by rw [q273]; rfl) (by decide) ?_
                    refine Ev_aload_n (x := v1) rfl dL_law_330 ?_
                    refine Ev_aload_n (x := v0) rfl dL_law_331 ?_
                    refine Ev_iload_n (x := v3) rfl dL_law_332 ?_
                    refine Ev_iconst ic_1 dL_law_333 ?_
                    refine Ev_iadd dL_law_334 ?_
                    obtain ⟨x46, g46, h⟩ := bsome h
                    refine Ev_iald dL_law_335 g46 ?_
                    obtain ⟨x48, g47, h⟩ := bsome h
                    refine Ev_callVl (np := 1) (vs := [.int x46]) (rest := []) mdX7_bends lkL_43 ⟨_, rfl, rfl⟩ (oX7_bends g47) (rX7_bends g47) rfl rfl (Nat.le_of_ble_eq_true rfl) (Nat.le_of_ble_eq_true rfl) dL_law_336 ?_
                    refine Ev_aload_n (x := v2) rfl dL_law_339 ?_
                    refine Ev_aload_n (x := v0) rfl dL_law_340 ?_
                    refine Ev_iload_n (x := v3) rfl dL_law_341 ?_
                    refine Ev_iconst ic_1 dL_law_342 ?_
                    refine Ev_iadd dL_law_343 ?_
                    obtain ⟨x49, g49, h⟩ := bsome h
                    refine Ev_iald dL_law_344 g49 ?_
                    obtain ⟨x51, g50, h⟩ := bsome h
                    refine Ev_callVl (np := 1) (vs := [.int x49]) (rest := [.long x48]) mdX8_bends lkL_47 ⟨_, rfl, rfl⟩ (oX8_bends g50) (rX8_bends g50) rfl rfl (Nat.le_of_ble_eq_true rfl) (Nat.le_of_ble_eq_true rfl) dL_law_345 ?_
                    refine Ev_lcmp dL_law_348 ?_
                    refine Ev_if_eq (tgt := 1049) dL_law_349 (by decide) (fun q52 => ?_) (fun q52 => ?_)
                    · rw [if_pos q52] at h
                      refine Ev_iinc (x := v3) (v := (v3 + 4)) (loc2 := [some (.ref v0), some (.ref v1), some (.ref v2), some (.int (v3 + 4))]) rfl (congrArg (v3 + ·) ic_4) (Nat.le_of_ble_eq_true rfl) rfl rfl dL_law_1049 ?_
                      refine Ev_goto (tgt := 18) dL_law_1052 (by decide) ?_
                      exact ih M v0 v1 v2 (v3 + 4) h
                    · rw [if_neg q52] at h
                      refine Ev_iconst ic_0 dL_law_352 ?_
                      cases h
                      exact Ev_iret rfl rfl dL_law_353 ⟨rfl, rfl⟩
                  · rw [if_neg q273] at h
                    by_cases q274 : (x3 &&& 31) = 7
                    · rw [if_pos q274] at h
                      refine Ev_tswIn (tgt := 354) dL_law_32 (by rw [q274]; decide) (by rw [q274]; decide) (by rw [q274]; rfl) (by decide) ?_
                      refine Ev_aload_n (x := v1) rfl dL_law_354 ?_
                      obtain ⟨p54, g53, h⟩ := bsome h
                      refine Ev_callVi (np := 0) (vs := []) (rest := []) mdX7_winter lkL_48 ⟨_, rfl, rfl⟩ (oX7_winter g53) (rX7_winter g53) rfl rfl (Nat.le_of_ble_eq_true rfl) (Nat.le_of_ble_eq_true rfl) dL_law_355 ?_
                      refine Ev_aload_n (x := v2) rfl dL_law_358 ?_
                      obtain ⟨p56, g55, h⟩ := bsome h
                      refine Ev_callVi (np := 0) (vs := []) (rest := [.int p54.1]) mdX8_winter lkL_51 ⟨_, rfl, rfl⟩ (oX8_winter g55) (rX8_winter g55) rfl rfl (Nat.le_of_ble_eq_true rfl) (Nat.le_of_ble_eq_true rfl) dL_law_359 ?_
                      refine Ev_icmp_eq (tgt := 1049) dL_law_362 (by decide) (fun q57 => ?_) (fun q57 => ?_)
                      · rw [if_pos q57] at h
                        refine Ev_iinc (x := v3) (v := (v3 + 4)) (loc2 := [some (.ref v0), some (.ref v1), some (.ref v2), some (.int (v3 + 4))]) rfl (congrArg (v3 + ·) ic_4) (Nat.le_of_ble_eq_true rfl) rfl rfl dL_law_1049 ?_
                        refine Ev_goto (tgt := 18) dL_law_1052 (by decide) ?_
                        exact ih p56.2 v0 v1 v2 (v3 + 4) h
                      · rw [if_neg q57] at h
                        refine Ev_iconst ic_0 dL_law_365 ?_
                        cases h
                        exact Ev_iret rfl rfl dL_law_366 ⟨rfl, rfl⟩
                    · rw [if_neg q274] at h
                      by_cases q275 : (x3 &&& 31) = 8
                      · rw [if_pos q275] at h
                        refine Ev_tswIn (tgt := 367) dL_law_32 (by rw [q275]; decide) (by rw [q275]; decide) (by rw [q275]; rfl) (by decide) ?_
                        refine Ev_aload_n (x := v1) rfl dL_law_367 ?_
                        refine Ev_aload_n (x := v0) rfl dL_law_368 ?_
                        refine Ev_iload_n (x := v3) rfl dL_law_369 ?_
                        refine Ev_iconst ic_1 dL_law_370 ?_
                        refine Ev_iadd dL_law_371 ?_
                        obtain ⟨x58, g58, h⟩ := bsome h
                        refine Ev_iald dL_law_372 g58 ?_
                        refine Ev_aload_n (x := v0) rfl dL_law_373 ?_
                        refine Ev_iload_n (x := v3) rfl dL_law_374 ?_
                        refine Ev_iconst ic_2 dL_law_375 ?_
                        refine Ev_iadd dL_law_376 ?_
                        obtain ⟨x59, g59, h⟩ := bsome h
                        refine Ev_iald dL_law_377 g59 ?_
                        obtain ⟨p61, g60, h⟩ := bsome h
                        refine Ev_callVi (np := 2) (vs := [.int x58, .int x59]) (rest := []) mdX7_hang lkL_52 ⟨_, rfl, rfl⟩ (oX7_hang g60) (rX7_hang g60) rfl rfl (Nat.le_of_ble_eq_true rfl) (Nat.le_of_ble_eq_true rfl) dL_law_378 ?_
                        refine Ev_aload_n (x := v2) rfl dL_law_381 ?_
                        refine Ev_aload_n (x := v0) rfl dL_law_382 ?_
                        refine Ev_iload_n (x := v3) rfl dL_law_383 ?_
                        refine Ev_iconst ic_1 dL_law_384 ?_
                        refine Ev_iadd dL_law_385 ?_
                        obtain ⟨x62, g62, h⟩ := bsome h
                        refine Ev_iald dL_law_386 g62 ?_
                        refine Ev_aload_n (x := v0) rfl dL_law_387 ?_
                        refine Ev_iload_n (x := v3) rfl dL_law_388 ?_
                        refine Ev_iconst ic_2 dL_law_389 ?_
                        refine Ev_iadd dL_law_390 ?_
                        obtain ⟨x63, g63, h⟩ := bsome h
                        refine Ev_iald dL_law_391 g63 ?_
                        obtain ⟨p65, g64, h⟩ := bsome h
                        refine Ev_callVi (np := 2) (vs := [.int x62, .int x63]) (rest := [.int p61.1]) mdX8_hang lkL_55 ⟨_, rfl, rfl⟩ (oX8_hang g64) (rX8_hang g64) rfl rfl (Nat.le_of_ble_eq_true rfl) (Nat.le_of_ble_eq_true rfl) dL_law_392 ?_
                        refine Ev_icmp_eq (tgt := 1049) dL_law_395 (by decide) (fun q66 => ?_) (fun q66 => ?_)
                        · rw [if_pos q66] at h
                          refine Ev_iinc (x := v3) (v := (v3 + 4)) (loc2 := [some (.ref v0), some (.ref v1), some (.ref v2), some (.int (v3 + 4))]) rfl (congrArg (v3 + ·) ic_4) (Nat.le_of_ble_eq_true rfl) rfl rfl dL_law_1049 ?_
                          refine Ev_goto (tgt := 18) dL_law_1052 (by decide) ?_
                          exact ih p65.2 v0 v1 v2 (v3 + 4) h
                        · rw [if_neg q66] at h
                          refine Ev_iconst ic_0 dL_law_398 ?_
                          cases h
                          exact Ev_iret rfl rfl dL_law_399 ⟨rfl, rfl⟩
                      · rw [if_neg q275] at h
                        by_cases q276 : (x3 &&& 31) = 9
                        · rw [if_pos q276] at h
                          refine Ev_tswIn (tgt := 400) dL_law_32 (by rw [q276]; decide) (by rw [q276]; decide) (by rw [q276]; rfl) (by decide) ?_
                          refine Ev_aload_n (x := v1) rfl dL_law_400 ?_
                          refine Ev_aload_n (x := v0) rfl dL_law_401 ?_
                          refine Ev_iload_n (x := v3) rfl dL_law_402 ?_
                          refine Ev_iconst ic_1 dL_law_403 ?_
                          refine Ev_iadd dL_law_404 ?_
                          obtain ⟨x67, g67, h⟩ := bsome h
                          refine Ev_iald dL_law_405 g67 ?_
                          obtain ⟨p69, g68, h⟩ := bsome h
                          refine Ev_callVi (np := 1) (vs := [.int x67]) (rest := []) mdX7_turn lkL_56 ⟨_, rfl, rfl⟩ (oX7_turn g68) (rX7_turn g68) rfl rfl (Nat.le_of_ble_eq_true rfl) (Nat.le_of_ble_eq_true rfl) dL_law_406 ?_
                          refine Ev_aload_n (x := v2) rfl dL_law_409 ?_
                          refine Ev_aload_n (x := v0) rfl dL_law_410 ?_
                          refine Ev_iload_n (x := v3) rfl dL_law_411 ?_
                          refine Ev_iconst ic_1 dL_law_412 ?_
                          refine Ev_iadd dL_law_413 ?_
                          obtain ⟨x70, g70, h⟩ := bsome h
                          refine Ev_iald dL_law_414 g70 ?_
                          obtain ⟨p72, g71, h⟩ := bsome h
                          refine Ev_callVi (np := 1) (vs := [.int x70]) (rest := [.int p69.1]) mdX8_turn lkL_59 ⟨_, rfl, rfl⟩ (oX8_turn g71) (rX8_turn g71) rfl rfl (Nat.le_of_ble_eq_true rfl) (Nat.le_of_ble_eq_true rfl) dL_law_415 ?_
                          refine Ev_icmp_eq (tgt := 1049) dL_law_418 (by decide) (fun q73 => ?_) (fun q73 => ?_)
                          · rw [if_pos q73] at h
                            refine Ev_iinc (x := v3) (v := (v3 + 4)) (loc2 := [some (.ref v0), some (.ref v1), some (.ref v2), some (.int (v3 + 4))]) rfl (congrArg (v3 + ·) ic_4) (Nat.le_of_ble_eq_true rfl) rfl rfl dL_law_1049 ?_
                            refine Ev_goto (tgt := 18) dL_law_1052 (by decide) ?_
                            exact ih p72.2 v0 v1 v2 (v3 + 4) h
                          · rw [if_neg q73] at h
                            refine Ev_iconst ic_0 dL_law_421 ?_
                            cases h
                            exact Ev_iret rfl rfl dL_law_422 ⟨rfl, rfl⟩
                        · rw [if_neg q276] at h
                          by_cases q277 : (x3 &&& 31) = 10
                          · rw [if_pos q277] at h
                            refine Ev_tswIn (tgt := 423) dL_law_32 (by rw [q277]; decide) (by rw [q277]; decide) (by rw [q277]; rfl) (by decide) ?_
                            refine Ev_aload_n (x := v1) rfl dL_law_423 ?_
                            refine Ev_aload_n (x := v0) rfl dL_law_424 ?_
                            refine Ev_iload_n (x := v3) rfl dL_law_425 ?_
                            refine Ev_iconst ic_1 dL_law_426 ?_
                            refine Ev_iadd dL_law_427 ?_
                            obtain ⟨x74, g74, h⟩ := bsome h
                            refine Ev_iald dL_law_428 g74 ?_
                            obtain ⟨p76, g75, h⟩ := bsome h
                            refine Ev_callVi (np := 1) (vs := [.int x74]) (rest := []) mdX7_snip lkL_60 ⟨_, rfl, rfl⟩ (oX7_snip g75) (rX7_snip g75) rfl rfl (Nat.le_of_ble_eq_true rfl) (Nat.le_of_ble_eq_true rfl) dL_law_429 ?_
                            refine Ev_aload_n (x := v2) rfl dL_law_432 ?_
                            refine Ev_aload_n (x := v0) rfl dL_law_433 ?_
                            refine Ev_iload_n (x := v3) rfl dL_law_434 ?_
                            refine Ev_iconst ic_1 dL_law_435 ?_
                            refine Ev_iadd dL_law_436 ?_
                            obtain ⟨x77, g77, h⟩ := bsome h
                            refine Ev_iald dL_law_437 g77 ?_
                            obtain ⟨p79, g78, h⟩ := bsome h
                            refine Ev_callVi (np := 1) (vs := [.int x77]) (rest := [.int p76.1]) mdX8_snip lkL_63 ⟨_, rfl, rfl⟩ (oX8_snip g78) (rX8_snip g78) rfl rfl (Nat.le_of_ble_eq_true rfl) (Nat.le_of_ble_eq_true rfl) dL_law_438 ?_
                            refine Ev_icmp_eq (tgt := 1049) dL_law_441 (by decide) (fun q80 => ?_) (fun q80 => ?_)
                            · rw [if_pos q80] at h
                              refine Ev_iinc (x := v3) (v := (v3 + 4)) (loc2 := [some (.ref v0), some (.ref v1), some (.ref v2), some (.int (v3 + 4))]) rfl (congrArg (v3 + ·) ic_4) (Nat.le_of_ble_eq_true rfl) rfl rfl dL_law_1049 ?_
                              refine Ev_goto (tgt := 18) dL_law_1052 (by decide) ?_
                              exact ih p79.2 v0 v1 v2 (v3 + 4) h
                            · rw [if_neg q80] at h
                              refine Ev_iconst ic_0 dL_law_444 ?_
                              cases h
                              exact Ev_iret rfl rfl dL_law_445 ⟨rfl, rfl⟩
                          · rw [if_neg q277] at h
                            by_cases q278 : (x3 &&& 31) = 11
                            · rw [if_pos q278] at h
                              refine Ev_tswIn (tgt := 446) dL_law_32 (by rw [q278]; decide) (by rw [q278]; decide) (by rw [q278]; rfl) (by decide) ?_
                              refine Ev_aload_n (x := v1) rfl dL_law_446 ?_
                              refine Ev_aload_n (x := v0) rfl dL_law_447 ?_
                              refine Ev_iload_n (x := v3) rfl dL_law_448 ?_
                              refine Ev_iconst ic_1 dL_law_449 ?_
                              refine Ev_iadd dL_law_450 ?_
                              obtain ⟨x81, g81, h⟩ := bsome h
                              refine Ev_iald dL_law_451 g81 ?_
                              refine Ev_aload_n (x := v0) rfl dL_law_452 ?_
                              refine Ev_iload_n (x := v3) rfl dL_law_453 ?_
                              refine Ev_iconst ic_2 dL_law_454 ?_
                              refine Ev_iadd dL_law_455 ?_
                              obtain ⟨x82, g82, h⟩ := bsome h
                              refine Ev_iald dL_law_456 g82 ?_
                              obtain ⟨p84, g83, h⟩ := bsome h
                              refine Ev_callVi (np := 2) (vs := [.int x81, .int x82]) (rest := []) mdX7_join lkL_64 ⟨_, rfl, rfl⟩ (oX7_join g83) (rX7_join g83) rfl rfl (Nat.le_of_ble_eq_true rfl) (Nat.le_of_ble_eq_true rfl) dL_law_457 ?_
                              refine Ev_aload_n (x := v2) rfl dL_law_460 ?_
                              refine Ev_aload_n (x := v0) rfl dL_law_461 ?_
                              refine Ev_iload_n (x := v3) rfl dL_law_462 ?_
                              refine Ev_iconst ic_1 dL_law_463 ?_
                              refine Ev_iadd dL_law_464 ?_
                              obtain ⟨x85, g85, h⟩ := bsome h
                              refine Ev_iald dL_law_465 g85 ?_
                              refine Ev_aload_n (x := v0) rfl dL_law_466 ?_
                              refine Ev_iload_n (x := v3) rfl dL_law_467 ?_
                              refine Ev_iconst ic_2 dL_law_468 ?_
                              refine Ev_iadd dL_law_469 ?_
                              obtain ⟨x86, g86, h⟩ := bsome h
                              refine Ev_iald dL_law_470 g86 ?_
                              obtain ⟨p88, g87, h⟩ := bsome h
                              refine Ev_callVi (np := 2) (vs := [.int x85, .int x86]) (rest := [.int p84.1]) mdX8_join lkL_67 ⟨_, rfl, rfl⟩ (oX8_join g87) (rX8_join g87) rfl rfl (Nat.le_of_ble_eq_true rfl) (Nat.le_of_ble_eq_true rfl) dL_law_471 ?_
                              refine Ev_icmp_eq (tgt := 1049) dL_law_474 (by decide) (fun q89 => ?_) (fun q89 => ?_)
                              · rw [if_pos q89] at h
                                refine Ev_iinc (x := v3) (v := (v3 + 4)) (loc2 := [some (.ref v0), some (.ref v1), some (.ref v2), some (.int (v3 + 4))]) rfl (congrArg (v3 + ·) ic_4) (Nat.le_of_ble_eq_true rfl) rfl rfl dL_law_1049 ?_
                                refine Ev_goto (tgt := 18) dL_law_1052 (by decide) ?_
                                exact ih p88.2 v0 v1 v2 (v3 + 4) h
                              · rw [if_neg q89] at h
                                refine Ev_iconst ic_0 dL_law_477 ?_
                                cases h
                                exact Ev_iret rfl rfl dL_law_478 ⟨rfl, rfl⟩
                            · rw [if_neg q278] at h
                              by_cases q279 : (x3 &&& 31) = 12
                              · rw [if_pos q279] at h
                                refine Ev_tswIn (tgt := 479) dL_law_32 (by rw [q279]; decide) (by rw [q279]; decide) (by rw [q279]; rfl) (by decide) ?_
                                refine Ev_aload_n (x := v1) rfl dL_law_479 ?_
                                obtain ⟨p91, g90, h⟩ := bsome h
                                refine Ev_callVi (np := 0) (vs := []) (rest := []) mdX7_undo lkL_68 ⟨_, rfl, rfl⟩ (oX7_undo g90) (rX7_undo g90) rfl rfl (Nat.le_of_ble_eq_true rfl) (Nat.le_of_ble_eq_true rfl) dL_law_480 ?_
                                refine Ev_aload_n (x := v2) rfl dL_law_483 ?_
                                obtain ⟨p93, g92, h⟩ := bsome h
                                refine Ev_callVi (np := 0) (vs := []) (rest := [.int p91.1]) mdX8_undo lkL_71 ⟨_, rfl, rfl⟩ (oX8_undo g92) (rX8_undo g92) rfl rfl (Nat.le_of_ble_eq_true rfl) (Nat.le_of_ble_eq_true rfl) dL_law_484 ?_
                                refine Ev_icmp_eq (tgt := 1049) dL_law_487 (by decide) (fun q94 => ?_) (fun q94 => ?_)
                                · rw [if_pos q94] at h
                                  refine Ev_iinc (x := v3) (v := (v3 + 4)) (loc2 := [some (.ref v0), some (.ref v1), some (.ref v2), some (.int (v3 + 4))]) rfl (congrArg (v3 + ·) ic_4) (Nat.le_of_ble_eq_true rfl) rfl rfl dL_law_1049 ?_
                                  refine Ev_goto (tgt := 18) dL_law_1052 (by decide) ?_
                                  exact ih p93.2 v0 v1 v2 (v3 + 4) h
                                · rw [if_neg q94] at h
                                  refine Ev_iconst ic_0 dL_law_490 ?_
                                  cases h
                                  exact Ev_iret rfl rfl dL_law_491 ⟨rfl, rfl⟩
                              · rw [if_neg q279] at h
                                by_cases q280 : (x3 &&& 31) = 13
                                · rw [if_pos q280] at h
                                  refine Ev_tswIn (tgt := 492) dL_law_32 (by rw [q280]; decide) (by rw [q280]; decide) (by rw [q280]; rfl) (by decide) ?_
                                  refine Ev_aload_n (x := v1) rfl dL_law_492 ?_
                                  refine Ev_aload_n (x := v0) rfl dL_law_493 ?_
                                  refine Ev_iload_n (x := v3) rfl dL_law_494 ?_
                                  refine Ev_iconst ic_1 dL_law_495 ?_
                                  refine Ev_iadd dL_law_496 ?_
                                  obtain ⟨x95, g95, h⟩ := bsome h
                                  refine Ev_iald dL_law_497 g95 ?_
                                  refine Ev_aload_n (x := v0) rfl dL_law_498 ?_
                                  refine Ev_iload_n (x := v3) rfl dL_law_499 ?_
                                  refine Ev_iconst ic_2 dL_law_500 ?_
                                  refine Ev_iadd dL_law_501 ?_
                                  obtain ⟨x96, g96, h⟩ := bsome h
                                  refine Ev_iald dL_law_502 g96 ?_
                                  obtain ⟨p98, g97, h⟩ := bsome h
                                  refine Ev_callVi (np := 2) (vs := [.int x95, .int x96]) (rest := []) mdX7_later lkL_72 ⟨_, rfl, rfl⟩ (oX7_later g97) (rX7_later g97) rfl rfl (Nat.le_of_ble_eq_true rfl) (Nat.le_of_ble_eq_true rfl) dL_law_503 ?_
                                  refine Ev_aload_n (x := v2) rfl dL_law_506 ?_
                                  refine Ev_aload_n (x := v0) rfl dL_law_507 ?_
                                  refine Ev_iload_n (x := v3) rfl dL_law_508 ?_
                                  refine Ev_iconst ic_1 dL_law_509 ?_
                                  refine Ev_iadd dL_law_510 ?_
                                  obtain ⟨x99, g99, h⟩ := bsome h
                                  refine Ev_iald dL_law_511 g99 ?_
                                  refine Ev_aload_n (x := v0) rfl dL_law_512 ?_
                                  refine Ev_iload_n (x := v3) rfl dL_law_513 ?_
                                  refine Ev_iconst ic_2 dL_law_514 ?_
                                  refine Ev_iadd dL_law_515 ?_
                                  obtain ⟨x100, g100, h⟩ := bsome h
                                  refine Ev_iald dL_law_516 g100 ?_
                                  obtain ⟨p102, g101, h⟩ := bsome h
                                  refine Ev_callVi (np := 2) (vs := [.int x99, .int x100]) (rest := [.int p98.1]) mdX8_later lkL_75 ⟨_, rfl, rfl⟩ (oX8_later g101) (rX8_later g101) rfl rfl (Nat.le_of_ble_eq_true rfl) (Nat.le_of_ble_eq_true rfl) dL_law_517 ?_
                                  refine Ev_icmp_eq (tgt := 1049) dL_law_520 (by decide) (fun q103 => ?_) (fun q103 => ?_)
                                  · rw [if_pos q103] at h
                                    refine Ev_iinc (x := v3) (v := (v3 + 4)) (loc2 := [some (.ref v0), some (.ref v1), some (.ref v2), some (.int (v3 + 4))]) rfl (congrArg (v3 + ·) ic_4) (Nat.le_of_ble_eq_true rfl) rfl rfl dL_law_1049 ?_
                                    refine Ev_goto (tgt := 18) dL_law_1052 (by decide) ?_
                                    exact ih p102.2 v0 v1 v2 (v3 + 4) h
                                  · rw [if_neg q103] at h
                                    refine Ev_iconst ic_0 dL_law_523 ?_
                                    cases h
                                    exact Ev_iret rfl rfl dL_law_524 ⟨rfl, rfl⟩
                                · rw [if_neg q280] at h
                                  by_cases q281 : (x3 &&& 31) = 14
                                  · rw [if_pos q281] at h
                                    refine Ev_tswIn (tgt := 525) dL_law_32 (by rw [q281]; decide) (by rw [q281]; decide) (by rw [q281]; rfl) (by decide) ?_
                                    refine Ev_aload_n (x := v1) rfl dL_law_525 ?_
                                    refine Ev_aload_n (x := v0) rfl dL_law_526 ?_
                                    refine Ev_iload_n (x := v3) rfl dL_law_527 ?_
                                    refine Ev_iconst ic_1 dL_law_528 ?_
                                    refine Ev_iadd dL_law_529 ?_
                                    obtain ⟨x104, g104, h⟩ := bsome h
                                    refine Ev_iald dL_law_530 g104 ?_
                                    obtain ⟨p106, g105, h⟩ := bsome h
                                    refine Ev_callVi (np := 1) (vs := [.int x104]) (rest := []) mdX7_lasts lkL_76 ⟨_, rfl, rfl⟩ (oX7_lasts g105) (rX7_lasts g105) rfl rfl (Nat.le_of_ble_eq_true rfl) (Nat.le_of_ble_eq_true rfl) dL_law_531 ?_
                                    refine Ev_aload_n (x := v2) rfl dL_law_534 ?_
                                    refine Ev_aload_n (x := v0) rfl dL_law_535 ?_
                                    refine Ev_iload_n (x := v3) rfl dL_law_536 ?_
                                    refine Ev_iconst ic_1 dL_law_537 ?_
                                    refine Ev_iadd dL_law_538 ?_
                                    obtain ⟨x107, g107, h⟩ := bsome h
                                    refine Ev_iald dL_law_539 g107 ?_
                                    obtain ⟨p109, g108, h⟩ := bsome h
                                    refine Ev_callVi (np := 1) (vs := [.int x107]) (rest := [.int p106.1]) mdX8_lasts lkL_79 ⟨_, rfl, rfl⟩ (oX8_lasts g108) (rX8_lasts g108) rfl rfl (Nat.le_of_ble_eq_true rfl) (Nat.le_of_ble_eq_true rfl) dL_law_540 ?_
                                    refine Ev_icmp_eq (tgt := 1049) dL_law_543 (by decide) (fun q110 => ?_) (fun q110 => ?_)
                                    · rw [if_pos q110] at h
                                      refine Ev_iinc (x := v3) (v := (v3 + 4)) (loc2 := [some (.ref v0), some (.ref v1), some (.ref v2), some (.int (v3 + 4))]) rfl (congrArg (v3 + ·) ic_4) (Nat.le_of_ble_eq_true rfl) rfl rfl dL_law_1049 ?_
                                      refine Ev_goto (tgt := 18) dL_law_1052 (by decide) ?_
                                      exact ih p109.2 v0 v1 v2 (v3 + 4) h
                                    · rw [if_neg q110] at h
                                      refine Ev_iconst ic_0 dL_law_546 ?_
                                      cases h
                                      exact Ev_iret rfl rfl dL_law_547 ⟨rfl, rfl⟩
                                  · rw [if_neg q281] at h
                                    by_cases q282 : (x3 &&& 31) = 15
                                    · rw [if_pos q282] at h
                                      refine Ev_tswIn (tgt := 548) dL_law_32 (by rw [q282]; decide) (by rw [q282]; decide) (by rw [q282]; rfl) (by decide) ?_
                                      refine Ev_aload_n (x := v1) rfl dL_law_548 ?_
                                      refine Ev_aload_n (x := v0) rfl dL_law_549 ?_
                                      refine Ev_iload_n (x := v3) rfl dL_law_550 ?_
                                      refine Ev_iconst ic_1 dL_law_551 ?_
                                      refine Ev_iadd dL_law_552 ?_
                                      obtain ⟨x111, g111, h⟩ := bsome h
                                      refine Ev_iald dL_law_553 g111 ?_
                                      refine Ev_aload_n (x := v0) rfl dL_law_554 ?_
                                      refine Ev_iload_n (x := v3) rfl dL_law_555 ?_
                                      refine Ev_iconst ic_2 dL_law_556 ?_
                                      refine Ev_iadd dL_law_557 ?_
                                      obtain ⟨x112, g112, h⟩ := bsome h
                                      refine Ev_iald dL_law_558 g112 ?_
                                      obtain ⟨x114, g113, h⟩ := bsome h
                                      refine Ev_callVi (np := 2) (vs := [.int x111, .int x112]) (rest := []) mdX7_overlap lkL_80 ⟨_, rfl, rfl⟩ (oX7_overlap g113) (rX7_overlap g113) rfl rfl (Nat.le_of_ble_eq_true rfl) (Nat.le_of_ble_eq_true rfl) dL_law_559 ?_
                                      refine Ev_aload_n (x := v2) rfl dL_law_562 ?_
                                      refine Ev_aload_n (x := v0) rfl dL_law_563 ?_
                                      refine Ev_iload_n (x := v3) rfl dL_law_564 ?_
                                      refine Ev_iconst ic_1 dL_law_565 ?_
                                      refine Ev_iadd dL_law_566 ?_
                                      obtain ⟨x115, g115, h⟩ := bsome h
                                      refine Ev_iald dL_law_567 g115 ?_
                                      refine Ev_aload_n (x := v0) rfl dL_law_568 ?_
                                      refine Ev_iload_n (x := v3) rfl dL_law_569 ?_
                                      refine Ev_iconst ic_2 dL_law_570 ?_
                                      refine Ev_iadd dL_law_571 ?_
                                      obtain ⟨x116, g116, h⟩ := bsome h
                                      refine Ev_iald dL_law_572 g116 ?_
                                      obtain ⟨x118, g117, h⟩ := bsome h
                                      refine Ev_callVi (np := 2) (vs := [.int x115, .int x116]) (rest := [.int x114]) mdX8_overlap lkL_83 ⟨_, rfl, rfl⟩ (oX8_overlap g117) (rX8_overlap g117) rfl rfl (Nat.le_of_ble_eq_true rfl) (Nat.le_of_ble_eq_true rfl) dL_law_573 ?_
                                      refine Ev_icmp_eq (tgt := 1049) dL_law_576 (by decide) (fun q119 => ?_) (fun q119 => ?_)
                                      · rw [if_pos q119] at h
                                        refine Ev_iinc (x := v3) (v := (v3 + 4)) (loc2 := [some (.ref v0), some (.ref v1), some (.ref v2), some (.int (v3 + 4))]) rfl (congrArg (v3 + ·) ic_4) (Nat.le_of_ble_eq_true rfl) rfl rfl dL_law_1049 ?_
                                        refine Ev_goto (tgt := 18) dL_law_1052 (by decide) ?_
                                        exact ih M v0 v1 v2 (v3 + 4) h
                                      · rw [if_neg q119] at h
                                        refine Ev_iconst ic_0 dL_law_579 ?_
                                        cases h
                                        exact Ev_iret rfl rfl dL_law_580 ⟨rfl, rfl⟩
                                    · rw [if_neg q282] at h
                                      by_cases q283 : (x3 &&& 31) = 16
                                      · rw [if_pos q283] at h
                                        refine Ev_tswIn (tgt := 581) dL_law_32 (by rw [q283]; decide) (by rw [q283]; decide) (by rw [q283]; rfl) (by decide) ?_
                                        refine Ev_aload_n (x := v1) rfl dL_law_581 ?_
                                        refine Ev_aload_n (x := v0) rfl dL_law_582 ?_
                                        refine Ev_iload_n (x := v3) rfl dL_law_583 ?_
                                        refine Ev_iconst ic_1 dL_law_584 ?_
                                        refine Ev_iadd dL_law_585 ?_
                                        obtain ⟨x120, g120, h⟩ := bsome h
                                        refine Ev_iald dL_law_586 g120 ?_
                                        obtain ⟨p122, g121, h⟩ := bsome h
                                        refine Ev_callVi (np := 1) (vs := [.int x120]) (rest := []) mdX7_river lkL_84 ⟨_, rfl, rfl⟩ (oX7_river g121) (rX7_river g121) rfl rfl (Nat.le_of_ble_eq_true rfl) (Nat.le_of_ble_eq_true rfl) dL_law_587 ?_
                                        refine Ev_aload_n (x := v2) rfl dL_law_590 ?_
                                        refine Ev_aload_n (x := v0) rfl dL_law_591 ?_
                                        refine Ev_iload_n (x := v3) rfl dL_law_592 ?_
                                        refine Ev_iconst ic_1 dL_law_593 ?_
                                        refine Ev_iadd dL_law_594 ?_
                                        obtain ⟨x123, g123, h⟩ := bsome h
                                        refine Ev_iald dL_law_595 g123 ?_
                                        obtain ⟨p125, g124, h⟩ := bsome h
                                        refine Ev_callVi (np := 1) (vs := [.int x123]) (rest := [.int p122.1]) mdX8_river lkL_87 ⟨_, rfl, rfl⟩ (oX8_river g124) (rX8_river g124) rfl rfl (Nat.le_of_ble_eq_true rfl) (Nat.le_of_ble_eq_true rfl) dL_law_596 ?_
                                        refine Ev_icmp_eq (tgt := 1049) dL_law_599 (by decide) (fun q126 => ?_) (fun q126 => ?_)
                                        · rw [if_pos q126] at h
                                          refine Ev_iinc (x := v3) (v := (v3 + 4)) (loc2 := [some (.ref v0), some (.ref v1), some (.ref v2), some (.int (v3 + 4))]) rfl (congrArg (v3 + ·) ic_4) (Nat.le_of_ble_eq_true rfl) rfl rfl dL_law_1049 ?_
                                          refine Ev_goto (tgt := 18) dL_law_1052 (by decide) ?_
                                          exact ih p125.2 v0 v1 v2 (v3 + 4) h
                                        · rw [if_neg q126] at h
                                          refine Ev_iconst ic_0 dL_law_602 ?_
                                          cases h
                                          exact Ev_iret rfl rfl dL_law_603 ⟨rfl, rfl⟩
                                      · rw [if_neg q283] at h
                                        by_cases q284 : (x3 &&& 31) = 17
                                        · rw [if_pos q284] at h
                                          refine Ev_tswIn (tgt := 604) dL_law_32 (by rw [q284]; decide) (by rw [q284]; decide) (by rw [q284]; rfl) (by decide) ?_
                                          refine Ev_aload_n (x := v1) rfl dL_law_604 ?_
                                          obtain ⟨p128, g127, h⟩ := bsome h
                                          refine Ev_callVi (np := 0) (vs := []) (rest := []) mdX7_covered lkL_88 ⟨_, rfl, rfl⟩ (oX7_covered g127) (rX7_covered g127) rfl rfl (Nat.le_of_ble_eq_true rfl) (Nat.le_of_ble_eq_true rfl) dL_law_605 ?_
                                          refine Ev_aload_n (x := v2) rfl dL_law_608 ?_
                                          obtain ⟨x130, g129, h⟩ := bsome h
                                          refine Ev_callVi (np := 0) (vs := []) (rest := [.int p128.1]) mdX8_covered lkL_91 ⟨_, rfl, rfl⟩ (oX8_covered g129) (rX8_covered g129) rfl rfl (Nat.le_of_ble_eq_true rfl) (Nat.le_of_ble_eq_true rfl) dL_law_609 ?_
                                          refine Ev_icmp_eq (tgt := 1049) dL_law_612 (by decide) (fun q131 => ?_) (fun q131 => ?_)
                                          · rw [if_pos q131] at h
                                            refine Ev_iinc (x := v3) (v := (v3 + 4)) (loc2 := [some (.ref v0), some (.ref v1), some (.ref v2), some (.int (v3 + 4))]) rfl (congrArg (v3 + ·) ic_4) (Nat.le_of_ble_eq_true rfl) rfl rfl dL_law_1049 ?_
                                            refine Ev_goto (tgt := 18) dL_law_1052 (by decide) ?_
                                            exact ih p128.2 v0 v1 v2 (v3 + 4) h
                                          · rw [if_neg q131] at h
                                            refine Ev_iconst ic_0 dL_law_615 ?_
                                            cases h
                                            exact Ev_iret rfl rfl dL_law_616 ⟨rfl, rfl⟩
                                        · rw [if_neg q284] at h
                                          by_cases q285 : (x3 &&& 31) = 18
                                          · rw [if_pos q285] at h
                                            refine Ev_tswIn (tgt := 617) dL_law_32 (by rw [q285]; decide) (by rw [q285]; decide) (by rw [q285]; rfl) (by decide) ?_
                                            refine Ev_aload_n (x := v1) rfl dL_law_617 ?_
                                            obtain ⟨x133, g132, h⟩ := bsome h
                                            refine Ev_callVi (np := 0) (vs := []) (rest := []) mdX7_ways lkL_92 ⟨_, rfl, rfl⟩ (oX7_ways g132) (rX7_ways g132) rfl rfl (Nat.le_of_ble_eq_true rfl) (Nat.le_of_ble_eq_true rfl) dL_law_618 ?_
                                            refine Ev_aload_n (x := v2) rfl dL_law_621 ?_
                                            obtain ⟨x135, g134, h⟩ := bsome h
                                            refine Ev_callVi (np := 0) (vs := []) (rest := [.int x133]) mdX8_ways lkL_95 ⟨_, rfl, rfl⟩ (oX8_ways g134) (rX8_ways g134) rfl rfl (Nat.le_of_ble_eq_true rfl) (Nat.le_of_ble_eq_true rfl) dL_law_622 ?_
                                            refine Ev_icmp_eq (tgt := 1049) dL_law_625 (by decide) (fun q136 => ?_) (fun q136 => ?_)
                                            · rw [if_pos q136] at h
                                              refine Ev_iinc (x := v3) (v := (v3 + 4)) (loc2 := [some (.ref v0), some (.ref v1), some (.ref v2), some (.int (v3 + 4))]) rfl (congrArg (v3 + ·) ic_4) (Nat.le_of_ble_eq_true rfl) rfl rfl dL_law_1049 ?_
                                              refine Ev_goto (tgt := 18) dL_law_1052 (by decide) ?_
                                              exact ih M v0 v1 v2 (v3 + 4) h
                                            · rw [if_neg q136] at h
                                              refine Ev_iconst ic_0 dL_law_628 ?_
                                              cases h
                                              exact Ev_iret rfl rfl dL_law_629 ⟨rfl, rfl⟩
                                          · rw [if_neg q285] at h
                                            by_cases q286 : (x3 &&& 31) = 19
                                            · rw [if_pos q286] at h
                                              refine Ev_tswIn (tgt := 630) dL_law_32 (by rw [q286]; decide) (by rw [q286]; decide) (by rw [q286]; rfl) (by decide) ?_
                                              refine Ev_aload_n (x := v1) rfl dL_law_630 ?_
                                              refine Ev_aload_n (x := v0) rfl dL_law_631 ?_
                                              refine Ev_iload_n (x := v3) rfl dL_law_632 ?_
                                              refine Ev_iconst ic_1 dL_law_633 ?_
                                              refine Ev_iadd dL_law_634 ?_
                                              obtain ⟨x137, g137, h⟩ := bsome h
                                              refine Ev_iald dL_law_635 g137 ?_
                                              refine Ev_aload_n (x := v0) rfl dL_law_636 ?_
                                              refine Ev_iload_n (x := v3) rfl dL_law_637 ?_
                                              refine Ev_iconst ic_2 dL_law_638 ?_
                                              refine Ev_iadd dL_law_639 ?_
                                              obtain ⟨x138, g138, h⟩ := bsome h
                                              refine Ev_iald dL_law_640 g138 ?_
                                              refine Ev_i2l dL_law_641 ?_
                                              refine Ev_bipush bp_32 dL_law_642 ?_
                                              refine Ev_lshl dL_law_644 ?_
                                              refine Ev_aload_n (x := v0) rfl dL_law_645 ?_
                                              refine Ev_iload_n (x := v3) rfl dL_law_646 ?_
                                              refine Ev_iconst ic_3 dL_law_647 ?_
                                              refine Ev_iadd dL_law_648 ?_
                                              obtain ⟨x139, g139, h⟩ := bsome h
                                              refine Ev_iald dL_law_649 g139 ?_
                                              refine Ev_i2l dL_law_650 ?_
                                              refine Ev_ldc2 csL_31 dL_law_651 ?_
                                              refine Ev_land dL_law_654 ?_
                                              refine Ev_lor dL_law_655 ?_
                                              obtain ⟨p141, g140, h⟩ := bsome h
                                              refine Ev_callVi (np := 2) (vs := [.int x137, .long (((Int32.toInt64 x138) <<< (Int32.toInt64 32 &&& 63)) ||| ((Int32.toInt64 x139) &&& (4294967295 : Int64)))]) (rest := []) mdX7_judge lkL_96 ⟨_, rfl, rfl⟩ (oX7_judge g140) (rX7_judge g140) rfl rfl (Nat.le_of_ble_eq_true rfl) (Nat.le_of_ble_eq_true rfl) dL_law_656 ?_
                                              refine Ev_aload_n (x := v2) rfl dL_law_659 ?_
                                              refine Ev_aload_n (x := v0) rfl dL_law_660 ?_
                                              refine Ev_iload_n (x := v3) rfl dL_law_661 ?_
                                              refine Ev_iconst ic_1 dL_law_662 ?_
                                              refine Ev_iadd dL_law_663 ?_
                                              obtain ⟨x142, g142, h⟩ := bsome h
                                              refine Ev_iald dL_law_664 g142 ?_
                                              refine Ev_aload_n (x := v0) rfl dL_law_665 ?_
                                              refine Ev_iload_n (x := v3) rfl dL_law_666 ?_
                                              refine Ev_iconst ic_2 dL_law_667 ?_
                                              refine Ev_iadd dL_law_668 ?_
                                              obtain ⟨x143, g143, h⟩ := bsome h
                                              refine Ev_iald dL_law_669 g143 ?_
                                              refine Ev_i2l dL_law_670 ?_
                                              refine Ev_bipush bp_32 dL_law_671 ?_
                                              refine Ev_lshl dL_law_673 ?_
                                              refine Ev_aload_n (x := v0) rfl dL_law_674 ?_
                                              refine Ev_iload_n (x := v3) rfl dL_law_675 ?_
                                              refine Ev_iconst ic_3 dL_law_676 ?_
                                              refine Ev_iadd dL_law_677 ?_
                                              obtain ⟨x144, g144, h⟩ := bsome h
                                              refine Ev_iald dL_law_678 g144 ?_
                                              refine Ev_i2l dL_law_679 ?_
                                              refine Ev_ldc2 csL_31 dL_law_680 ?_
                                              refine Ev_land dL_law_683 ?_
                                              refine Ev_lor dL_law_684 ?_
                                              obtain ⟨p146, g145, h⟩ := bsome h
                                              refine Ev_callVi (np := 2) (vs := [.int x142, .long (((Int32.toInt64 x143) <<< (Int32.toInt64 32 &&& 63)) ||| ((Int32.toInt64 x144) &&& (4294967295 : Int64)))]) (rest := [.int p141.1]) mdX8_judge lkL_99 ⟨_, rfl, rfl⟩ (oX8_judge g145) (rX8_judge g145) rfl rfl (Nat.le_of_ble_eq_true rfl) (Nat.le_of_ble_eq_true rfl) dL_law_685 ?_
                                              refine Ev_icmp_eq (tgt := 1049) dL_law_688 (by decide) (fun q147 => ?_) (fun q147 => ?_)
                                              · rw [if_pos q147] at h
                                                refine Ev_iinc (x := v3) (v := (v3 + 4)) (loc2 := [some (.ref v0), some (.ref v1), some (.ref v2), some (.int (v3 + 4))]) rfl (congrArg (v3 + ·) ic_4) (Nat.le_of_ble_eq_true rfl) rfl rfl dL_law_1049 ?_
                                                refine Ev_goto (tgt := 18) dL_law_1052 (by decide) ?_
                                                exact ih p146.2 v0 v1 v2 (v3 + 4) h
                                              · rw [if_neg q147] at h
                                                refine Ev_iconst ic_0 dL_law_691 ?_
                                                cases h
                                                exact Ev_iret rfl rfl dL_law_692 ⟨rfl, rfl⟩
                                            · rw [if_neg q286] at h
                                              by_cases q287 : (x3 &&& 31) = 20
                                              · rw [if_pos q287] at h
                                                refine Ev_tswIn (tgt := 693) dL_law_32 (by rw [q287]; decide) (by rw [q287]; decide) (by rw [q287]; rfl) (by decide) ?_
                                                refine Ev_aload_n (x := v1) rfl dL_law_693 ?_
                                                refine Ev_aload_n (x := v0) rfl dL_law_694 ?_
                                                refine Ev_iload_n (x := v3) rfl dL_law_695 ?_
                                                refine Ev_iconst ic_1 dL_law_696 ?_
                                                refine Ev_iadd dL_law_697 ?_
                                                obtain ⟨x148, g148, h⟩ := bsome h
                                                refine Ev_iald dL_law_698 g148 ?_
                                                refine Ev_aload_n (x := v0) rfl dL_law_699 ?_
                                                refine Ev_iload_n (x := v3) rfl dL_law_700 ?_
                                                refine Ev_iconst ic_2 dL_law_701 ?_
                                                refine Ev_iadd dL_law_702 ?_
                                                obtain ⟨x149, g149, h⟩ := bsome h
                                                refine Ev_iald dL_law_703 g149 ?_
                                                obtain ⟨p151, g150, h⟩ := bsome h
                                                refine Ev_callVi (np := 2) (vs := [.int x148, .int x149]) (rest := []) mdX7_lay lkL_100 ⟨_, rfl, rfl⟩ (oX7_lay g150) (rX7_lay g150) rfl rfl (Nat.le_of_ble_eq_true rfl) (Nat.le_of_ble_eq_true rfl) dL_law_704 ?_
                                                refine Ev_aload_n (x := v2) rfl dL_law_707 ?_
                                                refine Ev_aload_n (x := v0) rfl dL_law_708 ?_
                                                refine Ev_iload_n (x := v3) rfl dL_law_709 ?_
                                                refine Ev_iconst ic_1 dL_law_710 ?_
                                                refine Ev_iadd dL_law_711 ?_
                                                obtain ⟨x152, g152, h⟩ := bsome h
                                                refine Ev_iald dL_law_712 g152 ?_
                                                refine Ev_aload_n (x := v0) rfl dL_law_713 ?_
                                                refine Ev_iload_n (x := v3) rfl dL_law_714 ?_
                                                refine Ev_iconst ic_2 dL_law_715 ?_
                                                refine Ev_iadd dL_law_716 ?_
                                                obtain ⟨x153, g153, h⟩ := bsome h
                                                refine Ev_iald dL_law_717 g153 ?_
                                                obtain ⟨p155, g154, h⟩ := bsome h
                                                refine Ev_callVi (np := 2) (vs := [.int x152, .int x153]) (rest := [.int p151.1]) mdX8_lay lkL_103 ⟨_, rfl, rfl⟩ (oX8_lay g154) (rX8_lay g154) rfl rfl (Nat.le_of_ble_eq_true rfl) (Nat.le_of_ble_eq_true rfl) dL_law_718 ?_
                                                refine Ev_icmp_eq (tgt := 1049) dL_law_721 (by decide) (fun q156 => ?_) (fun q156 => ?_)
                                                · rw [if_pos q156] at h
                                                  refine Ev_iinc (x := v3) (v := (v3 + 4)) (loc2 := [some (.ref v0), some (.ref v1), some (.ref v2), some (.int (v3 + 4))]) rfl (congrArg (v3 + ·) ic_4) (Nat.le_of_ble_eq_true rfl) rfl rfl dL_law_1049 ?_
                                                  refine Ev_goto (tgt := 18) dL_law_1052 (by decide) ?_
                                                  exact ih p155.2 v0 v1 v2 (v3 + 4) h
                                                · rw [if_neg q156] at h
                                                  refine Ev_iconst ic_0 dL_law_724 ?_
                                                  cases h
                                                  exact Ev_iret rfl rfl dL_law_725 ⟨rfl, rfl⟩
                                              · rw [if_neg q287] at h
                                                by_cases q288 : (x3 &&& 31) = 21
                                                · rw [if_pos q288] at h
                                                  refine Ev_tswIn (tgt := 726) dL_law_32 (by rw [q288]; decide) (by rw [q288]; decide) (by rw [q288]; rfl) (by decide) ?_
                                                  refine Ev_aload_n (x := v1) rfl dL_law_726 ?_
                                                  obtain ⟨p158, g157, h⟩ := bsome h
                                                  refine Ev_callVi (np := 0) (vs := []) (rest := []) mdX7_unlay lkL_104 ⟨_, rfl, rfl⟩ (oX7_unlay g157) (rX7_unlay g157) rfl rfl (Nat.le_of_ble_eq_true rfl) (Nat.le_of_ble_eq_true rfl) dL_law_727 ?_
                                                  refine Ev_aload_n (x := v2) rfl dL_law_730 ?_
                                                  obtain ⟨p160, g159, h⟩ := bsome h
                                                  refine Ev_callVi (np := 0) (vs := []) (rest := [.int p158.1]) mdX8_unlay lkL_107 ⟨_, rfl, rfl⟩ (oX8_unlay g159) (rX8_unlay g159) rfl rfl (Nat.le_of_ble_eq_true rfl) (Nat.le_of_ble_eq_true rfl) dL_law_731 ?_
                                                  refine Ev_icmp_eq (tgt := 1049) dL_law_734 (by decide) (fun q161 => ?_) (fun q161 => ?_)
                                                  · rw [if_pos q161] at h
                                                    refine Ev_iinc (x := v3) (v := (v3 + 4)) (loc2 := [some (.ref v0), some (.ref v1), some (.ref v2), some (.int (v3 + 4))]) rfl (congrArg (v3 + ·) ic_4) (Nat.le_of_ble_eq_true rfl) rfl rfl dL_law_1049 ?_
                                                    refine Ev_goto (tgt := 18) dL_law_1052 (by decide) ?_
                                                    exact ih p160.2 v0 v1 v2 (v3 + 4) h
                                                  · rw [if_neg q161] at h
                                                    refine Ev_iconst ic_0 dL_law_737 ?_
                                                    cases h
                                                    exact Ev_iret rfl rfl dL_law_738 ⟨rfl, rfl⟩
                                                · rw [if_neg q288] at h
                                                  by_cases q289 : (x3 &&& 31) = 22
                                                  · rw [if_pos q289] at h
                                                    refine Ev_tswIn (tgt := 739) dL_law_32 (by rw [q289]; decide) (by rw [q289]; decide) (by rw [q289]; rfl) (by decide) ?_
                                                    refine Ev_aload_n (x := v1) rfl dL_law_739 ?_
                                                    refine Ev_aload_n (x := v0) rfl dL_law_740 ?_
                                                    refine Ev_iload_n (x := v3) rfl dL_law_741 ?_
                                                    refine Ev_iconst ic_1 dL_law_742 ?_
                                                    refine Ev_iadd dL_law_743 ?_
                                                    obtain ⟨x162, g162, h⟩ := bsome h
                                                    refine Ev_iald dL_law_744 g162 ?_
                                                    obtain ⟨p164, g163, h⟩ := bsome h
                                                    refine Ev_callVi (np := 1) (vs := [.int x162]) (rest := []) mdX7_which lkL_108 ⟨_, rfl, rfl⟩ (oX7_which g163) (rX7_which g163) rfl rfl (Nat.le_of_ble_eq_true rfl) (Nat.le_of_ble_eq_true rfl) dL_law_745 ?_
                                                    refine Ev_aload_n (x := v2) rfl dL_law_748 ?_
                                                    refine Ev_aload_n (x := v0) rfl dL_law_749 ?_
                                                    refine Ev_iload_n (x := v3) rfl dL_law_750 ?_
                                                    refine Ev_iconst ic_1 dL_law_751 ?_
                                                    refine Ev_iadd dL_law_752 ?_
                                                    obtain ⟨x165, g165, h⟩ := bsome h
                                                    refine Ev_iald dL_law_753 g165 ?_
                                                    obtain ⟨x167, g166, h⟩ := bsome h
                                                    refine Ev_callVi (np := 1) (vs := [.int x165]) (rest := [.int p164.1]) mdX8_which lkL_111 ⟨_, rfl, rfl⟩ (oX8_which g166) (rX8_which g166) rfl rfl (Nat.le_of_ble_eq_true rfl) (Nat.le_of_ble_eq_true rfl) dL_law_754 ?_
                                                    refine Ev_icmp_eq (tgt := 1049) dL_law_757 (by decide) (fun q168 => ?_) (fun q168 => ?_)
                                                    · rw [if_pos q168] at h
                                                      refine Ev_iinc (x := v3) (v := (v3 + 4)) (loc2 := [some (.ref v0), some (.ref v1), some (.ref v2), some (.int (v3 + 4))]) rfl (congrArg (v3 + ·) ic_4) (Nat.le_of_ble_eq_true rfl) rfl rfl dL_law_1049 ?_
                                                      refine Ev_goto (tgt := 18) dL_law_1052 (by decide) ?_
                                                      exact ih p164.2 v0 v1 v2 (v3 + 4) h
                                                    · rw [if_neg q168] at h
                                                      refine Ev_iconst ic_0 dL_law_760 ?_
                                                      cases h
                                                      exact Ev_iret rfl rfl dL_law_761 ⟨rfl, rfl⟩
                                                  · rw [if_neg q289] at h
                                                    by_cases q290 : (x3 &&& 31) = 23
                                                    · rw [if_pos q290] at h
                                                      refine Ev_tswIn (tgt := 762) dL_law_32 (by rw [q290]; decide) (by rw [q290]; decide) (by rw [q290]; rfl) (by decide) ?_
                                                      refine Ev_aload_n (x := v1) rfl dL_law_762 ?_
                                                      refine Ev_aload_n (x := v0) rfl dL_law_763 ?_
                                                      refine Ev_iload_n (x := v3) rfl dL_law_764 ?_
                                                      refine Ev_iconst ic_1 dL_law_765 ?_
                                                      refine Ev_iadd dL_law_766 ?_
                                                      obtain ⟨x169, g169, h⟩ := bsome h
                                                      refine Ev_iald dL_law_767 g169 ?_
                                                      refine Ev_aload_n (x := v0) rfl dL_law_768 ?_
                                                      refine Ev_iload_n (x := v3) rfl dL_law_769 ?_
                                                      refine Ev_iconst ic_2 dL_law_770 ?_
                                                      refine Ev_iadd dL_law_771 ?_
                                                      obtain ⟨x170, g170, h⟩ := bsome h
                                                      refine Ev_iald dL_law_772 g170 ?_
                                                      refine Ev_if_eq (tgt := 780) dL_law_773 (by decide) (fun q171 => ?_) (fun q171 => ?_)
                                                      · rw [if_pos q171] at h
                                                        refine Ev_iconst ic_0 dL_law_780 ?_
                                                        obtain ⟨p173, g172, h⟩ := bsome h
                                                        refine Ev_callVi (np := 2) (vs := [.int x169, .int 0]) (rest := []) mdX7_share lkL_112 ⟨_, rfl, rfl⟩ (oX7_share g172) (rX7_share g172) rfl rfl (Nat.le_of_ble_eq_true rfl) (Nat.le_of_ble_eq_true rfl) dL_law_781 ?_
                                                        refine Ev_aload_n (x := v2) rfl dL_law_784 ?_
                                                        refine Ev_aload_n (x := v0) rfl dL_law_785 ?_
                                                        refine Ev_iload_n (x := v3) rfl dL_law_786 ?_
                                                        refine Ev_iconst ic_1 dL_law_787 ?_
                                                        refine Ev_iadd dL_law_788 ?_
                                                        obtain ⟨x174, g174, h⟩ := bsome h
                                                        refine Ev_iald dL_law_789 g174 ?_
                                                        refine Ev_aload_n (x := v0) rfl dL_law_790 ?_
                                                        refine Ev_iload_n (x := v3) rfl dL_law_791 ?_
                                                        refine Ev_iconst ic_2 dL_law_792 ?_
                                                        refine Ev_iadd dL_law_793 ?_
                                                        obtain ⟨x175, g175, h⟩ := bsome h
                                                        refine Ev_iald dL_law_794 g175 ?_
                                                        refine Ev_if_eq (tgt := 802) dL_law_795 (by decide) (fun q176 => ?_) (fun q176 => ?_)
                                                        · rw [if_pos q176] at h
                                                          refine Ev_iconst ic_0 dL_law_802 ?_
                                                          obtain ⟨x178, g177, h⟩ := bsome h
                                                          refine Ev_callVi (np := 2) (vs := [.int x174, .int 0]) (rest := [.int p173.1]) mdX8_share lkL_116 ⟨_, rfl, rfl⟩ (oX8_share g177) (rX8_share g177) rfl rfl (Nat.le_of_ble_eq_true rfl) (Nat.le_of_ble_eq_true rfl) dL_law_803 ?_
                                                          refine Ev_icmp_eq (tgt := 1049) dL_law_806 (by decide) (fun q179 => ?_) (fun q179 => ?_)
                                                          · rw [if_pos q179] at h
                                                            refine Ev_iinc (x := v3) (v := (v3 + 4)) (loc2 := [some (.ref v0), some (.ref v1), some (.ref v2), some (.int (v3 + 4))]) rfl (congrArg (v3 + ·) ic_4) (Nat.le_of_ble_eq_true rfl) rfl rfl dL_law_1049 ?_
                                                            refine Ev_goto (tgt := 18) dL_law_1052 (by decide) ?_
                                                            exact ih p173.2 v0 v1 v2 (v3 + 4) h
                                                          · rw [if_neg q179] at h
                                                            refine Ev_iconst ic_0 dL_law_809 ?_
                                                            cases h
                                                            exact Ev_iret rfl rfl dL_law_810 ⟨rfl, rfl⟩
                                                        · rw [if_neg q176] at h
                                                          refine Ev_iconst ic_1 dL_law_798 ?_
                                                          refine Ev_goto (tgt := 803) dL_law_799 (by decide) ?_
                                                          obtain ⟨x181, g180, h⟩ := bsome h
                                                          refine Ev_callVi (np := 2) (vs := [.int x174, .int 1]) (rest := [.int p173.1]) mdX8_share lkL_116 ⟨_, rfl, rfl⟩ (oX8_share g180) (rX8_share g180) rfl rfl (Nat.le_of_ble_eq_true rfl) (Nat.le_of_ble_eq_true rfl) dL_law_803 ?_
                                                          refine Ev_icmp_eq (tgt := 1049) dL_law_806 (by decide) (fun q182 => ?_) (fun q182 => ?_)
                                                          · rw [if_pos q182] at h
                                                            refine Ev_iinc (x := v3) (v := (v3 + 4)) (loc2 := [some (.ref v0), some (.ref v1), some (.ref v2), some (.int (v3 + 4))]) rfl (congrArg (v3 + ·) ic_4) (Nat.le_of_ble_eq_true rfl) rfl rfl dL_law_1049 ?_
                                                            refine Ev_goto (tgt := 18) dL_law_1052 (by decide) ?_
                                                            exact ih p173.2 v0 v1 v2 (v3 + 4) h
                                                          · rw [if_neg q182] at h
                                                            refine Ev_iconst ic_0 dL_law_809 ?_
                                                            cases h
                                                            exact Ev_iret rfl rfl dL_law_810 ⟨rfl, rfl⟩
                                                      · rw [if_neg q171] at h
                                                        refine Ev_iconst ic_1 dL_law_776 ?_
                                                        refine Ev_goto (tgt := 781) dL_law_777 (by decide) ?_
                                                        obtain ⟨p184, g183, h⟩ := bsome h
                                                        refine Ev_callVi (np := 2) (vs := [.int x169, .int 1]) (rest := []) mdX7_share lkL_112 ⟨_, rfl, rfl⟩ (oX7_share g183) (rX7_share g183) rfl rfl (Nat.le_of_ble_eq_true rfl) (Nat.le_of_ble_eq_true rfl) dL_law_781 ?_
                                                        refine Ev_aload_n (x := v2) rfl dL_law_784 ?_
                                                        refine Ev_aload_n (x := v0) rfl dL_law_785 ?_
                                                        refine Ev_iload_n (x := v3) rfl dL_law_786 ?_
                                                        refine Ev_iconst ic_1 dL_law_787 ?_
                                                        refine Ev_iadd dL_law_788 ?_
                                                        obtain ⟨x185, g185, h⟩ := bsome h
                                                        refine Ev_iald dL_law_789 g185 ?_
                                                        refine Ev_aload_n (x := v0) rfl dL_law_790 ?_
                                                        refine Ev_iload_n (x := v3) rfl dL_law_791 ?_
                                                        refine Ev_iconst ic_2 dL_law_792 ?_
                                                        refine Ev_iadd dL_law_793 ?_
                                                        obtain ⟨x186, g186, h⟩ := bsome h
                                                        refine Ev_iald dL_law_794 g186 ?_
                                                        refine Ev_if_eq (tgt := 802) dL_law_795 (by decide) (fun q187 => ?_) (fun q187 => ?_)
                                                        · rw [if_pos q187] at h
                                                          refine Ev_iconst ic_0 dL_law_802 ?_
                                                          obtain ⟨x189, g188, h⟩ := bsome h
                                                          refine Ev_callVi (np := 2) (vs := [.int x185, .int 0]) (rest := [.int p184.1]) mdX8_share lkL_116 ⟨_, rfl, rfl⟩ (oX8_share g188) (rX8_share g188) rfl rfl (Nat.le_of_ble_eq_true rfl) (Nat.le_of_ble_eq_true rfl) dL_law_803 ?_
                                                          refine Ev_icmp_eq (tgt := 1049) dL_law_806 (by decide) (fun q190 => ?_) (fun q190 => ?_)
                                                          · rw [if_pos q190] at h
                                                            refine Ev_iinc (x := v3) (v := (v3 + 4)) (loc2 := [some (.ref v0), some (.ref v1), some (.ref v2), some (.int (v3 + 4))]) rfl (congrArg (v3 + ·) ic_4) (Nat.le_of_ble_eq_true rfl) rfl rfl dL_law_1049 ?_
                                                            refine Ev_goto (tgt := 18) dL_law_1052 (by decide) ?_
                                                            exact ih p184.2 v0 v1 v2 (v3 + 4) h
                                                          · rw [if_neg q190] at h
                                                            refine Ev_iconst ic_0 dL_law_809 ?_
                                                            cases h
                                                            exact Ev_iret rfl rfl dL_law_810 ⟨rfl, rfl⟩
                                                        · rw [if_neg q187] at h
                                                          refine Ev_iconst ic_1 dL_law_798 ?_
                                                          refine Ev_goto (tgt := 803) dL_law_799 (by decide) ?_
                                                          obtain ⟨x192, g191, h⟩ := bsome h
                                                          refine Ev_callVi (np := 2) (vs := [.int x185, .int 1]) (rest := [.int p184.1]) mdX8_share lkL_116 ⟨_, rfl, rfl⟩ (oX8_share g191) (rX8_share g191) rfl rfl (Nat.le_of_ble_eq_true rfl) (Nat.le_of_ble_eq_true rfl) dL_law_803 ?_
                                                          refine Ev_icmp_eq (tgt := 1049) dL_law_806 (by decide) (fun q193 => ?_) (fun q193 => ?_)
                                                          · rw [if_pos q193] at h
                                                            refine Ev_iinc (x := v3) (v := (v3 + 4)) (loc2 := [some (.ref v0), some (.ref v1), some (.ref v2), some (.int (v3 + 4))]) rfl (congrArg (v3 + ·) ic_4) (Nat.le_of_ble_eq_true rfl) rfl rfl dL_law_1049 ?_
                                                            refine Ev_goto (tgt := 18) dL_law_1052 (by decide) ?_
                                                            exact ih p184.2 v0 v1 v2 (v3 + 4) h
                                                          · rw [if_neg q193] at h
                                                            refine Ev_iconst ic_0 dL_law_809 ?_
                                                            cases h
                                                            exact Ev_iret rfl rfl dL_law_810 ⟨rfl, rfl⟩
                                                    · rw [if_neg q290] at h
                                                      by_cases q291 : (x3 &&& 31) = 24
                                                      · rw [if_pos q291] at h
                                                        refine Ev_tswIn (tgt := 811) dL_law_32 (by rw [q291]; decide) (by rw [q291]; decide) (by rw [q291]; rfl) (by decide) ?_
                                                        refine Ev_aload_n (x := v1) rfl dL_law_811 ?_
                                                        refine Ev_aload_n (x := v0) rfl dL_law_812 ?_
                                                        refine Ev_iload_n (x := v3) rfl dL_law_813 ?_
                                                        refine Ev_iconst ic_1 dL_law_814 ?_
                                                        refine Ev_iadd dL_law_815 ?_
                                                        obtain ⟨x194, g194, h⟩ := bsome h
                                                        refine Ev_iald dL_law_816 g194 ?_
                                                        refine Ev_aload_n (x := v0) rfl dL_law_817 ?_
                                                        refine Ev_iload_n (x := v3) rfl dL_law_818 ?_
                                                        refine Ev_iconst ic_2 dL_law_819 ?_
                                                        refine Ev_iadd dL_law_820 ?_
                                                        obtain ⟨x195, g195, h⟩ := bsome h
                                                        refine Ev_iald dL_law_821 g195 ?_
                                                        refine Ev_aload_n (x := v0) rfl dL_law_822 ?_
                                                        refine Ev_iload_n (x := v3) rfl dL_law_823 ?_
                                                        refine Ev_iconst ic_3 dL_law_824 ?_
                                                        refine Ev_iadd dL_law_825 ?_
                                                        obtain ⟨x196, g196, h⟩ := bsome h
                                                        refine Ev_iald dL_law_826 g196 ?_
                                                        obtain ⟨p198, g197, h⟩ := bsome h
                                                        refine Ev_callVi (np := 3) (vs := [.int x194, .int x195, .int x196]) (rest := []) mdX7_rests lkL_117 ⟨_, rfl, rfl⟩ (oX7_rests g197) (rX7_rests g197) rfl rfl (Nat.le_of_ble_eq_true rfl) (Nat.le_of_ble_eq_true rfl) dL_law_827 ?_
                                                        refine Ev_aload_n (x := v2) rfl dL_law_830 ?_
                                                        refine Ev_aload_n (x := v0) rfl dL_law_831 ?_
                                                        refine Ev_iload_n (x := v3) rfl dL_law_832 ?_
                                                        refine Ev_iconst ic_1 dL_law_833 ?_
                                                        refine Ev_iadd dL_law_834 ?_
                                                        obtain ⟨x199, g199, h⟩ := bsome h
                                                        refine Ev_iald dL_law_835 g199 ?_
                                                        refine Ev_aload_n (x := v0) rfl dL_law_836 ?_
                                                        refine Ev_iload_n (x := v3) rfl dL_law_837 ?_
                                                        refine Ev_iconst ic_2 dL_law_838 ?_
                                                        refine Ev_iadd dL_law_839 ?_
                                                        obtain ⟨x200, g200, h⟩ := bsome h
                                                        refine Ev_iald dL_law_840 g200 ?_
                                                        refine Ev_aload_n (x := v0) rfl dL_law_841 ?_
                                                        refine Ev_iload_n (x := v3) rfl dL_law_842 ?_
                                                        refine Ev_iconst ic_3 dL_law_843 ?_
                                                        refine Ev_iadd dL_law_844 ?_
                                                        obtain ⟨x201, g201, h⟩ := bsome h
                                                        refine Ev_iald dL_law_845 g201 ?_
                                                        obtain ⟨p203, g202, h⟩ := bsome h
                                                        refine Ev_callVi (np := 3) (vs := [.int x199, .int x200, .int x201]) (rest := [.int p198.1]) mdX8_rests lkL_121 ⟨_, rfl, rfl⟩ (oX8_rests g202) (rX8_rests g202) rfl rfl (Nat.le_of_ble_eq_true rfl) (Nat.le_of_ble_eq_true rfl) dL_law_846 ?_
                                                        refine Ev_icmp_eq (tgt := 1049) dL_law_849 (by decide) (fun q204 => ?_) (fun q204 => ?_)
                                                        · rw [if_pos q204] at h
                                                          refine Ev_iinc (x := v3) (v := (v3 + 4)) (loc2 := [some (.ref v0), some (.ref v1), some (.ref v2), some (.int (v3 + 4))]) rfl (congrArg (v3 + ·) ic_4) (Nat.le_of_ble_eq_true rfl) rfl rfl dL_law_1049 ?_
                                                          refine Ev_goto (tgt := 18) dL_law_1052 (by decide) ?_
                                                          exact ih p203.2 v0 v1 v2 (v3 + 4) h
                                                        · rw [if_neg q204] at h
                                                          refine Ev_iconst ic_0 dL_law_852 ?_
                                                          cases h
                                                          exact Ev_iret rfl rfl dL_law_853 ⟨rfl, rfl⟩
                                                      · rw [if_neg q291] at h
                                                        by_cases q292 : (x3 &&& 31) = 25
                                                        · rw [if_pos q292] at h
                                                          refine Ev_tswIn (tgt := 854) dL_law_32 (by rw [q292]; decide) (by rw [q292]; decide) (by rw [q292]; rfl) (by decide) ?_
                                                          refine Ev_aload_n (x := v1) rfl dL_law_854 ?_
                                                          refine Ev_aload_n (x := v0) rfl dL_law_855 ?_
                                                          refine Ev_iload_n (x := v3) rfl dL_law_856 ?_
                                                          refine Ev_iconst ic_1 dL_law_857 ?_
                                                          refine Ev_iadd dL_law_858 ?_
                                                          obtain ⟨x205, g205, h⟩ := bsome h
                                                          refine Ev_iald dL_law_859 g205 ?_
                                                          refine Ev_aload_n (x := v0) rfl dL_law_860 ?_
                                                          refine Ev_iload_n (x := v3) rfl dL_law_861 ?_
                                                          refine Ev_iconst ic_2 dL_law_862 ?_
                                                          refine Ev_iadd dL_law_863 ?_
                                                          obtain ⟨x206, g206, h⟩ := bsome h
                                                          refine Ev_iald dL_law_864 g206 ?_
                                                          refine Ev_if_eq (tgt := 872) dL_law_865 (by decide) (fun q207 => ?_) (fun q207 => ?_)
                                                          · rw [if_pos q207] at h
                                                            refine Ev_iconst ic_0 dL_law_872 ?_
                                                            obtain ⟨p209, g208, h⟩ := bsome h
                                                            refine Ev_callVi (np := 2) (vs := [.int x205, .int 0]) (rest := []) mdX7_lost lkL_122 ⟨_, rfl, rfl⟩ (oX7_lost g208) (rX7_lost g208) rfl rfl (Nat.le_of_ble_eq_true rfl) (Nat.le_of_ble_eq_true rfl) dL_law_873 ?_
                                                            refine Ev_aload_n (x := v2) rfl dL_law_876 ?_
                                                            refine Ev_aload_n (x := v0) rfl dL_law_877 ?_
                                                            refine Ev_iload_n (x := v3) rfl dL_law_878 ?_
                                                            refine Ev_iconst ic_1 dL_law_879 ?_
                                                            refine Ev_iadd dL_law_880 ?_
                                                            obtain ⟨x210, g210, h⟩ := bsome h
                                                            refine Ev_iald dL_law_881 g210 ?_
                                                            refine Ev_aload_n (x := v0) rfl dL_law_882 ?_
                                                            refine Ev_iload_n (x := v3) rfl dL_law_883 ?_
                                                            refine Ev_iconst ic_2 dL_law_884 ?_
                                                            refine Ev_iadd dL_law_885 ?_
                                                            obtain ⟨x211, g211, h⟩ := bsome h
                                                            refine Ev_iald dL_law_886 g211 ?_
                                                            refine Ev_if_eq (tgt := 894) dL_law_887 (by decide) (fun q212 => ?_) (fun q212 => ?_)
                                                            · rw [if_pos q212] at h
                                                              refine Ev_iconst ic_0 dL_law_894 ?_
                                                              obtain ⟨x214, g213, h⟩ := bsome h
                                                              refine Ev_callVi (np := 2) (vs := [.int x210, .int 0]) (rest := [.int p209.1]) mdX8_lost lkL_125 ⟨_, rfl, rfl⟩ (oX8_lost g213) (rX8_lost g213) rfl rfl (Nat.le_of_ble_eq_true rfl) (Nat.le_of_ble_eq_true rfl) dL_law_895 ?_
                                                              refine Ev_icmp_eq (tgt := 1049) dL_law_898 (by decide) (fun q215 => ?_) (fun q215 => ?_)
                                                              · rw [if_pos q215] at h
                                                                refine Ev_iinc (x := v3) (v := (v3 + 4)) (loc2 := [some (.ref v0), some (.ref v1), some (.ref v2), some (.int (v3 + 4))]) rfl (congrArg (v3 + ·) ic_4) (Nat.le_of_ble_eq_true rfl) rfl rfl dL_law_1049 ?_
                                                                refine Ev_goto (tgt := 18) dL_law_1052 (by decide) ?_
                                                                exact ih p209.2 v0 v1 v2 (v3 + 4) h
                                                              · rw [if_neg q215] at h
                                                                refine Ev_iconst ic_0 dL_law_901 ?_
                                                                cases h
                                                                exact Ev_iret rfl rfl dL_law_902 ⟨rfl, rfl⟩
                                                            · rw [if_neg q212] at h
                                                              refine Ev_iconst ic_1 dL_law_890 ?_
                                                              refine Ev_goto (tgt := 895) dL_law_891 (by decide) ?_
                                                              obtain ⟨x217, g216, h⟩ := bsome h
                                                              refine Ev_callVi (np := 2) (vs := [.int x210, .int 1]) (rest := [.int p209.1]) mdX8_lost lkL_125 ⟨_, rfl, rfl⟩ (oX8_lost g216) (rX8_lost g216) rfl rfl (Nat.le_of_ble_eq_true rfl) (Nat.le_of_ble_eq_true rfl) dL_law_895 ?_
                                                              refine Ev_icmp_eq (tgt := 1049) dL_law_898 (by decide) (fun q218 => ?_) (fun q218 => ?_)
                                                              · rw [if_pos q218] at h
                                                                refine Ev_iinc (x := v3) (v := (v3 + 4)) (loc2 := [some (.ref v0), some (.ref v1), some (.ref v2), some (.int (v3 + 4))]) rfl (congrArg (v3 + ·) ic_4) (Nat.le_of_ble_eq_true rfl) rfl rfl dL_law_1049 ?_
                                                                refine Ev_goto (tgt := 18) dL_law_1052 (by decide) ?_
                                                                exact ih p209.2 v0 v1 v2 (v3 + 4) h
                                                              · rw [if_neg q218] at h
                                                                refine Ev_iconst ic_0 dL_law_901 ?_
                                                                cases h
                                                                exact Ev_iret rfl rfl dL_law_902 ⟨rfl, rfl⟩
                                                          · rw [if_neg q207] at h
                                                            refine Ev_iconst ic_1 dL_law_868 ?_
                                                            refine Ev_goto (tgt := 873) dL_law_869 (by decide) ?_
                                                            obtain ⟨p220, g219, h⟩ := bsome h
                                                            refine Ev_callVi (np := 2) (vs := [.int x205, .int 1]) (rest := []) mdX7_lost lkL_122 ⟨_, rfl, rfl⟩ (oX7_lost g219) (rX7_lost g219) rfl rfl (Nat.le_of_ble_eq_true rfl) (Nat.le_of_ble_eq_true rfl) dL_law_873 ?_
                                                            refine Ev_aload_n (x := v2) rfl dL_law_876 ?_
                                                            refine Ev_aload_n (x := v0) rfl dL_law_877 ?_
                                                            refine Ev_iload_n (x := v3) rfl dL_law_878 ?_
                                                            refine Ev_iconst ic_1 dL_law_879 ?_
                                                            refine Ev_iadd dL_law_880 ?_
                                                            obtain ⟨x221, g221, h⟩ := bsome h
                                                            refine Ev_iald dL_law_881 g221 ?_
                                                            refine Ev_aload_n (x := v0) rfl dL_law_882 ?_
                                                            refine Ev_iload_n (x := v3) rfl dL_law_883 ?_
                                                            refine Ev_iconst ic_2 dL_law_884 ?_
                                                            refine Ev_iadd dL_law_885 ?_
                                                            obtain ⟨x222, g222, h⟩ := bsome h
                                                            refine Ev_iald dL_law_886 g222 ?_
                                                            refine Ev_if_eq (tgt := 894) dL_law_887 (by decide) (fun q223 => ?_) (fun q223 => ?_)
                                                            · rw [if_pos q223] at h
                                                              refine Ev_iconst ic_0 dL_law_894 ?_
                                                              obtain ⟨x225, g224, h⟩ := bsome h
                                                              refine Ev_callVi (np := 2) (vs := [.int x221, .int 0]) (rest := [.int p220.1]) mdX8_lost lkL_125 ⟨_, rfl, rfl⟩ (oX8_lost g224) (rX8_lost g224) rfl rfl (Nat.le_of_ble_eq_true rfl) (Nat.le_of_ble_eq_true rfl) dL_law_895 ?_
                                                              refine Ev_icmp_eq (tgt := 1049) dL_law_898 (by decide) (fun q226 => ?_) (fun q226 => ?_)
                                                              · rw [if_pos q226] at h
                                                                refine Ev_iinc (x := v3) (v := (v3 + 4)) (loc2 := [some (.ref v0), some (.ref v1), some (.ref v2), some (.int (v3 + 4))]) rfl (congrArg (v3 + ·) ic_4) (Nat.le_of_ble_eq_true rfl) rfl rfl dL_law_1049 ?_
                                                                refine Ev_goto (tgt := 18) dL_law_1052 (by decide) ?_
                                                                exact ih p220.2 v0 v1 v2 (v3 + 4) h
                                                              · rw [if_neg q226] at h
                                                                refine Ev_iconst ic_0 dL_law_901 ?_
                                                                cases h
                                                                exact Ev_iret rfl rfl dL_law_902 ⟨rfl, rfl⟩
                                                            · rw [if_neg q223] at h
                                                              refine Ev_iconst ic_1 dL_law_890 ?_
                                                              refine Ev_goto (tgt := 895) dL_law_891 (by decide) ?_
                                                              obtain ⟨x228, g227, h⟩ := bsome h
                                                              refine Ev_callVi (np := 2) (vs := [.int x221, .int 1]) (rest := [.int p220.1]) mdX8_lost lkL_125 ⟨_, rfl, rfl⟩ (oX8_lost g227) (rX8_lost g227) rfl rfl (Nat.le_of_ble_eq_true rfl) (Nat.le_of_ble_eq_true rfl) dL_law_895 ?_
                                                              refine Ev_icmp_eq (tgt := 1049) dL_law_898 (by decide) (fun q229 => ?_) (fun q229 => ?_)
                                                              · rw [if_pos q229] at h
                                                                refine Ev_iinc (x := v3) (v := (v3 + 4)) (loc2 := [some (.ref v0), some (.ref v1), some (.ref v2), some (.int (v3 + 4))]) rfl (congrArg (v3 + ·) ic_4) (Nat.le_of_ble_eq_true rfl) rfl rfl dL_law_1049 ?_
                                                                refine Ev_goto (tgt := 18) dL_law_1052 (by decide) ?_
                                                                exact ih p220.2 v0 v1 v2 (v3 + 4) h
                                                              · rw [if_neg q229] at h
                                                                refine Ev_iconst ic_0 dL_law_901 ?_
                                                                cases h
                                                                exact Ev_iret rfl rfl dL_law_902 ⟨rfl, rfl⟩
                                                        · rw [if_neg q292] at h
                                                          by_cases q293 : (x3 &&& 31) = 26
                                                          · rw [if_pos q293] at h
                                                            refine Ev_tswIn (tgt := 903) dL_law_32 (by rw [q293]; decide) (by rw [q293]; decide) (by rw [q293]; rfl) (by decide) ?_
                                                            refine Ev_aload_n (x := v1) rfl dL_law_903 ?_
                                                            refine Ev_aload_n (x := v0) rfl dL_law_904 ?_
                                                            refine Ev_iload_n (x := v3) rfl dL_law_905 ?_
                                                            refine Ev_iconst ic_1 dL_law_906 ?_
                                                            refine Ev_iadd dL_law_907 ?_
                                                            obtain ⟨x230, g230, h⟩ := bsome h
                                                            refine Ev_iald dL_law_908 g230 ?_
                                                            refine Ev_i2l dL_law_909 ?_
                                                            refine Ev_bipush bp_32 dL_law_910 ?_
                                                            refine Ev_lshl dL_law_912 ?_
                                                            refine Ev_aload_n (x := v0) rfl dL_law_913 ?_
                                                            refine Ev_iload_n (x := v3) rfl dL_law_914 ?_
                                                            refine Ev_iconst ic_2 dL_law_915 ?_
                                                            refine Ev_iadd dL_law_916 ?_
                                                            obtain ⟨x231, g231, h⟩ := bsome h
                                                            refine Ev_iald dL_law_917 g231 ?_
                                                            refine Ev_i2l dL_law_918 ?_
                                                            refine Ev_ldc2 csL_31 dL_law_919 ?_
                                                            refine Ev_land dL_law_922 ?_
                                                            refine Ev_lor dL_law_923 ?_
                                                            obtain ⟨p233, g232, h⟩ := bsome h
                                                            refine Ev_callVl (np := 1) (vs := [.long (((Int32.toInt64 x230) <<< (Int32.toInt64 32 &&& 63)) ||| ((Int32.toInt64 x231) &&& (4294967295 : Int64)))]) (rest := []) mdX7_seed lkL_126 ⟨_, rfl, rfl⟩ (oX7_seed g232) (rX7_seed g232) rfl rfl (Nat.le_of_ble_eq_true rfl) (Nat.le_of_ble_eq_true rfl) dL_law_924 ?_
                                                            refine Ev_aload_n (x := v2) rfl dL_law_927 ?_
                                                            refine Ev_aload_n (x := v0) rfl dL_law_928 ?_
                                                            refine Ev_iload_n (x := v3) rfl dL_law_929 ?_
                                                            refine Ev_iconst ic_1 dL_law_930 ?_
                                                            refine Ev_iadd dL_law_931 ?_
                                                            obtain ⟨x234, g234, h⟩ := bsome h
                                                            refine Ev_iald dL_law_932 g234 ?_
                                                            refine Ev_i2l dL_law_933 ?_
                                                            refine Ev_bipush bp_32 dL_law_934 ?_
                                                            refine Ev_lshl dL_law_936 ?_
                                                            refine Ev_aload_n (x := v0) rfl dL_law_937 ?_
                                                            refine Ev_iload_n (x := v3) rfl dL_law_938 ?_
                                                            refine Ev_iconst ic_2 dL_law_939 ?_
                                                            refine Ev_iadd dL_law_940 ?_
                                                            obtain ⟨x235, g235, h⟩ := bsome h
                                                            refine Ev_iald dL_law_941 g235 ?_
                                                            refine Ev_i2l dL_law_942 ?_
                                                            refine Ev_ldc2 csL_31 dL_law_943 ?_
                                                            refine Ev_land dL_law_946 ?_
                                                            refine Ev_lor dL_law_947 ?_
                                                            obtain ⟨p237, g236, h⟩ := bsome h
                                                            refine Ev_callVl (np := 1) (vs := [.long (((Int32.toInt64 x234) <<< (Int32.toInt64 32 &&& 63)) ||| ((Int32.toInt64 x235) &&& (4294967295 : Int64)))]) (rest := [.long p233.1]) mdX8_seed lkL_130 ⟨_, rfl, rfl⟩ (oX8_seed g236) (rX8_seed g236) rfl rfl (Nat.le_of_ble_eq_true rfl) (Nat.le_of_ble_eq_true rfl) dL_law_948 ?_
                                                            refine Ev_lcmp dL_law_951 ?_
                                                            refine Ev_if_eq (tgt := 1049) dL_law_952 (by decide) (fun q238 => ?_) (fun q238 => ?_)
                                                            · rw [if_pos q238] at h
                                                              refine Ev_iinc (x := v3) (v := (v3 + 4)) (loc2 := [some (.ref v0), some (.ref v1), some (.ref v2), some (.int (v3 + 4))]) rfl (congrArg (v3 + ·) ic_4) (Nat.le_of_ble_eq_true rfl) rfl rfl dL_law_1049 ?_
                                                              refine Ev_goto (tgt := 18) dL_law_1052 (by decide) ?_
                                                              exact ih p237.2 v0 v1 v2 (v3 + 4) h
                                                            · rw [if_neg q238] at h
                                                              refine Ev_iconst ic_0 dL_law_955 ?_
                                                              cases h
                                                              exact Ev_iret rfl rfl dL_law_956 ⟨rfl, rfl⟩
                                                          · rw [if_neg q293] at h
                                                            by_cases q294 : (x3 &&& 31) = 27
                                                            · rw [if_pos q294] at h
                                                              refine Ev_tswIn (tgt := 957) dL_law_32 (by rw [q294]; decide) (by rw [q294]; decide) (by rw [q294]; rfl) (by decide) ?_
                                                              refine Ev_aload_n (x := v1) rfl dL_law_957 ?_
                                                              refine Ev_aload_n (x := v0) rfl dL_law_958 ?_
                                                              refine Ev_iload_n (x := v3) rfl dL_law_959 ?_
                                                              refine Ev_iconst ic_1 dL_law_960 ?_
                                                              refine Ev_iadd dL_law_961 ?_
                                                              obtain ⟨x239, g239, h⟩ := bsome h
                                                              refine Ev_iald dL_law_962 g239 ?_
                                                              obtain ⟨p241, g240, h⟩ := bsome h
                                                              refine Ev_callVi (np := 1) (vs := [.int x239]) (rest := []) mdX7_years lkL_131 ⟨_, rfl, rfl⟩ (oX7_years g240) (rX7_years g240) rfl rfl (Nat.le_of_ble_eq_true rfl) (Nat.le_of_ble_eq_true rfl) dL_law_963 ?_
                                                              refine Ev_aload_n (x := v2) rfl dL_law_966 ?_
                                                              refine Ev_aload_n (x := v0) rfl dL_law_967 ?_
                                                              refine Ev_iload_n (x := v3) rfl dL_law_968 ?_
                                                              refine Ev_iconst ic_1 dL_law_969 ?_
                                                              refine Ev_iadd dL_law_970 ?_
                                                              obtain ⟨x242, g242, h⟩ := bsome h
                                                              refine Ev_iald dL_law_971 g242 ?_
                                                              obtain ⟨p244, g243, h⟩ := bsome h
                                                              refine Ev_callVi (np := 1) (vs := [.int x242]) (rest := [.int p241.1]) mdX8_years lkL_134 ⟨_, rfl, rfl⟩ (oX8_years g243) (rX8_years g243) rfl rfl (Nat.le_of_ble_eq_true rfl) (Nat.le_of_ble_eq_true rfl) dL_law_972 ?_
                                                              refine Ev_icmp_eq (tgt := 1049) dL_law_975 (by decide) (fun q245 => ?_) (fun q245 => ?_)
                                                              · rw [if_pos q245] at h
                                                                refine Ev_iinc (x := v3) (v := (v3 + 4)) (loc2 := [some (.ref v0), some (.ref v1), some (.ref v2), some (.int (v3 + 4))]) rfl (congrArg (v3 + ·) ic_4) (Nat.le_of_ble_eq_true rfl) rfl rfl dL_law_1049 ?_
                                                                refine Ev_goto (tgt := 18) dL_law_1052 (by decide) ?_
                                                                exact ih p244.2 v0 v1 v2 (v3 + 4) h
                                                              · rw [if_neg q245] at h
                                                                refine Ev_iconst ic_0 dL_law_978 ?_
                                                                cases h
                                                                exact Ev_iret rfl rfl dL_law_979 ⟨rfl, rfl⟩
                                                            · rw [if_neg q294] at h
                                                              by_cases q295 : (x3 &&& 31) = 28
                                                              · rw [if_pos q295] at h
                                                                refine Ev_tswIn (tgt := 980) dL_law_32 (by rw [q295]; decide) (by rw [q295]; decide) (by rw [q295]; rfl) (by decide) ?_
                                                                refine Ev_aload_n (x := v1) rfl dL_law_980 ?_
                                                                refine Ev_aload_n (x := v0) rfl dL_law_981 ?_
                                                                refine Ev_iload_n (x := v3) rfl dL_law_982 ?_
                                                                refine Ev_iconst ic_1 dL_law_983 ?_
                                                                refine Ev_iadd dL_law_984 ?_
                                                                obtain ⟨x246, g246, h⟩ := bsome h
                                                                refine Ev_iald dL_law_985 g246 ?_
                                                                obtain ⟨p248, g247, h⟩ := bsome h
                                                                refine Ev_callVi (np := 1) (vs := [.int x246]) (rest := []) mdX7_keep lkL_135 ⟨_, rfl, rfl⟩ (oX7_keep g247) (rX7_keep g247) rfl rfl (Nat.le_of_ble_eq_true rfl) (Nat.le_of_ble_eq_true rfl) dL_law_986 ?_
                                                                refine Ev_aload_n (x := v2) rfl dL_law_989 ?_
                                                                refine Ev_aload_n (x := v0) rfl dL_law_990 ?_
                                                                refine Ev_iload_n (x := v3) rfl dL_law_991 ?_
                                                                refine Ev_iconst ic_1 dL_law_992 ?_
                                                                refine Ev_iadd dL_law_993 ?_
                                                                obtain ⟨x249, g249, h⟩ := bsome h
                                                                refine Ev_iald dL_law_994 g249 ?_
                                                                obtain ⟨p251, g250, h⟩ := bsome h
                                                                refine Ev_callVi (np := 1) (vs := [.int x249]) (rest := [.int p248.1]) mdX8_keep lkL_138 ⟨_, rfl, rfl⟩ (oX8_keep g250) (rX8_keep g250) rfl rfl (Nat.le_of_ble_eq_true rfl) (Nat.le_of_ble_eq_true rfl) dL_law_995 ?_
                                                                refine Ev_icmp_eq (tgt := 1049) dL_law_998 (by decide) (fun q252 => ?_) (fun q252 => ?_)
                                                                · rw [if_pos q252] at h
                                                                  refine Ev_iinc (x := v3) (v := (v3 + 4)) (loc2 := [some (.ref v0), some (.ref v1), some (.ref v2), some (.int (v3 + 4))]) rfl (congrArg (v3 + ·) ic_4) (Nat.le_of_ble_eq_true rfl) rfl rfl dL_law_1049 ?_
                                                                  refine Ev_goto (tgt := 18) dL_law_1052 (by decide) ?_
                                                                  exact ih p251.2 v0 v1 v2 (v3 + 4) h
                                                                · rw [if_neg q252] at h
                                                                  refine Ev_iconst ic_0 dL_law_1001 ?_
                                                                  cases h
                                                                  exact Ev_iret rfl rfl dL_law_1002 ⟨rfl, rfl⟩
                                                              · rw [if_neg q295] at h
                                                                by_cases q296 : (x3 &&& 31) = 29
                                                                · rw [if_pos q296] at h
                                                                  refine Ev_tswIn (tgt := 1003) dL_law_32 (by rw [q296]; decide) (by rw [q296]; decide) (by rw [q296]; rfl) (by decide) ?_
                                                                  refine Ev_aload_n (x := v1) rfl dL_law_1003 ?_
                                                                  refine Ev_aload_n (x := v0) rfl dL_law_1004 ?_
                                                                  refine Ev_iload_n (x := v3) rfl dL_law_1005 ?_
                                                                  refine Ev_iconst ic_1 dL_law_1006 ?_
                                                                  refine Ev_iadd dL_law_1007 ?_
                                                                  obtain ⟨x253, g253, h⟩ := bsome h
                                                                  refine Ev_iald dL_law_1008 g253 ?_
                                                                  obtain ⟨p255, g254, h⟩ := bsome h
                                                                  refine Ev_callVi (np := 1) (vs := [.int x253]) (rest := []) mdX7_again lkL_139 ⟨_, rfl, rfl⟩ (oX7_again g254) (rX7_again g254) rfl rfl (Nat.le_of_ble_eq_true rfl) (Nat.le_of_ble_eq_true rfl) dL_law_1009 ?_
                                                                  refine Ev_aload_n (x := v2) rfl dL_law_1012 ?_
                                                                  refine Ev_aload_n (x := v0) rfl dL_law_1013 ?_
                                                                  refine Ev_iload_n (x := v3) rfl dL_law_1014 ?_
                                                                  refine Ev_iconst ic_1 dL_law_1015 ?_
                                                                  refine Ev_iadd dL_law_1016 ?_
                                                                  obtain ⟨x256, g256, h⟩ := bsome h
                                                                  refine Ev_iald dL_law_1017 g256 ?_
                                                                  obtain ⟨p258, g257, h⟩ := bsome h
                                                                  refine Ev_callVi (np := 1) (vs := [.int x256]) (rest := [.int p255.1]) mdX8_again lkL_142 ⟨_, rfl, rfl⟩ (oX8_again g257) (rX8_again g257) rfl rfl (Nat.le_of_ble_eq_true rfl) (Nat.le_of_ble_eq_true rfl) dL_law_1018 ?_
                                                                  refine Ev_icmp_eq (tgt := 1049) dL_law_1021 (by decide) (fun q259 => ?_) (fun q259 => ?_)
                                                                  · rw [if_pos q259] at h
                                                                    refine Ev_iinc (x := v3) (v := (v3 + 4)) (loc2 := [some (.ref v0), some (.ref v1), some (.ref v2), some (.int (v3 + 4))]) rfl (congrArg (v3 + ·) ic_4) (Nat.le_of_ble_eq_true rfl) rfl rfl dL_law_1049 ?_
                                                                    refine Ev_goto (tgt := 18) dL_law_1052 (by decide) ?_
                                                                    exact ih p258.2 v0 v1 v2 (v3 + 4) h
                                                                  · rw [if_neg q259] at h
                                                                    refine Ev_iconst ic_0 dL_law_1024 ?_
                                                                    cases h
                                                                    exact Ev_iret rfl rfl dL_law_1025 ⟨rfl, rfl⟩
                                                                · rw [if_neg q296] at h
                                                                  by_cases q297 : (x3 &&& 31) = 30
                                                                  · rw [if_pos q297] at h
                                                                    refine Ev_tswIn (tgt := 1026) dL_law_32 (by rw [q297]; decide) (by rw [q297]; decide) (by rw [q297]; rfl) (by decide) ?_
                                                                    refine Ev_aload_n (x := v1) rfl dL_law_1026 ?_
                                                                    refine Ev_aload_n (x := v0) rfl dL_law_1027 ?_
                                                                    refine Ev_iload_n (x := v3) rfl dL_law_1028 ?_
                                                                    refine Ev_iconst ic_1 dL_law_1029 ?_
                                                                    refine Ev_iadd dL_law_1030 ?_
                                                                    obtain ⟨x260, g260, h⟩ := bsome h
                                                                    refine Ev_iald dL_law_1031 g260 ?_
                                                                    obtain ⟨x262, g261, h⟩ := bsome h
                                                                    refine Ev_callVi (np := 1) (vs := [.int x260]) (rest := []) mdX7_count lkL_143 ⟨_, rfl, rfl⟩ (oX7_count g261) (rX7_count g261) rfl rfl (Nat.le_of_ble_eq_true rfl) (Nat.le_of_ble_eq_true rfl) dL_law_1032 ?_
                                                                    refine Ev_aload_n (x := v2) rfl dL_law_1035 ?_
                                                                    refine Ev_aload_n (x := v0) rfl dL_law_1036 ?_
                                                                    refine Ev_iload_n (x := v3) rfl dL_law_1037 ?_
                                                                    refine Ev_iconst ic_1 dL_law_1038 ?_
                                                                    refine Ev_iadd dL_law_1039 ?_
                                                                    obtain ⟨x263, g263, h⟩ := bsome h
                                                                    refine Ev_iald dL_law_1040 g263 ?_
                                                                    obtain ⟨x265, g264, h⟩ := bsome h
                                                                    refine Ev_callVi (np := 1) (vs := [.int x263]) (rest := [.int x262]) mdX8_count lkL_146 ⟨_, rfl, rfl⟩ (oX8_count g264) (rX8_count g264) rfl rfl (Nat.le_of_ble_eq_true rfl) (Nat.le_of_ble_eq_true rfl) dL_law_1041 ?_
                                                                    refine Ev_icmp_eq (tgt := 1049) dL_law_1044 (by decide) (fun q266 => ?_) (fun q266 => ?_)
                                                                    · rw [if_pos q266] at h
                                                                      refine Ev_iinc (x := v3) (v := (v3 + 4)) (loc2 := [some (.ref v0), some (.ref v1), some (.ref v2), some (.int (v3 + 4))]) rfl (congrArg (v3 + ·) ic_4) (Nat.le_of_ble_eq_true rfl) rfl rfl dL_law_1049 ?_
                                                                      refine Ev_goto (tgt := 18) dL_law_1052 (by decide) ?_
                                                                      exact ih M v0 v1 v2 (v3 + 4) h
                                                                    · rw [if_neg q266] at h
                                                                      refine Ev_iconst ic_0 dL_law_1047 ?_
                                                                      cases h
                                                                      exact Ev_iret rfl rfl dL_law_1048 ⟨rfl, rfl⟩
                                                                  · rw [if_neg q297] at h
                                                                    refine Ev_tswOut (tgt := 1049) dL_law_32 (sw_out31 q267 q268 q269 q270 q271 q272 q273 q274 q275 q276 q277 q278 q279 q280 q281 q282 q283 q284 q285 q286 q287 q288 q289 q290 q291 q292 q293 q294 q295 q296 q297) (by decide) ?_
                                                                    refine Ev_iinc (x := v3) (v := (v3 + 4)) (loc2 := [some (.ref v0), some (.ref v1), some (.ref v2), some (.int (v3 + 4))]) rfl (congrArg (v3 + ·) ic_4) (Nat.le_of_ble_eq_true rfl) rfl rfl dL_law_1049 ?_
                                                                    refine Ev_goto (tgt := 18) dL_law_1052 (by decide) ?_
                                                                    exact ih M v0 v1 v2 (v3 + 4) h
def fL_law (M : mM) (v0 : Nat) : Option (Int32 × mM) :=
    (some (M ++ [.inl (7, dfX7)])).bind fun M1 =>
    (fX7_init M1 (List.length M)).bind fun M2 =>
    (some (M2 ++ [.inl (8, dfX8)])).bind fun M3 =>
    (fX8_init M3 (List.length M2)).bind fun M4 =>
    fL_law_c18 FUEL M4 v0 (List.length M) (List.length M2) 0
set_option maxRecDepth 20000 in
set_option maxHeartbeats 4000000 in
theorem rL_law {E : mE} {M : mM} {v0 : Nat} {x : Int32} {Mf : mM} (h : fL_law M v0 = some (x, Mf)) : Ev mL_law E 2000 600000 7302250 (some (.int x)) Mf 0 [some (.ref v0), none, none, none] [] M 0 0 := by
  unfold fL_law at h
  obtain ⟨M1, g1, h⟩ := bsome h
  refine Ev_new_e (ci := 7) (q := (RX7, TX7, 13)) (fs := dfX7) rfl clL_7 inX7 iniX7 rfl dfX7_ok rfl (Nat.le_of_ble_eq_true rfl) (Nat.le_of_ble_eq_true rfl) (Option.some.inj g1) dL_law_0 ?_
  refine Ev_dup rfl dL_law_3 ?_
  obtain ⟨M2, g2, h⟩ := bsome h
  refine Ev_callI (np := 0) (vs := []) (rest := [.ref (List.length M)]) mdX7_init (Or.inl lkL_9) (rX7_init g2) rfl rfl (Nat.le_of_ble_eq_true rfl) (Nat.le_of_ble_eq_true rfl) (Nat.le_of_ble_eq_true rfl) (Nat.le_of_ble_eq_true rfl) dL_law_4 ?_
  refine Ev_astore_n (loc2 := [some (.ref v0), some (.ref (List.length M)), none, none]) (Nat.le_of_ble_eq_true rfl) rfl rfl dL_law_7 ?_
  obtain ⟨M3, g3, h⟩ := bsome h
  refine Ev_new_e (ci := 8) (q := (RX8, TX8, 24)) (fs := dfX8) rfl clL_10 inX8 iniX8 rfl dfX8_ok rfl (Nat.le_of_ble_eq_true rfl) (Nat.le_of_ble_eq_true rfl) (Option.some.inj g3) dL_law_8 ?_
  refine Ev_dup rfl dL_law_11 ?_
  obtain ⟨M4, g4, h⟩ := bsome h
  refine Ev_callI (np := 0) (vs := []) (rest := [.ref (List.length M2)]) mdX8_init (Or.inl lkL_12) (rX8_init g4) rfl rfl (Nat.le_of_ble_eq_true rfl) (Nat.le_of_ble_eq_true rfl) (Nat.le_of_ble_eq_true rfl) (Nat.le_of_ble_eq_true rfl) dL_law_12 ?_
  refine Ev_astore_n (loc2 := [some (.ref v0), some (.ref (List.length M)), some (.ref (List.length M2)), none]) (Nat.le_of_ble_eq_true rfl) rfl rfl dL_law_15 ?_
  refine Ev_iconst ic_0 dL_law_16 ?_
  refine Ev_istore_n (loc2 := [some (.ref v0), some (.ref (List.length M)), some (.ref (List.length M2)), some (.int 0)]) (Nat.le_of_ble_eq_true rfl) rfl rfl dL_law_17 ?_
  exact rL_law_c18 FUEL M4 v0 (List.length M) (List.length M2) 0 h
