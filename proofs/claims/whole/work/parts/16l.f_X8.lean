/-! printed by wip/whole/gen.py -/
/-! TinselRiverModel.years(I)I -/
def fX8_years_c23 : Nat → mM → Nat → Int32 → Int32 → Int32 → Option (Int32 × mM)
  | 0, _, _, _, _, _ => none
  | n + 1, M, v0, v1, v2, v3 =>
    if v1 ≤ v3 then
      (some (v2, M))
    else
      ((gL M v0 8 21).bind fun x2 =>
      (sV M v0 8 21 (.long ((x2 * (6364136223846793005 : Int64)) + (1442695040888963407 : Int64)))).bind fun M3 =>
      (gL M3 v0 8 21).bind fun x4 =>
      (some (Int64.toInt32 (((x4).toUInt64 >>> ((Int32.toInt64 33).toUInt64 &&& Int64.toUInt64 63)).toInt64 - ((x4).toUInt64 >>> ((Int32.toInt64 33).toUInt64 &&& Int64.toUInt64 63)).toInt64 / (32 : Int64) * (32 : Int64)))).bind fun x5 =>
      if x5 ≤ 22 then
        (if x5 ≤ 19 then
          (if x5 ≤ 15 then
            ((fX8_tryThing M3 v0 1 (x5 / 4) (x5 - x5 / 4 * 4)).bind fun p10 =>
            (fX8_bendsOfAll p10.2 v0 1).bind fun x12 =>
            fX8_years_c23 n p10.2 v0 v1 (v2 + x12) (v3 + 1))
          else
            ((fX8_tryThing M3 v0 2 0 (x5 - 16)).bind fun p14 =>
            (fX8_bendsOfAll p14.2 v0 1).bind fun x16 =>
            fX8_years_c23 n p14.2 v0 v1 (v2 + x16) (v3 + 1)))
        else
          ((fX8_tryThing M3 v0 4 (x5 - 20) (x5 - 19)).bind fun p18 =>
          (fX8_bendsOfAll p18.2 v0 1).bind fun x20 =>
          fX8_years_c23 n p18.2 v0 v1 (v2 + x20) (v3 + 1)))
      else
        ((fX8_passOn M3 v0 1).bind fun p22 =>
        (fX8_bendsOfAll p22.2 v0 1).bind fun x24 =>
        fX8_years_c23 n p22.2 v0 v1 (v2 + x24) (v3 + 1)))
set_option maxRecDepth 20000 in
set_option maxHeartbeats 4000000 in
theorem rX8_years_c23 {E : mE} {x : Int32} {Mf : mM} : ∀ (n : Nat) (M : mM) (v0 : Nat) (v1 : Int32) (v2 : Int32) (v3 : Int32), fX8_years_c23 n M v0 v1 v2 v3 = some (x, Mf) → Ev mX8_years E 6 0 0 (some (.int x)) Mf 23 [some (.ref v0), some (.int v1), some (.int v2), some (.int v3), none] [] M 0 0 := by
  intro n
  induction n with
  | zero => intro M v0 v1 v2 v3 h; rw [fX8_years_c23.eq_1] at h; cases h
  | succ n ih =>
    intro M v0 v1 v2 v3 h
    rw [fX8_years_c23.eq_2] at h
    refine Ev_iload_n (x := v3) rfl dX8_years_23 ?_
    refine Ev_iload_n (x := v1) rfl dX8_years_24 ?_
    refine Ev_icmp_ge (tgt := 150) dX8_years_25 (by decide) (fun q1 => ?_) (fun q1 => ?_)
    · rw [if_pos q1] at h
      refine Ev_iload_n (x := v2) rfl dX8_years_150 ?_
      cases h
      exact Ev_iret rfl rfl dX8_years_151 ⟨rfl, rfl⟩
    · rw [if_neg q1] at h
      refine Ev_aload_n (x := v0) rfl dX8_years_28 ?_
      refine Ev_aload_n (x := v0) rfl dX8_years_29 ?_
      obtain ⟨x2, g2, h⟩ := bsome h
      refine Ev_getL flX8_241 dX8_years_30 g2 ?_
      refine Ev_ldc2 csX8_247 dX8_years_33 ?_
      refine Ev_lmul dX8_years_36 ?_
      refine Ev_ldc2 csX8_249 dX8_years_37 ?_
      refine Ev_ladd dX8_years_40 ?_
      obtain ⟨M3, g3, h⟩ := bsome h
      refine Ev_put (v := .long ((x2 * (6364136223846793005 : Int64)) + (1442695040888963407 : Int64))) flX8_241 ⟨rfl, rfl⟩ (fun q hq => by cases hq; exact Or.inl rfl) dX8_years_41 g3 ?_
      refine Ev_aload_n (x := v0) rfl dX8_years_44 ?_
      obtain ⟨x4, g4, h⟩ := bsome h
      refine Ev_getL flX8_241 dX8_years_45 g4 ?_
      refine Ev_bipush bp_33 dX8_years_48 ?_
      refine Ev_lushr dX8_years_50 ?_
      refine Ev_ldc2 csX8_251 dX8_years_51 ?_
      refine Ev_lrem (by decide) dX8_years_54 ?_
      refine Ev_l2i dX8_years_55 ?_
      obtain ⟨x5, g5, h⟩ := bsome h
      refine Ev_istore (loc2 := [some (.ref v0), some (.int v1), some (.int v2), some (.int v3), some (.int x5)]) (Nat.le_of_ble_eq_true rfl) rfl (by cases g5; rfl) dX8_years_56 ?_
      refine Ev_iload (x := x5) rfl dX8_years_58 ?_
      refine Ev_bipush bp_22 dX8_years_60 ?_
      refine Ev_icmp_le (tgt := 74) dX8_years_62 (by decide) (fun q6 => ?_) (fun q6 => ?_)
      · rw [if_pos q6] at h
        refine Ev_iload (x := x5) rfl dX8_years_74 ?_
        refine Ev_bipush bp_19 dX8_years_76 ?_
        refine Ev_icmp_le (tgt := 100) dX8_years_78 (by decide) (fun q7 => ?_) (fun q7 => ?_)
        · rw [if_pos q7] at h
          refine Ev_iload (x := x5) rfl dX8_years_100 ?_
          refine Ev_bipush bp_15 dX8_years_102 ?_
          refine Ev_icmp_le (tgt := 122) dX8_years_104 (by decide) (fun q8 => ?_) (fun q8 => ?_)
          · rw [if_pos q8] at h
            refine Ev_aload_n (x := v0) rfl dX8_years_122 ?_
            refine Ev_iconst ic_1 dX8_years_123 ?_
            refine Ev_iload (x := x5) rfl dX8_years_124 ?_
            refine Ev_iconst ic_4 dX8_years_126 ?_
            refine Ev_idiv (by decide) dX8_years_127 ?_
            refine Ev_iload (x := x5) rfl dX8_years_128 ?_
            refine Ev_iconst ic_4 dX8_years_130 ?_
            refine Ev_irem (by decide) dX8_years_131 ?_
            obtain ⟨p10, g9, h⟩ := bsome h
            refine Ev_callVi (np := 3) (vs := [.int 1, .int (x5 / 4), .int (x5 - x5 / 4 * 4)]) (rest := []) mdX8_tryThing lkX8_207 ⟨_, rfl, rfl⟩ (oX8_tryThing g9) (rX8_tryThing g9) rfl rfl (Nat.le_of_ble_eq_true rfl) (Nat.le_of_ble_eq_true rfl) dX8_years_132 ?_
            refine Ev_pop rfl dX8_years_135 ?_
            refine Ev_iload_n (x := v2) rfl dX8_years_136 ?_
            refine Ev_aload_n (x := v0) rfl dX8_years_137 ?_
            refine Ev_iconst ic_1 dX8_years_138 ?_
            obtain ⟨x12, g11, h⟩ := bsome h
            refine Ev_callVi (np := 1) (vs := [.int 1]) (rest := [.int v2]) mdX8_bendsOfAll lkX8_253 ⟨_, rfl, rfl⟩ (oX8_bendsOfAll g11) (rX8_bendsOfAll g11) rfl rfl (Nat.le_of_ble_eq_true rfl) (Nat.le_of_ble_eq_true rfl) dX8_years_139 ?_
            refine Ev_iadd dX8_years_142 ?_
            refine Ev_istore_n (loc2 := [some (.ref v0), some (.int v1), some (.int (v2 + x12)), some (.int v3), some (.int x5)]) (Nat.le_of_ble_eq_true rfl) rfl rfl dX8_years_143 ?_
            refine Ev_iinc (x := v3) (v := (v3 + 1)) (loc2 := [some (.ref v0), some (.int v1), some (.int (v2 + x12)), some (.int (v3 + 1)), some (.int x5)]) rfl (congrArg (v3 + ·) ic_1) (Nat.le_of_ble_eq_true rfl) rfl rfl dX8_years_144 ?_
            refine Ev_goto (tgt := 23) dX8_years_147 (by decide) ?_
            refine Ev_drop 4 (loc2 := [some (.ref v0), some (.int v1), some (.int (v2 + x12)), some (.int (v3 + 1)), none]) rfl ?_
            exact ih p10.2 v0 v1 (v2 + x12) (v3 + 1) h
          · rw [if_neg q8] at h
            refine Ev_aload_n (x := v0) rfl dX8_years_107 ?_
            refine Ev_iconst ic_2 dX8_years_108 ?_
            refine Ev_iconst ic_0 dX8_years_109 ?_
            refine Ev_iload (x := x5) rfl dX8_years_110 ?_
            refine Ev_bipush bp_16 dX8_years_112 ?_
            refine Ev_isub dX8_years_114 ?_
            obtain ⟨p14, g13, h⟩ := bsome h
            refine Ev_callVi (np := 3) (vs := [.int 2, .int 0, .int (x5 - 16)]) (rest := []) mdX8_tryThing lkX8_207 ⟨_, rfl, rfl⟩ (oX8_tryThing g13) (rX8_tryThing g13) rfl rfl (Nat.le_of_ble_eq_true rfl) (Nat.le_of_ble_eq_true rfl) dX8_years_115 ?_
            refine Ev_pop rfl dX8_years_118 ?_
            refine Ev_goto (tgt := 136) dX8_years_119 (by decide) ?_
            refine Ev_iload_n (x := v2) rfl dX8_years_136 ?_
            refine Ev_aload_n (x := v0) rfl dX8_years_137 ?_
            refine Ev_iconst ic_1 dX8_years_138 ?_
            obtain ⟨x16, g15, h⟩ := bsome h
            refine Ev_callVi (np := 1) (vs := [.int 1]) (rest := [.int v2]) mdX8_bendsOfAll lkX8_253 ⟨_, rfl, rfl⟩ (oX8_bendsOfAll g15) (rX8_bendsOfAll g15) rfl rfl (Nat.le_of_ble_eq_true rfl) (Nat.le_of_ble_eq_true rfl) dX8_years_139 ?_
            refine Ev_iadd dX8_years_142 ?_
            refine Ev_istore_n (loc2 := [some (.ref v0), some (.int v1), some (.int (v2 + x16)), some (.int v3), some (.int x5)]) (Nat.le_of_ble_eq_true rfl) rfl rfl dX8_years_143 ?_
            refine Ev_iinc (x := v3) (v := (v3 + 1)) (loc2 := [some (.ref v0), some (.int v1), some (.int (v2 + x16)), some (.int (v3 + 1)), some (.int x5)]) rfl (congrArg (v3 + ·) ic_1) (Nat.le_of_ble_eq_true rfl) rfl rfl dX8_years_144 ?_
            refine Ev_goto (tgt := 23) dX8_years_147 (by decide) ?_
            refine Ev_drop 4 (loc2 := [some (.ref v0), some (.int v1), some (.int (v2 + x16)), some (.int (v3 + 1)), none]) rfl ?_
            exact ih p14.2 v0 v1 (v2 + x16) (v3 + 1) h
        · rw [if_neg q7] at h
          refine Ev_aload_n (x := v0) rfl dX8_years_81 ?_
          refine Ev_iconst ic_4 dX8_years_82 ?_
          refine Ev_iload (x := x5) rfl dX8_years_83 ?_
          refine Ev_bipush bp_20 dX8_years_85 ?_
          refine Ev_isub dX8_years_87 ?_
          refine Ev_iload (x := x5) rfl dX8_years_88 ?_
          refine Ev_bipush bp_19 dX8_years_90 ?_
          refine Ev_isub dX8_years_92 ?_
          obtain ⟨p18, g17, h⟩ := bsome h
          refine Ev_callVi (np := 3) (vs := [.int 4, .int (x5 - 20), .int (x5 - 19)]) (rest := []) mdX8_tryThing lkX8_207 ⟨_, rfl, rfl⟩ (oX8_tryThing g17) (rX8_tryThing g17) rfl rfl (Nat.le_of_ble_eq_true rfl) (Nat.le_of_ble_eq_true rfl) dX8_years_93 ?_
          refine Ev_pop rfl dX8_years_96 ?_
          refine Ev_goto (tgt := 136) dX8_years_97 (by decide) ?_
          refine Ev_iload_n (x := v2) rfl dX8_years_136 ?_
          refine Ev_aload_n (x := v0) rfl dX8_years_137 ?_
          refine Ev_iconst ic_1 dX8_years_138 ?_
          obtain ⟨x20, g19, h⟩ := bsome h
          refine Ev_callVi (np := 1) (vs := [.int 1]) (rest := [.int v2]) mdX8_bendsOfAll lkX8_253 ⟨_, rfl, rfl⟩ (oX8_bendsOfAll g19) (rX8_bendsOfAll g19) rfl rfl (Nat.le_of_ble_eq_true rfl) (Nat.le_of_ble_eq_true rfl) dX8_years_139 ?_
          refine Ev_iadd dX8_years_142 ?_
          refine Ev_istore_n (loc2 := [some (.ref v0), some (.int v1), some (.int (v2 + x20)), some (.int v3), some (.int x5)]) (Nat.le_of_ble_eq_true rfl) rfl rfl dX8_years_143 ?_
          refine Ev_iinc (x := v3) (v := (v3 + 1)) (loc2 := [some (.ref v0), some (.int v1), some (.int (v2 + x20)), some (.int (v3 + 1)), some (.int x5)]) rfl (congrArg (v3 + ·) ic_1) (Nat.le_of_ble_eq_true rfl) rfl rfl dX8_years_144 ?_
          refine Ev_goto (tgt := 23) dX8_years_147 (by decide) ?_
          refine Ev_drop 4 (loc2 := [some (.ref v0), some (.int v1), some (.int (v2 + x20)), some (.int (v3 + 1)), none]) rfl ?_
          exact ih p18.2 v0 v1 (v2 + x20) (v3 + 1) h
      · rw [if_neg q6] at h
        refine Ev_aload_n (x := v0) rfl dX8_years_65 ?_
        refine Ev_iconst ic_1 dX8_years_66 ?_
        obtain ⟨p22, g21, h⟩ := bsome h
        refine Ev_callVi (np := 1) (vs := [.int 1]) (rest := []) mdX8_passOn lkX8_163 ⟨_, rfl, rfl⟩ (oX8_passOn g21) (rX8_passOn g21) rfl rfl (Nat.le_of_ble_eq_true rfl) (Nat.le_of_ble_eq_true rfl) dX8_years_67 ?_
        refine Ev_pop rfl dX8_years_70 ?_
        refine Ev_goto (tgt := 136) dX8_years_71 (by decide) ?_
        refine Ev_iload_n (x := v2) rfl dX8_years_136 ?_
        refine Ev_aload_n (x := v0) rfl dX8_years_137 ?_
        refine Ev_iconst ic_1 dX8_years_138 ?_
        obtain ⟨x24, g23, h⟩ := bsome h
        refine Ev_callVi (np := 1) (vs := [.int 1]) (rest := [.int v2]) mdX8_bendsOfAll lkX8_253 ⟨_, rfl, rfl⟩ (oX8_bendsOfAll g23) (rX8_bendsOfAll g23) rfl rfl (Nat.le_of_ble_eq_true rfl) (Nat.le_of_ble_eq_true rfl) dX8_years_139 ?_
        refine Ev_iadd dX8_years_142 ?_
        refine Ev_istore_n (loc2 := [some (.ref v0), some (.int v1), some (.int (v2 + x24)), some (.int v3), some (.int x5)]) (Nat.le_of_ble_eq_true rfl) rfl rfl dX8_years_143 ?_
        refine Ev_iinc (x := v3) (v := (v3 + 1)) (loc2 := [some (.ref v0), some (.int v1), some (.int (v2 + x24)), some (.int (v3 + 1)), some (.int x5)]) rfl (congrArg (v3 + ·) ic_1) (Nat.le_of_ble_eq_true rfl) rfl rfl dX8_years_144 ?_
        refine Ev_goto (tgt := 23) dX8_years_147 (by decide) ?_
        refine Ev_drop 4 (loc2 := [some (.ref v0), some (.int v1), some (.int (v2 + x24)), some (.int (v3 + 1)), none]) rfl ?_
        exact ih p22.2 v0 v1 (v2 + x24) (v3 + 1) h
def fX8_years (M : mM) (v0 : Nat) (v1 : Int32) : Option (Int32 × mM) :=
    if isO M v0 8 = true then
      (fX8_in M (Int32.toInt64 v1) (1 : Int64) (30 : Int64)).bind fun x2 =>
      if x2 = 0 then
        (some ((-2), M))
      else
        ((fX8_layTrial M v0).bind fun M5 =>
        fX8_years_c23 FUEL M5 v0 v1 0 0)
    else none
theorem oX8_years {M : mM} {v0 : Nat} {v1 : Int32} {y : (Int32 × mM)} (h : fX8_years M v0 v1 = some y) : isO M v0 8 = true := by
  unfold fX8_years at h
  exact (gsome h).1
set_option maxRecDepth 20000 in
set_option maxHeartbeats 4000000 in
theorem rX8_years {E : mE} {M : mM} {v0 : Nat} {v1 : Int32} {x : Int32} {Mf : mM} (h : fX8_years M v0 v1 = some (x, Mf)) : EvC mX8_years E 6 0 0 [.ref v0, .int v1] M (some (.int x)) Mf := by
  unfold fX8_years at h
  replace h := (gsome h).2
  refine EvC.of [some (.ref v0), some (.int v1), none, none, none] pnX8_years rfl (Nat.le_of_ble_eq_true rfl) ?_
  refine Ev_iload_n (x := v1) rfl dX8_years_0 ?_
  refine Ev_i2l dX8_years_1 ?_
  refine Ev_lconst (v := 1) (by decide) dX8_years_2 ?_
  refine Ev_ldc2 csX8_245 dX8_years_3 ?_
  obtain ⟨x2, g1, h⟩ := bsome h
  refine Ev_callSi (np := 3) (vs := [.long (Int32.toInt64 v1), .long (1 : Int64), .long (30 : Int64)]) (rest := []) mdX8_in lkX8_52 (rX8_in g1) rfl rfl (Nat.le_of_ble_eq_true rfl) (Nat.le_of_ble_eq_true rfl) dX8_years_6 ?_
  refine Ev_if_ne (tgt := 15) dX8_years_9 (by decide) (fun q3 => ?_) (fun q3 => ?_)
  · rw [if_neg q3] at h
    refine Ev_aload_n (x := v0) rfl dX8_years_15 ?_
    obtain ⟨M5, g4, h⟩ := bsome h
    refine Ev_callVv (np := 0) (vs := []) (rest := []) mdX8_layTrial lkX8_180 ⟨_, rfl, rfl⟩ (oX8_layTrial g4) (rX8_layTrial g4) rfl rfl (Nat.le_of_ble_eq_true rfl) (Nat.le_of_ble_eq_true rfl) dX8_years_16 ?_
    refine Ev_iconst ic_0 dX8_years_19 ?_
    refine Ev_istore_n (loc2 := [some (.ref v0), some (.int v1), some (.int 0), none, none]) (Nat.le_of_ble_eq_true rfl) rfl rfl dX8_years_20 ?_
    refine Ev_iconst ic_0 dX8_years_21 ?_
    refine Ev_istore_n (loc2 := [some (.ref v0), some (.int v1), some (.int 0), some (.int 0), none]) (Nat.le_of_ble_eq_true rfl) rfl rfl dX8_years_22 ?_
    exact rX8_years_c23 FUEL M5 v0 v1 0 0 h
  · rw [if_pos q3] at h
    refine Ev_bipush bp_m2 dX8_years_12 ?_
    cases h
    exact Ev_iret rfl rfl dX8_years_14 ⟨rfl, rfl⟩
/-! TinselRiverModel.keep(I)I -/
def fX8_keep_c21 : Nat → mM → Nat → Int32 → Int32 → Option (Int32 × mM)
  | 0, _, _, _, _ => none
  | n + 1, M, v0, v1, v2 =>
    if 57 ≤ v2 then
      ((gR M v0 8 2).bind fun a2 =>
      (aI M false a2 56).bind fun x3 =>
      some (x3, M))
    else
      ((gR M v0 8 23).bind fun a4 =>
      (gR M v0 8 2).bind fun a5 =>
      (aI M false a5 v2).bind fun x6 =>
      (aS M false a4 ((57 * v1) + v2) x6).bind fun M7 =>
      fX8_keep_c21 n M7 v0 v1 (v2 + 1))
set_option maxRecDepth 20000 in
set_option maxHeartbeats 4000000 in
theorem rX8_keep_c21 {E : mE} {x : Int32} {Mf : mM} : ∀ (n : Nat) (M : mM) (v0 : Nat) (v1 : Int32) (v2 : Int32), fX8_keep_c21 n M v0 v1 v2 = some (x, Mf) → Ev mX8_keep E 1 0 0 (some (.int x)) Mf 21 [some (.ref v0), some (.int v1), some (.int v2)] [] M 0 0 := by
  intro n
  induction n with
  | zero => intro M v0 v1 v2 h; rw [fX8_keep_c21.eq_1] at h; cases h
  | succ n ih =>
    intro M v0 v1 v2 h
    rw [fX8_keep_c21.eq_2] at h
    refine Ev_iload_n (x := v2) rfl dX8_keep_21 ?_
    refine Ev_bipush bp_57 dX8_keep_22 ?_
    refine Ev_icmp_ge (tgt := 50) dX8_keep_24 (by decide) (fun q1 => ?_) (fun q1 => ?_)
    · rw [if_pos q1] at h
      refine Ev_aload_n (x := v0) rfl dX8_keep_50 ?_
      obtain ⟨a2, g2, h⟩ := bsome h
      refine Ev_getR flX8_13 dX8_keep_51 g2 ?_
      refine Ev_bipush bp_56 dX8_keep_54 ?_
      obtain ⟨x3, g3, h⟩ := bsome h
      refine Ev_iald dX8_keep_56 g3 ?_
      cases h
      exact Ev_iret rfl rfl dX8_keep_57 ⟨rfl, rfl⟩
    · rw [if_neg q1] at h
      refine Ev_aload_n (x := v0) rfl dX8_keep_27 ?_
      obtain ⟨a4, g4, h⟩ := bsome h
      refine Ev_getR flX8_47 dX8_keep_28 g4 ?_
      refine Ev_bipush bp_57 dX8_keep_31 ?_
      refine Ev_iload_n (x := v1) rfl dX8_keep_33 ?_
      refine Ev_imul dX8_keep_34 ?_
      refine Ev_iload_n (x := v2) rfl dX8_keep_35 ?_
      refine Ev_iadd dX8_keep_36 ?_
      refine Ev_aload_n (x := v0) rfl dX8_keep_37 ?_
      obtain ⟨a5, g5, h⟩ := bsome h
      refine Ev_getR flX8_13 dX8_keep_38 g5 ?_
      refine Ev_iload_n (x := v2) rfl dX8_keep_41 ?_
      obtain ⟨x6, g6, h⟩ := bsome h
      refine Ev_iald dX8_keep_42 g6 ?_
      obtain ⟨M7, g7, h⟩ := bsome h
      refine Ev_iast dX8_keep_43 g7 ?_
      refine Ev_iinc (x := v2) (v := (v2 + 1)) (loc2 := [some (.ref v0), some (.int v1), some (.int (v2 + 1))]) rfl (congrArg (v2 + ·) ic_1) (Nat.le_of_ble_eq_true rfl) rfl rfl dX8_keep_44 ?_
      refine Ev_goto (tgt := 21) dX8_keep_47 (by decide) ?_
      exact ih M7 v0 v1 (v2 + 1) h
def fX8_keep (M : mM) (v0 : Nat) (v1 : Int32) : Option (Int32 × mM) :=
    if isO M v0 8 = true then
      (fX8_in M (Int32.toInt64 v1) (0 : Int64) (1 : Int64)).bind fun x2 =>
      if x2 = 0 then
        (some ((-1), M))
      else
        ((gR M v0 8 22).bind fun a4 =>
        (aS M true a4 v1 (mzb 1)).bind fun M5 =>
        fX8_keep_c21 FUEL M5 v0 v1 0)
    else none
theorem oX8_keep {M : mM} {v0 : Nat} {v1 : Int32} {y : (Int32 × mM)} (h : fX8_keep M v0 v1 = some y) : isO M v0 8 = true := by
  unfold fX8_keep at h
  exact (gsome h).1
set_option maxRecDepth 20000 in
set_option maxHeartbeats 4000000 in
theorem rX8_keep {E : mE} {M : mM} {v0 : Nat} {v1 : Int32} {x : Int32} {Mf : mM} (h : fX8_keep M v0 v1 = some (x, Mf)) : EvC mX8_keep E 1 0 0 [.ref v0, .int v1] M (some (.int x)) Mf := by
  unfold fX8_keep at h
  replace h := (gsome h).2
  refine EvC.of [some (.ref v0), some (.int v1), none] pnX8_keep rfl (Nat.le_of_ble_eq_true rfl) ?_
  refine Ev_iload_n (x := v1) rfl dX8_keep_0 ?_
  refine Ev_i2l dX8_keep_1 ?_
  refine Ev_lconst (v := 0) (by decide) dX8_keep_2 ?_
  refine Ev_lconst (v := 1) (by decide) dX8_keep_3 ?_
  obtain ⟨x2, g1, h⟩ := bsome h
  refine Ev_callSi (np := 3) (vs := [.long (Int32.toInt64 v1), .long (0 : Int64), .long (1 : Int64)]) (rest := []) mdX8_in lkX8_52 (rX8_in g1) rfl rfl (Nat.le_of_ble_eq_true rfl) (Nat.le_of_ble_eq_true rfl) dX8_keep_4 ?_
  refine Ev_if_ne (tgt := 12) dX8_keep_7 (by decide) (fun q3 => ?_) (fun q3 => ?_)
  · rw [if_neg q3] at h
    refine Ev_aload_n (x := v0) rfl dX8_keep_12 ?_
    obtain ⟨a4, g4, h⟩ := bsome h
    refine Ev_getR flX8_43 dX8_keep_13 g4 ?_
    refine Ev_iload_n (x := v1) rfl dX8_keep_16 ?_
    refine Ev_iconst ic_1 dX8_keep_17 ?_
    obtain ⟨M5, g5, h⟩ := bsome h
    refine Ev_zast (mzb_ok 1) dX8_keep_18 g5 ?_
    refine Ev_iconst ic_0 dX8_keep_19 ?_
    refine Ev_istore_n (loc2 := [some (.ref v0), some (.int v1), some (.int 0)]) (Nat.le_of_ble_eq_true rfl) rfl rfl dX8_keep_20 ?_
    exact rX8_keep_c21 FUEL M5 v0 v1 0 h
  · rw [if_pos q3] at h
    refine Ev_iconst ic_m1 dX8_keep_10 ?_
    cases h
    exact Ev_iret rfl rfl dX8_keep_11 ⟨rfl, rfl⟩
/-! TinselRiverModel.again(I)I -/
def fX8_again_c26 : Nat → mM → Nat → Int32 → Int32 → Option (Int32 × mM)
  | 0, _, _, _, _ => none
  | n + 1, M, v0, v1, v2 =>
    if 57 ≤ v2 then
      ((sV M v0 8 13 (.int 0)).bind fun M2 =>
      (gR M2 v0 8 2).bind fun a3 =>
      (aI M2 false a3 56).bind fun x4 =>
      some (x4, M2))
    else
      ((gR M v0 8 2).bind fun a5 =>
      (gR M v0 8 23).bind fun a6 =>
      (aI M false a6 ((57 * v1) + v2)).bind fun x7 =>
      (aS M false a5 v2 x7).bind fun M8 =>
      fX8_again_c26 n M8 v0 v1 (v2 + 1))
set_option maxRecDepth 20000 in
set_option maxHeartbeats 4000000 in
theorem rX8_again_c26 {E : mE} {x : Int32} {Mf : mM} : ∀ (n : Nat) (M : mM) (v0 : Nat) (v1 : Int32) (v2 : Int32), fX8_again_c26 n M v0 v1 v2 = some (x, Mf) → Ev mX8_again E 1 0 0 (some (.int x)) Mf 26 [some (.ref v0), some (.int v1), some (.int v2)] [] M 0 0 := by
  intro n
  induction n with
  | zero => intro M v0 v1 v2 h; rw [fX8_again_c26.eq_1] at h; cases h
  | succ n ih =>
    intro M v0 v1 v2 h
    rw [fX8_again_c26.eq_2] at h
    refine Ev_iload_n (x := v2) rfl dX8_again_26 ?_
    refine Ev_bipush bp_57 dX8_again_27 ?_
    refine Ev_icmp_ge (tgt := 55) dX8_again_29 (by decide) (fun q1 => ?_) (fun q1 => ?_)
    · rw [if_pos q1] at h
      refine Ev_aload_n (x := v0) rfl dX8_again_55 ?_
      refine Ev_iconst ic_0 dX8_again_56 ?_
      obtain ⟨M2, g2, h⟩ := bsome h
      refine Ev_put (v := .int 0) flX8_92 ⟨rfl, rfl⟩ (fun q hq => by cases hq; exact Or.inl rfl) dX8_again_57 g2 ?_
      refine Ev_aload_n (x := v0) rfl dX8_again_60 ?_
      obtain ⟨a3, g3, h⟩ := bsome h
      refine Ev_getR flX8_13 dX8_again_61 g3 ?_
      refine Ev_bipush bp_56 dX8_again_64 ?_
      obtain ⟨x4, g4, h⟩ := bsome h
      refine Ev_iald dX8_again_66 g4 ?_
      cases h
      exact Ev_iret rfl rfl dX8_again_67 ⟨rfl, rfl⟩
    · rw [if_neg q1] at h
      refine Ev_aload_n (x := v0) rfl dX8_again_32 ?_
      obtain ⟨a5, g5, h⟩ := bsome h
      refine Ev_getR flX8_13 dX8_again_33 g5 ?_
      refine Ev_iload_n (x := v2) rfl dX8_again_36 ?_
      refine Ev_aload_n (x := v0) rfl dX8_again_37 ?_
      obtain ⟨a6, g6, h⟩ := bsome h
      refine Ev_getR flX8_47 dX8_again_38 g6 ?_
      refine Ev_bipush bp_57 dX8_again_41 ?_
      refine Ev_iload_n (x := v1) rfl dX8_again_43 ?_
      refine Ev_imul dX8_again_44 ?_
      refine Ev_iload_n (x := v2) rfl dX8_again_45 ?_
      refine Ev_iadd dX8_again_46 ?_
      obtain ⟨x7, g7, h⟩ := bsome h
      refine Ev_iald dX8_again_47 g7 ?_
      obtain ⟨M8, g8, h⟩ := bsome h
      refine Ev_iast dX8_again_48 g8 ?_
      refine Ev_iinc (x := v2) (v := (v2 + 1)) (loc2 := [some (.ref v0), some (.int v1), some (.int (v2 + 1))]) rfl (congrArg (v2 + ·) ic_1) (Nat.le_of_ble_eq_true rfl) rfl rfl dX8_again_49 ?_
      refine Ev_goto (tgt := 26) dX8_again_52 (by decide) ?_
      exact ih M8 v0 v1 (v2 + 1) h
def fX8_again (M : mM) (v0 : Nat) (v1 : Int32) : Option (Int32 × mM) :=
    if isO M v0 8 = true then
      (fX8_in M (Int32.toInt64 v1) (0 : Int64) (1 : Int64)).bind fun x2 =>
      if x2 = 0 then
        (some ((-1), M))
      else
        ((gR M v0 8 22).bind fun a4 =>
        (aI M true a4 v1).bind fun x5 =>
        if x5 = 0 then
          (some ((-3), M))
        else
          (fX8_again_c26 FUEL M v0 v1 0))
    else none
theorem oX8_again {M : mM} {v0 : Nat} {v1 : Int32} {y : (Int32 × mM)} (h : fX8_again M v0 v1 = some y) : isO M v0 8 = true := by
  unfold fX8_again at h
  exact (gsome h).1
set_option maxRecDepth 20000 in
set_option maxHeartbeats 4000000 in
theorem rX8_again {E : mE} {M : mM} {v0 : Nat} {v1 : Int32} {x : Int32} {Mf : mM} (h : fX8_again M v0 v1 = some (x, Mf)) : EvC mX8_again E 1 0 0 [.ref v0, .int v1] M (some (.int x)) Mf := by
  unfold fX8_again at h
  replace h := (gsome h).2
  refine EvC.of [some (.ref v0), some (.int v1), none] pnX8_again rfl (Nat.le_of_ble_eq_true rfl) ?_
  refine Ev_iload_n (x := v1) rfl dX8_again_0 ?_
  refine Ev_i2l dX8_again_1 ?_
  refine Ev_lconst (v := 0) (by decide) dX8_again_2 ?_
  refine Ev_lconst (v := 1) (by decide) dX8_again_3 ?_
  obtain ⟨x2, g1, h⟩ := bsome h
  refine Ev_callSi (np := 3) (vs := [.long (Int32.toInt64 v1), .long (0 : Int64), .long (1 : Int64)]) (rest := []) mdX8_in lkX8_52 (rX8_in g1) rfl rfl (Nat.le_of_ble_eq_true rfl) (Nat.le_of_ble_eq_true rfl) dX8_again_4 ?_
  refine Ev_if_ne (tgt := 12) dX8_again_7 (by decide) (fun q3 => ?_) (fun q3 => ?_)
  · rw [if_neg q3] at h
    refine Ev_aload_n (x := v0) rfl dX8_again_12 ?_
    obtain ⟨a4, g4, h⟩ := bsome h
    refine Ev_getR flX8_43 dX8_again_13 g4 ?_
    refine Ev_iload_n (x := v1) rfl dX8_again_16 ?_
    obtain ⟨x5, g5, h⟩ := bsome h
    refine Ev_zald dX8_again_17 g5 ?_
    refine Ev_if_ne (tgt := 24) dX8_again_18 (by decide) (fun q6 => ?_) (fun q6 => ?_)
    · rw [if_neg q6] at h
      refine Ev_iconst ic_0 dX8_again_24 ?_
      refine Ev_istore_n (loc2 := [some (.ref v0), some (.int v1), some (.int 0)]) (Nat.le_of_ble_eq_true rfl) rfl rfl dX8_again_25 ?_
      exact rX8_again_c26 FUEL M v0 v1 0 h
    · rw [if_pos q6] at h
      refine Ev_bipush bp_m3 dX8_again_21 ?_
      cases h
      exact Ev_iret rfl rfl dX8_again_23 ⟨rfl, rfl⟩
  · rw [if_pos q3] at h
    refine Ev_iconst ic_m1 dX8_again_10 ?_
    cases h
    exact Ev_iret rfl rfl dX8_again_11 ⟨rfl, rfl⟩
/-! TinselRiverModel.usedHouses()I -/
def fX8_usedHouses_c4 (M : mM) : Nat → Nat → Int32 → Int32 → Option Int32
  | 0, _, _, _ => none
  | n + 1, v0, v1, v2 =>
    if 4 ≤ v2 then
      (some v1)
    else
      ((fX8_inHouse M v0 0 v2).bind fun x3 =>
      if x3 = 0 then
        (fX8_usedHouses_c4 M n v0 (v1 ||| 0) (v2 + 1))
      else
        (fX8_usedHouses_c4 M n v0 (v1 ||| (1 <<< (v2 &&& 31))) (v2 + 1)))
set_option maxRecDepth 20000 in
set_option maxHeartbeats 4000000 in
theorem rX8_usedHouses_c4 {E : mE} {M : mM} {x : Int32} : ∀ (n : Nat) (v0 : Nat) (v1 : Int32) (v2 : Int32), fX8_usedHouses_c4 M n v0 v1 v2 = some x → Ev mX8_usedHouses E 3 0 0 (some (.int x)) M 4 [some (.ref v0), some (.int v1), some (.int v2)] [] M 0 0 := by
  intro n
  induction n with
  | zero => intro v0 v1 v2 h; rw [fX8_usedHouses_c4.eq_1] at h; cases h
  | succ n ih =>
    intro v0 v1 v2 h
    rw [fX8_usedHouses_c4.eq_2] at h
    refine Ev_iload_n (x := v2) rfl dX8_usedHouses_4 ?_
    refine Ev_iconst ic_4 dX8_usedHouses_5 ?_
    refine Ev_icmp_ge (tgt := 34) dX8_usedHouses_6 (by decide) (fun q1 => ?_) (fun q1 => ?_)
    · rw [if_pos q1] at h
      refine Ev_iload_n (x := v1) rfl dX8_usedHouses_34 ?_
      cases h
      exact Ev_iret rfl rfl dX8_usedHouses_35 ⟨rfl, rfl⟩
    · rw [if_neg q1] at h
      refine Ev_iload_n (x := v1) rfl dX8_usedHouses_9 ?_
      refine Ev_aload_n (x := v0) rfl dX8_usedHouses_10 ?_
      refine Ev_iconst ic_0 dX8_usedHouses_11 ?_
      refine Ev_iload_n (x := v2) rfl dX8_usedHouses_12 ?_
      obtain ⟨x3, g2, h⟩ := bsome h
      refine Ev_callVi (np := 2) (vs := [.int 0, .int v2]) (rest := [.int v1]) mdX8_inHouse lkX8_103 ⟨_, rfl, rfl⟩ (oX8_inHouse g2) (rX8_inHouse g2) rfl rfl (Nat.le_of_ble_eq_true rfl) (Nat.le_of_ble_eq_true rfl) dX8_usedHouses_13 ?_
      refine Ev_if_ne (tgt := 23) dX8_usedHouses_16 (by decide) (fun q4 => ?_) (fun q4 => ?_)
      · rw [if_neg q4] at h
        refine Ev_iconst ic_1 dX8_usedHouses_23 ?_
        refine Ev_iload_n (x := v2) rfl dX8_usedHouses_24 ?_
        refine Ev_ishl dX8_usedHouses_25 ?_
        refine Ev_ior dX8_usedHouses_26 ?_
        refine Ev_istore_n (loc2 := [some (.ref v0), some (.int (v1 ||| (1 <<< (v2 &&& 31)))), some (.int v2)]) (Nat.le_of_ble_eq_true rfl) rfl rfl dX8_usedHouses_27 ?_
        refine Ev_iinc (x := v2) (v := (v2 + 1)) (loc2 := [some (.ref v0), some (.int (v1 ||| (1 <<< (v2 &&& 31)))), some (.int (v2 + 1))]) rfl (congrArg (v2 + ·) ic_1) (Nat.le_of_ble_eq_true rfl) rfl rfl dX8_usedHouses_28 ?_
        refine Ev_goto (tgt := 4) dX8_usedHouses_31 (by decide) ?_
        exact ih v0 (v1 ||| (1 <<< (v2 &&& 31))) (v2 + 1) h
      · rw [if_pos q4] at h
        refine Ev_iconst ic_0 dX8_usedHouses_19 ?_
        refine Ev_goto (tgt := 26) dX8_usedHouses_20 (by decide) ?_
        refine Ev_ior dX8_usedHouses_26 ?_
        refine Ev_istore_n (loc2 := [some (.ref v0), some (.int (v1 ||| 0)), some (.int v2)]) (Nat.le_of_ble_eq_true rfl) rfl rfl dX8_usedHouses_27 ?_
        refine Ev_iinc (x := v2) (v := (v2 + 1)) (loc2 := [some (.ref v0), some (.int (v1 ||| 0)), some (.int (v2 + 1))]) rfl (congrArg (v2 + ·) ic_1) (Nat.le_of_ble_eq_true rfl) rfl rfl dX8_usedHouses_28 ?_
        refine Ev_goto (tgt := 4) dX8_usedHouses_31 (by decide) ?_
        exact ih v0 (v1 ||| 0) (v2 + 1) h
def fX8_usedHouses (M : mM) (v0 : Nat) : Option Int32 :=
    if isO M v0 8 = true then
      fX8_usedHouses_c4 M FUEL v0 0 0
    else none
theorem oX8_usedHouses {M : mM} {v0 : Nat} {y : Int32} (h : fX8_usedHouses M v0 = some y) : isO M v0 8 = true := by
  unfold fX8_usedHouses at h
  exact (gsome h).1
set_option maxRecDepth 20000 in
set_option maxHeartbeats 4000000 in
theorem rX8_usedHouses {E : mE} {M : mM} {v0 : Nat} {x : Int32} (h : fX8_usedHouses M v0 = some x) : EvC mX8_usedHouses E 3 0 0 [.ref v0] M (some (.int x)) M := by
  unfold fX8_usedHouses at h
  replace h := (gsome h).2
  refine EvC.of [some (.ref v0), none, none] pnX8_usedHouses rfl (Nat.le_of_ble_eq_true rfl) ?_
  refine Ev_iconst ic_0 dX8_usedHouses_0 ?_
  refine Ev_istore_n (loc2 := [some (.ref v0), some (.int 0), none]) (Nat.le_of_ble_eq_true rfl) rfl rfl dX8_usedHouses_1 ?_
  refine Ev_iconst ic_0 dX8_usedHouses_2 ?_
  refine Ev_istore_n (loc2 := [some (.ref v0), some (.int 0), some (.int 0)]) (Nat.le_of_ble_eq_true rfl) rfl rfl dX8_usedHouses_3 ?_
  exact rX8_usedHouses_c4 FUEL v0 0 0 h
/-! TinselRiverModel.count(I)I -/
def fX8_count (M : mM) (v0 : Nat) (v1 : Int32) : Option Int32 :=
    if isO M v0 8 = true then
      if v1 = 0 then
        ((gI M v0 8 8).bind fun x1 =>
        some x1)
      else
        (if v1 = 1 then
          ((gI M v0 8 0).bind fun x2 =>
          some x2)
        else
          (if v1 = 2 then
            ((fX8_whoIs M v0 0).bind fun x4 =>
            some x4)
          else
            (if v1 = 3 then
              ((fX8_bendsOfAll M v0 0).bind fun x6 =>
              some x6)
            else
              (if v1 = 4 then
                ((gR M v0 8 2).bind fun a7 =>
                (aI M false a7 56).bind fun x8 =>
                some x8)
              else
                (if v1 = 5 then
                  ((gI M v0 8 11).bind fun x9 =>
                  some x9)
                else
                  (if v1 = 6 then
                    ((fX8_usedHouses M v0).bind fun x11 =>
                    some x11)
                  else
                    (if v1 = 7 then
                      ((gI M v0 8 13).bind fun x12 =>
                      some x12)
                    else
                      (if v1 = 8 then
                        ((gI M v0 8 18).bind fun x13 =>
                        some x13)
                      else
                        (some (-2))))))))))
    else none
theorem oX8_count {M : mM} {v0 : Nat} {v1 : Int32} {y : Int32} (h : fX8_count M v0 v1 = some y) : isO M v0 8 = true := by
  unfold fX8_count at h
  exact (gsome h).1
set_option maxRecDepth 20000 in
set_option maxHeartbeats 4000000 in
theorem rX8_count {E : mE} {M : mM} {v0 : Nat} {v1 : Int32} {x : Int32} (h : fX8_count M v0 v1 = some x) : EvC mX8_count E 4 0 0 [.ref v0, .int v1] M (some (.int x)) M := by
  unfold fX8_count at h
  replace h := (gsome h).2
  refine EvC.of [some (.ref v0), some (.int v1)] pnX8_count rfl (Nat.le_of_ble_eq_true rfl) ?_
  refine Ev_iload_n (x := v1) rfl dX8_count_0 ?_
  by_cases q14 : v1 = 0
  · rw [if_pos q14] at h
    refine Ev_tswIn (tgt := 52) dX8_count_1 (by rw [q14]; decide) (by rw [q14]; decide) (by rw [q14]; rfl) (by decide) ?_
    refine Ev_aload_n (x := v0) rfl dX8_count_52 ?_
    obtain ⟨x1, g1, h⟩ := bsome h
    refine Ev_getI flX8_56 dX8_count_53 g1 ?_
    cases h
    exact Ev_iret rfl rfl dX8_count_56 ⟨rfl, rfl⟩
  · rw [if_neg q14] at h
    by_cases q15 : v1 = 1
    · rw [if_pos q15] at h
      refine Ev_tswIn (tgt := 57) dX8_count_1 (by rw [q15]; decide) (by rw [q15]; decide) (by rw [q15]; rfl) (by decide) ?_
      refine Ev_aload_n (x := v0) rfl dX8_count_57 ?_
      obtain ⟨x2, g2, h⟩ := bsome h
      refine Ev_getI flX8_89 dX8_count_58 g2 ?_
      cases h
      exact Ev_iret rfl rfl dX8_count_61 ⟨rfl, rfl⟩
    · rw [if_neg q15] at h
      by_cases q16 : v1 = 2
      · rw [if_pos q16] at h
        refine Ev_tswIn (tgt := 62) dX8_count_1 (by rw [q16]; decide) (by rw [q16]; decide) (by rw [q16]; rfl) (by decide) ?_
        refine Ev_aload_n (x := v0) rfl dX8_count_62 ?_
        refine Ev_iconst ic_0 dX8_count_63 ?_
        obtain ⟨x4, g3, h⟩ := bsome h
        refine Ev_callVi (np := 1) (vs := [.int 0]) (rest := []) mdX8_whoIs lkX8_116 ⟨_, rfl, rfl⟩ (oX8_whoIs g3) (rX8_whoIs g3) rfl rfl (Nat.le_of_ble_eq_true rfl) (Nat.le_of_ble_eq_true rfl) dX8_count_64 ?_
        cases h
        exact Ev_iret rfl rfl dX8_count_67 ⟨rfl, rfl⟩
      · rw [if_neg q16] at h
        by_cases q17 : v1 = 3
        · rw [if_pos q17] at h
          refine Ev_tswIn (tgt := 68) dX8_count_1 (by rw [q17]; decide) (by rw [q17]; decide) (by rw [q17]; rfl) (by decide) ?_
          refine Ev_aload_n (x := v0) rfl dX8_count_68 ?_
          refine Ev_iconst ic_0 dX8_count_69 ?_
          obtain ⟨x6, g5, h⟩ := bsome h
          refine Ev_callVi (np := 1) (vs := [.int 0]) (rest := []) mdX8_bendsOfAll lkX8_253 ⟨_, rfl, rfl⟩ (oX8_bendsOfAll g5) (rX8_bendsOfAll g5) rfl rfl (Nat.le_of_ble_eq_true rfl) (Nat.le_of_ble_eq_true rfl) dX8_count_70 ?_
          cases h
          exact Ev_iret rfl rfl dX8_count_73 ⟨rfl, rfl⟩
        · rw [if_neg q17] at h
          by_cases q18 : v1 = 4
          · rw [if_pos q18] at h
            refine Ev_tswIn (tgt := 74) dX8_count_1 (by rw [q18]; decide) (by rw [q18]; decide) (by rw [q18]; rfl) (by decide) ?_
            refine Ev_aload_n (x := v0) rfl dX8_count_74 ?_
            obtain ⟨a7, g7, h⟩ := bsome h
            refine Ev_getR flX8_13 dX8_count_75 g7 ?_
            refine Ev_bipush bp_56 dX8_count_78 ?_
            obtain ⟨x8, g8, h⟩ := bsome h
            refine Ev_iald dX8_count_80 g8 ?_
            cases h
            exact Ev_iret rfl rfl dX8_count_81 ⟨rfl, rfl⟩
          · rw [if_neg q18] at h
            by_cases q19 : v1 = 5
            · rw [if_pos q19] at h
              refine Ev_tswIn (tgt := 82) dX8_count_1 (by rw [q19]; decide) (by rw [q19]; decide) (by rw [q19]; rfl) (by decide) ?_
              refine Ev_aload_n (x := v0) rfl dX8_count_82 ?_
              obtain ⟨x9, g9, h⟩ := bsome h
              refine Ev_getI flX8_146 dX8_count_83 g9 ?_
              cases h
              exact Ev_iret rfl rfl dX8_count_86 ⟨rfl, rfl⟩
            · rw [if_neg q19] at h
              by_cases q20 : v1 = 6
              · rw [if_pos q20] at h
                refine Ev_tswIn (tgt := 87) dX8_count_1 (by rw [q20]; decide) (by rw [q20]; decide) (by rw [q20]; rfl) (by decide) ?_
                refine Ev_aload_n (x := v0) rfl dX8_count_87 ?_
                obtain ⟨x11, g10, h⟩ := bsome h
                refine Ev_callVi (np := 0) (vs := []) (rest := []) mdX8_usedHouses lkX8_256 ⟨_, rfl, rfl⟩ (oX8_usedHouses g10) (rX8_usedHouses g10) rfl rfl (Nat.le_of_ble_eq_true rfl) (Nat.le_of_ble_eq_true rfl) dX8_count_88 ?_
                cases h
                exact Ev_iret rfl rfl dX8_count_91 ⟨rfl, rfl⟩
              · rw [if_neg q20] at h
                by_cases q21 : v1 = 7
                · rw [if_pos q21] at h
                  refine Ev_tswIn (tgt := 92) dX8_count_1 (by rw [q21]; decide) (by rw [q21]; decide) (by rw [q21]; rfl) (by decide) ?_
                  refine Ev_aload_n (x := v0) rfl dX8_count_92 ?_
                  obtain ⟨x12, g12, h⟩ := bsome h
                  refine Ev_getI flX8_92 dX8_count_93 g12 ?_
                  cases h
                  exact Ev_iret rfl rfl dX8_count_96 ⟨rfl, rfl⟩
                · rw [if_neg q21] at h
                  by_cases q22 : v1 = 8
                  · rw [if_pos q22] at h
                    refine Ev_tswIn (tgt := 97) dX8_count_1 (by rw [q22]; decide) (by rw [q22]; decide) (by rw [q22]; rfl) (by decide) ?_
                    refine Ev_aload_n (x := v0) rfl dX8_count_97 ?_
                    obtain ⟨x13, g13, h⟩ := bsome h
                    refine Ev_getI flX8_212 dX8_count_98 g13 ?_
                    cases h
                    exact Ev_iret rfl rfl dX8_count_101 ⟨rfl, rfl⟩
                  · rw [if_neg q22] at h
                    refine Ev_tswOut (tgt := 102) dX8_count_1 (sw_out9 q14 q15 q16 q17 q18 q19 q20 q21 q22) (by decide) ?_
                    refine Ev_bipush bp_m2 dX8_count_102 ?_
                    cases h
                    exact Ev_iret rfl rfl dX8_count_104 ⟨rfl, rfl⟩
