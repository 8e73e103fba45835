/-! printed by wip/whole/gen.py -/
/-! TinselRiver.which(I)I -/
def fX7_which_c24 (k16 : mM → Nat → Int32 → Int32 → Int32 → Option (Int32 × mM)) : Nat → mM → Nat → Int32 → Int32 → Int32 → Int32 → Option (Int32 × mM)
  | 0, _, _, _, _, _, _ => none
  | n + 1, M, v0, v1, v2, v3, v4 =>
    if (1 <<< ((2 * v3) &&& 31)) ≤ v4 then
      (k16 M v0 v1 v2 (v3 + 1))
    else
      ((fX7_guessRow M v0 v4 v3).bind fun M3 =>
      (gR M3 v0 7 5).bind fun a4 =>
      (gR M3 v0 7 8).bind fun a5 =>
      (gR M3 v0 7 6).bind fun a6 =>
      (fX1_isSo M3 a4 a5 a6).bind fun x8 =>
      if x8 = 0 then
        (fX7_which_c24 k16 n M3 v0 v1 v2 v3 (v4 + 1))
      else
        (if v1 = 1 then
          ((gR M3 v0 7 8).bind fun a11 =>
          (fX2_figures M3 a11).bind fun x13 =>
          some ((Int64.toInt32 x13), M3))
        else
          (fX7_which_c24 k16 n M3 v0 v1 (v2 + 1) v3 (v4 + 1))))
set_option maxRecDepth 20000 in
set_option maxHeartbeats 4000000 in
theorem rX7_which_c24 {E : mE} {x : Int32} {Mf : mM} {k16 : mM → Nat → Int32 → Int32 → Int32 → Option (Int32 × mM)} (hk16 : ∀ (M : mM) (w0 : Nat) (w1 : Int32) (w2 : Int32) (w3 : Int32), k16 M w0 w1 w2 w3 = some (x, Mf) → Ev mX7_which E 2 0 0 (some (.int x)) Mf 16 [some (.ref w0), some (.int w1), some (.int w2), some (.int w3), none] [] M 0 0) : ∀ (n : Nat) (M : mM) (v0 : Nat) (v1 : Int32) (v2 : Int32) (v3 : Int32) (v4 : Int32), fX7_which_c24 k16 n M v0 v1 v2 v3 v4 = some (x, Mf) → Ev mX7_which E 2 0 0 (some (.int x)) Mf 24 [some (.ref v0), some (.int v1), some (.int v2), some (.int v3), some (.int v4)] [] M 0 0 := by
  intro n
  induction n with
  | zero => intro M v0 v1 v2 v3 v4 h; rw [fX7_which_c24.eq_1] at h; cases h
  | succ n ih =>
    intro M v0 v1 v2 v3 v4 h
    rw [fX7_which_c24.eq_2] at h
    refine Ev_iload (x := v4) rfl dX7_which_24 ?_
    refine Ev_iconst ic_1 dX7_which_26 ?_
    refine Ev_iconst ic_2 dX7_which_27 ?_
    refine Ev_iload_n (x := v3) rfl dX7_which_28 ?_
    refine Ev_imul dX7_which_29 ?_
    refine Ev_ishl dX7_which_30 ?_
    refine Ev_icmp_ge (tgt := 85) dX7_which_31 (by decide) (fun q1 => ?_) (fun q1 => ?_)
    · rw [if_pos q1] at h
      refine Ev_iinc (x := v3) (v := (v3 + 1)) (loc2 := [some (.ref v0), some (.int v1), some (.int v2), some (.int (v3 + 1)), some (.int v4)]) rfl (congrArg (v3 + ·) ic_1) (Nat.le_of_ble_eq_true rfl) rfl rfl dX7_which_85 ?_
      refine Ev_goto (tgt := 16) dX7_which_88 (by decide) ?_
      refine Ev_drop 4 (loc2 := [some (.ref v0), some (.int v1), some (.int v2), some (.int (v3 + 1)), none]) rfl ?_
      exact hk16 M v0 v1 v2 (v3 + 1) h
    · rw [if_neg q1] at h
      refine Ev_aload_n (x := v0) rfl dX7_which_34 ?_
      refine Ev_iload (x := v4) rfl dX7_which_35 ?_
      refine Ev_iload_n (x := v3) rfl dX7_which_37 ?_
      obtain ⟨M3, g2, h⟩ := bsome h
      refine Ev_callVv (np := 2) (vs := [.int v4, .int v3]) (rest := []) mdX7_guessRow lkX7_233 ⟨_, rfl, rfl⟩ (oX7_guessRow g2) (rX7_guessRow g2) rfl rfl (Nat.le_of_ble_eq_true rfl) (Nat.le_of_ble_eq_true rfl) dX7_which_38 ?_
      refine Ev_aload_n (x := v0) rfl dX7_which_41 ?_
      obtain ⟨a4, g4, h⟩ := bsome h
      refine Ev_getR flX7_43 dX7_which_42 g4 ?_
      refine Ev_aload_n (x := v0) rfl dX7_which_45 ?_
      obtain ⟨a5, g5, h⟩ := bsome h
      refine Ev_getR flX7_59 dX7_which_46 g5 ?_
      refine Ev_aload_n (x := v0) rfl dX7_which_49 ?_
      obtain ⟨a6, g6, h⟩ := bsome h
      refine Ev_getR flX7_52 dX7_which_50 g6 ?_
      obtain ⟨x8, g7, h⟩ := bsome h
      refine Ev_callVi (np := 2) (vs := [.ref a5, .ref a6]) (rest := []) mdX1_isSo lkX7_237 ⟨_, rfl, rfl⟩ (oX1_isSo g7) (rX1_isSo g7) rfl rfl (Nat.le_of_ble_eq_true rfl) (Nat.le_of_ble_eq_true rfl) dX7_which_53 ?_
      refine Ev_if_ne (tgt := 62) dX7_which_56 (by decide) (fun q9 => ?_) (fun q9 => ?_)
      · rw [if_neg q9] at h
        refine Ev_iload_n (x := v1) rfl dX7_which_62 ?_
        refine Ev_iconst ic_1 dX7_which_63 ?_
        refine Ev_icmp_ne (tgt := 76) dX7_which_64 (by decide) (fun q10 => ?_) (fun q10 => ?_)
        · rw [if_neg q10] at h
          refine Ev_iinc (x := v2) (v := (v2 + 1)) (loc2 := [some (.ref v0), some (.int v1), some (.int (v2 + 1)), some (.int v3), some (.int v4)]) rfl (congrArg (v2 + ·) ic_1) (Nat.le_of_ble_eq_true rfl) rfl rfl dX7_which_76 ?_
          refine Ev_iinc (x := v4) (v := (v4 + 1)) (loc2 := [some (.ref v0), some (.int v1), some (.int (v2 + 1)), some (.int v3), some (.int (v4 + 1))]) rfl (congrArg (v4 + ·) ic_1) (Nat.le_of_ble_eq_true rfl) rfl rfl dX7_which_79 ?_
          refine Ev_goto (tgt := 24) dX7_which_82 (by decide) ?_
          exact ih M3 v0 v1 (v2 + 1) v3 (v4 + 1) h
        · rw [if_pos q10] at h
          refine Ev_aload_n (x := v0) rfl dX7_which_67 ?_
          obtain ⟨a11, g11, h⟩ := bsome h
          refine Ev_getR flX7_59 dX7_which_68 g11 ?_
          obtain ⟨x13, g12, h⟩ := bsome h
          refine Ev_callVl (np := 0) (vs := []) (rest := []) mdX2_figures lkX7_132 ⟨_, rfl, rfl⟩ (oX2_figures g12) (rX2_figures g12) rfl rfl (Nat.le_of_ble_eq_true rfl) (Nat.le_of_ble_eq_true rfl) dX7_which_71 ?_
          refine Ev_l2i dX7_which_74 ?_
          cases h
          exact Ev_iret rfl rfl dX7_which_75 ⟨rfl, rfl⟩
      · rw [if_pos q9] at h
        refine Ev_goto (tgt := 79) dX7_which_59 (by decide) ?_
        refine Ev_iinc (x := v4) (v := (v4 + 1)) (loc2 := [some (.ref v0), some (.int v1), some (.int v2), some (.int v3), some (.int (v4 + 1))]) rfl (congrArg (v4 + ·) ic_1) (Nat.le_of_ble_eq_true rfl) rfl rfl dX7_which_79 ?_
        refine Ev_goto (tgt := 24) dX7_which_82 (by decide) ?_
        exact ih M3 v0 v1 v2 v3 (v4 + 1) h
def fX7_which_c16 : Nat → mM → Nat → Int32 → Int32 → Int32 → Option (Int32 × mM)
  | 0, _, _, _, _, _ => none
  | n + 1, M, v0, v1, v2, v3 =>
    if 3 < v3 then
      (if v1 = 0 then
        (some (v2, M))
      else
        (some ((-9), M)))
    else
      (fX7_which_c24 (fun M w0 w1 w2 w3 => fX7_which_c16 n M w0 w1 w2 w3) FUEL M v0 v1 v2 v3 0)
set_option maxRecDepth 20000 in
set_option maxHeartbeats 4000000 in
theorem rX7_which_c16 {E : mE} {x : Int32} {Mf : mM} : ∀ (n : Nat) (M : mM) (v0 : Nat) (v1 : Int32) (v2 : Int32) (v3 : Int32), fX7_which_c16 n M v0 v1 v2 v3 = some (x, Mf) → Ev mX7_which E 2 0 0 (some (.int x)) Mf 16 [some (.ref v0), some (.int v1), some (.int v2), some (.int v3), none] [] M 0 0 := by
  intro n
  induction n with
  | zero => intro M v0 v1 v2 v3 h; rw [fX7_which_c16.eq_1] at h; cases h
  | succ n ih =>
    intro M v0 v1 v2 v3 h
    rw [fX7_which_c16.eq_2] at h
    refine Ev_iload_n (x := v3) rfl dX7_which_16 ?_
    refine Ev_iconst ic_3 dX7_which_17 ?_
    refine Ev_icmp_gt (tgt := 91) dX7_which_18 (by decide) (fun q1 => ?_) (fun q1 => ?_)
    · rw [if_pos q1] at h
      refine Ev_iload_n (x := v1) rfl dX7_which_91 ?_
      refine Ev_if_ne (tgt := 99) dX7_which_92 (by decide) (fun q2 => ?_) (fun q2 => ?_)
      · rw [if_neg q2] at h
        refine Ev_bipush bp_m9 dX7_which_99 ?_
        cases h
        exact Ev_iret rfl rfl dX7_which_101 ⟨rfl, rfl⟩
      · rw [if_pos q2] at h
        refine Ev_iload_n (x := v2) rfl dX7_which_95 ?_
        refine Ev_goto (tgt := 101) dX7_which_96 (by decide) ?_
        cases h
        exact Ev_iret rfl rfl dX7_which_101 ⟨rfl, rfl⟩
    · rw [if_neg q1] at h
      refine Ev_iconst ic_0 dX7_which_21 ?_
      refine Ev_istore (loc2 := [some (.ref v0), some (.int v1), some (.int v2), some (.int v3), some (.int 0)]) (Nat.le_of_ble_eq_true rfl) rfl rfl dX7_which_22 ?_
      exact rX7_which_c24 (hk16 := fun M w0 w1 w2 w3 h => ih M w0 w1 w2 w3 h) FUEL M v0 v1 v2 v3 0 h
def fX7_which (M : mM) (v0 : Nat) (v1 : Int32) : Option (Int32 × mM) :=
    if isO M v0 7 = true then
      if v1 = 0 then
        (fX7_which_c16 FUEL M v0 v1 0 1)
      else
        (if v1 = 1 then
          (fX7_which_c16 FUEL M v0 v1 0 1)
        else
          (some ((-2), M)))
    else none
theorem oX7_which {M : mM} {v0 : Nat} {v1 : Int32} {y : (Int32 × mM)} (h : fX7_which M v0 v1 = some y) : isO M v0 7 = true := by
  unfold fX7_which at h
  exact (gsome h).1
set_option maxRecDepth 20000 in
set_option maxHeartbeats 4000000 in
theorem rX7_which {E : mE} {M : mM} {v0 : Nat} {v1 : Int32} {x : Int32} {Mf : mM} (h : fX7_which M v0 v1 = some (x, Mf)) : EvC mX7_which E 2 0 0 [.ref v0, .int v1] M (some (.int x)) Mf := by
  unfold fX7_which at h
  replace h := (gsome h).2
  refine EvC.of [some (.ref v0), some (.int v1), none, none, none] pnX7_which rfl (Nat.le_of_ble_eq_true rfl) ?_
  refine Ev_iload_n (x := v1) rfl dX7_which_0 ?_
  refine Ev_if_eq (tgt := 12) dX7_which_1 (by decide) (fun q1 => ?_) (fun q1 => ?_)
  · rw [if_pos q1] at h
    refine Ev_iconst ic_0 dX7_which_12 ?_
    refine Ev_istore_n (loc2 := [some (.ref v0), some (.int v1), some (.int 0), none, none]) (Nat.le_of_ble_eq_true rfl) rfl rfl dX7_which_13 ?_
    refine Ev_iconst ic_1 dX7_which_14 ?_
    refine Ev_istore_n (loc2 := [some (.ref v0), some (.int v1), some (.int 0), some (.int 1), none]) (Nat.le_of_ble_eq_true rfl) rfl rfl dX7_which_15 ?_
    exact rX7_which_c16 FUEL M v0 v1 0 1 h
  · rw [if_neg q1] at h
    refine Ev_iload_n (x := v1) rfl dX7_which_4 ?_
    refine Ev_iconst ic_1 dX7_which_5 ?_
    refine Ev_icmp_eq (tgt := 12) dX7_which_6 (by decide) (fun q2 => ?_) (fun q2 => ?_)
    · rw [if_pos q2] at h
      refine Ev_iconst ic_0 dX7_which_12 ?_
      refine Ev_istore_n (loc2 := [some (.ref v0), some (.int v1), some (.int 0), none, none]) (Nat.le_of_ble_eq_true rfl) rfl rfl dX7_which_13 ?_
      refine Ev_iconst ic_1 dX7_which_14 ?_
      refine Ev_istore_n (loc2 := [some (.ref v0), some (.int v1), some (.int 0), some (.int 1), none]) (Nat.le_of_ble_eq_true rfl) rfl rfl dX7_which_15 ?_
      exact rX7_which_c16 FUEL M v0 v1 0 1 h
    · rw [if_neg q2] at h
      refine Ev_bipush bp_m2 dX7_which_9 ?_
      cases h
      exact Ev_iret rfl rfl dX7_which_11 ⟨rfl, rfl⟩
/-! TinselRiver.coversOn(I)I -/
def fX7_coversOn_c4 (M : mM) : Nat → Nat → Int32 → Int32 → Int32 → Option Int32
  | 0, _, _, _, _ => none
  | n + 1, v0, v1, v2, v3 =>
    if 4 ≤ v3 then
      (some v2)
    else
      ((gR M v0 7 9).bind fun a2 =>
      (aI M false a2 v3).bind fun x3 =>
      fX7_coversOn_c4 M n v0 v1 (v2 + ((x3 >>> (v1 &&& 31)) &&& 1)) (v3 + 1))
set_option maxRecDepth 20000 in
set_option maxHeartbeats 4000000 in
theorem rX7_coversOn_c4 {E : mE} {M : mM} {x : Int32} : ∀ (n : Nat) (v0 : Nat) (v1 : Int32) (v2 : Int32) (v3 : Int32), fX7_coversOn_c4 M n v0 v1 v2 v3 = some x → Ev mX7_coversOn E 0 0 0 (some (.int x)) M 4 [some (.ref v0), some (.int v1), some (.int v2), some (.int v3)] [] M 0 0 := by
  intro n
  induction n with
  | zero => intro v0 v1 v2 v3 h; rw [fX7_coversOn_c4.eq_1] at h; cases h
  | succ n ih =>
    intro v0 v1 v2 v3 h
    rw [fX7_coversOn_c4.eq_2] at h
    refine Ev_iload_n (x := v3) rfl dX7_coversOn_4 ?_
    refine Ev_iconst ic_4 dX7_coversOn_5 ?_
    refine Ev_icmp_ge (tgt := 28) dX7_coversOn_6 (by decide) (fun q1 => ?_) (fun q1 => ?_)
    · rw [if_pos q1] at h
      refine Ev_iload_n (x := v2) rfl dX7_coversOn_28 ?_
      cases h
      exact Ev_iret rfl rfl dX7_coversOn_29 ⟨rfl, rfl⟩
    · rw [if_neg q1] at h
      refine Ev_iload_n (x := v2) rfl dX7_coversOn_9 ?_
      refine Ev_aload_n (x := v0) rfl dX7_coversOn_10 ?_
      obtain ⟨a2, g2, h⟩ := bsome h
      refine Ev_getR flX7_62 dX7_coversOn_11 g2 ?_
      refine Ev_iload_n (x := v3) rfl dX7_coversOn_14 ?_
      obtain ⟨x3, g3, h⟩ := bsome h
      refine Ev_iald dX7_coversOn_15 g3 ?_
      refine Ev_iload_n (x := v1) rfl dX7_coversOn_16 ?_
      refine Ev_ishr dX7_coversOn_17 ?_
      refine Ev_iconst ic_1 dX7_coversOn_18 ?_
      refine Ev_iand dX7_coversOn_19 ?_
      refine Ev_iadd dX7_coversOn_20 ?_
      refine Ev_istore_n (loc2 := [some (.ref v0), some (.int v1), some (.int (v2 + ((x3 >>> (v1 &&& 31)) &&& 1))), some (.int v3)]) (Nat.le_of_ble_eq_true rfl) rfl rfl dX7_coversOn_21 ?_
      refine Ev_iinc (x := v3) (v := (v3 + 1)) (loc2 := [some (.ref v0), some (.int v1), some (.int (v2 + ((x3 >>> (v1 &&& 31)) &&& 1))), some (.int (v3 + 1))]) rfl (congrArg (v3 + ·) ic_1) (Nat.le_of_ble_eq_true rfl) rfl rfl dX7_coversOn_22 ?_
      refine Ev_goto (tgt := 4) dX7_coversOn_25 (by decide) ?_
      exact ih v0 v1 (v2 + ((x3 >>> (v1 &&& 31)) &&& 1)) (v3 + 1) h
def fX7_coversOn (M : mM) (v0 : Nat) (v1 : Int32) : Option Int32 :=
    if isO M v0 7 = true then
      fX7_coversOn_c4 M FUEL v0 v1 0 0
    else none
theorem oX7_coversOn {M : mM} {v0 : Nat} {v1 : Int32} {y : Int32} (h : fX7_coversOn M v0 v1 = some y) : isO M v0 7 = true := by
  unfold fX7_coversOn at h
  exact (gsome h).1
set_option maxRecDepth 20000 in
set_option maxHeartbeats 4000000 in
theorem rX7_coversOn {E : mE} {M : mM} {v0 : Nat} {v1 : Int32} {x : Int32} (h : fX7_coversOn M v0 v1 = some x) : EvC mX7_coversOn E 0 0 0 [.ref v0, .int v1] M (some (.int x)) M := by
  unfold fX7_coversOn at h
  replace h := (gsome h).2
  refine EvC.of [some (.ref v0), some (.int v1), none, none] pnX7_coversOn rfl (Nat.le_of_ble_eq_true rfl) ?_
  refine Ev_iconst ic_0 dX7_coversOn_0 ?_
  refine Ev_istore_n (loc2 := [some (.ref v0), some (.int v1), some (.int 0), none]) (Nat.le_of_ble_eq_true rfl) rfl rfl dX7_coversOn_1 ?_
  refine Ev_iconst ic_0 dX7_coversOn_2 ?_
  refine Ev_istore_n (loc2 := [some (.ref v0), some (.int v1), some (.int 0), some (.int 0)]) (Nat.le_of_ble_eq_true rfl) rfl rfl dX7_coversOn_3 ?_
  exact rX7_coversOn_c4 FUEL v0 v1 0 0 h
/-! TinselRiver.commonDivisor(II)I -/
def fX7_commonDivisor_c7 (M : mM) : Nat → Int32 → Int32 → Int32 → Option Int32
  | 0, _, _, _ => none
  | n + 1, v2, v3, v4 =>
    if 64 ≤ v4 then
      (some v2)
    else
      (if v3 = 0 then
        (some v2)
      else
        (if v3 = 0 then none else
        fX7_commonDivisor_c7 M n v3 (v2 - v2 / v3 * v3) (v4 + 1)))
set_option maxRecDepth 20000 in
set_option maxHeartbeats 4000000 in
theorem rX7_commonDivisor_c7 {E : mE} {M : mM} {x : Int32} : ∀ (n : Nat) (v2 : Int32) (v3 : Int32) (v4 : Int32), fX7_commonDivisor_c7 M n v2 v3 v4 = some x → Ev mX7_commonDivisor E 0 0 0 (some (.int x)) M 7 [none, none, some (.int v2), some (.int v3), some (.int v4), none] [] M 0 0 := by
  intro n
  induction n with
  | zero => intro v2 v3 v4 h; rw [fX7_commonDivisor_c7.eq_1] at h; cases h
  | succ n ih =>
    intro v2 v3 v4 h
    rw [fX7_commonDivisor_c7.eq_2] at h
    refine Ev_iload (x := v4) rfl dX7_commonDivisor_7 ?_
    refine Ev_bipush bp_64 dX7_commonDivisor_9 ?_
    refine Ev_icmp_ge (tgt := 34) dX7_commonDivisor_11 (by decide) (fun q1 => ?_) (fun q1 => ?_)
    · rw [if_pos q1] at h
      refine Ev_iload_n (x := v2) rfl dX7_commonDivisor_34 ?_
      cases h
      exact Ev_iret rfl rfl dX7_commonDivisor_35 ⟨rfl, rfl⟩
    · rw [if_neg q1] at h
      refine Ev_iload_n (x := v3) rfl dX7_commonDivisor_14 ?_
      refine Ev_if_eq (tgt := 34) dX7_commonDivisor_15 (by decide) (fun q2 => ?_) (fun q2 => ?_)
      · rw [if_pos q2] at h
        refine Ev_iload_n (x := v2) rfl dX7_commonDivisor_34 ?_
        cases h
        exact Ev_iret rfl rfl dX7_commonDivisor_35 ⟨rfl, rfl⟩
      · rw [if_neg q2] at h
        refine Ev_iload_n (x := v2) rfl dX7_commonDivisor_18 ?_
        refine Ev_iload_n (x := v3) rfl dX7_commonDivisor_19 ?_
        obtain ⟨z3, h⟩ := nsome h
        refine Ev_irem z3 dX7_commonDivisor_20 ?_
        refine Ev_istore (loc2 := [none, none, some (.int v2), some (.int v3), some (.int v4), some (.int (v2 - v2 / v3 * v3))]) (Nat.le_of_ble_eq_true rfl) rfl rfl dX7_commonDivisor_21 ?_
        refine Ev_iload_n (x := v3) rfl dX7_commonDivisor_23 ?_
        refine Ev_istore_n (loc2 := [none, none, some (.int v3), some (.int v3), some (.int v4), some (.int (v2 - v2 / v3 * v3))]) (Nat.le_of_ble_eq_true rfl) rfl rfl dX7_commonDivisor_24 ?_
        refine Ev_iload (x := (v2 - v2 / v3 * v3)) rfl dX7_commonDivisor_25 ?_
        refine Ev_istore_n (loc2 := [none, none, some (.int v3), some (.int (v2 - v2 / v3 * v3)), some (.int v4), some (.int (v2 - v2 / v3 * v3))]) (Nat.le_of_ble_eq_true rfl) rfl rfl dX7_commonDivisor_27 ?_
        refine Ev_iinc (x := v4) (v := (v4 + 1)) (loc2 := [none, none, some (.int v3), some (.int (v2 - v2 / v3 * v3)), some (.int (v4 + 1)), some (.int (v2 - v2 / v3 * v3))]) rfl (congrArg (v4 + ·) ic_1) (Nat.le_of_ble_eq_true rfl) rfl rfl dX7_commonDivisor_28 ?_
        refine Ev_goto (tgt := 7) dX7_commonDivisor_31 (by decide) ?_
        refine Ev_drop 5 (loc2 := [none, none, some (.int v3), some (.int (v2 - v2 / v3 * v3)), some (.int (v4 + 1)), none]) rfl ?_
        exact ih v3 (v2 - v2 / v3 * v3) (v4 + 1) h
def fX7_commonDivisor (M : mM) (v0 : Int32) (v1 : Int32) : Option Int32 :=
    fX7_commonDivisor_c7 M FUEL v0 v1 0
set_option maxRecDepth 20000 in
set_option maxHeartbeats 4000000 in
theorem rX7_commonDivisor {E : mE} {M : mM} {v0 : Int32} {v1 : Int32} {x : Int32} (h : fX7_commonDivisor M v0 v1 = some x) : EvC mX7_commonDivisor E 0 0 0 [.int v0, .int v1] M (some (.int x)) M := by
  unfold fX7_commonDivisor at h
  refine EvC.of [some (.int v0), some (.int v1), none, none, none, none] pnX7_commonDivisor rfl (Nat.le_of_ble_eq_true rfl) ?_
  refine Ev_iload_n (x := v0) rfl dX7_commonDivisor_0 ?_
  refine Ev_istore_n (loc2 := [some (.int v0), some (.int v1), some (.int v0), none, none, none]) (Nat.le_of_ble_eq_true rfl) rfl rfl dX7_commonDivisor_1 ?_
  refine Ev_iload_n (x := v1) rfl dX7_commonDivisor_2 ?_
  refine Ev_istore_n (loc2 := [some (.int v0), some (.int v1), some (.int v0), some (.int v1), none, none]) (Nat.le_of_ble_eq_true rfl) rfl rfl dX7_commonDivisor_3 ?_
  refine Ev_iconst ic_0 dX7_commonDivisor_4 ?_
  refine Ev_istore (loc2 := [some (.int v0), some (.int v1), some (.int v0), some (.int v1), some (.int 0), none]) (Nat.le_of_ble_eq_true rfl) rfl rfl dX7_commonDivisor_5 ?_
  refine Ev_drop 0 (loc2 := [none, some (.int v1), some (.int v0), some (.int v1), some (.int 0), none]) rfl ?_
  refine Ev_drop 1 (loc2 := [none, none, some (.int v0), some (.int v1), some (.int 0), none]) rfl ?_
  exact rX7_commonDivisor_c7 FUEL v0 v1 0 h
/-! TinselRiver.partOfFraction(IIZ)I -/
def fX7_partOfFraction (M : mM) (v0 : Int32) (v1 : Int32) (v2 : Int32) : Option Int32 :=
    (fX7_commonDivisor M v0 v1).bind fun x2 =>
    if v2 = 0 then
      (if (if x2 < 1 then 1 else x2) = 0 then none else
      some (v1 / (if x2 < 1 then 1 else x2)))
    else
      (if (if x2 < 1 then 1 else x2) = 0 then none else
      some (v0 / (if x2 < 1 then 1 else x2)))
set_option maxRecDepth 20000 in
set_option maxHeartbeats 4000000 in
theorem rX7_partOfFraction {E : mE} {M : mM} {v0 : Int32} {v1 : Int32} {v2 : Int32} {x : Int32} (h : fX7_partOfFraction M v0 v1 v2 = some x) : EvC mX7_partOfFraction E 1 0 0 [.int v0, .int v1, .int v2] M (some (.int x)) M := by
  unfold fX7_partOfFraction at h
  refine EvC.of [some (.int v0), some (.int v1), some (.int v2), none] pnX7_partOfFraction rfl (Nat.le_of_ble_eq_true rfl) ?_
  refine Ev_iload_n (x := v0) rfl dX7_partOfFraction_0 ?_
  refine Ev_iload_n (x := v1) rfl dX7_partOfFraction_1 ?_
  obtain ⟨x2, g1, h⟩ := bsome h
  refine Ev_callSi (np := 2) (vs := [.int v0, .int v1]) (rest := []) mdX7_commonDivisor lkX7_270 (rX7_commonDivisor g1) rfl rfl (Nat.le_of_ble_eq_true rfl) (Nat.le_of_ble_eq_true rfl) dX7_partOfFraction_2 ?_
  refine Ev_iconst ic_1 dX7_partOfFraction_5 ?_
  refine Ev_mmax lkX7_246 (Nat.le_of_ble_eq_true rfl) (Nat.le_of_ble_eq_true rfl) dX7_partOfFraction_6 ?_
  refine Ev_istore_n (loc2 := [some (.int v0), some (.int v1), some (.int v2), some (.int (if x2 < 1 then 1 else x2))]) (Nat.le_of_ble_eq_true rfl) rfl rfl dX7_partOfFraction_9 ?_
  refine Ev_iload_n (x := v2) rfl dX7_partOfFraction_10 ?_
  refine Ev_if_eq (tgt := 18) dX7_partOfFraction_11 (by decide) (fun q3 => ?_) (fun q3 => ?_)
  · rw [if_pos q3] at h
    refine Ev_iload_n (x := v1) rfl dX7_partOfFraction_18 ?_
    refine Ev_iload_n (x := (if x2 < 1 then 1 else x2)) rfl dX7_partOfFraction_19 ?_
    obtain ⟨z4, h⟩ := nsome h
    refine Ev_idiv z4 dX7_partOfFraction_20 ?_
    cases h
    exact Ev_iret rfl rfl dX7_partOfFraction_21 ⟨rfl, rfl⟩
  · rw [if_neg q3] at h
    refine Ev_iload_n (x := v0) rfl dX7_partOfFraction_14 ?_
    refine Ev_goto (tgt := 19) dX7_partOfFraction_15 (by decide) ?_
    refine Ev_iload_n (x := (if x2 < 1 then 1 else x2)) rfl dX7_partOfFraction_19 ?_
    obtain ⟨z5, h⟩ := nsome h
    refine Ev_idiv z5 dX7_partOfFraction_20 ?_
    cases h
    exact Ev_iret rfl rfl dX7_partOfFraction_21 ⟨rfl, rfl⟩
/-! TinselRiver.share(IZ)I -/
def fX7_share_c22 : Nat → mM → Nat → Int32 → Int32 → Int32 → Int32 → Option (Int32 × mM)
  | 0, _, _, _, _, _, _ => none
  | n + 1, M, v0, v1, v2, v3, v4 =>
    (gR M v0 7 6).bind fun a1 =>
    (gI M a1 2 1).bind fun x2 =>
    if x2 ≤ v4 then
      ((fX7_partOfFraction M v3 12 v2).bind fun x5 =>
      some (x5, M))
    else
      ((gR M v0 7 9).bind fun a6 =>
      (aI M false a6 v1).bind fun x7 =>
      if ((x7 >>> (v4 &&& 31)) &&& 1) = 1 then
        ((fX7_coversOn M v0 v4).bind fun x10 =>
        if (if x10 < 1 then 1 else x10) = 0 then none else
        fX7_share_c22 n M v0 v1 v2 (v3 + (12 / (if x10 < 1 then 1 else x10))) (v4 + 1))
      else
        (fX7_share_c22 n M v0 v1 v2 v3 (v4 + 1)))
set_option maxRecDepth 20000 in
set_option maxHeartbeats 4000000 in
theorem rX7_share_c22 {E : mE} {x : Int32} {Mf : mM} : ∀ (n : Nat) (M : mM) (v0 : Nat) (v1 : Int32) (v2 : Int32) (v3 : Int32) (v4 : Int32), fX7_share_c22 n M v0 v1 v2 v3 v4 = some (x, Mf) → Ev mX7_share E 3 0 0 (some (.int x)) Mf 22 [some (.ref v0), some (.int v1), some (.int v2), some (.int v3), some (.int v4)] [] M 0 0 := by
  intro n
  induction n with
  | zero => intro M v0 v1 v2 v3 v4 h; rw [fX7_share_c22.eq_1] at h; cases h
  | succ n ih =>
    intro M v0 v1 v2 v3 v4 h
    rw [fX7_share_c22.eq_2] at h
    refine Ev_iload (x := v4) rfl dX7_share_22 ?_
    refine Ev_aload_n (x := v0) rfl dX7_share_24 ?_
    obtain ⟨a1, g1, h⟩ := bsome h
    refine Ev_getR flX7_52 dX7_share_25 g1 ?_
    obtain ⟨x2, g2, h⟩ := bsome h
    refine Ev_getI flX7_102 dX7_share_28 g2 ?_
    refine Ev_icmp_ge (tgt := 71) dX7_share_31 (by decide) (fun q3 => ?_) (fun q3 => ?_)
    · rw [if_pos q3] at h
      refine Ev_iload_n (x := v3) rfl dX7_share_71 ?_
      refine Ev_bipush bp_12 dX7_share_72 ?_
      refine Ev_iload_n (x := v2) rfl dX7_share_74 ?_
      obtain ⟨x5, g4, h⟩ := bsome h
      refine Ev_callSi (np := 3) (vs := [.int v3, .int 12, .int v2]) (rest := []) mdX7_partOfFraction lkX7_248 (rX7_partOfFraction g4) rfl rfl (Nat.le_of_ble_eq_true rfl) (Nat.le_of_ble_eq_true rfl) dX7_share_75 ?_
      cases h
      exact Ev_iret rfl rfl dX7_share_78 ⟨rfl, rfl⟩
    · rw [if_neg q3] at h
      refine Ev_aload_n (x := v0) rfl dX7_share_34 ?_
      obtain ⟨a6, g6, h⟩ := bsome h
      refine Ev_getR flX7_62 dX7_share_35 g6 ?_
      refine Ev_iload_n (x := v1) rfl dX7_share_38 ?_
      obtain ⟨x7, g7, h⟩ := bsome h
      refine Ev_iald dX7_share_39 g7 ?_
      refine Ev_iload (x := v4) rfl dX7_share_40 ?_
      refine Ev_ishr dX7_share_42 ?_
      refine Ev_iconst ic_1 dX7_share_43 ?_
      refine Ev_iand dX7_share_44 ?_
      refine Ev_iconst ic_1 dX7_share_45 ?_
      refine Ev_icmp_ne (tgt := 65) dX7_share_46 (by decide) (fun q8 => ?_) (fun q8 => ?_)
      · rw [if_neg q8] at h
        refine Ev_iinc (x := v4) (v := (v4 + 1)) (loc2 := [some (.ref v0), some (.int v1), some (.int v2), some (.int v3), some (.int (v4 + 1))]) rfl (congrArg (v4 + ·) ic_1) (Nat.le_of_ble_eq_true rfl) rfl rfl dX7_share_65 ?_
        refine Ev_goto (tgt := 22) dX7_share_68 (by decide) ?_
        exact ih M v0 v1 v2 v3 (v4 + 1) h
      · rw [if_pos q8] at h
        refine Ev_iload_n (x := v3) rfl dX7_share_49 ?_
        refine Ev_bipush bp_12 dX7_share_50 ?_
        refine Ev_aload_n (x := v0) rfl dX7_share_52 ?_
        refine Ev_iload (x := v4) rfl dX7_share_53 ?_
        obtain ⟨x10, g9, h⟩ := bsome h
        refine Ev_callVi (np := 1) (vs := [.int v4]) (rest := [.int 12, .int v3]) mdX7_coversOn lkX7_243 ⟨_, rfl, rfl⟩ (oX7_coversOn g9) (rX7_coversOn g9) rfl rfl (Nat.le_of_ble_eq_true rfl) (Nat.le_of_ble_eq_true rfl) dX7_share_55 ?_
        refine Ev_iconst ic_1 dX7_share_58 ?_
        refine Ev_mmax lkX7_246 (Nat.le_of_ble_eq_true rfl) (Nat.le_of_ble_eq_true rfl) dX7_share_59 ?_
        obtain ⟨z11, h⟩ := nsome h
        refine Ev_idiv z11 dX7_share_62 ?_
        refine Ev_iadd dX7_share_63 ?_
        refine Ev_istore_n (loc2 := [some (.ref v0), some (.int v1), some (.int v2), some (.int (v3 + (12 / (if x10 < 1 then 1 else x10)))), some (.int v4)]) (Nat.le_of_ble_eq_true rfl) rfl rfl dX7_share_64 ?_
        refine Ev_iinc (x := v4) (v := (v4 + 1)) (loc2 := [some (.ref v0), some (.int v1), some (.int v2), some (.int (v3 + (12 / (if x10 < 1 then 1 else x10)))), some (.int (v4 + 1))]) rfl (congrArg (v4 + ·) ic_1) (Nat.le_of_ble_eq_true rfl) rfl rfl dX7_share_65 ?_
        refine Ev_goto (tgt := 22) dX7_share_68 (by decide) ?_
        exact ih M v0 v1 v2 (v3 + (12 / (if x10 < 1 then 1 else x10))) (v4 + 1) h
def fX7_share (M : mM) (v0 : Nat) (v1 : Int32) (v2 : Int32) : Option (Int32 × mM) :=
    if isO M v0 7 = true then
      (gR M v0 7 1).bind fun a1 =>
      (fX6_has M a1 v1).bind fun x3 =>
      if x3 = 0 then
        (some ((-1), M))
      else
        ((fX7_findCovers M v0).bind fun M6 =>
        fX7_share_c22 FUEL M6 v0 v1 v2 0 0)
    else none
theorem oX7_share {M : mM} {v0 : Nat} {v1 : Int32} {v2 : Int32} {y : (Int32 × mM)} (h : fX7_share M v0 v1 v2 = some y) : isO M v0 7 = true := by
  unfold fX7_share at h
  exact (gsome h).1
set_option maxRecDepth 20000 in
set_option maxHeartbeats 4000000 in
theorem rX7_share {E : mE} {M : mM} {v0 : Nat} {v1 : Int32} {v2 : Int32} {x : Int32} {Mf : mM} (h : fX7_share M v0 v1 v2 = some (x, Mf)) : EvC mX7_share E 3 0 0 [.ref v0, .int v1, .int v2] M (some (.int x)) Mf := by
  unfold fX7_share at h
  replace h := (gsome h).2
  refine EvC.of [some (.ref v0), some (.int v1), some (.int v2), none, none] pnX7_share rfl (Nat.le_of_ble_eq_true rfl) ?_
  refine Ev_aload_n (x := v0) rfl dX7_share_0 ?_
  obtain ⟨a1, g1, h⟩ := bsome h
  refine Ev_getR flX7_19 dX7_share_1 g1 ?_
  refine Ev_iload_n (x := v1) rfl dX7_share_4 ?_
  obtain ⟨x3, g2, h⟩ := bsome h
  refine Ev_callVi (np := 1) (vs := [.int v1]) (rest := []) mdX6_has lkX7_109 ⟨_, rfl, rfl⟩ (oX6_has g2) (rX6_has g2) rfl rfl (Nat.le_of_ble_eq_true rfl) (Nat.le_of_ble_eq_true rfl) dX7_share_5 ?_
  refine Ev_if_ne (tgt := 13) dX7_share_8 (by decide) (fun q4 => ?_) (fun q4 => ?_)
  · rw [if_neg q4] at h
    refine Ev_aload_n (x := v0) rfl dX7_share_13 ?_
    obtain ⟨M6, g5, h⟩ := bsome h
    refine Ev_callVv (np := 0) (vs := []) (rest := []) mdX7_findCovers lkX7_198 ⟨_, rfl, rfl⟩ (oX7_findCovers g5) (rX7_findCovers g5) rfl rfl (Nat.le_of_ble_eq_true rfl) (Nat.le_of_ble_eq_true rfl) dX7_share_14 ?_
    refine Ev_iconst ic_0 dX7_share_17 ?_
    refine Ev_istore_n (loc2 := [some (.ref v0), some (.int v1), some (.int v2), some (.int 0), none]) (Nat.le_of_ble_eq_true rfl) rfl rfl dX7_share_18 ?_
    refine Ev_iconst ic_0 dX7_share_19 ?_
    refine Ev_istore (loc2 := [some (.ref v0), some (.int v1), some (.int v2), some (.int 0), some (.int 0)]) (Nat.le_of_ble_eq_true rfl) rfl rfl dX7_share_20 ?_
    exact rX7_share_c22 FUEL M6 v0 v1 v2 0 0 h
  · rw [if_pos q4] at h
    refine Ev_iconst ic_m1 dX7_share_11 ?_
    cases h
    exact Ev_iret rfl rfl dX7_share_12 ⟨rfl, rfl⟩
/-! TinselRiver.gainOf(I)I -/
def fX7_gainOf (M : mM) (v0 : Nat) (v1 : Int32) : Option Int32 :=
    if isO M v0 7 = true then
      (gR M v0 7 2).bind fun a1 =>
      (gR M a1 6 0).bind fun a2 =>
      (qI M false a2 v1).bind fun a3 =>
      (gI M a3 4 1).bind fun x4 =>
      (gR M v0 7 1).bind fun a5 =>
      (gR M a5 6 0).bind fun a6 =>
      (qI M false a6 v1).bind fun a7 =>
      (gI M a7 4 1).bind fun x8 =>
      if x4 = x8 then
        ((gR M v0 7 2).bind fun a15 =>
        (gR M a15 6 0).bind fun a16 =>
        (qI M false a16 v1).bind fun a17 =>
        (gR M a17 4 0).bind fun a18 =>
        (gI M a18 2 1).bind fun x19 =>
        some ((2 * x19) + 1))
      else
        ((gR M v0 7 2).bind fun a10 =>
        (gR M a10 6 0).bind fun a11 =>
        (qI M false a11 v1).bind fun a12 =>
        (gR M a12 4 0).bind fun a13 =>
        (gI M a13 2 1).bind fun x14 =>
        some ((2 * x14) + 0))
    else none
theorem oX7_gainOf {M : mM} {v0 : Nat} {v1 : Int32} {y : Int32} (h : fX7_gainOf M v0 v1 = some y) : isO M v0 7 = true := by
  unfold fX7_gainOf at h
  exact (gsome h).1
set_option maxRecDepth 20000 in
set_option maxHeartbeats 4000000 in
theorem rX7_gainOf {E : mE} {M : mM} {v0 : Nat} {v1 : Int32} {x : Int32} (h : fX7_gainOf M v0 v1 = some x) : EvC mX7_gainOf E 0 0 0 [.ref v0, .int v1] M (some (.int x)) M := by
  unfold fX7_gainOf at h
  replace h := (gsome h).2
  refine EvC.of [some (.ref v0), some (.int v1), none] pnX7_gainOf rfl (Nat.le_of_ble_eq_true rfl) ?_
  refine Ev_aload_n (x := v0) rfl dX7_gainOf_0 ?_
  obtain ⟨a1, g1, h⟩ := bsome h
  refine Ev_getR flX7_23 dX7_gainOf_1 g1 ?_
  obtain ⟨a2, g2, h⟩ := bsome h
  refine Ev_getR flX7_113 dX7_gainOf_4 g2 ?_
  refine Ev_iload_n (x := v1) rfl dX7_gainOf_7 ?_
  obtain ⟨a3, g3, h⟩ := bsome h
  refine Ev_aald dX7_gainOf_8 g3 ?_
  obtain ⟨x4, g4, h⟩ := bsome h
  refine Ev_getI flX7_117 dX7_gainOf_9 g4 ?_
  refine Ev_aload_n (x := v0) rfl dX7_gainOf_12 ?_
  obtain ⟨a5, g5, h⟩ := bsome h
  refine Ev_getR flX7_19 dX7_gainOf_13 g5 ?_
  obtain ⟨a6, g6, h⟩ := bsome h
  refine Ev_getR flX7_113 dX7_gainOf_16 g6 ?_
  refine Ev_iload_n (x := v1) rfl dX7_gainOf_19 ?_
  obtain ⟨a7, g7, h⟩ := bsome h
  refine Ev_aald dX7_gainOf_20 g7 ?_
  obtain ⟨x8, g8, h⟩ := bsome h
  refine Ev_getI flX7_117 dX7_gainOf_21 g8 ?_
  refine Ev_icmp_ne (tgt := 31) dX7_gainOf_24 (by decide) (fun q9 => ?_) (fun q9 => ?_)
  · rw [if_neg q9] at h
    refine Ev_iconst ic_0 dX7_gainOf_31 ?_
    refine Ev_istore_n (loc2 := [some (.ref v0), some (.int v1), some (.int 0)]) (Nat.le_of_ble_eq_true rfl) rfl rfl dX7_gainOf_32 ?_
    refine Ev_iconst ic_2 dX7_gainOf_33 ?_
    refine Ev_aload_n (x := v0) rfl dX7_gainOf_34 ?_
    obtain ⟨a10, g10, h⟩ := bsome h
    refine Ev_getR flX7_23 dX7_gainOf_35 g10 ?_
    obtain ⟨a11, g11, h⟩ := bsome h
    refine Ev_getR flX7_113 dX7_gainOf_38 g11 ?_
    refine Ev_iload_n (x := v1) rfl dX7_gainOf_41 ?_
    obtain ⟨a12, g12, h⟩ := bsome h
    refine Ev_aald dX7_gainOf_42 g12 ?_
    obtain ⟨a13, g13, h⟩ := bsome h
    refine Ev_getR flX7_125 dX7_gainOf_43 g13 ?_
    obtain ⟨x14, g14, h⟩ := bsome h
    refine Ev_getI flX7_102 dX7_gainOf_46 g14 ?_
    refine Ev_imul dX7_gainOf_49 ?_
    refine Ev_iload_n (x := 0) rfl dX7_gainOf_50 ?_
    refine Ev_iadd dX7_gainOf_51 ?_
    cases h
    exact Ev_iret rfl rfl dX7_gainOf_52 ⟨rfl, rfl⟩
  · rw [if_pos q9] at h
    refine Ev_iconst ic_1 dX7_gainOf_27 ?_
    refine Ev_goto (tgt := 32) dX7_gainOf_28 (by decide) ?_
    refine Ev_istore_n (loc2 := [some (.ref v0), some (.int v1), some (.int 1)]) (Nat.le_of_ble_eq_true rfl) rfl rfl dX7_gainOf_32 ?_
    refine Ev_iconst ic_2 dX7_gainOf_33 ?_
    refine Ev_aload_n (x := v0) rfl dX7_gainOf_34 ?_
    obtain ⟨a15, g15, h⟩ := bsome h
    refine Ev_getR flX7_23 dX7_gainOf_35 g15 ?_
    obtain ⟨a16, g16, h⟩ := bsome h
    refine Ev_getR flX7_113 dX7_gainOf_38 g16 ?_
    refine Ev_iload_n (x := v1) rfl dX7_gainOf_41 ?_
    obtain ⟨a17, g17, h⟩ := bsome h
    refine Ev_aald dX7_gainOf_42 g17 ?_
    obtain ⟨a18, g18, h⟩ := bsome h
    refine Ev_getR flX7_125 dX7_gainOf_43 g18 ?_
    obtain ⟨x19, g19, h⟩ := bsome h
    refine Ev_getI flX7_102 dX7_gainOf_46 g19 ?_
    refine Ev_imul dX7_gainOf_49 ?_
    refine Ev_iload_n (x := 1) rfl dX7_gainOf_50 ?_
    refine Ev_iadd dX7_gainOf_51 ?_
    cases h
    exact Ev_iret rfl rfl dX7_gainOf_52 ⟨rfl, rfl⟩
/-! TinselRiver.findGains(II)V -/
def fX7_findGains_c2 : Nat → mM → Nat → Int32 → Int32 → Int32 → Option mM
  | 0, _, _, _, _, _ => none
  | n + 1, M, v0, v1, v2, v3 =>
    if 16 ≤ v3 then
      (some M)
    else
      ((gR M v0 7 2).bind fun a2 =>
      (gR M v0 7 1).bind fun a3 =>
      (fX6_setTo M a2 a3).bind fun M5 =>
      (gR M5 v0 7 2).bind fun a6 =>
      (gR M5 a6 6 0).bind fun a7 =>
      (qI M5 false a7 v1).bind fun a8 =>
      (sV M5 a8 4 1 (.int (v3 / 4))).bind fun M9 =>
      (gR M9 v0 7 2).bind fun a10 =>
      (gR M9 a10 6 0).bind fun a11 =>
      (qI M9 false a11 v2).bind fun a12 =>
      (sV M9 a12 4 1 (.int (v3 - v3 / 4 * 4))).bind fun M13 =>
      (gR M13 v0 7 2).bind fun a14 =>
      (fX6_passWinter M13 a14).bind fun p16 =>
      (gR p16.2 v0 7 10).bind fun a17 =>
      (fX7_gainOf p16.2 v0 v1).bind fun x19 =>
      (aS p16.2 false a17 v3 x19).bind fun M20 =>
      (gR M20 v0 7 11).bind fun a21 =>
      (fX7_gainOf M20 v0 v2).bind fun x23 =>
      (aS M20 false a21 v3 x23).bind fun M24 =>
      fX7_findGains_c2 n M24 v0 v1 v2 (v3 + 1))
set_option maxRecDepth 20000 in
set_option maxHeartbeats 4000000 in
theorem rX7_findGains_c2 {E : mE} {Mf : mM} : ∀ (n : Nat) (M : mM) (v0 : Nat) (v1 : Int32) (v2 : Int32) (v3 : Int32), fX7_findGains_c2 n M v0 v1 v2 v3 = some Mf → Ev mX7_findGains E 4 0 0 none Mf 2 [some (.ref v0), some (.int v1), some (.int v2), some (.int v3)] [] M 0 0 := by
  intro n
  induction n with
  | zero => intro M v0 v1 v2 v3 h; rw [fX7_findGains_c2.eq_1] at h; cases h
  | succ n ih =>
    intro M v0 v1 v2 v3 h
    rw [fX7_findGains_c2.eq_2] at h
    refine Ev_iload_n (x := v3) rfl dX7_findGains_2 ?_
    refine Ev_bipush bp_16 dX7_findGains_3 ?_
    refine Ev_icmp_ge (tgt := 85) dX7_findGains_5 (by decide) (fun q1 => ?_) (fun q1 => ?_)
    · rw [if_pos q1] at h
      cases h
      exact Ev_vret rfl dX7_findGains_85 ⟨rfl, rfl⟩
    · rw [if_neg q1] at h
      refine Ev_aload_n (x := v0) rfl dX7_findGains_8 ?_
      obtain ⟨a2, g2, h⟩ := bsome h
      refine Ev_getR flX7_23 dX7_findGains_9 g2 ?_
      refine Ev_aload_n (x := v0) rfl dX7_findGains_12 ?_
      obtain ⟨a3, g3, h⟩ := bsome h
      refine Ev_getR flX7_19 dX7_findGains_13 g3 ?_
      obtain ⟨M5, g4, h⟩ := bsome h
      refine Ev_callVv (np := 1) (vs := [.ref a3]) (rest := []) mdX6_setTo lkX7_142 ⟨_, rfl, rfl⟩ (oX6_setTo g4) (rX6_setTo g4) rfl rfl (Nat.le_of_ble_eq_true rfl) (Nat.le_of_ble_eq_true rfl) dX7_findGains_16 ?_
      refine Ev_aload_n (x := v0) rfl dX7_findGains_19 ?_
      obtain ⟨a6, g6, h⟩ := bsome h
      refine Ev_getR flX7_23 dX7_findGains_20 g6 ?_
      obtain ⟨a7, g7, h⟩ := bsome h
      refine Ev_getR flX7_113 dX7_findGains_23 g7 ?_
      refine Ev_iload_n (x := v1) rfl dX7_findGains_26 ?_
      obtain ⟨a8, g8, h⟩ := bsome h
      refine Ev_aald dX7_findGains_27 g8 ?_
      refine Ev_iload_n (x := v3) rfl dX7_findGains_28 ?_
      refine Ev_iconst ic_4 dX7_findGains_29 ?_
      refine Ev_idiv (by decide) dX7_findGains_30 ?_
      obtain ⟨M9, g9, h⟩ := bsome h
      refine Ev_put (v := .int (v3 / 4)) flX7_117 ⟨rfl, rfl⟩ (fun q hq => by cases hq; exact Or.inl rfl) dX7_findGains_31 g9 ?_
      refine Ev_aload_n (x := v0) rfl dX7_findGains_34 ?_
      obtain ⟨a10, g10, h⟩ := bsome h
      refine Ev_getR flX7_23 dX7_findGains_35 g10 ?_
      obtain ⟨a11, g11, h⟩ := bsome h
      refine Ev_getR flX7_113 dX7_findGains_38 g11 ?_
      refine Ev_iload_n (x := v2) rfl dX7_findGains_41 ?_
      obtain ⟨a12, g12, h⟩ := bsome h
      refine Ev_aald dX7_findGains_42 g12 ?_
      refine Ev_iload_n (x := v3) rfl dX7_findGains_43 ?_
      refine Ev_iconst ic_4 dX7_findGains_44 ?_
      refine Ev_irem (by decide) dX7_findGains_45 ?_
      obtain ⟨M13, g13, h⟩ := bsome h
      refine Ev_put (v := .int (v3 - v3 / 4 * 4)) flX7_117 ⟨rfl, rfl⟩ (fun q hq => by cases hq; exact Or.inl rfl) dX7_findGains_46 g13 ?_
      refine Ev_aload_n (x := v0) rfl dX7_findGains_49 ?_
      obtain ⟨a14, g14, h⟩ := bsome h
      refine Ev_getR flX7_23 dX7_findGains_50 g14 ?_
      obtain ⟨p16, g15, h⟩ := bsome h
      refine Ev_callVi (np := 0) (vs := []) (rest := []) mdX6_passWinter lkX7_145 ⟨_, rfl, rfl⟩ (oX6_passWinter g15) (rX6_passWinter g15) rfl rfl (Nat.le_of_ble_eq_true rfl) (Nat.le_of_ble_eq_true rfl) dX7_findGains_53 ?_
      refine Ev_pop rfl dX7_findGains_56 ?_
      refine Ev_aload_n (x := v0) rfl dX7_findGains_57 ?_
      obtain ⟨a17, g17, h⟩ := bsome h
      refine Ev_getR flX7_66 dX7_findGains_58 g17 ?_
      refine Ev_iload_n (x := v3) rfl dX7_findGains_61 ?_
      refine Ev_aload_n (x := v0) rfl dX7_findGains_62 ?_
      refine Ev_iload_n (x := v1) rfl dX7_findGains_63 ?_
      obtain ⟨x19, g18, h⟩ := bsome h
      refine Ev_callVi (np := 1) (vs := [.int v1]) (rest := [.int v3, .ref a17]) mdX7_gainOf lkX7_258 ⟨_, rfl, rfl⟩ (oX7_gainOf g18) (rX7_gainOf g18) rfl rfl (Nat.le_of_ble_eq_true rfl) (Nat.le_of_ble_eq_true rfl) dX7_findGains_64 ?_
      obtain ⟨M20, g20, h⟩ := bsome h
      refine Ev_iast dX7_findGains_67 g20 ?_
      refine Ev_aload_n (x := v0) rfl dX7_findGains_68 ?_
      obtain ⟨a21, g21, h⟩ := bsome h
      refine Ev_getR flX7_69 dX7_findGains_69 g21 ?_
      refine Ev_iload_n (x := v3) rfl dX7_findGains_72 ?_
      refine Ev_aload_n (x := v0) rfl dX7_findGains_73 ?_
      refine Ev_iload_n (x := v2) rfl dX7_findGains_74 ?_
      obtain ⟨x23, g22, h⟩ := bsome h
      refine Ev_callVi (np := 1) (vs := [.int v2]) (rest := [.int v3, .ref a21]) mdX7_gainOf lkX7_258 ⟨_, rfl, rfl⟩ (oX7_gainOf g22) (rX7_gainOf g22) rfl rfl (Nat.le_of_ble_eq_true rfl) (Nat.le_of_ble_eq_true rfl) dX7_findGains_75 ?_
      obtain ⟨M24, g24, h⟩ := bsome h
      refine Ev_iast dX7_findGains_78 g24 ?_
      refine Ev_iinc (x := v3) (v := (v3 + 1)) (loc2 := [some (.ref v0), some (.int v1), some (.int v2), some (.int (v3 + 1))]) rfl (congrArg (v3 + ·) ic_1) (Nat.le_of_ble_eq_true rfl) rfl rfl dX7_findGains_79 ?_
      refine Ev_goto (tgt := 2) dX7_findGains_82 (by decide) ?_
      exact ih M24 v0 v1 v2 (v3 + 1) h
def fX7_findGains (M : mM) (v0 : Nat) (v1 : Int32) (v2 : Int32) : Option mM :=
    if isO M v0 7 = true then
      fX7_findGains_c2 FUEL M v0 v1 v2 0
    else none
theorem oX7_findGains {M : mM} {v0 : Nat} {v1 : Int32} {v2 : Int32} {y : mM} (h : fX7_findGains M v0 v1 v2 = some y) : isO M v0 7 = true := by
  unfold fX7_findGains at h
  exact (gsome h).1
set_option maxRecDepth 20000 in
set_option maxHeartbeats 4000000 in
theorem rX7_findGains {E : mE} {M : mM} {v0 : Nat} {v1 : Int32} {v2 : Int32} {Mf : mM} (h : fX7_findGains M v0 v1 v2 = some Mf) : EvC mX7_findGains E 4 0 0 [.ref v0, .int v1, .int v2] M none Mf := by
  unfold fX7_findGains at h
  replace h := (gsome h).2
  refine EvC.of [some (.ref v0), some (.int v1), some (.int v2), none] pnX7_findGains rfl (Nat.le_of_ble_eq_true rfl) ?_
  refine Ev_iconst ic_0 dX7_findGains_0 ?_
  refine Ev_istore_n (loc2 := [some (.ref v0), some (.int v1), some (.int v2), some (.int 0)]) (Nat.le_of_ble_eq_true rfl) rfl rfl dX7_findGains_1 ?_
  exact rX7_findGains_c2 FUEL M v0 v1 v2 0 h
/-! TinselRiver.isRest(I)Z -/
def fX7_isRest_c11 (M : mM) : Nat → Nat → Int32 → Int32 → Int32 → Int32 → Option Int32
  | 0, _, _, _, _, _ => none
  | n + 1, v0, v1, v2, v3, v4 =>
    if 4 ≤ v4 then
      (some 1)
    else
      ((gR M v0 7 10).bind fun a2 =>
      (aI M false a2 ((4 * v4) + v3)).bind fun x3 =>
      (gR M v0 7 10).bind fun a4 =>
      (aI M false a4 v1).bind fun x5 =>
      if x5 < x3 then
        (some 0)
      else
        ((gR M v0 7 11).bind fun a7 =>
        (aI M false a7 ((4 * v2) + v4)).bind fun x8 =>
        (gR M v0 7 11).bind fun a9 =>
        (aI M false a9 v1).bind fun x10 =>
        if x8 ≤ x10 then
          (fX7_isRest_c11 M n v0 v1 v2 v3 (v4 + 1))
        else
          (some 0)))
set_option maxRecDepth 20000 in
set_option maxHeartbeats 4000000 in
theorem rX7_isRest_c11 {E : mE} {M : mM} {x : Int32} : ∀ (n : Nat) (v0 : Nat) (v1 : Int32) (v2 : Int32) (v3 : Int32) (v4 : Int32), fX7_isRest_c11 M n v0 v1 v2 v3 v4 = some x → Ev mX7_isRest E 0 0 0 (some (.int x)) M 11 [some (.ref v0), some (.int v1), some (.int v2), some (.int v3), some (.int v4)] [] M 0 0 := by
  intro n
  induction n with
  | zero => intro v0 v1 v2 v3 v4 h; rw [fX7_isRest_c11.eq_1] at h; cases h
  | succ n ih =>
    intro v0 v1 v2 v3 v4 h
    rw [fX7_isRest_c11.eq_2] at h
    refine Ev_iload (x := v4) rfl dX7_isRest_11 ?_
    refine Ev_iconst ic_4 dX7_isRest_13 ?_
    refine Ev_icmp_ge (tgt := 65) dX7_isRest_14 (by decide) (fun q1 => ?_) (fun q1 => ?_)
    · rw [if_pos q1] at h
      refine Ev_iconst ic_1 dX7_isRest_65 ?_
      cases h
      exact Ev_iret rfl rfl dX7_isRest_66 ⟨rfl, rfl⟩
    · rw [if_neg q1] at h
      refine Ev_aload_n (x := v0) rfl dX7_isRest_17 ?_
      obtain ⟨a2, g2, h⟩ := bsome h
      refine Ev_getR flX7_66 dX7_isRest_18 g2 ?_
      refine Ev_iconst ic_4 dX7_isRest_21 ?_
      refine Ev_iload (x := v4) rfl dX7_isRest_22 ?_
      refine Ev_imul dX7_isRest_24 ?_
      refine Ev_iload_n (x := v3) rfl dX7_isRest_25 ?_
      refine Ev_iadd dX7_isRest_26 ?_
      obtain ⟨x3, g3, h⟩ := bsome h
      refine Ev_iald dX7_isRest_27 g3 ?_
      refine Ev_aload_n (x := v0) rfl dX7_isRest_28 ?_
      obtain ⟨a4, g4, h⟩ := bsome h
      refine Ev_getR flX7_66 dX7_isRest_29 g4 ?_
      refine Ev_iload_n (x := v1) rfl dX7_isRest_32 ?_
      obtain ⟨x5, g5, h⟩ := bsome h
      refine Ev_iald dX7_isRest_33 g5 ?_
      refine Ev_icmp_gt (tgt := 57) dX7_isRest_34 (by decide) (fun q6 => ?_) (fun q6 => ?_)
      · rw [if_pos q6] at h
        refine Ev_iconst ic_0 dX7_isRest_57 ?_
        cases h
        exact Ev_iret rfl rfl dX7_isRest_58 ⟨rfl, rfl⟩
      · rw [if_neg q6] at h
        refine Ev_aload_n (x := v0) rfl dX7_isRest_37 ?_
        obtain ⟨a7, g7, h⟩ := bsome h
        refine Ev_getR flX7_69 dX7_isRest_38 g7 ?_
        refine Ev_iconst ic_4 dX7_isRest_41 ?_
        refine Ev_iload_n (x := v2) rfl dX7_isRest_42 ?_
        refine Ev_imul dX7_isRest_43 ?_
        refine Ev_iload (x := v4) rfl dX7_isRest_44 ?_
        refine Ev_iadd dX7_isRest_46 ?_
        obtain ⟨x8, g8, h⟩ := bsome h
        refine Ev_iald dX7_isRest_47 g8 ?_
        refine Ev_aload_n (x := v0) rfl dX7_isRest_48 ?_
        obtain ⟨a9, g9, h⟩ := bsome h
        refine Ev_getR flX7_69 dX7_isRest_49 g9 ?_
        refine Ev_iload_n (x := v1) rfl dX7_isRest_52 ?_
        obtain ⟨x10, g10, h⟩ := bsome h
        refine Ev_iald dX7_isRest_53 g10 ?_
        refine Ev_icmp_le (tgt := 59) dX7_isRest_54 (by decide) (fun q11 => ?_) (fun q11 => ?_)
        · rw [if_pos q11] at h
          refine Ev_iinc (x := v4) (v := (v4 + 1)) (loc2 := [some (.ref v0), some (.int v1), some (.int v2), some (.int v3), some (.int (v4 + 1))]) rfl (congrArg (v4 + ·) ic_1) (Nat.le_of_ble_eq_true rfl) rfl rfl dX7_isRest_59 ?_
          refine Ev_goto (tgt := 11) dX7_isRest_62 (by decide) ?_
          exact ih v0 v1 v2 v3 (v4 + 1) h
        · rw [if_neg q11] at h
          refine Ev_iconst ic_0 dX7_isRest_57 ?_
          cases h
          exact Ev_iret rfl rfl dX7_isRest_58 ⟨rfl, rfl⟩
def fX7_isRest (M : mM) (v0 : Nat) (v1 : Int32) : Option Int32 :=
    if isO M v0 7 = true then
      fX7_isRest_c11 M FUEL v0 v1 (v1 / 4) (v1 - v1 / 4 * 4) 0
    else none
theorem oX7_isRest {M : mM} {v0 : Nat} {v1 : Int32} {y : Int32} (h : fX7_isRest M v0 v1 = some y) : isO M v0 7 = true := by
  unfold fX7_isRest at h
  exact (gsome h).1
set_option maxRecDepth 20000 in
set_option maxHeartbeats 4000000 in
theorem rX7_isRest {E : mE} {M : mM} {v0 : Nat} {v1 : Int32} {x : Int32} (h : fX7_isRest M v0 v1 = some x) : EvC mX7_isRest E 0 0 0 [.ref v0, .int v1] M (some (.int x)) M := by
  unfold fX7_isRest at h
  replace h := (gsome h).2
  refine EvC.of [some (.ref v0), some (.int v1), none, none, none] pnX7_isRest rfl (Nat.le_of_ble_eq_true rfl) ?_
  refine Ev_iload_n (x := v1) rfl dX7_isRest_0 ?_
  refine Ev_iconst ic_4 dX7_isRest_1 ?_
  refine Ev_idiv (by decide) dX7_isRest_2 ?_
  refine Ev_istore_n (loc2 := [some (.ref v0), some (.int v1), some (.int (v1 / 4)), none, none]) (Nat.le_of_ble_eq_true rfl) rfl rfl dX7_isRest_3 ?_
  refine Ev_iload_n (x := v1) rfl dX7_isRest_4 ?_
  refine Ev_iconst ic_4 dX7_isRest_5 ?_
  refine Ev_irem (by decide) dX7_isRest_6 ?_
  refine Ev_istore_n (loc2 := [some (.ref v0), some (.int v1), some (.int (v1 / 4)), some (.int (v1 - v1 / 4 * 4)), none]) (Nat.le_of_ble_eq_true rfl) rfl rfl dX7_isRest_7 ?_
  refine Ev_iconst ic_0 dX7_isRest_8 ?_
  refine Ev_istore (loc2 := [some (.ref v0), some (.int v1), some (.int (v1 / 4)), some (.int (v1 - v1 / 4 * 4)), some (.int 0)]) (Nat.le_of_ble_eq_true rfl) rfl rfl dX7_isRest_9 ?_
  exact rX7_isRest_c11 FUEL v0 v1 (v1 / 4) (v1 - v1 / 4 * 4) 0 h
