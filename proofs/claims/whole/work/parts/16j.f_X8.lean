/-! printed by wip/whole/gen.py -/
/-! TinselRiverModel.which(I)I -/
def fX8_which_c21 (M : mM) : Nat → Nat → Int32 → Int32 → Int32 → Int32 → Option Int32
  | 0, _, _, _, _, _ => none
  | n + 1, v0, v1, v2, v3, v4 =>
    if 445 ≤ v4 then
      (if v1 = 0 then
        (some v2)
      else
        (some v3))
    else
      (if 10 ≤ v4 then
        (if 100 ≤ v4 then
          ((fX8_areBends M v4).bind fun x6 =>
          if x6 = 0 then
            (fX8_which_c21 M n v0 v1 v2 v3 (v4 + 1))
          else
            ((fX8_mayBeLaid M v0 v4 3).bind fun x9 =>
            if x9 = 0 then
              (fX8_which_c21 M n v0 v1 v2 v3 (v4 + 1))
            else
              (if v2 = 0 then
                (fX8_which_c21 M n v0 v1 (v2 + 1) v4 (v4 + 1))
              else
                (fX8_which_c21 M n v0 v1 (v2 + 1) v3 (v4 + 1)))))
        else
          ((fX8_areBends M v4).bind fun x13 =>
          if x13 = 0 then
            (fX8_which_c21 M n v0 v1 v2 v3 (v4 + 1))
          else
            ((fX8_mayBeLaid M v0 v4 2).bind fun x16 =>
            if x16 = 0 then
              (fX8_which_c21 M n v0 v1 v2 v3 (v4 + 1))
            else
              (if v2 = 0 then
                (fX8_which_c21 M n v0 v1 (v2 + 1) v4 (v4 + 1))
              else
                (fX8_which_c21 M n v0 v1 (v2 + 1) v3 (v4 + 1))))))
      else
        ((fX8_areBends M v4).bind fun x20 =>
        if x20 = 0 then
          (fX8_which_c21 M n v0 v1 v2 v3 (v4 + 1))
        else
          ((fX8_mayBeLaid M v0 v4 1).bind fun x23 =>
          if x23 = 0 then
            (fX8_which_c21 M n v0 v1 v2 v3 (v4 + 1))
          else
            (if v2 = 0 then
              (fX8_which_c21 M n v0 v1 (v2 + 1) v4 (v4 + 1))
            else
              (fX8_which_c21 M n v0 v1 (v2 + 1) v3 (v4 + 1))))))
set_option maxRecDepth 20000 in
set_option maxHeartbeats 4000000 in
theorem rX8_which_c21 {E : mE} {M : mM} {x : Int32} : ∀ (n : Nat) (v0 : Nat) (v1 : Int32) (v2 : Int32) (v3 : Int32) (v4 : Int32), fX8_which_c21 M n v0 v1 v2 v3 v4 = some x → Ev mX8_which E 2 0 0 (some (.int x)) M 21 [some (.ref v0), some (.int v1), some (.int v2), some (.int v3), some (.int v4), none] [] M 0 0 := by
  intro n
  induction n with
  | zero => intro v0 v1 v2 v3 v4 h; rw [fX8_which_c21.eq_1] at h; cases h
  | succ n ih =>
    intro v0 v1 v2 v3 v4 h
    rw [fX8_which_c21.eq_2] at h
    refine Ev_iload (x := v4) rfl dX8_which_21 ?_
    refine Ev_sipush sp_445 dX8_which_23 ?_
    refine Ev_icmp_ge (tgt := 93) dX8_which_26 (by decide) (fun q1 => ?_) (fun q1 => ?_)
    · rw [if_pos q1] at h
      refine Ev_iload_n (x := v1) rfl dX8_which_93 ?_
      refine Ev_if_ne (tgt := 101) dX8_which_94 (by decide) (fun q2 => ?_) (fun q2 => ?_)
      · rw [if_neg q2] at h
        refine Ev_iload_n (x := v3) rfl dX8_which_101 ?_
        cases h
        exact Ev_iret rfl rfl dX8_which_102 ⟨rfl, rfl⟩
      · rw [if_pos q2] at h
        refine Ev_iload_n (x := v2) rfl dX8_which_97 ?_
        refine Ev_goto (tgt := 102) dX8_which_98 (by decide) ?_
        cases h
        exact Ev_iret rfl rfl dX8_which_102 ⟨rfl, rfl⟩
    · rw [if_neg q1] at h
      refine Ev_iload (x := v4) rfl dX8_which_29 ?_
      refine Ev_bipush bp_10 dX8_which_31 ?_
      refine Ev_icmp_ge (tgt := 40) dX8_which_33 (by decide) (fun q3 => ?_) (fun q3 => ?_)
      · rw [if_pos q3] at h
        refine Ev_iload (x := v4) rfl dX8_which_40 ?_
        refine Ev_bipush bp_100 dX8_which_42 ?_
        refine Ev_icmp_ge (tgt := 51) dX8_which_44 (by decide) (fun q4 => ?_) (fun q4 => ?_)
        · rw [if_pos q4] at h
          refine Ev_iconst ic_3 dX8_which_51 ?_
          refine Ev_istore (loc2 := [some (.ref v0), some (.int v1), some (.int v2), some (.int v3), some (.int v4), some (.int 3)]) (Nat.le_of_ble_eq_true rfl) rfl rfl dX8_which_52 ?_
          refine Ev_iload (x := v4) rfl dX8_which_54 ?_
          obtain ⟨x6, g5, h⟩ := bsome h
          refine Ev_callSi (np := 1) (vs := [.int v4]) (rest := []) mdX8_areBends lkX8_218 (rX8_areBends g5) rfl rfl (Nat.le_of_ble_eq_true rfl) (Nat.le_of_ble_eq_true rfl) dX8_which_56 ?_
          refine Ev_if_eq (tgt := 87) dX8_which_59 (by decide) (fun q7 => ?_) (fun q7 => ?_)
          · rw [if_pos q7] at h
            refine Ev_iinc (x := v4) (v := (v4 + 1)) (loc2 := [some (.ref v0), some (.int v1), some (.int v2), some (.int v3), some (.int (v4 + 1)), some (.int 3)]) rfl (congrArg (v4 + ·) ic_1) (Nat.le_of_ble_eq_true rfl) rfl rfl dX8_which_87 ?_
            refine Ev_goto (tgt := 21) dX8_which_90 (by decide) ?_
            refine Ev_drop 5 (loc2 := [some (.ref v0), some (.int v1), some (.int v2), some (.int v3), some (.int (v4 + 1)), none]) rfl ?_
            exact ih v0 v1 v2 v3 (v4 + 1) h
          · rw [if_neg q7] at h
            refine Ev_aload_n (x := v0) rfl dX8_which_62 ?_
            refine Ev_iload (x := v4) rfl dX8_which_63 ?_
            refine Ev_iload (x := 3) rfl dX8_which_65 ?_
            obtain ⟨x9, g8, h⟩ := bsome h
            refine Ev_callVi (np := 2) (vs := [.int v4, .int 3]) (rest := []) mdX8_mayBeLaid lkX8_221 ⟨_, rfl, rfl⟩ (oX8_mayBeLaid g8) (rX8_mayBeLaid g8) rfl rfl (Nat.le_of_ble_eq_true rfl) (Nat.le_of_ble_eq_true rfl) dX8_which_67 ?_
            refine Ev_if_eq (tgt := 87) dX8_which_70 (by decide) (fun q10 => ?_) (fun q10 => ?_)
            · rw [if_pos q10] at h
              refine Ev_iinc (x := v4) (v := (v4 + 1)) (loc2 := [some (.ref v0), some (.int v1), some (.int v2), some (.int v3), some (.int (v4 + 1)), some (.int 3)]) rfl (congrArg (v4 + ·) ic_1) (Nat.le_of_ble_eq_true rfl) rfl rfl dX8_which_87 ?_
              refine Ev_goto (tgt := 21) dX8_which_90 (by decide) ?_
              refine Ev_drop 5 (loc2 := [some (.ref v0), some (.int v1), some (.int v2), some (.int v3), some (.int (v4 + 1)), none]) rfl ?_
              exact ih v0 v1 v2 v3 (v4 + 1) h
            · rw [if_neg q10] at h
              refine Ev_iload_n (x := v2) rfl dX8_which_73 ?_
              refine Ev_if_ne (tgt := 82) dX8_which_74 (by decide) (fun q11 => ?_) (fun q11 => ?_)
              · rw [if_neg q11] at h
                refine Ev_iload_n (x := v3) rfl dX8_which_82 ?_
                refine Ev_istore_n (loc2 := [some (.ref v0), some (.int v1), some (.int v2), some (.int v3), some (.int v4), some (.int 3)]) (Nat.le_of_ble_eq_true rfl) rfl rfl dX8_which_83 ?_
                refine Ev_iinc (x := v2) (v := (v2 + 1)) (loc2 := [some (.ref v0), some (.int v1), some (.int (v2 + 1)), some (.int v3), some (.int v4), some (.int 3)]) rfl (congrArg (v2 + ·) ic_1) (Nat.le_of_ble_eq_true rfl) rfl rfl dX8_which_84 ?_
                refine Ev_iinc (x := v4) (v := (v4 + 1)) (loc2 := [some (.ref v0), some (.int v1), some (.int (v2 + 1)), some (.int v3), some (.int (v4 + 1)), some (.int 3)]) rfl (congrArg (v4 + ·) ic_1) (Nat.le_of_ble_eq_true rfl) rfl rfl dX8_which_87 ?_
                refine Ev_goto (tgt := 21) dX8_which_90 (by decide) ?_
                refine Ev_drop 5 (loc2 := [some (.ref v0), some (.int v1), some (.int (v2 + 1)), some (.int v3), some (.int (v4 + 1)), none]) rfl ?_
                exact ih v0 v1 (v2 + 1) v3 (v4 + 1) h
              · rw [if_pos q11] at h
                refine Ev_iload (x := v4) rfl dX8_which_77 ?_
                refine Ev_goto (tgt := 83) dX8_which_79 (by decide) ?_
                refine Ev_istore_n (loc2 := [some (.ref v0), some (.int v1), some (.int v2), some (.int v4), some (.int v4), some (.int 3)]) (Nat.le_of_ble_eq_true rfl) rfl rfl dX8_which_83 ?_
                refine Ev_iinc (x := v2) (v := (v2 + 1)) (loc2 := [some (.ref v0), some (.int v1), some (.int (v2 + 1)), some (.int v4), some (.int v4), some (.int 3)]) rfl (congrArg (v2 + ·) ic_1) (Nat.le_of_ble_eq_true rfl) rfl rfl dX8_which_84 ?_
                refine Ev_iinc (x := v4) (v := (v4 + 1)) (loc2 := [some (.ref v0), some (.int v1), some (.int (v2 + 1)), some (.int v4), some (.int (v4 + 1)), some (.int 3)]) rfl (congrArg (v4 + ·) ic_1) (Nat.le_of_ble_eq_true rfl) rfl rfl dX8_which_87 ?_
                refine Ev_goto (tgt := 21) dX8_which_90 (by decide) ?_
                refine Ev_drop 5 (loc2 := [some (.ref v0), some (.int v1), some (.int (v2 + 1)), some (.int v4), some (.int (v4 + 1)), none]) rfl ?_
                exact ih v0 v1 (v2 + 1) v4 (v4 + 1) h
        · rw [if_neg q4] at h
          refine Ev_iconst ic_2 dX8_which_47 ?_
          refine Ev_goto (tgt := 52) dX8_which_48 (by decide) ?_
          refine Ev_istore (loc2 := [some (.ref v0), some (.int v1), some (.int v2), some (.int v3), some (.int v4), some (.int 2)]) (Nat.le_of_ble_eq_true rfl) rfl rfl dX8_which_52 ?_
          refine Ev_iload (x := v4) rfl dX8_which_54 ?_
          obtain ⟨x13, g12, h⟩ := bsome h
          refine Ev_callSi (np := 1) (vs := [.int v4]) (rest := []) mdX8_areBends lkX8_218 (rX8_areBends g12) rfl rfl (Nat.le_of_ble_eq_true rfl) (Nat.le_of_ble_eq_true rfl) dX8_which_56 ?_
          refine Ev_if_eq (tgt := 87) dX8_which_59 (by decide) (fun q14 => ?_) (fun q14 => ?_)
          · rw [if_pos q14] at h
            refine Ev_iinc (x := v4) (v := (v4 + 1)) (loc2 := [some (.ref v0), some (.int v1), some (.int v2), some (.int v3), some (.int (v4 + 1)), some (.int 2)]) rfl (congrArg (v4 + ·) ic_1) (Nat.le_of_ble_eq_true rfl) rfl rfl dX8_which_87 ?_
            refine Ev_goto (tgt := 21) dX8_which_90 (by decide) ?_
            refine Ev_drop 5 (loc2 := [some (.ref v0), some (.int v1), some (.int v2), some (.int v3), some (.int (v4 + 1)), none]) rfl ?_
            exact ih v0 v1 v2 v3 (v4 + 1) h
          · rw [if_neg q14] at h
            refine Ev_aload_n (x := v0) rfl dX8_which_62 ?_
            refine Ev_iload (x := v4) rfl dX8_which_63 ?_
            refine Ev_iload (x := 2) rfl dX8_which_65 ?_
            obtain ⟨x16, g15, h⟩ := bsome h
            refine Ev_callVi (np := 2) (vs := [.int v4, .int 2]) (rest := []) mdX8_mayBeLaid lkX8_221 ⟨_, rfl, rfl⟩ (oX8_mayBeLaid g15) (rX8_mayBeLaid g15) rfl rfl (Nat.le_of_ble_eq_true rfl) (Nat.le_of_ble_eq_true rfl) dX8_which_67 ?_
            refine Ev_if_eq (tgt := 87) dX8_which_70 (by decide) (fun q17 => ?_) (fun q17 => ?_)
            · rw [if_pos q17] at h
              refine Ev_iinc (x := v4) (v := (v4 + 1)) (loc2 := [some (.ref v0), some (.int v1), some (.int v2), some (.int v3), some (.int (v4 + 1)), some (.int 2)]) rfl (congrArg (v4 + ·) ic_1) (Nat.le_of_ble_eq_true rfl) rfl rfl dX8_which_87 ?_
              refine Ev_goto (tgt := 21) dX8_which_90 (by decide) ?_
              refine Ev_drop 5 (loc2 := [some (.ref v0), some (.int v1), some (.int v2), some (.int v3), some (.int (v4 + 1)), none]) rfl ?_
              exact ih v0 v1 v2 v3 (v4 + 1) h
            · rw [if_neg q17] at h
              refine Ev_iload_n (x := v2) rfl dX8_which_73 ?_
              refine Ev_if_ne (tgt := 82) dX8_which_74 (by decide) (fun q18 => ?_) (fun q18 => ?_)
              · rw [if_neg q18] at h
                refine Ev_iload_n (x := v3) rfl dX8_which_82 ?_
                refine Ev_istore_n (loc2 := [some (.ref v0), some (.int v1), some (.int v2), some (.int v3), some (.int v4), some (.int 2)]) (Nat.le_of_ble_eq_true rfl) rfl rfl dX8_which_83 ?_
                refine Ev_iinc (x := v2) (v := (v2 + 1)) (loc2 := [some (.ref v0), some (.int v1), some (.int (v2 + 1)), some (.int v3), some (.int v4), some (.int 2)]) rfl (congrArg (v2 + ·) ic_1) (Nat.le_of_ble_eq_true rfl) rfl rfl dX8_which_84 ?_
                refine Ev_iinc (x := v4) (v := (v4 + 1)) (loc2 := [some (.ref v0), some (.int v1), some (.int (v2 + 1)), some (.int v3), some (.int (v4 + 1)), some (.int 2)]) rfl (congrArg (v4 + ·) ic_1) (Nat.le_of_ble_eq_true rfl) rfl rfl dX8_which_87 ?_
                refine Ev_goto (tgt := 21) dX8_which_90 (by decide) ?_
                refine Ev_drop 5 (loc2 := [some (.ref v0), some (.int v1), some (.int (v2 + 1)), some (.int v3), some (.int (v4 + 1)), none]) rfl ?_
                exact ih v0 v1 (v2 + 1) v3 (v4 + 1) h
              · rw [if_pos q18] at h
                refine Ev_iload (x := v4) rfl dX8_which_77 ?_
                refine Ev_goto (tgt := 83) dX8_which_79 (by decide) ?_
                refine Ev_istore_n (loc2 := [some (.ref v0), some (.int v1), some (.int v2), some (.int v4), some (.int v4), some (.int 2)]) (Nat.le_of_ble_eq_true rfl) rfl rfl dX8_which_83 ?_
                refine Ev_iinc (x := v2) (v := (v2 + 1)) (loc2 := [some (.ref v0), some (.int v1), some (.int (v2 + 1)), some (.int v4), some (.int v4), some (.int 2)]) rfl (congrArg (v2 + ·) ic_1) (Nat.le_of_ble_eq_true rfl) rfl rfl dX8_which_84 ?_
                refine Ev_iinc (x := v4) (v := (v4 + 1)) (loc2 := [some (.ref v0), some (.int v1), some (.int (v2 + 1)), some (.int v4), some (.int (v4 + 1)), some (.int 2)]) rfl (congrArg (v4 + ·) ic_1) (Nat.le_of_ble_eq_true rfl) rfl rfl dX8_which_87 ?_
                refine Ev_goto (tgt := 21) dX8_which_90 (by decide) ?_
                refine Ev_drop 5 (loc2 := [some (.ref v0), some (.int v1), some (.int (v2 + 1)), some (.int v4), some (.int (v4 + 1)), none]) rfl ?_
                exact ih v0 v1 (v2 + 1) v4 (v4 + 1) h
      · rw [if_neg q3] at h
        refine Ev_iconst ic_1 dX8_which_36 ?_
        refine Ev_goto (tgt := 52) dX8_which_37 (by decide) ?_
        refine Ev_istore (loc2 := [some (.ref v0), some (.int v1), some (.int v2), some (.int v3), some (.int v4), some (.int 1)]) (Nat.le_of_ble_eq_true rfl) rfl rfl dX8_which_52 ?_
        refine Ev_iload (x := v4) rfl dX8_which_54 ?_
        obtain ⟨x20, g19, h⟩ := bsome h
        refine Ev_callSi (np := 1) (vs := [.int v4]) (rest := []) mdX8_areBends lkX8_218 (rX8_areBends g19) rfl rfl (Nat.le_of_ble_eq_true rfl) (Nat.le_of_ble_eq_true rfl) dX8_which_56 ?_
        refine Ev_if_eq (tgt := 87) dX8_which_59 (by decide) (fun q21 => ?_) (fun q21 => ?_)
        · rw [if_pos q21] at h
          refine Ev_iinc (x := v4) (v := (v4 + 1)) (loc2 := [some (.ref v0), some (.int v1), some (.int v2), some (.int v3), some (.int (v4 + 1)), some (.int 1)]) rfl (congrArg (v4 + ·) ic_1) (Nat.le_of_ble_eq_true rfl) rfl rfl dX8_which_87 ?_
          refine Ev_goto (tgt := 21) dX8_which_90 (by decide) ?_
          refine Ev_drop 5 (loc2 := [some (.ref v0), some (.int v1), some (.int v2), some (.int v3), some (.int (v4 + 1)), none]) rfl ?_
          exact ih v0 v1 v2 v3 (v4 + 1) h
        · rw [if_neg q21] at h
          refine Ev_aload_n (x := v0) rfl dX8_which_62 ?_
          refine Ev_iload (x := v4) rfl dX8_which_63 ?_
          refine Ev_iload (x := 1) rfl dX8_which_65 ?_
          obtain ⟨x23, g22, h⟩ := bsome h
          refine Ev_callVi (np := 2) (vs := [.int v4, .int 1]) (rest := []) mdX8_mayBeLaid lkX8_221 ⟨_, rfl, rfl⟩ (oX8_mayBeLaid g22) (rX8_mayBeLaid g22) rfl rfl (Nat.le_of_ble_eq_true rfl) (Nat.le_of_ble_eq_true rfl) dX8_which_67 ?_
          refine Ev_if_eq (tgt := 87) dX8_which_70 (by decide) (fun q24 => ?_) (fun q24 => ?_)
          · rw [if_pos q24] at h
            refine Ev_iinc (x := v4) (v := (v4 + 1)) (loc2 := [some (.ref v0), some (.int v1), some (.int v2), some (.int v3), some (.int (v4 + 1)), some (.int 1)]) rfl (congrArg (v4 + ·) ic_1) (Nat.le_of_ble_eq_true rfl) rfl rfl dX8_which_87 ?_
            refine Ev_goto (tgt := 21) dX8_which_90 (by decide) ?_
            refine Ev_drop 5 (loc2 := [some (.ref v0), some (.int v1), some (.int v2), some (.int v3), some (.int (v4 + 1)), none]) rfl ?_
            exact ih v0 v1 v2 v3 (v4 + 1) h
          · rw [if_neg q24] at h
            refine Ev_iload_n (x := v2) rfl dX8_which_73 ?_
            refine Ev_if_ne (tgt := 82) dX8_which_74 (by decide) (fun q25 => ?_) (fun q25 => ?_)
            · rw [if_neg q25] at h
              refine Ev_iload_n (x := v3) rfl dX8_which_82 ?_
              refine Ev_istore_n (loc2 := [some (.ref v0), some (.int v1), some (.int v2), some (.int v3), some (.int v4), some (.int 1)]) (Nat.le_of_ble_eq_true rfl) rfl rfl dX8_which_83 ?_
              refine Ev_iinc (x := v2) (v := (v2 + 1)) (loc2 := [some (.ref v0), some (.int v1), some (.int (v2 + 1)), some (.int v3), some (.int v4), some (.int 1)]) rfl (congrArg (v2 + ·) ic_1) (Nat.le_of_ble_eq_true rfl) rfl rfl dX8_which_84 ?_
              refine Ev_iinc (x := v4) (v := (v4 + 1)) (loc2 := [some (.ref v0), some (.int v1), some (.int (v2 + 1)), some (.int v3), some (.int (v4 + 1)), some (.int 1)]) rfl (congrArg (v4 + ·) ic_1) (Nat.le_of_ble_eq_true rfl) rfl rfl dX8_which_87 ?_
              refine Ev_goto (tgt := 21) dX8_which_90 (by decide) ?_
              refine Ev_drop 5 (loc2 := [some (.ref v0), some (.int v1), some (.int (v2 + 1)), some (.int v3), some (.int (v4 + 1)), none]) rfl ?_
              exact ih v0 v1 (v2 + 1) v3 (v4 + 1) h
            · rw [if_pos q25] at h
              refine Ev_iload (x := v4) rfl dX8_which_77 ?_
              refine Ev_goto (tgt := 83) dX8_which_79 (by decide) ?_
              refine Ev_istore_n (loc2 := [some (.ref v0), some (.int v1), some (.int v2), some (.int v4), some (.int v4), some (.int 1)]) (Nat.le_of_ble_eq_true rfl) rfl rfl dX8_which_83 ?_
              refine Ev_iinc (x := v2) (v := (v2 + 1)) (loc2 := [some (.ref v0), some (.int v1), some (.int (v2 + 1)), some (.int v4), some (.int v4), some (.int 1)]) rfl (congrArg (v2 + ·) ic_1) (Nat.le_of_ble_eq_true rfl) rfl rfl dX8_which_84 ?_
              refine Ev_iinc (x := v4) (v := (v4 + 1)) (loc2 := [some (.ref v0), some (.int v1), some (.int (v2 + 1)), some (.int v4), some (.int (v4 + 1)), some (.int 1)]) rfl (congrArg (v4 + ·) ic_1) (Nat.le_of_ble_eq_true rfl) rfl rfl dX8_which_87 ?_
              refine Ev_goto (tgt := 21) dX8_which_90 (by decide) ?_
              refine Ev_drop 5 (loc2 := [some (.ref v0), some (.int v1), some (.int (v2 + 1)), some (.int v4), some (.int (v4 + 1)), none]) rfl ?_
              exact ih v0 v1 (v2 + 1) v4 (v4 + 1) h
def fX8_which (M : mM) (v0 : Nat) (v1 : Int32) : Option Int32 :=
    if isO M v0 8 = true then
      (fX8_in M (Int32.toInt64 v1) (0 : Int64) (1 : Int64)).bind fun x2 =>
      if x2 = 0 then
        (some (-2))
      else
        (fX8_which_c21 M FUEL v0 v1 0 (-9) 1)
    else none
theorem oX8_which {M : mM} {v0 : Nat} {v1 : Int32} {y : Int32} (h : fX8_which M v0 v1 = some y) : isO M v0 8 = true := by
  unfold fX8_which at h
  exact (gsome h).1
set_option maxRecDepth 20000 in
set_option maxHeartbeats 4000000 in
theorem rX8_which {E : mE} {M : mM} {v0 : Nat} {v1 : Int32} {x : Int32} (h : fX8_which M v0 v1 = some x) : EvC mX8_which E 2 0 0 [.ref v0, .int v1] M (some (.int x)) M := by
  unfold fX8_which at h
  replace h := (gsome h).2
  refine EvC.of [some (.ref v0), some (.int v1), none, none, none, none] pnX8_which rfl (Nat.le_of_ble_eq_true rfl) ?_
  refine Ev_iload_n (x := v1) rfl dX8_which_0 ?_
  refine Ev_i2l dX8_which_1 ?_
  refine Ev_lconst (v := 0) (by decide) dX8_which_2 ?_
  refine Ev_lconst (v := 1) (by decide) dX8_which_3 ?_
  obtain ⟨x2, g1, h⟩ := bsome h
  refine Ev_callSi (np := 3) (vs := [.long (Int32.toInt64 v1), .long (0 : Int64), .long (1 : Int64)]) (rest := []) mdX8_in lkX8_52 (rX8_in g1) rfl rfl (Nat.le_of_ble_eq_true rfl) (Nat.le_of_ble_eq_true rfl) dX8_which_4 ?_
  refine Ev_if_ne (tgt := 13) dX8_which_7 (by decide) (fun q3 => ?_) (fun q3 => ?_)
  · rw [if_neg q3] at h
    refine Ev_iconst ic_0 dX8_which_13 ?_
    refine Ev_istore_n (loc2 := [some (.ref v0), some (.int v1), some (.int 0), none, none, none]) (Nat.le_of_ble_eq_true rfl) rfl rfl dX8_which_14 ?_
    refine Ev_bipush bp_m9 dX8_which_15 ?_
    refine Ev_istore_n (loc2 := [some (.ref v0), some (.int v1), some (.int 0), some (.int (-9)), none, none]) (Nat.le_of_ble_eq_true rfl) rfl rfl dX8_which_17 ?_
    refine Ev_iconst ic_1 dX8_which_18 ?_
    refine Ev_istore (loc2 := [some (.ref v0), some (.int v1), some (.int 0), some (.int (-9)), some (.int 1), none]) (Nat.le_of_ble_eq_true rfl) rfl rfl dX8_which_19 ?_
    exact rX8_which_c21 FUEL v0 v1 0 (-9) 1 h
  · rw [if_pos q3] at h
    refine Ev_bipush bp_m2 dX8_which_10 ?_
    cases h
    exact Ev_iret rfl rfl dX8_which_12 ⟨rfl, rfl⟩
/-! TinselRiverModel.factorial(I)I -/
def fX8_factorial_c4 (M : mM) : Nat → Int32 → Int32 → Int32 → Option Int32
  | 0, _, _, _ => none
  | n + 1, v0, v1, v2 =>
    if v0 < v2 then
      (some v1)
    else
      (fX8_factorial_c4 M n v0 (v1 * v2) (v2 + 1))
set_option maxRecDepth 20000 in
set_option maxHeartbeats 4000000 in
theorem rX8_factorial_c4 {E : mE} {M : mM} {x : Int32} : ∀ (n : Nat) (v0 : Int32) (v1 : Int32) (v2 : Int32), fX8_factorial_c4 M n v0 v1 v2 = some x → Ev mX8_factorial E 0 0 0 (some (.int x)) M 4 [some (.int v0), some (.int v1), some (.int v2)] [] M 0 0 := by
  intro n
  induction n with
  | zero => intro v0 v1 v2 h; rw [fX8_factorial_c4.eq_1] at h; cases h
  | succ n ih =>
    intro v0 v1 v2 h
    rw [fX8_factorial_c4.eq_2] at h
    refine Ev_iload_n (x := v2) rfl dX8_factorial_4 ?_
    refine Ev_iload_n (x := v0) rfl dX8_factorial_5 ?_
    refine Ev_icmp_gt (tgt := 19) dX8_factorial_6 (by decide) (fun q1 => ?_) (fun q1 => ?_)
    · rw [if_pos q1] at h
      refine Ev_iload_n (x := v1) rfl dX8_factorial_19 ?_
      cases h
      exact Ev_iret rfl rfl dX8_factorial_20 ⟨rfl, rfl⟩
    · rw [if_neg q1] at h
      refine Ev_iload_n (x := v1) rfl dX8_factorial_9 ?_
      refine Ev_iload_n (x := v2) rfl dX8_factorial_10 ?_
      refine Ev_imul dX8_factorial_11 ?_
      refine Ev_istore_n (loc2 := [some (.int v0), some (.int (v1 * v2)), some (.int v2)]) (Nat.le_of_ble_eq_true rfl) rfl rfl dX8_factorial_12 ?_
      refine Ev_iinc (x := v2) (v := (v2 + 1)) (loc2 := [some (.int v0), some (.int (v1 * v2)), some (.int (v2 + 1))]) rfl (congrArg (v2 + ·) ic_1) (Nat.le_of_ble_eq_true rfl) rfl rfl dX8_factorial_13 ?_
      refine Ev_goto (tgt := 4) dX8_factorial_16 (by decide) ?_
      exact ih v0 (v1 * v2) (v2 + 1) h
def fX8_factorial (M : mM) (v0 : Int32) : Option Int32 :=
    fX8_factorial_c4 M FUEL v0 1 2
set_option maxRecDepth 20000 in
set_option maxHeartbeats 4000000 in
theorem rX8_factorial {E : mE} {M : mM} {v0 : Int32} {x : Int32} (h : fX8_factorial M v0 = some x) : EvC mX8_factorial E 0 0 0 [.int v0] M (some (.int x)) M := by
  unfold fX8_factorial at h
  refine EvC.of [some (.int v0), none, none] pnX8_factorial rfl (Nat.le_of_ble_eq_true rfl) ?_
  refine Ev_iconst ic_1 dX8_factorial_0 ?_
  refine Ev_istore_n (loc2 := [some (.int v0), some (.int 1), none]) (Nat.le_of_ble_eq_true rfl) rfl rfl dX8_factorial_1 ?_
  refine Ev_iconst ic_2 dX8_factorial_2 ?_
  refine Ev_istore_n (loc2 := [some (.int v0), some (.int 1), some (.int 2)]) (Nat.le_of_ble_eq_true rfl) rfl rfl dX8_factorial_3 ?_
  exact rX8_factorial_c4 FUEL v0 1 2 h
/-! TinselRiverModel.common(II)I -/
def fX8_common_c13 (M : mM) : Nat → Int32 → Int32 → Option Int32
  | 0, _, _ => none
  | n + 1, v2, v3 =>
    if v3 = 0 then
      (some v2)
    else
      (if v3 = 0 then none else
      fX8_common_c13 M n v3 (v2 - v2 / v3 * v3))
set_option maxRecDepth 20000 in
set_option maxHeartbeats 4000000 in
theorem rX8_common_c13 {E : mE} {M : mM} {x : Int32} : ∀ (n : Nat) (v2 : Int32) (v3 : Int32), fX8_common_c13 M n v2 v3 = some x → Ev mX8_common E 0 0 0 (some (.int x)) M 13 [none, none, some (.int v2), some (.int v3), none] [] M 0 0 := by
  intro n
  induction n with
  | zero => intro v2 v3 h; rw [fX8_common_c13.eq_1] at h; cases h
  | succ n ih =>
    intro v2 v3 h
    rw [fX8_common_c13.eq_2] at h
    refine Ev_iload_n (x := v3) rfl dX8_common_13 ?_
    refine Ev_if_eq (tgt := 30) dX8_common_14 (by decide) (fun q1 => ?_) (fun q1 => ?_)
    · rw [if_pos q1] at h
      refine Ev_iload_n (x := v2) rfl dX8_common_30 ?_
      cases h
      exact Ev_iret rfl rfl dX8_common_31 ⟨rfl, rfl⟩
    · rw [if_neg q1] at h
      refine Ev_iload_n (x := v2) rfl dX8_common_17 ?_
      refine Ev_iload_n (x := v3) rfl dX8_common_18 ?_
      obtain ⟨z2, h⟩ := nsome h
      refine Ev_irem z2 dX8_common_19 ?_
      refine Ev_istore (loc2 := [none, none, some (.int v2), some (.int v3), some (.int (v2 - v2 / v3 * v3))]) (Nat.le_of_ble_eq_true rfl) rfl rfl dX8_common_20 ?_
      refine Ev_iload_n (x := v3) rfl dX8_common_22 ?_
      refine Ev_istore_n (loc2 := [none, none, some (.int v3), some (.int v3), some (.int (v2 - v2 / v3 * v3))]) (Nat.le_of_ble_eq_true rfl) rfl rfl dX8_common_23 ?_
      refine Ev_iload (x := (v2 - v2 / v3 * v3)) rfl dX8_common_24 ?_
      refine Ev_istore_n (loc2 := [none, none, some (.int v3), some (.int (v2 - v2 / v3 * v3)), some (.int (v2 - v2 / v3 * v3))]) (Nat.le_of_ble_eq_true rfl) rfl rfl dX8_common_26 ?_
      refine Ev_goto (tgt := 13) dX8_common_27 (by decide) ?_
      refine Ev_drop 4 (loc2 := [none, none, some (.int v3), some (.int (v2 - v2 / v3 * v3)), none]) rfl ?_
      exact ih v3 (v2 - v2 / v3 * v3) h
def fX8_common (M : mM) (v0 : Int32) (v1 : Int32) : Option Int32 :=
    if 0 ≤ v0 then
      (fX8_common_c13 M FUEL v0 v1)
    else
      (fX8_common_c13 M FUEL (-v0) v1)
set_option maxRecDepth 20000 in
set_option maxHeartbeats 4000000 in
theorem rX8_common {E : mE} {M : mM} {v0 : Int32} {v1 : Int32} {x : Int32} (h : fX8_common M v0 v1 = some x) : EvC mX8_common E 0 0 0 [.int v0, .int v1] M (some (.int x)) M := by
  unfold fX8_common at h
  refine EvC.of [some (.int v0), some (.int v1), none, none, none] pnX8_common rfl (Nat.le_of_ble_eq_true rfl) ?_
  refine Ev_iload_n (x := v0) rfl dX8_common_0 ?_
  refine Ev_if_ge (tgt := 9) dX8_common_1 (by decide) (fun q1 => ?_) (fun q1 => ?_)
  · rw [if_pos q1] at h
    refine Ev_iload_n (x := v0) rfl dX8_common_9 ?_
    refine Ev_istore_n (loc2 := [some (.int v0), some (.int v1), some (.int v0), none, none]) (Nat.le_of_ble_eq_true rfl) rfl rfl dX8_common_10 ?_
    refine Ev_iload_n (x := v1) rfl dX8_common_11 ?_
    refine Ev_istore_n (loc2 := [some (.int v0), some (.int v1), some (.int v0), some (.int v1), none]) (Nat.le_of_ble_eq_true rfl) rfl rfl dX8_common_12 ?_
    refine Ev_drop 0 (loc2 := [none, some (.int v1), some (.int v0), some (.int v1), none]) rfl ?_
    refine Ev_drop 1 (loc2 := [none, none, some (.int v0), some (.int v1), none]) rfl ?_
    exact rX8_common_c13 FUEL v0 v1 h
  · rw [if_neg q1] at h
    refine Ev_iload_n (x := v0) rfl dX8_common_4 ?_
    refine Ev_ineg dX8_common_5 ?_
    refine Ev_goto (tgt := 10) dX8_common_6 (by decide) ?_
    refine Ev_istore_n (loc2 := [some (.int v0), some (.int v1), some (.int (-v0)), none, none]) (Nat.le_of_ble_eq_true rfl) rfl rfl dX8_common_10 ?_
    refine Ev_iload_n (x := v1) rfl dX8_common_11 ?_
    refine Ev_istore_n (loc2 := [some (.int v0), some (.int v1), some (.int (-v0)), some (.int v1), none]) (Nat.le_of_ble_eq_true rfl) rfl rfl dX8_common_12 ?_
    refine Ev_drop 0 (loc2 := [none, some (.int v1), some (.int (-v0)), some (.int v1), none]) rfl ?_
    refine Ev_drop 1 (loc2 := [none, none, some (.int (-v0)), some (.int v1), none]) rfl ?_
    exact rX8_common_c13 FUEL (-v0) v1 h
/-! TinselRiverModel.share(IZ)I -/
def fX8_share_c29 (M : mM) : Nat → Nat → Int32 → Int32 → Int32 → Int32 → Int32 → Int32 → Option Int32
  | 0, _, _, _, _, _, _, _ => none
  | n + 1, v0, v1, v2, v3, v4, v5, v6 =>
    if 16 ≤ v6 then
      ((fX8_factorial M v4).bind fun x3 =>
      (fX8_common M v5 x3).bind fun x5 =>
      if v2 = 0 then
        ((fX8_factorial M v4).bind fun x8 =>
        if x5 = 0 then none else
        some (x8 / x5))
      else
        (if x5 = 0 then none else
        some (v5 / x5)))
    else
      (if (v6 &&& (v3 ^^^ (-1))) = 0 then
        ((fX8_has M v6 v1).bind fun x13 =>
        if x13 = 0 then
          ((fX8_ones M v6).bind fun x16 =>
          (fX8_factorial M x16).bind fun x18 =>
          (fX8_ones M v6).bind fun x20 =>
          (fX8_factorial M ((v4 - 1) - x20)).bind fun x22 =>
          (fX8_coverOf M v0 (v6 ||| (1 <<< (v1 &&& 31)))).bind fun x24 =>
          (fX8_ones M x24).bind fun x26 =>
          (fX8_coverOf M v0 v6).bind fun x28 =>
          (fX8_ones M x28).bind fun x30 =>
          fX8_share_c29 M n v0 v1 v2 v3 v4 (v5 + ((x18 * x22) * (x26 - x30))) (v6 + 1))
        else
          (fX8_share_c29 M n v0 v1 v2 v3 v4 v5 (v6 + 1)))
      else
        (fX8_share_c29 M n v0 v1 v2 v3 v4 v5 (v6 + 1)))
set_option maxRecDepth 20000 in
set_option maxHeartbeats 4000000 in
theorem rX8_share_c29 {E : mE} {M : mM} {x : Int32} : ∀ (n : Nat) (v0 : Nat) (v1 : Int32) (v2 : Int32) (v3 : Int32) (v4 : Int32) (v5 : Int32) (v6 : Int32), fX8_share_c29 M n v0 v1 v2 v3 v4 v5 v6 = some x → Ev mX8_share E 3 0 0 (some (.int x)) M 29 [some (.ref v0), some (.int v1), some (.int v2), some (.int v3), some (.int v4), some (.int v5), some (.int v6), none] [] M 0 0 := by
  intro n
  induction n with
  | zero => intro v0 v1 v2 v3 v4 v5 v6 h; rw [fX8_share_c29.eq_1] at h; cases h
  | succ n ih =>
    intro v0 v1 v2 v3 v4 v5 v6 h
    rw [fX8_share_c29.eq_2] at h
    refine Ev_iload (x := v6) rfl dX8_share_29 ?_
    refine Ev_bipush bp_16 dX8_share_31 ?_
    refine Ev_icmp_ge (tgt := 115) dX8_share_33 (by decide) (fun q1 => ?_) (fun q1 => ?_)
    · rw [if_pos q1] at h
      refine Ev_iload (x := v5) rfl dX8_share_115 ?_
      refine Ev_iload (x := v4) rfl dX8_share_117 ?_
      obtain ⟨x3, g2, h⟩ := bsome h
      refine Ev_callSi (np := 1) (vs := [.int v4]) (rest := [.int v5]) mdX8_factorial lkX8_224 (rX8_factorial g2) rfl rfl (Nat.le_of_ble_eq_true rfl) (Nat.le_of_ble_eq_true rfl) dX8_share_119 ?_
      obtain ⟨x5, g4, h⟩ := bsome h
      refine Ev_callSi (np := 2) (vs := [.int v5, .int x3]) (rest := []) mdX8_common lkX8_227 (rX8_common g4) rfl rfl (Nat.le_of_ble_eq_true rfl) (Nat.le_of_ble_eq_true rfl) dX8_share_122 ?_
      refine Ev_istore (loc2 := [some (.ref v0), some (.int v1), some (.int v2), some (.int v3), some (.int v4), some (.int v5), some (.int x5), none]) (Nat.le_of_ble_eq_true rfl) rfl rfl dX8_share_125 ?_
      refine Ev_iload_n (x := v2) rfl dX8_share_127 ?_
      refine Ev_if_eq (tgt := 139) dX8_share_128 (by decide) (fun q6 => ?_) (fun q6 => ?_)
      · rw [if_pos q6] at h
        refine Ev_iload (x := v4) rfl dX8_share_139 ?_
        obtain ⟨x8, g7, h⟩ := bsome h
        refine Ev_callSi (np := 1) (vs := [.int v4]) (rest := []) mdX8_factorial lkX8_224 (rX8_factorial g7) rfl rfl (Nat.le_of_ble_eq_true rfl) (Nat.le_of_ble_eq_true rfl) dX8_share_141 ?_
        refine Ev_iload (x := x5) rfl dX8_share_144 ?_
        obtain ⟨z9, h⟩ := nsome h
        refine Ev_idiv z9 dX8_share_146 ?_
        cases h
        exact Ev_iret rfl rfl dX8_share_147 ⟨rfl, rfl⟩
      · rw [if_neg q6] at h
        refine Ev_iload (x := v5) rfl dX8_share_131 ?_
        refine Ev_iload (x := x5) rfl dX8_share_133 ?_
        obtain ⟨z10, h⟩ := nsome h
        refine Ev_idiv z10 dX8_share_135 ?_
        refine Ev_goto (tgt := 147) dX8_share_136 (by decide) ?_
        cases h
        exact Ev_iret rfl rfl dX8_share_147 ⟨rfl, rfl⟩
    · rw [if_neg q1] at h
      refine Ev_iload (x := v6) rfl dX8_share_36 ?_
      refine Ev_iload_n (x := v3) rfl dX8_share_38 ?_
      refine Ev_iconst ic_m1 dX8_share_39 ?_
      refine Ev_ixor dX8_share_40 ?_
      refine Ev_iand dX8_share_41 ?_
      refine Ev_if_ne (tgt := 109) dX8_share_42 (by decide) (fun q11 => ?_) (fun q11 => ?_)
      · rw [if_neg q11] at h
        refine Ev_iinc (x := v6) (v := (v6 + 1)) (loc2 := [some (.ref v0), some (.int v1), some (.int v2), some (.int v3), some (.int v4), some (.int v5), some (.int (v6 + 1)), none]) rfl (congrArg (v6 + ·) ic_1) (Nat.le_of_ble_eq_true rfl) rfl rfl dX8_share_109 ?_
        refine Ev_goto (tgt := 29) dX8_share_112 (by decide) ?_
        exact ih v0 v1 v2 v3 v4 v5 (v6 + 1) h
      · rw [if_pos q11] at h
        refine Ev_iload (x := v6) rfl dX8_share_45 ?_
        refine Ev_iload_n (x := v1) rfl dX8_share_47 ?_
        obtain ⟨x13, g12, h⟩ := bsome h
        refine Ev_callSi (np := 2) (vs := [.int v6, .int v1]) (rest := []) mdX8_has lkX8_106 (rX8_has g12) rfl rfl (Nat.le_of_ble_eq_true rfl) (Nat.le_of_ble_eq_true rfl) dX8_share_48 ?_
        refine Ev_if_ne (tgt := 109) dX8_share_51 (by decide) (fun q14 => ?_) (fun q14 => ?_)
        · rw [if_neg q14] at h
          refine Ev_iinc (x := v6) (v := (v6 + 1)) (loc2 := [some (.ref v0), some (.int v1), some (.int v2), some (.int v3), some (.int v4), some (.int v5), some (.int (v6 + 1)), none]) rfl (congrArg (v6 + ·) ic_1) (Nat.le_of_ble_eq_true rfl) rfl rfl dX8_share_109 ?_
          refine Ev_goto (tgt := 29) dX8_share_112 (by decide) ?_
          exact ih v0 v1 v2 v3 v4 v5 (v6 + 1) h
        · rw [if_pos q14] at h
          refine Ev_iload (x := v6) rfl dX8_share_54 ?_
          obtain ⟨x16, g15, h⟩ := bsome h
          refine Ev_callSi (np := 1) (vs := [.int v6]) (rest := []) mdX8_ones lkX8_112 (rX8_ones g15) rfl rfl (Nat.le_of_ble_eq_true rfl) (Nat.le_of_ble_eq_true rfl) dX8_share_56 ?_
          obtain ⟨x18, g17, h⟩ := bsome h
          refine Ev_callSi (np := 1) (vs := [.int x16]) (rest := []) mdX8_factorial lkX8_224 (rX8_factorial g17) rfl rfl (Nat.le_of_ble_eq_true rfl) (Nat.le_of_ble_eq_true rfl) dX8_share_59 ?_
          refine Ev_iload (x := v4) rfl dX8_share_62 ?_
          refine Ev_iconst ic_1 dX8_share_64 ?_
          refine Ev_isub dX8_share_65 ?_
          refine Ev_iload (x := v6) rfl dX8_share_66 ?_
          obtain ⟨x20, g19, h⟩ := bsome h
          refine Ev_callSi (np := 1) (vs := [.int v6]) (rest := [.int (v4 - 1), .int x18]) mdX8_ones lkX8_112 (rX8_ones g19) rfl rfl (Nat.le_of_ble_eq_true rfl) (Nat.le_of_ble_eq_true rfl) dX8_share_68 ?_
          refine Ev_isub dX8_share_71 ?_
          obtain ⟨x22, g21, h⟩ := bsome h
          refine Ev_callSi (np := 1) (vs := [.int ((v4 - 1) - x20)]) (rest := [.int x18]) mdX8_factorial lkX8_224 (rX8_factorial g21) rfl rfl (Nat.le_of_ble_eq_true rfl) (Nat.le_of_ble_eq_true rfl) dX8_share_72 ?_
          refine Ev_imul dX8_share_75 ?_
          refine Ev_istore (loc2 := [some (.ref v0), some (.int v1), some (.int v2), some (.int v3), some (.int v4), some (.int v5), some (.int v6), some (.int (x18 * x22))]) (Nat.le_of_ble_eq_true rfl) rfl rfl dX8_share_76 ?_
          refine Ev_iload (x := v5) rfl dX8_share_78 ?_
          refine Ev_iload (x := (x18 * x22)) rfl dX8_share_80 ?_
          refine Ev_aload_n (x := v0) rfl dX8_share_82 ?_
          refine Ev_iload (x := v6) rfl dX8_share_83 ?_
          refine Ev_iconst ic_1 dX8_share_85 ?_
          refine Ev_iload_n (x := v1) rfl dX8_share_86 ?_
          refine Ev_ishl dX8_share_87 ?_
          refine Ev_ior dX8_share_88 ?_
          obtain ⟨x24, g23, h⟩ := bsome h
          refine Ev_callVi (np := 1) (vs := [.int (v6 ||| (1 <<< (v1 &&& 31)))]) (rest := [.int (x18 * x22), .int v5]) mdX8_coverOf lkX8_195 ⟨_, rfl, rfl⟩ (oX8_coverOf g23) (rX8_coverOf g23) rfl rfl (Nat.le_of_ble_eq_true rfl) (Nat.le_of_ble_eq_true rfl) dX8_share_89 ?_
          obtain ⟨x26, g25, h⟩ := bsome h
          refine Ev_callSi (np := 1) (vs := [.int x24]) (rest := [.int (x18 * x22), .int v5]) mdX8_ones lkX8_112 (rX8_ones g25) rfl rfl (Nat.le_of_ble_eq_true rfl) (Nat.le_of_ble_eq_true rfl) dX8_share_92 ?_
          refine Ev_aload_n (x := v0) rfl dX8_share_95 ?_
          refine Ev_iload (x := v6) rfl dX8_share_96 ?_
          obtain ⟨x28, g27, h⟩ := bsome h
          refine Ev_callVi (np := 1) (vs := [.int v6]) (rest := [.int x26, .int (x18 * x22), .int v5]) mdX8_coverOf lkX8_195 ⟨_, rfl, rfl⟩ (oX8_coverOf g27) (rX8_coverOf g27) rfl rfl (Nat.le_of_ble_eq_true rfl) (Nat.le_of_ble_eq_true rfl) dX8_share_98 ?_
          obtain ⟨x30, g29, h⟩ := bsome h
          refine Ev_callSi (np := 1) (vs := [.int x28]) (rest := [.int x26, .int (x18 * x22), .int v5]) mdX8_ones lkX8_112 (rX8_ones g29) rfl rfl (Nat.le_of_ble_eq_true rfl) (Nat.le_of_ble_eq_true rfl) dX8_share_101 ?_
          refine Ev_isub dX8_share_104 ?_
          refine Ev_imul dX8_share_105 ?_
          refine Ev_iadd dX8_share_106 ?_
          refine Ev_istore (loc2 := [some (.ref v0), some (.int v1), some (.int v2), some (.int v3), some (.int v4), some (.int (v5 + ((x18 * x22) * (x26 - x30)))), some (.int v6), some (.int (x18 * x22))]) (Nat.le_of_ble_eq_true rfl) rfl rfl dX8_share_107 ?_
          refine Ev_iinc (x := v6) (v := (v6 + 1)) (loc2 := [some (.ref v0), some (.int v1), some (.int v2), some (.int v3), some (.int v4), some (.int (v5 + ((x18 * x22) * (x26 - x30)))), some (.int (v6 + 1)), some (.int (x18 * x22))]) rfl (congrArg (v6 + ·) ic_1) (Nat.le_of_ble_eq_true rfl) rfl rfl dX8_share_109 ?_
          refine Ev_goto (tgt := 29) dX8_share_112 (by decide) ?_
          refine Ev_drop 7 (loc2 := [some (.ref v0), some (.int v1), some (.int v2), some (.int v3), some (.int v4), some (.int (v5 + ((x18 * x22) * (x26 - x30)))), some (.int (v6 + 1)), none]) rfl ?_
          exact ih v0 v1 v2 v3 v4 (v5 + ((x18 * x22) * (x26 - x30))) (v6 + 1) h
def fX8_share (M : mM) (v0 : Nat) (v1 : Int32) (v2 : Int32) : Option Int32 :=
    if isO M v0 8 = true then
      (fX8_isThere M v0 0 v1).bind fun x2 =>
      if x2 = 0 then
        (some (-1))
      else
        ((fX8_whoIs M v0 0).bind fun x5 =>
        (fX8_ones M x5).bind fun x7 =>
        fX8_share_c29 M FUEL v0 v1 v2 x5 x7 0 0)
    else none
theorem oX8_share {M : mM} {v0 : Nat} {v1 : Int32} {v2 : Int32} {y : Int32} (h : fX8_share M v0 v1 v2 = some y) : isO M v0 8 = true := by
  unfold fX8_share at h
  exact (gsome h).1
set_option maxRecDepth 20000 in
set_option maxHeartbeats 4000000 in
theorem rX8_share {E : mE} {M : mM} {v0 : Nat} {v1 : Int32} {v2 : Int32} {x : Int32} (h : fX8_share M v0 v1 v2 = some x) : EvC mX8_share E 3 0 0 [.ref v0, .int v1, .int v2] M (some (.int x)) M := by
  unfold fX8_share at h
  replace h := (gsome h).2
  refine EvC.of [some (.ref v0), some (.int v1), some (.int v2), none, none, none, none, none] pnX8_share rfl (Nat.le_of_ble_eq_true rfl) ?_
  refine Ev_aload_n (x := v0) rfl dX8_share_0 ?_
  refine Ev_iconst ic_0 dX8_share_1 ?_
  refine Ev_iload_n (x := v1) rfl dX8_share_2 ?_
  obtain ⟨x2, g1, h⟩ := bsome h
  refine Ev_callVi (np := 2) (vs := [.int 0, .int v1]) (rest := []) mdX8_isThere lkX8_99 ⟨_, rfl, rfl⟩ (oX8_isThere g1) (rX8_isThere g1) rfl rfl (Nat.le_of_ble_eq_true rfl) (Nat.le_of_ble_eq_true rfl) dX8_share_3 ?_
  refine Ev_if_ne (tgt := 11) dX8_share_6 (by decide) (fun q3 => ?_) (fun q3 => ?_)
  · rw [if_neg q3] at h
    refine Ev_aload_n (x := v0) rfl dX8_share_11 ?_
    refine Ev_iconst ic_0 dX8_share_12 ?_
    obtain ⟨x5, g4, h⟩ := bsome h
    refine Ev_callVi (np := 1) (vs := [.int 0]) (rest := []) mdX8_whoIs lkX8_116 ⟨_, rfl, rfl⟩ (oX8_whoIs g4) (rX8_whoIs g4) rfl rfl (Nat.le_of_ble_eq_true rfl) (Nat.le_of_ble_eq_true rfl) dX8_share_13 ?_
    refine Ev_istore_n (loc2 := [some (.ref v0), some (.int v1), some (.int v2), some (.int x5), none, none, none, none]) (Nat.le_of_ble_eq_true rfl) rfl rfl dX8_share_16 ?_
    refine Ev_iload_n (x := x5) rfl dX8_share_17 ?_
    obtain ⟨x7, g6, h⟩ := bsome h
    refine Ev_callSi (np := 1) (vs := [.int x5]) (rest := []) mdX8_ones lkX8_112 (rX8_ones g6) rfl rfl (Nat.le_of_ble_eq_true rfl) (Nat.le_of_ble_eq_true rfl) dX8_share_18 ?_
    refine Ev_istore (loc2 := [some (.ref v0), some (.int v1), some (.int v2), some (.int x5), some (.int x7), none, none, none]) (Nat.le_of_ble_eq_true rfl) rfl rfl dX8_share_21 ?_
    refine Ev_iconst ic_0 dX8_share_23 ?_
    refine Ev_istore (loc2 := [some (.ref v0), some (.int v1), some (.int v2), some (.int x5), some (.int x7), some (.int 0), none, none]) (Nat.le_of_ble_eq_true rfl) rfl rfl dX8_share_24 ?_
    refine Ev_iconst ic_0 dX8_share_26 ?_
    refine Ev_istore (loc2 := [some (.ref v0), some (.int v1), some (.int v2), some (.int x5), some (.int x7), some (.int 0), some (.int 0), none]) (Nat.le_of_ble_eq_true rfl) rfl rfl dX8_share_27 ?_
    exact rX8_share_c29 FUEL v0 v1 v2 x5 x7 0 0 h
  · rw [if_pos q3] at h
    refine Ev_iconst ic_m1 dX8_share_9 ?_
    cases h
    exact Ev_iret rfl rfl dX8_share_10 ⟨rfl, rfl⟩
/-! TinselRiverModel.gain(IIIII)I -/
def fX8_gain (M : mM) (v0 : Nat) (v1 : Int32) (v2 : Int32) (v3 : Int32) (v4 : Int32) (v5 : Int32) : Option (Int32 × mM) :=
    if isO M v0 8 = true then
      (fX8_layTrial M v0).bind fun M2 =>
      (gR M2 v0 8 2).bind fun a3 =>
      (aS M2 false a3 (57 + v1) v3).bind fun M4 =>
      (gR M4 v0 8 2).bind fun a5 =>
      (aS M4 false a5 (57 + v2) v4).bind fun M6 =>
      (fX8_passOn M6 v0 1).bind fun p8 =>
      (gR p8.2 v0 8 2).bind fun a9 =>
      (aI p8.2 false a9 (61 + v5)).bind fun x10 =>
      (gR p8.2 v0 8 2).bind fun a11 =>
      (aI p8.2 false a11 (57 + v5)).bind fun x12 =>
      (gR p8.2 v0 8 2).bind fun a13 =>
      (aI p8.2 false a13 v5).bind fun x14 =>
      if x12 = x14 then
        (some (((2 * x10) + 1), p8.2))
      else
        (some (((2 * x10) + 0), p8.2))
    else none
theorem oX8_gain {M : mM} {v0 : Nat} {v1 : Int32} {v2 : Int32} {v3 : Int32} {v4 : Int32} {v5 : Int32} {y : (Int32 × mM)} (h : fX8_gain M v0 v1 v2 v3 v4 v5 = some y) : isO M v0 8 = true := by
  unfold fX8_gain at h
  exact (gsome h).1
set_option maxRecDepth 20000 in
set_option maxHeartbeats 4000000 in
theorem rX8_gain {E : mE} {M : mM} {v0 : Nat} {v1 : Int32} {v2 : Int32} {v3 : Int32} {v4 : Int32} {v5 : Int32} {x : Int32} {Mf : mM} (h : fX8_gain M v0 v1 v2 v3 v4 v5 = some (x, Mf)) : EvC mX8_gain E 5 0 0 [.ref v0, .int v1, .int v2, .int v3, .int v4, .int v5] M (some (.int x)) Mf := by
  unfold fX8_gain at h
  replace h := (gsome h).2
  refine EvC.of [some (.ref v0), some (.int v1), some (.int v2), some (.int v3), some (.int v4), some (.int v5)] pnX8_gain rfl (Nat.le_of_ble_eq_true rfl) ?_
  refine Ev_aload_n (x := v0) rfl dX8_gain_0 ?_
  obtain ⟨M2, g1, h⟩ := bsome h
  refine Ev_callVv (np := 0) (vs := []) (rest := []) mdX8_layTrial lkX8_180 ⟨_, rfl, rfl⟩ (oX8_layTrial g1) (rX8_layTrial g1) rfl rfl (Nat.le_of_ble_eq_true rfl) (Nat.le_of_ble_eq_true rfl) dX8_gain_1 ?_
  refine Ev_aload_n (x := v0) rfl dX8_gain_4 ?_
  obtain ⟨a3, g3, h⟩ := bsome h
  refine Ev_getR flX8_13 dX8_gain_5 g3 ?_
  refine Ev_bipush bp_57 dX8_gain_8 ?_
  refine Ev_iload_n (x := v1) rfl dX8_gain_10 ?_
  refine Ev_iadd dX8_gain_11 ?_
  refine Ev_iload_n (x := v3) rfl dX8_gain_12 ?_
  obtain ⟨M4, g4, h⟩ := bsome h
  refine Ev_iast dX8_gain_13 g4 ?_
  refine Ev_aload_n (x := v0) rfl dX8_gain_14 ?_
  obtain ⟨a5, g5, h⟩ := bsome h
  refine Ev_getR flX8_13 dX8_gain_15 g5 ?_
  refine Ev_bipush bp_57 dX8_gain_18 ?_
  refine Ev_iload_n (x := v2) rfl dX8_gain_20 ?_
  refine Ev_iadd dX8_gain_21 ?_
  refine Ev_iload (x := v4) rfl dX8_gain_22 ?_
  obtain ⟨M6, g6, h⟩ := bsome h
  refine Ev_iast dX8_gain_24 g6 ?_
  refine Ev_aload_n (x := v0) rfl dX8_gain_25 ?_
  refine Ev_iconst ic_1 dX8_gain_26 ?_
  obtain ⟨p8, g7, h⟩ := bsome h
  refine Ev_callVi (np := 1) (vs := [.int 1]) (rest := []) mdX8_passOn lkX8_163 ⟨_, rfl, rfl⟩ (oX8_passOn g7) (rX8_passOn g7) rfl rfl (Nat.le_of_ble_eq_true rfl) (Nat.le_of_ble_eq_true rfl) dX8_gain_27 ?_
  refine Ev_pop rfl dX8_gain_30 ?_
  refine Ev_iconst ic_2 dX8_gain_31 ?_
  refine Ev_aload_n (x := v0) rfl dX8_gain_32 ?_
  obtain ⟨a9, g9, h⟩ := bsome h
  refine Ev_getR flX8_13 dX8_gain_33 g9 ?_
  refine Ev_bipush bp_61 dX8_gain_36 ?_
  refine Ev_iload (x := v5) rfl dX8_gain_38 ?_
  refine Ev_iadd dX8_gain_40 ?_
  obtain ⟨x10, g10, h⟩ := bsome h
  refine Ev_iald dX8_gain_41 g10 ?_
  refine Ev_imul dX8_gain_42 ?_
  refine Ev_aload_n (x := v0) rfl dX8_gain_43 ?_
  obtain ⟨a11, g11, h⟩ := bsome h
  refine Ev_getR flX8_13 dX8_gain_44 g11 ?_
  refine Ev_bipush bp_57 dX8_gain_47 ?_
  refine Ev_iload (x := v5) rfl dX8_gain_49 ?_
  refine Ev_iadd dX8_gain_51 ?_
  obtain ⟨x12, g12, h⟩ := bsome h
  refine Ev_iald dX8_gain_52 g12 ?_
  refine Ev_aload_n (x := v0) rfl dX8_gain_53 ?_
  obtain ⟨a13, g13, h⟩ := bsome h
  refine Ev_getR flX8_13 dX8_gain_54 g13 ?_
  refine Ev_iload (x := v5) rfl dX8_gain_57 ?_
  obtain ⟨x14, g14, h⟩ := bsome h
  refine Ev_iald dX8_gain_59 g14 ?_
  refine Ev_icmp_ne (tgt := 67) dX8_gain_60 (by decide) (fun q15 => ?_) (fun q15 => ?_)
  · rw [if_neg q15] at h
    refine Ev_iconst ic_0 dX8_gain_67 ?_
    refine Ev_iadd dX8_gain_68 ?_
    cases h
    exact Ev_iret rfl rfl dX8_gain_69 ⟨rfl, rfl⟩
  · rw [if_pos q15] at h
    refine Ev_iconst ic_1 dX8_gain_63 ?_
    refine Ev_goto (tgt := 68) dX8_gain_64 (by decide) ?_
    refine Ev_iadd dX8_gain_68 ?_
    cases h
    exact Ev_iret rfl rfl dX8_gain_69 ⟨rfl, rfl⟩
