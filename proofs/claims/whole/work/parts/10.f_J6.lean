/-! printed by wip/whole/gen.py -/
/-! java/lang/Integer.bitCount(I)I -/
def fJ6_bitCount_0f7a4 (M : mM) (v0 : Int32) : Option Int32 :=
    (some (v0 - (((v0).toUInt32 >>> (Int32.toUInt32 1 &&& Int32.toUInt32 31)).toInt32 &&& 1431655765))).bind fun x1 =>
    (some ((x1 &&& 858993459) + (((x1).toUInt32 >>> (Int32.toUInt32 2 &&& Int32.toUInt32 31)).toInt32 &&& 858993459))).bind fun x2 =>
    (some ((x2 + ((x2).toUInt32 >>> (Int32.toUInt32 4 &&& Int32.toUInt32 31)).toInt32) &&& 252645135)).bind fun x3 =>
    (some (x3 + ((x3).toUInt32 >>> (Int32.toUInt32 8 &&& Int32.toUInt32 31)).toInt32)).bind fun x4 =>
    (some (x4 + ((x4).toUInt32 >>> (Int32.toUInt32 16 &&& Int32.toUInt32 31)).toInt32)).bind fun x5 =>
    some (x5 &&& 63)
set_option maxRecDepth 20000 in
set_option maxHeartbeats 4000000 in
theorem rJ6_bitCount_0f7a4 {E : mE} {M : mM} {v0 : Int32} {x : Int32} (h : fJ6_bitCount_0f7a4 M v0 = some x) : EvC mJ6_bitCount_0f7a4 E 0 0 0 [.int v0] M (some (.int x)) M := by
  unfold fJ6_bitCount_0f7a4 at h
  refine EvC.of [some (.int v0)] pnJ6_bitCount_0f7a4 rfl (Nat.le_of_ble_eq_true rfl) ?_
  refine Ev_iload_n (x := v0) rfl dJ6_bitCount_0f7a4_0 ?_
  refine Ev_iload_n (x := v0) rfl dJ6_bitCount_0f7a4_1 ?_
  refine Ev_iconst ic_1 dJ6_bitCount_0f7a4_2 ?_
  refine Ev_iushr dJ6_bitCount_0f7a4_3 ?_
  refine Ev_ldcw csJ6_265 dJ6_bitCount_0f7a4_4 ?_
  refine Ev_iand dJ6_bitCount_0f7a4_7 ?_
  refine Ev_isub dJ6_bitCount_0f7a4_8 ?_
  obtain ⟨x1, g1, h⟩ := bsome h
  refine Ev_istore_n (loc2 := [some (.int x1)]) (Nat.le_of_ble_eq_true rfl) rfl (by cases g1; rfl) dJ6_bitCount_0f7a4_9 ?_
  refine Ev_iload_n (x := x1) rfl dJ6_bitCount_0f7a4_10 ?_
  refine Ev_ldcw csJ6_266 dJ6_bitCount_0f7a4_11 ?_
  refine Ev_iand dJ6_bitCount_0f7a4_14 ?_
  refine Ev_iload_n (x := x1) rfl dJ6_bitCount_0f7a4_15 ?_
  refine Ev_iconst ic_2 dJ6_bitCount_0f7a4_16 ?_
  refine Ev_iushr dJ6_bitCount_0f7a4_17 ?_
  refine Ev_ldcw csJ6_266 dJ6_bitCount_0f7a4_18 ?_
  refine Ev_iand dJ6_bitCount_0f7a4_21 ?_
  refine Ev_iadd dJ6_bitCount_0f7a4_22 ?_
  obtain ⟨x2, g2, h⟩ := bsome h
  refine Ev_istore_n (loc2 := [some (.int x2)]) (Nat.le_of_ble_eq_true rfl) rfl (by cases g2; rfl) dJ6_bitCount_0f7a4_23 ?_
  refine Ev_iload_n (x := x2) rfl dJ6_bitCount_0f7a4_24 ?_
  refine Ev_iload_n (x := x2) rfl dJ6_bitCount_0f7a4_25 ?_
  refine Ev_iconst ic_4 dJ6_bitCount_0f7a4_26 ?_
  refine Ev_iushr dJ6_bitCount_0f7a4_27 ?_
  refine Ev_iadd dJ6_bitCount_0f7a4_28 ?_
  refine Ev_ldcw csJ6_267 dJ6_bitCount_0f7a4_29 ?_
  refine Ev_iand dJ6_bitCount_0f7a4_32 ?_
  obtain ⟨x3, g3, h⟩ := bsome h
  refine Ev_istore_n (loc2 := [some (.int x3)]) (Nat.le_of_ble_eq_true rfl) rfl (by cases g3; rfl) dJ6_bitCount_0f7a4_33 ?_
  refine Ev_iload_n (x := x3) rfl dJ6_bitCount_0f7a4_34 ?_
  refine Ev_iload_n (x := x3) rfl dJ6_bitCount_0f7a4_35 ?_
  refine Ev_bipush bp_8 dJ6_bitCount_0f7a4_36 ?_
  refine Ev_iushr dJ6_bitCount_0f7a4_38 ?_
  refine Ev_iadd dJ6_bitCount_0f7a4_39 ?_
  obtain ⟨x4, g4, h⟩ := bsome h
  refine Ev_istore_n (loc2 := [some (.int x4)]) (Nat.le_of_ble_eq_true rfl) rfl (by cases g4; rfl) dJ6_bitCount_0f7a4_40 ?_
  refine Ev_iload_n (x := x4) rfl dJ6_bitCount_0f7a4_41 ?_
  refine Ev_iload_n (x := x4) rfl dJ6_bitCount_0f7a4_42 ?_
  refine Ev_bipush bp_16 dJ6_bitCount_0f7a4_43 ?_
  refine Ev_iushr dJ6_bitCount_0f7a4_45 ?_
  refine Ev_iadd dJ6_bitCount_0f7a4_46 ?_
  obtain ⟨x5, g5, h⟩ := bsome h
  refine Ev_istore_n (loc2 := [some (.int x5)]) (Nat.le_of_ble_eq_true rfl) rfl (by cases g5; rfl) dJ6_bitCount_0f7a4_47 ?_
  refine Ev_iload_n (x := x5) rfl dJ6_bitCount_0f7a4_48 ?_
  refine Ev_bipush bp_63 dJ6_bitCount_0f7a4_49 ?_
  refine Ev_iand dJ6_bitCount_0f7a4_51 ?_
  cases h
  exact Ev_iret rfl rfl dJ6_bitCount_0f7a4_52 ⟨rfl, rfl⟩
