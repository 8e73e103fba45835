/-! ===== rules of the small machine: one an instruction ===== -/
section MJ
variable {me : mMe} {E : mE} {d mc ms : Nat} {r : Option Value} {Mf : mM} {pc : Nat} {loc : mL} {stk : List Value} {M : mM} {k n : Nat}
theorem Ev_iconst {i : Int} {v : Int32} (hv : Int32.ofInt i = v) (hd : decode me.2.1 pc = .ok (.iconst i, 1)) (h : Ev me E d mc ms r Mf (pc + 1) loc (.int v :: stk) M k n) : Ev me E d mc ms r Mf pc loc (stk) M k n := by
  intro D p l e R s m args below meth c Z C Rt H locs ls hH hL hk hn hl
  exact lv_iconst C.1 C.2.1 hd hv (h D p l e R s m args below meth c Z C Rt H locs ls hH hL hk hn hl)
theorem Ev_bipush {i : Int} {v : Int32} (hv : (Int8.ofInt i).toInt32 = v) (hd : decode me.2.1 pc = .ok (.bipush i, 2)) (h : Ev me E d mc ms r Mf (pc + 2) loc (.int v :: stk) M k n) : Ev me E d mc ms r Mf pc loc (stk) M k n := by
  intro D p l e R s m args below meth c Z C Rt H locs ls hH hL hk hn hl
  exact lv_bipush C.1 C.2.1 hd hv (h D p l e R s m args below meth c Z C Rt H locs ls hH hL hk hn hl)
theorem Ev_sipush {i : Int} {v : Int32} (hv : (Int16.ofInt i).toInt32 = v) (hd : decode me.2.1 pc = .ok (.sipush i, 3)) (h : Ev me E d mc ms r Mf (pc + 3) loc (.int v :: stk) M k n) : Ev me E d mc ms r Mf pc loc (stk) M k n := by
  intro D p l e R s m args below meth c Z C Rt H locs ls hH hL hk hn hl
  exact lv_sipush C.1 C.2.1 hd hv (h D p l e R s m args below meth c Z C Rt H locs ls hH hL hk hn hl)
theorem Ev_lconst {i : Fin 2} {v : Int64} (hv : Int64.ofNat (i : Nat) = v) (hd : decode me.2.1 pc = .ok (.lconst i, 1)) (h : Ev me E d mc ms r Mf (pc + 1) loc (.long v :: stk) M k n) : Ev me E d mc ms r Mf pc loc (stk) M k n := by
  intro D p l e R s m args below meth c Z C Rt H locs ls hH hL hk hn hl
  exact lv_lconst C.1 C.2.1 hd hv (h D p l e R s m args below meth c Z C Rt H locs ls hH hL hk hn hl)
theorem Ev_iload_n {i : Fin 4} {x : Int32} (hi : loc[(i : Nat)]? = some (some (.int x))) (hd : decode me.2.1 pc = .ok (.iload_n i, 1)) (h : Ev me E d mc ms r Mf (pc + 1) loc (.int x :: stk) M k n) : Ev me E d mc ms r Mf pc loc (stk) M k n := by
  intro D p l e R s m args below meth c Z C Rt H locs ls hH hL hk hn hl
  exact lv_iload_n C.1 C.2.1 hd rfl (mloc_at hl hi) (h D p l e R s m args below meth c Z C Rt H locs ls hH hL hk hn hl)
theorem Ev_iload {i : Nat} {x : Int32} (hi : loc[i]? = some (some (.int x))) (hd : decode me.2.1 pc = .ok (.iload i, 2)) (h : Ev me E d mc ms r Mf (pc + 2) loc (.int x :: stk) M k n) : Ev me E d mc ms r Mf pc loc (stk) M k n := by
  intro D p l e R s m args below meth c Z C Rt H locs ls hH hL hk hn hl
  exact lv_iload C.1 C.2.1 hd (mloc_at hl hi) (h D p l e R s m args below meth c Z C Rt H locs ls hH hL hk hn hl)
theorem Ev_lload_n {i : Fin 4} {x : Int64} (hi : loc[(i : Nat)]? = some (some (.long x))) (hd : decode me.2.1 pc = .ok (.lload_n i, 1)) (h : Ev me E d mc ms r Mf (pc + 1) loc (.long x :: stk) M k n) : Ev me E d mc ms r Mf pc loc (stk) M k n := by
  intro D p l e R s m args below meth c Z C Rt H locs ls hH hL hk hn hl
  exact lv_lload_n C.1 C.2.1 hd rfl (mloc_at hl hi) (h D p l e R s m args below meth c Z C Rt H locs ls hH hL hk hn hl)
theorem Ev_lload {i : Nat} {x : Int64} (hi : loc[i]? = some (some (.long x))) (hd : decode me.2.1 pc = .ok (.lload i, 2)) (h : Ev me E d mc ms r Mf (pc + 2) loc (.long x :: stk) M k n) : Ev me E d mc ms r Mf pc loc (stk) M k n := by
  intro D p l e R s m args below meth c Z C Rt H locs ls hH hL hk hn hl
  exact lv_lload C.1 C.2.1 hd (mloc_at hl hi) (h D p l e R s m args below meth c Z C Rt H locs ls hH hL hk hn hl)
theorem Ev_aload_n {i : Fin 4} {x : Nat} (hi : loc[(i : Nat)]? = some (some (.ref x))) (hd : decode me.2.1 pc = .ok (.aload_n i, 1)) (h : Ev me E d mc ms r Mf (pc + 1) loc (.ref x :: stk) M k n) : Ev me E d mc ms r Mf pc loc (stk) M k n := by
  intro D p l e R s m args below meth c Z C Rt H locs ls hH hL hk hn hl
  exact lv_aload_n C.1 C.2.1 hd rfl (mloc_at hl hi) (h D p l e R s m args below meth c Z C Rt H locs ls hH hL hk hn hl)
theorem Ev_aload {i : Nat} {x : Nat} (hi : loc[i]? = some (some (.ref x))) (hd : decode me.2.1 pc = .ok (.aload i, 2)) (h : Ev me E d mc ms r Mf (pc + 2) loc (.ref x :: stk) M k n) : Ev me E d mc ms r Mf pc loc (stk) M k n := by
  intro D p l e R s m args below meth c Z C Rt H locs ls hH hL hk hn hl
  exact lv_aload C.1 C.2.1 hd (mloc_at hl hi) (h D p l e R s m args below meth c Z C Rt H locs ls hH hL hk hn hl)
theorem Ev_istore_n {i : Fin 4} {x : Int32} {loc2 : mL} (hi : (i : Nat) < me.2.2.1) (hok : mok1 loc i = true) (hl2 : loc.set ((i : Nat)) (some (.int x)) = loc2) (hd : decode me.2.1 pc = .ok (.istore_n i, 1)) (h : Ev me E d mc ms r Mf (pc + 1) loc2 stk M k n) : Ev me E d mc ms r Mf pc loc (.int x :: stk) M k n := by
  intro D p l e R s m args below meth c Z C Rt H locs ls hH hL hk hn hl
  subst hl2
  exact lv_istore_n C.1 C.2.1 hd rfl hl hi rfl (fun ls' hl' => h D p l e R s m args below meth c Z C Rt H locs ls' hH hL hk hn (hl'.mono (mloc_set1 hok)))
theorem Ev_istore {i : Nat} {x : Int32} {loc2 : mL} (hi : i < me.2.2.1) (hok : mok1 loc i = true) (hl2 : loc.set (i) (some (.int x)) = loc2) (hd : decode me.2.1 pc = .ok (.istore i, 2)) (h : Ev me E d mc ms r Mf (pc + 2) loc2 stk M k n) : Ev me E d mc ms r Mf pc loc (.int x :: stk) M k n := by
  intro D p l e R s m args below meth c Z C Rt H locs ls hH hL hk hn hl
  subst hl2
  exact lv_istore C.1 C.2.1 hd hl hi rfl (fun ls' hl' => h D p l e R s m args below meth c Z C Rt H locs ls' hH hL hk hn (hl'.mono (mloc_set1 hok)))
theorem Ev_lstore_n {i : Fin 4} {x : Int64} {loc2 : mL} (hi : (i : Nat) + 1 < me.2.2.1) (hok : mok1 loc i = true) (hl2 : (loc.set ((i : Nat)) (some (.long x))).set ((i : Nat) + 1) none = loc2) (hd : decode me.2.1 pc = .ok (.lstore_n i, 1)) (h : Ev me E d mc ms r Mf (pc + 1) loc2 stk M k n) : Ev me E d mc ms r Mf pc loc (.long x :: stk) M k n := by
  intro D p l e R s m args below meth c Z C Rt H locs ls hH hL hk hn hl
  subst hl2
  exact lv_lstore_n C.1 C.2.1 hd rfl hl hi rfl (fun ls' hl' => h D p l e R s m args below meth c Z C Rt H locs ls' hH hL hk hn (hl'.mono (mloc_set2 hok)))
theorem Ev_lstore {i : Nat} {x : Int64} {loc2 : mL} (hi : i + 1 < me.2.2.1) (hok : mok1 loc i = true) (hl2 : (loc.set (i) (some (.long x))).set (i + 1) none = loc2) (hd : decode me.2.1 pc = .ok (.lstore i, 2)) (h : Ev me E d mc ms r Mf (pc + 2) loc2 stk M k n) : Ev me E d mc ms r Mf pc loc (.long x :: stk) M k n := by
  intro D p l e R s m args below meth c Z C Rt H locs ls hH hL hk hn hl
  subst hl2
  exact lv_lstore C.1 C.2.1 hd hl hi rfl (fun ls' hl' => h D p l e R s m args below meth c Z C Rt H locs ls' hH hL hk hn (hl'.mono (mloc_set2 hok)))
theorem Ev_astore_n {i : Fin 4} {x : Nat} {loc2 : mL} (hi : (i : Nat) < me.2.2.1) (hok : mok1 loc i = true) (hl2 : loc.set ((i : Nat)) (some (.ref x)) = loc2) (hd : decode me.2.1 pc = .ok (.astore_n i, 1)) (h : Ev me E d mc ms r Mf (pc + 1) loc2 stk M k n) : Ev me E d mc ms r Mf pc loc (.ref x :: stk) M k n := by
  intro D p l e R s m args below meth c Z C Rt H locs ls hH hL hk hn hl
  subst hl2
  exact lv_astore_n C.1 C.2.1 hd rfl hl hi rfl (fun ls' hl' => h D p l e R s m args below meth c Z C Rt H locs ls' hH hL hk hn (hl'.mono (mloc_set1 hok)))
theorem Ev_astore {i : Nat} {x : Nat} {loc2 : mL} (hi : i < me.2.2.1) (hok : mok1 loc i = true) (hl2 : loc.set (i) (some (.ref x)) = loc2) (hd : decode me.2.1 pc = .ok (.astore i, 2)) (h : Ev me E d mc ms r Mf (pc + 2) loc2 stk M k n) : Ev me E d mc ms r Mf pc loc (.ref x :: stk) M k n := by
  intro D p l e R s m args below meth c Z C Rt H locs ls hH hL hk hn hl
  subst hl2
  exact lv_astore C.1 C.2.1 hd hl hi rfl (fun ls' hl' => h D p l e R s m args below meth c Z C Rt H locs ls' hH hL hk hn (hl'.mono (mloc_set1 hok)))
theorem Ev_drop (i : Nat) {loc2 : mL} (hl2 : loc.set i none = loc2) (h : Ev me E d mc ms r Mf pc loc2 stk M k n) : Ev me E d mc ms r Mf pc loc stk M k n := by
  intro D p l e R s m args below meth c Z C Rt H locs ls hH hL hk hn hl
  subst hl2
  exact h D p l e R s m args below meth c Z C Rt H locs ls hH hL hk hn (hl.mono mloc_drop)
theorem Ev_iinc {i : Nat} {j : Int} {x v : Int32} {loc2 : mL} (hx : loc[i]? = some (some (.int x))) (hv : x + Int32.ofInt j = v) (hi : i < me.2.2.1) (hok : mok1 loc i = true) (hl2 : loc.set i (some (.int v)) = loc2) (hd : decode me.2.1 pc = .ok (.iinc i j, 3)) (h : Ev me E d mc ms r Mf (pc + 3) loc2 stk M k n) : Ev me E d mc ms r Mf pc loc stk M k n := by
  intro D p l e R s m args below meth c Z C Rt H locs ls hH hL hk hn hl
  subst hl2
  obtain ⟨q, hq⟩ := List.getElem?_of_mem (mloc_mem.mpr ⟨i, _, hx, by rw [Nat.zero_add]⟩ : (i, mtr E (.int x)) ∈ mloc E 0 loc)
  exact lv_iinc C.1 C.2.1 hd hl hq hv hi rfl (fun ls' hl' => h D p l e R s m args below meth c Z C Rt H locs ls' hH hL hk hn (hl'.mono (mloc_set1 hok)))
theorem Ev_iadd {x y : Int32} (hd : decode me.2.1 pc = .ok (.iadd, 1)) (h : Ev me E d mc ms r Mf (pc + 1) loc (.int (x + y) :: stk) M k n) : Ev me E d mc ms r Mf pc loc (.int y :: .int x :: stk) M k n := by
  intro D p l e R s m args below meth c Z C Rt H locs ls hH hL hk hn hl
  exact lv_iadd C.1 C.2.1 hd (h D p l e R s m args below meth c Z C Rt H locs ls hH hL hk hn hl)
theorem Ev_isub {x y : Int32} (hd : decode me.2.1 pc = .ok (.isub, 1)) (h : Ev me E d mc ms r Mf (pc + 1) loc (.int (x - y) :: stk) M k n) : Ev me E d mc ms r Mf pc loc (.int y :: .int x :: stk) M k n := by
  intro D p l e R s m args below meth c Z C Rt H locs ls hH hL hk hn hl
  exact lv_isub C.1 C.2.1 hd (h D p l e R s m args below meth c Z C Rt H locs ls hH hL hk hn hl)
theorem Ev_imul {x y : Int32} (hd : decode me.2.1 pc = .ok (.imul, 1)) (h : Ev me E d mc ms r Mf (pc + 1) loc (.int (x * y) :: stk) M k n) : Ev me E d mc ms r Mf pc loc (.int y :: .int x :: stk) M k n := by
  intro D p l e R s m args below meth c Z C Rt H locs ls hH hL hk hn hl
  exact lv_imul C.1 C.2.1 hd (h D p l e R s m args below meth c Z C Rt H locs ls hH hL hk hn hl)
theorem Ev_iand {x y : Int32} (hd : decode me.2.1 pc = .ok (.iand, 1)) (h : Ev me E d mc ms r Mf (pc + 1) loc (.int (x &&& y) :: stk) M k n) : Ev me E d mc ms r Mf pc loc (.int y :: .int x :: stk) M k n := by
  intro D p l e R s m args below meth c Z C Rt H locs ls hH hL hk hn hl
  exact lv_iand C.1 C.2.1 hd (h D p l e R s m args below meth c Z C Rt H locs ls hH hL hk hn hl)
theorem Ev_ior {x y : Int32} (hd : decode me.2.1 pc = .ok (.ior, 1)) (h : Ev me E d mc ms r Mf (pc + 1) loc (.int (x ||| y) :: stk) M k n) : Ev me E d mc ms r Mf pc loc (.int y :: .int x :: stk) M k n := by
  intro D p l e R s m args below meth c Z C Rt H locs ls hH hL hk hn hl
  exact lv_ior C.1 C.2.1 hd (h D p l e R s m args below meth c Z C Rt H locs ls hH hL hk hn hl)
theorem Ev_ixor {x y : Int32} (hd : decode me.2.1 pc = .ok (.ixor, 1)) (h : Ev me E d mc ms r Mf (pc + 1) loc (.int (x ^^^ y) :: stk) M k n) : Ev me E d mc ms r Mf pc loc (.int y :: .int x :: stk) M k n := by
  intro D p l e R s m args below meth c Z C Rt H locs ls hH hL hk hn hl
  exact lv_ixor C.1 C.2.1 hd (h D p l e R s m args below meth c Z C Rt H locs ls hH hL hk hn hl)
theorem Ev_ishl {x y : Int32} (hd : decode me.2.1 pc = .ok (.ishl, 1)) (h : Ev me E d mc ms r Mf (pc + 1) loc (.int (x <<< (y &&& 31)) :: stk) M k n) : Ev me E d mc ms r Mf pc loc (.int y :: .int x :: stk) M k n := by
  intro D p l e R s m args below meth c Z C Rt H locs ls hH hL hk hn hl
  exact lv_ishl C.1 C.2.1 hd (h D p l e R s m args below meth c Z C Rt H locs ls hH hL hk hn hl)
theorem Ev_ishr {x y : Int32} (hd : decode me.2.1 pc = .ok (.ishr, 1)) (h : Ev me E d mc ms r Mf (pc + 1) loc (.int (x >>> (y &&& 31)) :: stk) M k n) : Ev me E d mc ms r Mf pc loc (.int y :: .int x :: stk) M k n := by
  intro D p l e R s m args below meth c Z C Rt H locs ls hH hL hk hn hl
  exact lv_ishr C.1 C.2.1 hd (h D p l e R s m args below meth c Z C Rt H locs ls hH hL hk hn hl)
theorem Ev_ineg {x : Int32} (hd : decode me.2.1 pc = .ok (.ineg, 1)) (h : Ev me E d mc ms r Mf (pc + 1) loc (.int (-x) :: stk) M k n) : Ev me E d mc ms r Mf pc loc (.int x :: stk) M k n := by
  intro D p l e R s m args below meth c Z C Rt H locs ls hH hL hk hn hl
  exact lv_ineg C.1 C.2.1 hd (h D p l e R s m args below meth c Z C Rt H locs ls hH hL hk hn hl)
theorem Ev_idiv {x y : Int32} (hne : ¬ y = 0) (hd : decode me.2.1 pc = .ok (.idiv, 1)) (h : Ev me E d mc ms r Mf (pc + 1) loc (.int (x / y) :: stk) M k n) : Ev me E d mc ms r Mf pc loc (.int y :: .int x :: stk) M k n := by
  intro D p l e R s m args below meth c Z C Rt H locs ls hH hL hk hn hl
  exact lv_idiv C.1 C.2.1 hd hne (h D p l e R s m args below meth c Z C Rt H locs ls hH hL hk hn hl)
theorem Ev_irem {x y : Int32} (hne : ¬ y = 0) (hd : decode me.2.1 pc = .ok (.irem, 1)) (h : Ev me E d mc ms r Mf (pc + 1) loc (.int (x - x / y * y) :: stk) M k n) : Ev me E d mc ms r Mf pc loc (.int y :: .int x :: stk) M k n := by
  intro D p l e R s m args below meth c Z C Rt H locs ls hH hL hk hn hl
  exact lv_irem C.1 C.2.1 hd hne (h D p l e R s m args below meth c Z C Rt H locs ls hH hL hk hn hl)
theorem Ev_ladd {x y : Int64} (hd : decode me.2.1 pc = .ok (.ladd, 1)) (h : Ev me E d mc ms r Mf (pc + 1) loc (.long (x + y) :: stk) M k n) : Ev me E d mc ms r Mf pc loc (.long y :: .long x :: stk) M k n := by
  intro D p l e R s m args below meth c Z C Rt H locs ls hH hL hk hn hl
  exact lv_ladd C.1 C.2.1 hd (h D p l e R s m args below meth c Z C Rt H locs ls hH hL hk hn hl)
theorem Ev_lsub {x y : Int64} (hd : decode me.2.1 pc = .ok (.lsub, 1)) (h : Ev me E d mc ms r Mf (pc + 1) loc (.long (x - y) :: stk) M k n) : Ev me E d mc ms r Mf pc loc (.long y :: .long x :: stk) M k n := by
  intro D p l e R s m args below meth c Z C Rt H locs ls hH hL hk hn hl
  exact lv_lsub C.1 C.2.1 hd (h D p l e R s m args below meth c Z C Rt H locs ls hH hL hk hn hl)
theorem Ev_lmul {x y : Int64} (hd : decode me.2.1 pc = .ok (.lmul, 1)) (h : Ev me E d mc ms r Mf (pc + 1) loc (.long (x * y) :: stk) M k n) : Ev me E d mc ms r Mf pc loc (.long y :: .long x :: stk) M k n := by
  intro D p l e R s m args below meth c Z C Rt H locs ls hH hL hk hn hl
  exact lv_lmul C.1 C.2.1 hd (h D p l e R s m args below meth c Z C Rt H locs ls hH hL hk hn hl)
theorem Ev_land {x y : Int64} (hd : decode me.2.1 pc = .ok (.land, 1)) (h : Ev me E d mc ms r Mf (pc + 1) loc (.long (x &&& y) :: stk) M k n) : Ev me E d mc ms r Mf pc loc (.long y :: .long x :: stk) M k n := by
  intro D p l e R s m args below meth c Z C Rt H locs ls hH hL hk hn hl
  exact lv_land C.1 C.2.1 hd (h D p l e R s m args below meth c Z C Rt H locs ls hH hL hk hn hl)
theorem Ev_lor {x y : Int64} (hd : decode me.2.1 pc = .ok (.lor, 1)) (h : Ev me E d mc ms r Mf (pc + 1) loc (.long (x ||| y) :: stk) M k n) : Ev me E d mc ms r Mf pc loc (.long y :: .long x :: stk) M k n := by
  intro D p l e R s m args below meth c Z C Rt H locs ls hH hL hk hn hl
  exact lv_lor C.1 C.2.1 hd (h D p l e R s m args below meth c Z C Rt H locs ls hH hL hk hn hl)
theorem Ev_ldiv {x y : Int64} (hne : ¬ y = 0) (hd : decode me.2.1 pc = .ok (.ldiv, 1)) (h : Ev me E d mc ms r Mf (pc + 1) loc (.long (x / y) :: stk) M k n) : Ev me E d mc ms r Mf pc loc (.long y :: .long x :: stk) M k n := by
  intro D p l e R s m args below meth c Z C Rt H locs ls hH hL hk hn hl
  exact lv_ldiv C.1 C.2.1 hd hne (h D p l e R s m args below meth c Z C Rt H locs ls hH hL hk hn hl)
theorem Ev_lrem {x y : Int64} (hne : ¬ y = 0) (hd : decode me.2.1 pc = .ok (.lrem, 1)) (h : Ev me E d mc ms r Mf (pc + 1) loc (.long (x - x / y * y) :: stk) M k n) : Ev me E d mc ms r Mf pc loc (.long y :: .long x :: stk) M k n := by
  intro D p l e R s m args below meth c Z C Rt H locs ls hH hL hk hn hl
  exact lv_lrem C.1 C.2.1 hd hne (h D p l e R s m args below meth c Z C Rt H locs ls hH hL hk hn hl)
theorem Ev_iushr {x y : Int32} (hd : decode me.2.1 pc = .ok (.iushr, 1)) (h : Ev me E d mc ms r Mf (pc + 1) loc (.int ((x.toUInt32 >>> (y.toUInt32 &&& Int32.toUInt32 31)).toInt32) :: stk) M k n) : Ev me E d mc ms r Mf pc loc (.int y :: .int x :: stk) M k n := by
  intro D p l e R s m args below meth c Z C Rt H locs ls hH hL hk hn hl
  exact lv_iushr C.1 C.2.1 hd rfl (h D p l e R s m args below meth c Z C Rt H locs ls hH hL hk hn hl)
theorem Ev_lushr {x : Int64} {y : Int32} (hd : decode me.2.1 pc = .ok (.lushr, 1)) (h : Ev me E d mc ms r Mf (pc + 1) loc (.long ((x.toUInt64 >>> (y.toInt64.toUInt64 &&& Int64.toUInt64 63)).toInt64) :: stk) M k n) : Ev me E d mc ms r Mf pc loc (.int y :: .long x :: stk) M k n := by
  intro D p l e R s m args below meth c Z C Rt H locs ls hH hL hk hn hl
  exact lv_lushr C.1 C.2.1 hd rfl (h D p l e R s m args below meth c Z C Rt H locs ls hH hL hk hn hl)
theorem Ev_lshl {x : Int64} {y : Int32} (hd : decode me.2.1 pc = .ok (.lshl, 1)) (h : Ev me E d mc ms r Mf (pc + 1) loc (.long (x <<< (y.toInt64 &&& 63)) :: stk) M k n) : Ev me E d mc ms r Mf pc loc (.int y :: .long x :: stk) M k n := by
  intro D p l e R s m args below meth c Z C Rt H locs ls hH hL hk hn hl
  exact lv_lshl C.1 C.2.1 hd rfl (h D p l e R s m args below meth c Z C Rt H locs ls hH hL hk hn hl)
theorem Ev_i2l {x : Int32} (hd : decode me.2.1 pc = .ok (.i2l, 1)) (h : Ev me E d mc ms r Mf (pc + 1) loc (.long x.toInt64 :: stk) M k n) : Ev me E d mc ms r Mf pc loc (.int x :: stk) M k n := by
  intro D p l e R s m args below meth c Z C Rt H locs ls hH hL hk hn hl
  exact lv_i2l C.1 C.2.1 hd rfl (h D p l e R s m args below meth c Z C Rt H locs ls hH hL hk hn hl)
theorem Ev_l2i {x : Int64} (hd : decode me.2.1 pc = .ok (.l2i, 1)) (h : Ev me E d mc ms r Mf (pc + 1) loc (.int x.toInt32 :: stk) M k n) : Ev me E d mc ms r Mf pc loc (.long x :: stk) M k n := by
  intro D p l e R s m args below meth c Z C Rt H locs ls hH hL hk hn hl
  exact lv_l2i C.1 C.2.1 hd rfl (h D p l e R s m args below meth c Z C Rt H locs ls hH hL hk hn hl)
theorem Ev_lcmp {x y : Int64} (hd : decode me.2.1 pc = .ok (.lcmp, 1)) (h : Ev me E d mc ms r Mf (pc + 1) loc (.int (lg_cmp x y) :: stk) M k n) : Ev me E d mc ms r Mf pc loc (.long y :: .long x :: stk) M k n := by
  intro D p l e R s m args below meth c Z C Rt H locs ls hH hL hk hn hl
  exact W.lcmp C.1 C.2.1 hd (h D p l e R s m args below meth c Z C Rt H locs ls hH hL hk hn hl)
theorem Ev_dup {v : Value} (hv : v.category = 1) (hd : decode me.2.1 pc = .ok (.dup, 1)) (h : Ev me E d mc ms r Mf (pc + 1) loc (v :: v :: stk) M k n) : Ev me E d mc ms r Mf pc loc (v :: stk) M k n := by
  intro D p l e R s m args below meth c Z C Rt H locs ls hH hL hk hn hl
  exact lv_dup C.1 C.2.1 hd (by rw [mtr_cat]; exact hv) (h D p l e R s m args below meth c Z C Rt H locs ls hH hL hk hn hl)
theorem Ev_pop {v : Value} (hv : v.category = 1) (hd : decode me.2.1 pc = .ok (.pop, 1)) (h : Ev me E d mc ms r Mf (pc + 1) loc (stk) M k n) : Ev me E d mc ms r Mf pc loc (v :: stk) M k n := by
  intro D p l e R s m args below meth c Z C Rt H locs ls hH hL hk hn hl
  exact lv_pop C.1 C.2.1 hd (by rw [mtr_cat]; exact hv) (h D p l e R s m args below meth c Z C Rt H locs ls hH hL hk hn hl)
theorem Ev_dup2 {v w : Value} (hv : v.category = 1) (hw : w.category = 1) (hd : decode me.2.1 pc = .ok (.dup2, 1)) (h : Ev me E d mc ms r Mf (pc + 1) loc (v :: w :: v :: w :: stk) M k n) : Ev me E d mc ms r Mf pc loc (v :: w :: stk) M k n := by
  intro D p l e R s m args below meth c Z C Rt H locs ls hH hL hk hn hl
  exact lv_dup2_11 C.1 C.2.1 hd (by rw [mtr_cat]; exact hv) (by rw [mtr_cat]; exact hw) (h D p l e R s m args below meth c Z C Rt H locs ls hH hL hk hn hl)
theorem Ev_if_eq {x : Int32} {off : Int} {tgt : Nat} (hd : decode me.2.1 pc = .ok (.ifCond .eq off, 3)) (ht : (pc : Int) + off = (tgt : Int)) (h1 : x = 0 → Ev me E d mc ms r Mf tgt loc stk M k n) (h2 : ¬ x = 0 → Ev me E d mc ms r Mf (pc + 3) loc stk M k n) : Ev me E d mc ms r Mf pc loc (.int x :: stk) M k n := by
  intro D p l e R s m args below meth c Z C Rt H locs ls hH hL hk hn hl
  exact lv_if_eq C.1 C.2.1 hd ht (fun q => h1 q D p l e R s m args below meth c Z C Rt H locs ls hH hL hk hn hl) (fun q => h2 q D p l e R s m args below meth c Z C Rt H locs ls hH hL hk hn hl)
theorem Ev_icmp_eq {x y : Int32} {off : Int} {tgt : Nat} (hd : decode me.2.1 pc = .ok (.if_icmp .eq off, 3)) (ht : (pc : Int) + off = (tgt : Int)) (h1 : x = y → Ev me E d mc ms r Mf tgt loc stk M k n) (h2 : ¬ x = y → Ev me E d mc ms r Mf (pc + 3) loc stk M k n) : Ev me E d mc ms r Mf pc loc (.int y :: .int x :: stk) M k n := by
  intro D p l e R s m args below meth c Z C Rt H locs ls hH hL hk hn hl
  exact lv_icmp_eq C.1 C.2.1 hd ht (fun q => h1 q D p l e R s m args below meth c Z C Rt H locs ls hH hL hk hn hl) (fun q => h2 q D p l e R s m args below meth c Z C Rt H locs ls hH hL hk hn hl)
theorem Ev_if_ne {x : Int32} {off : Int} {tgt : Nat} (hd : decode me.2.1 pc = .ok (.ifCond .ne off, 3)) (ht : (pc : Int) + off = (tgt : Int)) (h1 : ¬ x = 0 → Ev me E d mc ms r Mf tgt loc stk M k n) (h2 : x = 0 → Ev me E d mc ms r Mf (pc + 3) loc stk M k n) : Ev me E d mc ms r Mf pc loc (.int x :: stk) M k n := by
  intro D p l e R s m args below meth c Z C Rt H locs ls hH hL hk hn hl
  exact lv_if_ne C.1 C.2.1 hd ht (fun q => h1 q D p l e R s m args below meth c Z C Rt H locs ls hH hL hk hn hl) (fun q => h2 q D p l e R s m args below meth c Z C Rt H locs ls hH hL hk hn hl)
theorem Ev_icmp_ne {x y : Int32} {off : Int} {tgt : Nat} (hd : decode me.2.1 pc = .ok (.if_icmp .ne off, 3)) (ht : (pc : Int) + off = (tgt : Int)) (h1 : ¬ x = y → Ev me E d mc ms r Mf tgt loc stk M k n) (h2 : x = y → Ev me E d mc ms r Mf (pc + 3) loc stk M k n) : Ev me E d mc ms r Mf pc loc (.int y :: .int x :: stk) M k n := by
  intro D p l e R s m args below meth c Z C Rt H locs ls hH hL hk hn hl
  exact lv_icmp_ne C.1 C.2.1 hd ht (fun q => h1 q D p l e R s m args below meth c Z C Rt H locs ls hH hL hk hn hl) (fun q => h2 q D p l e R s m args below meth c Z C Rt H locs ls hH hL hk hn hl)
theorem Ev_if_lt {x : Int32} {off : Int} {tgt : Nat} (hd : decode me.2.1 pc = .ok (.ifCond .lt off, 3)) (ht : (pc : Int) + off = (tgt : Int)) (h1 : x < 0 → Ev me E d mc ms r Mf tgt loc stk M k n) (h2 : ¬ x < 0 → Ev me E d mc ms r Mf (pc + 3) loc stk M k n) : Ev me E d mc ms r Mf pc loc (.int x :: stk) M k n := by
  intro D p l e R s m args below meth c Z C Rt H locs ls hH hL hk hn hl
  exact lv_if_lt C.1 C.2.1 hd ht (fun q => h1 q D p l e R s m args below meth c Z C Rt H locs ls hH hL hk hn hl) (fun q => h2 q D p l e R s m args below meth c Z C Rt H locs ls hH hL hk hn hl)
theorem Ev_icmp_lt {x y : Int32} {off : Int} {tgt : Nat} (hd : decode me.2.1 pc = .ok (.if_icmp .lt off, 3)) (ht : (pc : Int) + off = (tgt : Int)) (h1 : x < y → Ev me E d mc ms r Mf tgt loc stk M k n) (h2 : ¬ x < y → Ev me E d mc ms r Mf (pc + 3) loc stk M k n) : Ev me E d mc ms r Mf pc loc (.int y :: .int x :: stk) M k n := by
  intro D p l e R s m args below meth c Z C Rt H locs ls hH hL hk hn hl
  exact lv_icmp_lt C.1 C.2.1 hd ht (fun q => h1 q D p l e R s m args below meth c Z C Rt H locs ls hH hL hk hn hl) (fun q => h2 q D p l e R s m args below meth c Z C Rt H locs ls hH hL hk hn hl)
theorem Ev_if_ge {x : Int32} {off : Int} {tgt : Nat} (hd : decode me.2.1 pc = .ok (.ifCond .ge off, 3)) (ht : (pc : Int) + off = (tgt : Int)) (h1 : 0 ≤ x → Ev me E d mc ms r Mf tgt loc stk M k n) (h2 : ¬ 0 ≤ x → Ev me E d mc ms r Mf (pc + 3) loc stk M k n) : Ev me E d mc ms r Mf pc loc (.int x :: stk) M k n := by
  intro D p l e R s m args below meth c Z C Rt H locs ls hH hL hk hn hl
  exact lv_if_ge C.1 C.2.1 hd ht (fun q => h1 q D p l e R s m args below meth c Z C Rt H locs ls hH hL hk hn hl) (fun q => h2 q D p l e R s m args below meth c Z C Rt H locs ls hH hL hk hn hl)
theorem Ev_icmp_ge {x y : Int32} {off : Int} {tgt : Nat} (hd : decode me.2.1 pc = .ok (.if_icmp .ge off, 3)) (ht : (pc : Int) + off = (tgt : Int)) (h1 : y ≤ x → Ev me E d mc ms r Mf tgt loc stk M k n) (h2 : ¬ y ≤ x → Ev me E d mc ms r Mf (pc + 3) loc stk M k n) : Ev me E d mc ms r Mf pc loc (.int y :: .int x :: stk) M k n := by
  intro D p l e R s m args below meth c Z C Rt H locs ls hH hL hk hn hl
  exact lv_icmp_ge C.1 C.2.1 hd ht (fun q => h1 q D p l e R s m args below meth c Z C Rt H locs ls hH hL hk hn hl) (fun q => h2 q D p l e R s m args below meth c Z C Rt H locs ls hH hL hk hn hl)
theorem Ev_if_gt {x : Int32} {off : Int} {tgt : Nat} (hd : decode me.2.1 pc = .ok (.ifCond .gt off, 3)) (ht : (pc : Int) + off = (tgt : Int)) (h1 : 0 < x → Ev me E d mc ms r Mf tgt loc stk M k n) (h2 : ¬ 0 < x → Ev me E d mc ms r Mf (pc + 3) loc stk M k n) : Ev me E d mc ms r Mf pc loc (.int x :: stk) M k n := by
  intro D p l e R s m args below meth c Z C Rt H locs ls hH hL hk hn hl
  exact lv_if_gt C.1 C.2.1 hd ht (fun q => h1 q D p l e R s m args below meth c Z C Rt H locs ls hH hL hk hn hl) (fun q => h2 q D p l e R s m args below meth c Z C Rt H locs ls hH hL hk hn hl)
theorem Ev_icmp_gt {x y : Int32} {off : Int} {tgt : Nat} (hd : decode me.2.1 pc = .ok (.if_icmp .gt off, 3)) (ht : (pc : Int) + off = (tgt : Int)) (h1 : y < x → Ev me E d mc ms r Mf tgt loc stk M k n) (h2 : ¬ y < x → Ev me E d mc ms r Mf (pc + 3) loc stk M k n) : Ev me E d mc ms r Mf pc loc (.int y :: .int x :: stk) M k n := by
  intro D p l e R s m args below meth c Z C Rt H locs ls hH hL hk hn hl
  exact lv_icmp_gt C.1 C.2.1 hd ht (fun q => h1 q D p l e R s m args below meth c Z C Rt H locs ls hH hL hk hn hl) (fun q => h2 q D p l e R s m args below meth c Z C Rt H locs ls hH hL hk hn hl)
theorem Ev_if_le {x : Int32} {off : Int} {tgt : Nat} (hd : decode me.2.1 pc = .ok (.ifCond .le off, 3)) (ht : (pc : Int) + off = (tgt : Int)) (h1 : x ≤ 0 → Ev me E d mc ms r Mf tgt loc stk M k n) (h2 : ¬ x ≤ 0 → Ev me E d mc ms r Mf (pc + 3) loc stk M k n) : Ev me E d mc ms r Mf pc loc (.int x :: stk) M k n := by
  intro D p l e R s m args below meth c Z C Rt H locs ls hH hL hk hn hl
  exact lv_if_le C.1 C.2.1 hd ht (fun q => h1 q D p l e R s m args below meth c Z C Rt H locs ls hH hL hk hn hl) (fun q => h2 q D p l e R s m args below meth c Z C Rt H locs ls hH hL hk hn hl)
theorem Ev_icmp_le {x y : Int32} {off : Int} {tgt : Nat} (hd : decode me.2.1 pc = .ok (.if_icmp .le off, 3)) (ht : (pc : Int) + off = (tgt : Int)) (h1 : x ≤ y → Ev me E d mc ms r Mf tgt loc stk M k n) (h2 : ¬ x ≤ y → Ev me E d mc ms r Mf (pc + 3) loc stk M k n) : Ev me E d mc ms r Mf pc loc (.int y :: .int x :: stk) M k n := by
  intro D p l e R s m args below meth c Z C Rt H locs ls hH hL hk hn hl
  exact lv_icmp_le C.1 C.2.1 hd ht (fun q => h1 q D p l e R s m args below meth c Z C Rt H locs ls hH hL hk hn hl) (fun q => h2 q D p l e R s m args below meth c Z C Rt H locs ls hH hL hk hn hl)
theorem Ev_goto {off : Int} {tgt : Nat} (hd : decode me.2.1 pc = .ok (.goto off, 3)) (ht : (pc : Int) + off = (tgt : Int)) (h : Ev me E d mc ms r Mf tgt loc stk M k n) : Ev me E d mc ms r Mf pc loc stk M k n := by
  intro D p l e R s m args below meth c Z C Rt H locs ls hH hL hk hn hl
  exact lv_goto C.1 C.2.1 hd ht (h D p l e R s m args below meth c Z C Rt H locs ls hH hL hk hn hl)
theorem Ev_tswIn {x : Int32} {dflt lo hi : Int} {offs : Array Int} {len : Nat} {off : Int} {tgt : Nat} (hd : decode me.2.1 pc = .ok (.tableswitch dflt lo hi offs, len)) (h1 : ¬ x.toInt < lo) (h2 : ¬ hi < x.toInt) (ho : offs[(x.toInt - lo).toNat]? = some off) (ht : (pc : Int) + off = (tgt : Int)) (h : Ev me E d mc ms r Mf tgt loc stk M k n) : Ev me E d mc ms r Mf pc loc (.int x :: stk) M k n := by
  intro D p l e R s m args below meth c Z C Rt H locs ls hH hL hk hn hl
  exact lv_tableIn C.1 C.2.1 hd h1 h2 ho ht (h D p l e R s m args below meth c Z C Rt H locs ls hH hL hk hn hl)
theorem Ev_tswOut {x : Int32} {dflt lo hi : Int} {offs : Array Int} {len : Nat} {tgt : Nat} (hd : decode me.2.1 pc = .ok (.tableswitch dflt lo hi offs, len)) (h1 : x.toInt < lo ∨ hi < x.toInt) (ht : (pc : Int) + dflt = (tgt : Int)) (h : Ev me E d mc ms r Mf tgt loc stk M k n) : Ev me E d mc ms r Mf pc loc (.int x :: stk) M k n := by
  intro D p l e R s m args below meth c Z C Rt H locs ls hH hL hk hn hl
  exact lv_tableOut C.1 C.2.1 hd h1 ht (h D p l e R s m args below meth c Z C Rt H locs ls hH hL hk hn hl)
theorem Ev_ldc2 {idx : Nat} {v : Int64} (hw : Cond.constantLong me.1.cls idx v ∈ mT0) (hd : decode me.2.1 pc = .ok (.ldc2_w idx, 3)) (h : Ev me E d mc ms r Mf (pc + 3) loc (.long v :: stk) M k n) : Ev me E d mc ms r Mf pc loc stk M k n := by
  intro D p l e R s m args below meth c Z C Rt H locs ls hH hL hk hn hl
  exact lv_ldc2 C.1 C.2.1 C.2.2.2.1 (C.2.2.2.2.1 _ hw) hd (h D p l e R s m args below meth c Z C Rt H locs ls hH hL hk hn hl)
theorem Ev_ldcw {idx : Nat} {v : Int32} (hw : Cond.constant me.1.cls idx v ∈ mT0) (hd : decode me.2.1 pc = .ok (.ldc_w idx, 3)) (h : Ev me E d mc ms r Mf (pc + 3) loc (.int v :: stk) M k n) : Ev me E d mc ms r Mf pc loc stk M k n := by
  intro D p l e R s m args below meth c Z C Rt H locs ls hH hL hk hn hl
  exact lv_ldcw C.1 C.2.1 C.2.2.2.1 (C.2.2.2.2.1 _ hw) hd (h D p l e R s m args below meth c Z C Rt H locs ls hH hL hk hn hl)
theorem Ev_iret {v : Int32} {ty : FieldType} (hr : me.2.2.2 = some ty) (hnr : narrow ty (.int v) = .int v) (hd : decode me.2.1 pc = .ok (.ireturn, 1)) (he : r = some (.int v) ∧ Mf = M) : Ev me E d mc ms r Mf pc loc [.int v] M k n := by
  obtain ⟨rfl, rfl⟩ := he
  intro D p l e R s m args below meth c Z C Rt H locs ls hH hL hk hn hl
  exact Rt H locs k n ls pc _ .ireturn hH hL hk hn ⟨rfl, rfl, ty, hr, hnr⟩ hd
theorem Ev_lret {v : Int64} (hr : me.2.2.2 = some .long) (hd : decode me.2.1 pc = .ok (.lreturn, 1)) (he : r = some (.long v) ∧ Mf = M) : Ev me E d mc ms r Mf pc loc [.long v] M k n := by
  obtain ⟨rfl, rfl⟩ := he
  intro D p l e R s m args below meth c Z C Rt H locs ls hH hL hk hn hl
  exact Rt H locs k n ls pc _ .lreturn hH hL hk hn ⟨rfl, rfl, hr⟩ hd
theorem Ev_vret (hr : me.2.2.2 = none) (hd : decode me.2.1 pc = .ok (.return_, 1)) (he : r = none ∧ Mf = M) : Ev me E d mc ms r Mf pc loc [] M k n := by
  obtain ⟨rfl, rfl⟩ := he
  intro D p l e R s m args below meth c Z C Rt H locs ls hH hL hk hn hl
  exact Rt H locs k n ls pc _ .return_ hH hL hk hn ⟨rfl, rfl, hr⟩ hd
end MJ
