/-! ===== rules of the small machine: new cells, calls ===== -/
section MJ
variable {me : mMe} {E : mE} {d mc ms : Nat} {r : Option Value} {Mf : mM} {pc : Nat} {loc : mL} {stk : List Value} {M M1 : mM} {k n : Nat}
theorem Ev_new {idx ci : Nat} {q : vw_C} {fs : List Value} (hc : vwCl[ci]? = some q) (hw1 : Cond.classLink me.1.cls idx q.1 ∈ mT0) (hw2 : Cond.instantiable q.1 q.2.2 ∈ mT0) (hw3 : Cond.initialized q.1 ∈ mT0) (hlen : fs.length = q.2.2) (hfs : ∀ j, j < q.2.2 → defaultValue (mTy ci j) = vp_V fs j) (hno : fs.map (mtr E) = fs) (hkc : k + 1 ≤ mc) (hns : n + q.2.2 ≤ ms) (hd : decode me.2.1 pc = .ok (.new idx, 3)) (h : Ev me E d mc ms r Mf (pc + 3) loc (.ref M.length :: stk) (M ++ [.inl (ci, fs)]) (k + 1) (n + q.2.2)) : Ev me E d mc ms r Mf pc loc stk M k n := by
  intro D p l e R s m args below meth c Z C Rt H locs ls hH hL hk hn hl
  obtain ⟨u1, u2, u3⟩ := mCl_ok ci _ hc
  have hKn := C.2.2.2.2.2.1.1 ci _ hc
  have hRc := C.2.2.2.2.2.2.2.2.2.1
  have hRs := C.2.2.2.2.2.2.2.2.2.2
  refine W.newcK C.1 C.2.1 C.2.2.2.1 (C.2.2.2.2.1 _ hw1) (C.2.2.2.2.1 _ hw2) (C.2.2.2.2.1 _ hw3) rfl hd (by omega) (by omega) hKn.2.1 rfl fun H1 kC hkC e1 z1 o1 => ?_
  have hP : mHold E D s (M ++ [.inl (ci, fs)]) H1 := hH.push z1 o1 ⟨q, hc, hlen, by
    rw [hH.new, hno]
    exact (u_born (mTy ci) C.2.2.2.2.1 u1 hKn hkC e1 u2).to hfs⟩
  have := h D p l e R s m args below meth c Z C Rt H1 locs ls hP hL hkc hns hl
  rw [List.map_cons, show mtr E (.ref M.length) = .ref H.size from by show Value.ref (mad E M.length) = _; rw [hH.new]] at this
  exact this
theorem Ev_newa {z : Bool} {aty : ArrayType} (hz : newarray.typeOf aty = mty z) (hw : Cond.arrayClass (mty z) ∈ mT0) {v : Int32} {N : Nat} (hv : ¬ v < 0) (hN : v.toNatClampNeg = N) (hb : N * componentBytes (mty z) ≤ 536870912) (hkc : k + 1 ≤ mc) (hns : n + N ≤ ms) (hd : decode me.2.1 pc = .ok (.newarray aty, 2)) (h : Ev me E d mc ms r Mf (pc + 2) loc (.ref M.length :: stk) (M ++ [.inr (.inl (z, List.replicate N 0))]) (k + 1) (n + N)) : Ev me E d mc ms r Mf pc loc (.int v :: stk) M k n := by
  intro D p l e R s m args below meth c Z C Rt H locs ls hH hL hk hn hl
  have hRc := C.2.2.2.2.2.2.2.2.2.1
  have hRs := C.2.2.2.2.2.2.2.2.2.2
  refine va_newaK C.1 C.2.1 (by rw [hz]; exact C.2.2.2.2.1 _ hw) rfl hd rfl hv hN (by rw [hz]; exact hb) (by omega) (by omega) rfl fun H1 cA e1 z1 o1 hAr hNm => ?_
  rw [hz] at e1 hAr
  have hP : mHold E D s (M ++ [.inr (.inl (z, List.replicate N 0))]) H1 := hH.push z1 o1 ⟨_, by rw [hH.new]; exact e1, hAr _ _, (fun q => by cases q), by rw [arrV_size, List.length_replicate], fun j hj => by
    rw [List.length_replicate] at hj
    rw [arrV_read _ _ hj]
    cases z <;> simp [mty, defaultValue, hj]⟩
  have := h D p l e R s m args below meth c Z C Rt H1 locs ls hP hL hkc hns hl
  rw [List.map_cons, show mtr E (.ref M.length) = .ref H.size from by show Value.ref (mad E M.length) = _; rw [hH.new]] at this
  exact this
theorem Ev_anew {z : Bool} {idx : Nat} (hw : Cond.classLink me.1.cls idx (mel z) ∈ mT0) {v : Int32} {N : Nat} (hv : ¬ v < 0) (hN : v.toNatClampNeg = N) (hb : N * 4 ≤ 536870912) (hkc : k + 1 ≤ mc) (hns : n + N ≤ ms) (hd : decode me.2.1 pc = .ok (.anewarray idx, 3)) (h : Ev me E d mc ms r Mf (pc + 3) loc (.ref M.length :: stk) (M ++ [.inr (.inr (z, List.replicate N .null))]) (k + 1) (n + N)) : Ev me E d mc ms r Mf pc loc (.int v :: stk) M k n := by
  intro D p l e R s m args below meth c Z C Rt H locs ls hH hL hk hn hl
  have hRc := C.2.2.2.2.2.2.2.2.2.1
  have hRs := C.2.2.2.2.2.2.2.2.2.2
  have hAO : va_AO (mel z) s := by
    cases z
    · exact C.2.2.2.2.2.1.2.2.1
    · exact C.2.2.2.2.2.1.2.2.2
  subst hN
  refine W.anew C.1 C.2.1 C.2.2.2.1 (C.2.2.2.2.1 _ hw) (va_AO.use hAO) rfl hd rfl hv hb (by omega) (by omega) fun cA kA comp f1 f2 f3 f4 => ?_
  generalize hH1 : H.push ({ cls := cA, slots := Array.replicate v.toNatClampNeg .null, vm := .none } : Cell) = H1
  have z1 : H1.size = H.size + 1 := by rw [← hH1, Array.size_push]
  have e1 : H1[H.size]? = some (arrV cA v.toNatClampNeg (fun _ => .null)) := by rw [← hH1, Array.getElem?_push_size, ← arrV_new]
  have o1 : ∀ q : Nat, q < H.size → H1[q]? = H[q]? := fun q hq => by rw [← hH1, Array.getElem?_push, if_neg (Nat.ne_of_lt hq)]
  have hP : mHold E D s (M ++ [.inr (.inr (z, List.replicate v.toNatClampNeg .null))]) H1 := hH.push z1 o1 ⟨cA, by
    rw [hH.new, e1]
    simp only [List.length_replicate]
    congr 2
    funext j
    simp only [vp_V, List.map_replicate, mtr]
    rw [List.getD_eq_getElem?_getD, List.getElem?_replicate]
    split <;> rfl, fun N z => ⟨(fun k h => by cases h), kA, f2, comp, f3⟩, ⟨kA, comp, f2, f3, f4, f1⟩⟩
  have := h D p l e R s m args below meth c Z C Rt H1 locs ls hP hL hkc hns hl
  rw [List.map_cons, show mtr E (.ref M.length) = .ref H.size from by show Value.ref (mad E M.length) = _; rw [hH.new]] at this
  exact this
theorem Ev_objInit {idx a : Nat} (hw1 : Cond.methodLink me.1.cls idx Lib.objectInit ∈ mT0) (hw2 : Cond.instanceMethod Lib.objectInit ∈ mT0) (hw3 : Cond.code Lib.objectInit ⟨#[0xb1]⟩ 1 none ∈ mT0) (h1 : 1 ≤ d) (hrest : (stk.map fun v => v.category).sum ≤ 8) (hd : decode me.2.1 pc = .ok (.invokespecial idx, 3)) (h : Ev me E d mc ms r Mf (pc + 3) loc stk M k n) : Ev me E d mc ms r Mf pc loc (.ref a :: stk) M k n := by
  intro D p l e R s m args below meth c Z C Rt H locs ls hH hL hk hn hl
  have hRf := C.2.2.2.2.2.2.2.1
  have hRl := C.2.2.2.2.2.2.2.2.1
  have hcat : ((stk.map (mtr E)).map fun v => v.category).sum ≤ 8 := by
    rw [List.map_map, show ((fun v : Value => v.category) ∘ mtr E) = (fun v : Value => v.category) from funext (mtr_cat E)]
    exact hrest
  refine W.objInit C.1 C.2.1 C.2.2.2.1 (C.2.2.2.2.1 _ hw1) (C.2.2.2.2.1 _ hw2) (C.2.2.2.2.1 _ hw3) rfl (by rw [C.2.2.1]; exact hl.1) rfl hd (by omega) ?_ (h D p l e R s m args below meth c Z C Rt H locs ls hH hL hk hn hl)
  have := lv_room (m := m) (pc := pc) (ls := ls) (rest := .ref (mad E a) :: stk.map (mtr E)) hcat
  exact Nat.le_trans (Nat.add_le_add_right this 12) (by omega)
/-! calls -/
theorem mK.same {D : va_G} {u U : State} (hvm : u.vm = U.vm) (h : mK D u) : mK D U := by
  have hal : u.vm.Alike U.vm := by rw [hvm]; exact Vm.Alike.refl _
  refine ⟨fun c q hq => u_Kn_moved hal (h.1 c q hq), fun w hw => ?_, h.2.2.1.moved hal, h.2.2.2.moved hal⟩
  have h1 := h.2.1 w hw
  have h2 : mNest w = true := (List.mem_filter.mp hw).2
  cases w <;> first | exact va_Nw.same rfl hvm h1 | cases h2
theorem mPc.blind {E : mE} {D : va_G} {vs : List Value} {M : mM} : FrameBlind (mPc E D vs M) := fun a U g mk q => ⟨q.1, mHold.moved (u := U) (U := U.calling g mk a) (Vm.Alike.refl U.vm) q.2.1, q.2.2.same (u := U) (U := U.calling g mk a) rfl⟩
theorem mPc.at {E : mE} {D : va_G} {vs : List Value} {M : mM} {s : State} {H : Heap} (hH : mHold E D s M H) (hK : mK D s) : ∀ U : State, U.heap = H → s.WarmedH U.vm → mPc E D vs M (vs.map (mtr E)).toArray U := fun U hU hW => ⟨rfl, by rw [hU]; exact hH.moved hW.alike, hK.warm hW⟩
theorem mcont {p : Program} {l : Launch} {e : Env} {R : Room} {s : State} {m : MethodId} {args : Array Value} {below : List Frame} {meth : Method} {c : Code} {H : Heap} {locs : List Loc} {cells slots mc2 ms2 : Nat} {Q : State → Prop} {ls : Array Slot} {st0 rest : List Value} {pc : Nat} {E : mE} {D : va_G} {r1 : Option Value} {M1 : mM} {a : Array Value}
    (hr : va_Run p l e R s m args below meth c H locs cells slots mc2 ms2 (F0 m pc ls st0) rest (mQc E D r1 M1 a) (fun q => E.2 ≤ q)) (hL : ∀ q ∈ locs, E.2 ≤ q.base)
    (kk : ∀ (H1 : Heap) (locs1 : List Loc), mHold E D s M1 H1 → (∀ q ∈ locs1, E.2 ≤ q.base) → W p l e R s m args below meth c H1 locs1 (cells + mc2) (slots + ms2) Q (F0 m (pc + 3) ls ((r1.map (mtr E)).toList ++ rest))) : W p l e R s m args below meth c H locs cells slots Q (F0 m pc ls st0) := by
  intro T hT X
  obtain ⟨v, st₀, t, T', L, h0, X', hL', e1, e2, ⟨hv, hH1⟩, st⟩ := hr T hT X
  cases hv
  have hal : s.vm.Alike t.vm := by rw [← e2]; exact X'.warmed.alike
  obtain ⟨t2, a1, b1⟩ := kk T'.heap (locs ++ L) (by rw [e1]; exact hH1.moved hal.symm) (fun q hq => by
      rcases List.mem_append.mp hq with h | h
      · exact hL q h
      · exact hL' q h) T' rfl X'
  exact ⟨t2, st t2 a1, b1⟩
theorem mstk (E : mE) (r1 : Option Value) (stk : List Value) : (r1.map (mtr E)).toList ++ stk.map (mtr E) = (r1.toList ++ stk).map (mtr E) := by cases r1 <;> rfl
theorem mcat (E : mE) {stk : List Value} (h : (stk.map fun v => v.category).sum ≤ 8) : ((stk.map (mtr E)).map fun v => v.category).sum ≤ 8 := by
  rw [List.map_map, show ((fun v : Value => v.category) ∘ mtr E) = (fun v : Value => v.category) from funext (mtr_cat E)]
  exact h
/-- what the tables say of a method, whoever calls it; n: its parameters -/
def mMd (me : mMe) (n : Nat) : Prop := Cond.code me.1 me.2.1 me.2.2.1 me.2.2.2 ∈ mT0 ∧ Cond.initialized me.1.cls ∈ mT0 ∧ (me.1.cls ≠ "java/lang/invoke/MethodHandle" ∧ me.1.cls ≠ "java/lang/invoke/VarHandle" ∧ (parseMethodDescriptor me.1.desc).map (fun d => d.parameters.length) = some n) ∧ me.2.2.1 ≤ 21
def mMv (me : mMe) (n : Nat) : Prop := mMd me n ∧ Cond.instanceMethod me.1 ∈ mT0 ∧ Cond.selects me.1.cls me.1 me.1 ∈ mT0
def mMs (me : mMe) (n : Nat) : Prop := mMd me n ∧ Cond.static me.1 ∈ mT0
def mMi (me : mMe) (n : Nat) : Prop := mMd me n ∧ Cond.instanceMethod me.1 ∈ mT0 ∧ me.1.name = "<init>" ∧ me.2.2.2 = none
theorem mgood {me : mMe} (h : Cond.code me.1 me.2.1 me.2.2.1 me.2.2.2 ∈ mT0) : GoodIn mT0 (mws me) := by
  intro w hw
  rcases List.mem_cons.mp hw with rfl | hw
  · exact ⟨h, good_of_word (List.mem_filter.mp h).2⟩
  · exact ⟨hw, good_of_word (List.mem_filter.mp hw).2⟩
theorem mCallB {me2 : mMe} {p : Program} {R : Room} {s : State} {m : MethodId} {args : Array Value} {meth : Method} {c : Code} {D : va_G} {d2 mc2 ms2 np idx : Nat} (C : mCtx me D d mc ms p R s m args meth c) (hM : mMd me2 np) (hlk : Cond.methodLink me.1.cls idx me2.1 ∈ mT0) (hdd : d2 + 1 ≤ d) : CallB R s args me.1.cls idx me2.1 me2.2.1 me2.2.2.1 me2.2.2.2 (mws me2) (mrm d2 mc2 ms2) mc2 ms2 np := by
  have hRf := C.2.2.2.2.2.2.2.1
  have hRl := C.2.2.2.2.2.2.2.2.1
  have hm := hM.2.2.2
  exact callB_of np C.2.2.2.2.1 (mgood hM.1) rfl rfl rfl (C.2.2.2.2.1 _ hM.2.1) (C.2.2.2.2.1 _ hlk) hM.2.2.1 ⟨by show d2 + 1 ≤ _; omega, by show 8 + (me2.2.2.1 + 11) + 40 * d2 ≤ _; omega⟩
theorem Ev_callV {me2 : mMe} {idx a ci np d2 : Nat} {vs rest : List Value} {r1 : Option Value} (hM : mMv me2 np) (hlk : Cond.methodLink me.1.cls idx me2.1 ∈ mT0) (hq : ∃ q : vw_C, vwCl[ci]? = some q ∧ q.1 = me2.1.cls) (hO : isO M a ci = true) (hC : EvC me2 E d2 0 0 (.ref a :: vs) M r1 M1) (hst : stk = vs.reverse ++ .ref a :: rest) (hnp : vs.length = np) (hdd : d2 + 1 ≤ d) (hrest : (rest.map fun v => v.category).sum ≤ 8) (hd : decode me.2.1 pc = .ok (.invokevirtual idx, 3)) (h : Ev me E d mc ms r Mf (pc + 3) loc (r1.toList ++ rest) M1 k n) : Ev me E d mc ms r Mf pc loc stk M k n := by
  intro D p l e R s m args below meth c Z C Rt H locs ls hH hL hk hn hl
  subst hst
  have hRc := C.2.2.2.2.2.2.2.2.2.1
  have hRs := C.2.2.2.2.2.2.2.2.2.2
  obtain ⟨q, hq1, hq2⟩ := hq
  obtain ⟨fs, hMa⟩ := isO_spec hO
  obtain ⟨r', h1, -, cell, q1, q2, q3, -⟩ := hH.1 a _ hMa
  cases h1.symm.trans hq1
  have hcl := (C.2.2.2.2.2.1.1 ci _ hq1).2.1
  rw [hq2] at hcl
  refine mcont (r1 := r1) (M1 := M1) (D := D) (E := E) (rest := rest.map (mtr E)) (va_runV (As := vs.map (mtr E)) (b := mad E a) (Ts := mT0) (nL := me.2.2.1) ⟨C.1, C.2.1, C.2.2.1, C.2.2.2.1, C.2.2.2.2.1⟩ (hC D l) ⟨mCallB C hM.1 hlk hdd, C.2.2.2.2.1 _ hM.2.1, C.2.2.2.2.1 _ hM.2.2⟩ ⟨mPc.blind, ⟨cell, q1, by rw [q3]; rfl, by rw [q2]; exact hcl⟩, mPc.at (vs := .ref a :: vs) hH C.2.2.2.2.2.1⟩ rfl (by rw [List.length_map]; exact hnp) hl.1 (by simp [mtr]) (lv_room (mcat E hrest)) hd ⟨by omega, by omega⟩) hL fun H1 locs1 hH1 hL1 => ?_
  have := h D p l e R s m args below meth c Z C Rt H1 locs1 ls hH1 hL1 hk hn hl
  rw [mstk]
  exact this
theorem Ev_callS {me2 : mMe} {idx np d2 : Nat} {vs rest : List Value} {r1 : Option Value} (hM : mMs me2 np) (hlk : Cond.methodLink me.1.cls idx me2.1 ∈ mT0) (hC : EvC me2 E d2 0 0 vs M r1 M1) (hst : stk = vs.reverse ++ rest) (hnp : vs.length = np) (hdd : d2 + 1 ≤ d) (hrest : (rest.map fun v => v.category).sum ≤ 8) (hd : decode me.2.1 pc = .ok (.invokestatic idx, 3)) (h : Ev me E d mc ms r Mf (pc + 3) loc (r1.toList ++ rest) M1 k n) : Ev me E d mc ms r Mf pc loc stk M k n := by
  intro D p l e R s m args below meth c Z C Rt H locs ls hH hL hk hn hl
  subst hst
  have hRc := C.2.2.2.2.2.2.2.2.2.1
  have hRs := C.2.2.2.2.2.2.2.2.2.2
  refine mcont (r1 := r1) (M1 := M1) (D := D) (E := E) (rest := rest.map (mtr E)) (va_runS (As := vs.map (mtr E)) (Ts := mT0) (nL := me.2.2.1) ⟨C.1, C.2.1, C.2.2.1, C.2.2.2.1, C.2.2.2.2.1⟩ (hC D l) ⟨mCallB C hM.1 hlk hdd, C.2.2.2.2.1 _ hM.2⟩ ⟨mPc.blind, mPc.at hH C.2.2.2.2.2.1⟩ rfl (by rw [List.length_map]; exact hnp) hl.1 (by simp) (lv_room (mcat E hrest)) hd ⟨by omega, by omega⟩) hL fun H1 locs1 hH1 hL1 => ?_
  have := h D p l e R s m args below meth c Z C Rt H1 locs1 ls hH1 hL1 hk hn hl
  rw [mstk]
  exact this
theorem Ev_callI {me2 : mMe} {idx a np d2 mc2 ms2 : Nat} {vs rest : List Value} (hM : mMi me2 np) (hlk : Cond.methodLink me.1.cls idx me2.1 ∈ mT0 ∨ ∃ host, Cond.methodLinkNest me.1.cls idx me2.1 host ∈ mNw) (hC : EvC me2 E d2 mc2 ms2 (.ref a :: vs) M none M1) (hst : stk = vs.reverse ++ .ref a :: rest) (hnp : vs.length = np) (hdd : d2 + 1 ≤ d) (hkc : k + mc2 ≤ mc) (hns : n + ms2 ≤ ms) (hrest : (rest.map fun v => v.category).sum ≤ 8) (hd : decode me.2.1 pc = .ok (.invokespecial idx, 3)) (h : Ev me E d mc ms r Mf (pc + 3) loc rest M1 (k + mc2) (n + ms2)) : Ev me E d mc ms r Mf pc loc stk M k n := by
  intro D p l e R s m args below meth c Z C Rt H locs ls hH hL hk hn hl
  subst hst
  have hRc := C.2.2.2.2.2.2.2.2.2.1
  have hRs := C.2.2.2.2.2.2.2.2.2.2
  have hRf := C.2.2.2.2.2.2.2.1
  have hRl := C.2.2.2.2.2.2.2.2.1
  have hm := hM.1.2.2.2
  obtain ⟨y2, cc2, L2, ret2⟩ := me2
  obtain ⟨hMd, hin, hini, hrt⟩ := hM
  dsimp only at hrt hini
  subst hrt
  rcases hlk with hlk | ⟨host, hlk⟩
  · refine mcont (r1 := none) (M1 := M1) (D := D) (E := E) (rest := rest.map (mtr E)) (va_runI (As := vs.map (mtr E)) (b := mad E a) (Ts := mT0) (nL := me.2.2.1) ⟨C.1, C.2.1, C.2.2.1, C.2.2.2.1, C.2.2.2.2.1⟩ (hC D l) ⟨mCallB C hMd hlk hdd, hini, C.2.2.2.2.1 _ hin⟩ ⟨mPc.blind, mPc.at (vs := .ref a :: vs) hH C.2.2.2.2.2.1⟩ rfl (by rw [List.length_map]; exact hnp) hl.1 (by simp [mtr]) (lv_room (mcat E hrest)) hd ⟨by omega, by omega⟩) hL fun H1 locs1 hH1 hL1 => ?_
    exact h D p l e R s m args below meth c Z C Rt H1 locs1 ls hH1 hL1 hkc hns hl
  · refine mcont (r1 := none) (M1 := M1) (D := D) (E := E) (rest := rest.map (mtr E)) (va_runIN (As := vs.map (mtr E)) (b := mad E a) (Ts := mT0) (nL := me.2.2.1) (host := host) ⟨C.1, C.2.1, C.2.2.1, C.2.2.2.1, C.2.2.2.2.1⟩ (hC D l) ⟨va_cnB np C.2.2.2.2.1 (mgood hMd.1) rfl rfl rfl (C.2.2.2.2.2.1.2.1 _ hlk) (C.2.2.2.2.1 _ hMd.2.1) hMd.2.2.1 ⟨by show d2 + 1 ≤ _; omega, by show 8 + (L2 + 11) + 40 * d2 ≤ _; dsimp only at hm; omega⟩, hini, C.2.2.2.2.1 _ hin⟩ ⟨mPc.blind, mPc.at (vs := .ref a :: vs) hH C.2.2.2.2.2.1⟩ rfl (by rw [List.length_map]; exact hnp) hl.1 (by simp [mtr]) (lv_room (mcat E hrest)) hd ⟨by omega, by omega⟩) hL fun H1 locs1 hH1 hL1 => ?_
    exact h D p l e R s m args below meth c Z C Rt H1 locs1 ls hH1 hL1 hkc hns hl
end MJ
