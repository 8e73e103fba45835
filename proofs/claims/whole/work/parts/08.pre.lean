/-! ===== what the printed walks use ===== -/
theorem bsome {α β : Type} {o : Option α} {f : α → Option β} {r : β} (h : o.bind f = some r) : ∃ x, o = some x ∧ f x = some r := by
  cases o with
  | none => cases h
  | some x => exact ⟨x, rfl, h⟩
theorem gsome {α : Type} {c : Prop} [Decidable c] {t : Option α} {r : α} (h : (if c then t else none) = some r) : c ∧ t = some r := by
  by_cases hc : c
  · rw [if_pos hc] at h; exact ⟨hc, h⟩
  · rw [if_neg hc] at h; cases h
theorem nsome {α : Type} {c : Prop} [Decidable c] {t : Option α} {r : α} (h : (if c then none else t) = some r) : ¬ c ∧ t = some r := by
  by_cases hc : c
  · rw [if_pos hc] at h; cases h
  · rw [if_neg hc] at h; exact ⟨hc, h⟩
def FUEL : Nat := 1000000
def mzb (v : Int32) : Int32 := vp_nar .boolean v
theorem mzb_ok (v : Int32) : narrow .boolean (.int v) = .int (mzb v) := rfl
theorem mb01 {v : Int32} (h : v = 0 ∨ v = 1) : narrow .boolean (.int v) = .int v := by
  rcases h with rfl | rfl <;> rfl
def dfX0 : List Value := [.null, .int 0, .int 0]
def dfX1 : List Value := [.null, .null, .int 0]
def dfX2 : List Value := [.null, .int 0]
def dfX3 : List Value := [.null, .int 0]
def dfX4 : List Value := [.null, .int 0, .int 0]
def dfX5 : List Value := [.null, .int 0]
def dfX6 : List Value := [.null, .int 0, .int 0]
def dfX7 : List Value := [.null, .null, .null, .null, .null, .null, .null, .null, .null, .null, .null, .null, .long 0]
def dfX8 : List Value := [.int 0, .null, .null, .null, .null, .null, .int 0, .null, .int 0, .int 0, .int 0, .int 0, .null, .int 0, .int 0, .null, .null, .int 0, .int 0, .null, .null, .long 0, .null, .null]
theorem dfX0_ok : ∀ j, j < 3 → defaultValue (mTy 0 j) = vp_V dfX0 j := by decide +kernel
theorem dfX1_ok : ∀ j, j < 3 → defaultValue (mTy 1 j) = vp_V dfX1 j := by decide +kernel
theorem dfX2_ok : ∀ j, j < 2 → defaultValue (mTy 2 j) = vp_V dfX2 j := by decide +kernel
theorem dfX3_ok : ∀ j, j < 2 → defaultValue (mTy 3 j) = vp_V dfX3 j := by decide +kernel
theorem dfX4_ok : ∀ j, j < 3 → defaultValue (mTy 4 j) = vp_V dfX4 j := by decide +kernel
theorem dfX5_ok : ∀ j, j < 2 → defaultValue (mTy 5 j) = vp_V dfX5 j := by decide +kernel
theorem dfX6_ok : ∀ j, j < 3 → defaultValue (mTy 6 j) = vp_V dfX6 j := by decide +kernel
theorem dfX7_ok : ∀ j, j < 13 → defaultValue (mTy 7 j) = vp_V dfX7 j := by decide +kernel
theorem dfX8_ok : ∀ j, j < 24 → defaultValue (mTy 8 j) = vp_V dfX8 j := by decide +kernel
theorem sw_out4 {x : Int32} (h0 : ¬ x = 0) (h1 : ¬ x = 1) (h2 : ¬ x = 2) (h3 : ¬ x = 3) : x.toInt < 0 ∨ 3 < x.toInt := by
  have e0 : x.toInt ≠ 0 := fun q => h0 (Int32.toInt_inj.mp (by rw [q]; decide))
  have e1 : x.toInt ≠ 1 := fun q => h1 (Int32.toInt_inj.mp (by rw [q]; decide))
  have e2 : x.toInt ≠ 2 := fun q => h2 (Int32.toInt_inj.mp (by rw [q]; decide))
  have e3 : x.toInt ≠ 3 := fun q => h3 (Int32.toInt_inj.mp (by rw [q]; decide))
  omega
theorem sw_out7 {x : Int32} (h0 : ¬ x = 0) (h1 : ¬ x = 1) (h2 : ¬ x = 2) (h3 : ¬ x = 3) (h4 : ¬ x = 4) (h5 : ¬ x = 5) (h6 : ¬ x = 6) : x.toInt < 0 ∨ 6 < x.toInt := by
  have e0 : x.toInt ≠ 0 := fun q => h0 (Int32.toInt_inj.mp (by rw [q]; decide))
  have e1 : x.toInt ≠ 1 := fun q => h1 (Int32.toInt_inj.mp (by rw [q]; decide))
  have e2 : x.toInt ≠ 2 := fun q => h2 (Int32.toInt_inj.mp (by rw [q]; decide))
  have e3 : x.toInt ≠ 3 := fun q => h3 (Int32.toInt_inj.mp (by rw [q]; decide))
  have e4 : x.toInt ≠ 4 := fun q => h4 (Int32.toInt_inj.mp (by rw [q]; decide))
  have e5 : x.toInt ≠ 5 := fun q => h5 (Int32.toInt_inj.mp (by rw [q]; decide))
  have e6 : x.toInt ≠ 6 := fun q => h6 (Int32.toInt_inj.mp (by rw [q]; decide))
  omega
theorem sw_out9 {x : Int32} (h0 : ¬ x = 0) (h1 : ¬ x = 1) (h2 : ¬ x = 2) (h3 : ¬ x = 3) (h4 : ¬ x = 4) (h5 : ¬ x = 5) (h6 : ¬ x = 6) (h7 : ¬ x = 7) (h8 : ¬ x = 8) : x.toInt < 0 ∨ 8 < x.toInt := by
  have e0 : x.toInt ≠ 0 := fun q => h0 (Int32.toInt_inj.mp (by rw [q]; decide))
  have e1 : x.toInt ≠ 1 := fun q => h1 (Int32.toInt_inj.mp (by rw [q]; decide))
  have e2 : x.toInt ≠ 2 := fun q => h2 (Int32.toInt_inj.mp (by rw [q]; decide))
  have e3 : x.toInt ≠ 3 := fun q => h3 (Int32.toInt_inj.mp (by rw [q]; decide))
  have e4 : x.toInt ≠ 4 := fun q => h4 (Int32.toInt_inj.mp (by rw [q]; decide))
  have e5 : x.toInt ≠ 5 := fun q => h5 (Int32.toInt_inj.mp (by rw [q]; decide))
  have e6 : x.toInt ≠ 6 := fun q => h6 (Int32.toInt_inj.mp (by rw [q]; decide))
  have e7 : x.toInt ≠ 7 := fun q => h7 (Int32.toInt_inj.mp (by rw [q]; decide))
  have e8 : x.toInt ≠ 8 := fun q => h8 (Int32.toInt_inj.mp (by rw [q]; decide))
  omega
theorem sw_out31 {x : Int32} (h0 : ¬ x = 0) (h1 : ¬ x = 1) (h2 : ¬ x = 2) (h3 : ¬ x = 3) (h4 : ¬ x = 4) (h5 : ¬ x = 5) (h6 : ¬ x = 6) (h7 : ¬ x = 7) (h8 : ¬ x = 8) (h9 : ¬ x = 9) (h10 : ¬ x = 10) (h11 : ¬ x = 11) (h12 : ¬ x = 12) (h13 : ¬ x = 13) (h14 : ¬ x = 14) (h15 : ¬ x = 15) (h16 : ¬ x = 16) (h17 : ¬ x = 17) (h18 : ¬ x = 18) (h19 : ¬ x = 19) (h20 : ¬ x = 20) (h21 : ¬ x = 21) (h22 : ¬ x = 22) (h23 : ¬ x = 23) (h24 : ¬ x = 24) (h25 : ¬ x = 25) (h26 : ¬ x = 26) (h27 : ¬ x = 27) (h28 : ¬ x = 28) (h29 : ¬ x = 29) (h30 : ¬ x = 30) : x.toInt < 0 ∨ 30 < x.toInt := by
  have e0 : x.toInt ≠ 0 := fun q => h0 (Int32.toInt_inj.mp (by rw [q]; decide))
  have e1 : x.toInt ≠ 1 := fun q => h1 (Int32.toInt_inj.mp (by rw [q]; decide))
  have e2 : x.toInt ≠ 2 := fun q => h2 (Int32.toInt_inj.mp (by rw [q]; decide))
  have e3 : x.toInt ≠ 3 := fun q => h3 (Int32.toInt_inj.mp (by rw [q]; decide))
  have e4 : x.toInt ≠ 4 := fun q => h4 (Int32.toInt_inj.mp (by rw [q]; decide))
  have e5 : x.toInt ≠ 5 := fun q => h5 (Int32.toInt_inj.mp (by rw [q]; decide))
  have e6 : x.toInt ≠ 6 := fun q => h6 (Int32.toInt_inj.mp (by rw [q]; decide))
  have e7 : x.toInt ≠ 7 := fun q => h7 (Int32.toInt_inj.mp (by rw [q]; decide))
  have e8 : x.toInt ≠ 8 := fun q => h8 (Int32.toInt_inj.mp (by rw [q]; decide))
  have e9 : x.toInt ≠ 9 := fun q => h9 (Int32.toInt_inj.mp (by rw [q]; decide))
  have e10 : x.toInt ≠ 10 := fun q => h10 (Int32.toInt_inj.mp (by rw [q]; decide))
  have e11 : x.toInt ≠ 11 := fun q => h11 (Int32.toInt_inj.mp (by rw [q]; decide))
  have e12 : x.toInt ≠ 12 := fun q => h12 (Int32.toInt_inj.mp (by rw [q]; decide))
  have e13 : x.toInt ≠ 13 := fun q => h13 (Int32.toInt_inj.mp (by rw [q]; decide))
  have e14 : x.toInt ≠ 14 := fun q => h14 (Int32.toInt_inj.mp (by rw [q]; decide))
  have e15 : x.toInt ≠ 15 := fun q => h15 (Int32.toInt_inj.mp (by rw [q]; decide))
  have e16 : x.toInt ≠ 16 := fun q => h16 (Int32.toInt_inj.mp (by rw [q]; decide))
  have e17 : x.toInt ≠ 17 := fun q => h17 (Int32.toInt_inj.mp (by rw [q]; decide))
  have e18 : x.toInt ≠ 18 := fun q => h18 (Int32.toInt_inj.mp (by rw [q]; decide))
  have e19 : x.toInt ≠ 19 := fun q => h19 (Int32.toInt_inj.mp (by rw [q]; decide))
  have e20 : x.toInt ≠ 20 := fun q => h20 (Int32.toInt_inj.mp (by rw [q]; decide))
  have e21 : x.toInt ≠ 21 := fun q => h21 (Int32.toInt_inj.mp (by rw [q]; decide))
  have e22 : x.toInt ≠ 22 := fun q => h22 (Int32.toInt_inj.mp (by rw [q]; decide))
  have e23 : x.toInt ≠ 23 := fun q => h23 (Int32.toInt_inj.mp (by rw [q]; decide))
  have e24 : x.toInt ≠ 24 := fun q => h24 (Int32.toInt_inj.mp (by rw [q]; decide))
  have e25 : x.toInt ≠ 25 := fun q => h25 (Int32.toInt_inj.mp (by rw [q]; decide))
  have e26 : x.toInt ≠ 26 := fun q => h26 (Int32.toInt_inj.mp (by rw [q]; decide))
  have e27 : x.toInt ≠ 27 := fun q => h27 (Int32.toInt_inj.mp (by rw [q]; decide))
  have e28 : x.toInt ≠ 28 := fun q => h28 (Int32.toInt_inj.mp (by rw [q]; decide))
  have e29 : x.toInt ≠ 29 := fun q => h29 (Int32.toInt_inj.mp (by rw [q]; decide))
  have e30 : x.toInt ≠ 30 := fun q => h30 (Int32.toInt_inj.mp (by rw [q]; decide))
  omega
section MJ
variable {me : mMe} {E : mE} {d mc ms : Nat} {r : Option Value} {Mf : mM} {pc : Nat} {loc : mL} {stk : List Value} {M M1 : mM} {k n : Nat}
theorem Ev_new_e {idx ci : Nat} {q : vw_C} {fs : List Value} (hc : vwCl[ci]? = some q) (hw1 : Cond.classLink me.1.cls idx q.1 ∈ mT0) (hw2 : Cond.instantiable q.1 q.2.2 ∈ mT0) (hw3 : Cond.initialized q.1 ∈ mT0) (hlen : fs.length = q.2.2) (hfs : ∀ j, j < q.2.2 → defaultValue (mTy ci j) = vp_V fs j) (hno : fs.map (mtr E) = fs) (hkc : k + 1 ≤ mc) (hns : n + q.2.2 ≤ ms) (hM : M ++ [.inl (ci, fs)] = M1) (hd : decode me.2.1 pc = .ok (.new idx, 3)) (h : Ev me E d mc ms r Mf (pc + 3) loc (.ref (List.length M) :: stk) M1 (k + 1) (n + q.2.2)) : Ev me E d mc ms r Mf pc loc stk M k n := by
  subst hM
  exact Ev_new hc hw1 hw2 hw3 hlen hfs hno hkc hns hd h
theorem Ev_newa_e {z : Bool} {aty : ArrayType} (hz : newarray.typeOf aty = mty z) (hw : Cond.arrayClass (mty z) ∈ mT0) {v : Int32} {N : Nat} (hv : ¬ v < 0) (hN : v.toNatClampNeg = N) (hb : N * componentBytes (mty z) ≤ 536870912) (hkc : k + 1 ≤ mc) (hns : n + N ≤ ms) (hM : M ++ [.inr (.inl (z, List.replicate N 0))] = M1) (hd : decode me.2.1 pc = .ok (.newarray aty, 2)) (h : Ev me E d mc ms r Mf (pc + 2) loc (.ref (List.length M) :: stk) M1 (k + 1) (n + N)) : Ev me E d mc ms r Mf pc loc (.int v :: stk) M k n := by
  subst hM
  exact Ev_newa hz hw hv hN hb hkc hns hd h
theorem Ev_anew_e {z : Bool} {idx : Nat} (hw : Cond.classLink me.1.cls idx (mel z) ∈ mT0) {v : Int32} {N : Nat} (hv : ¬ v < 0) (hN : v.toNatClampNeg = N) (hb : N * 4 ≤ 536870912) (hkc : k + 1 ≤ mc) (hns : n + N ≤ ms) (hM : M ++ [.inr (.inr (z, List.replicate N .null))] = M1) (hd : decode me.2.1 pc = .ok (.anewarray idx, 3)) (h : Ev me E d mc ms r Mf (pc + 3) loc (.ref (List.length M) :: stk) M1 (k + 1) (n + N)) : Ev me E d mc ms r Mf pc loc (.int v :: stk) M k n := by
  subst hM
  exact Ev_anew hw hv hN hb hkc hns hd h
theorem Ev_callVi {me2 : mMe} {idx a ci np d2 : Nat} {vs rest : List Value} {x : Int32} (hM : mMv me2 np) (hlk : Cond.methodLink me.1.cls idx me2.1 ∈ mT0) (hq : ∃ q : vw_C, vwCl[ci]? = some q ∧ q.1 = me2.1.cls) (hO : isO M a ci = true) (hC : EvC me2 E d2 0 0 (.ref a :: vs) M (some (.int x)) M1) (hst : stk = vs.reverse ++ .ref a :: rest) (hnp : vs.length = np) (hdd : d2 + 1 ≤ d) (hrest : (rest.map fun v => v.category).sum ≤ 8) (hd : decode me.2.1 pc = .ok (.invokevirtual idx, 3)) (h : Ev me E d mc ms r Mf (pc + 3) loc (.int x :: rest) M1 k n) : Ev me E d mc ms r Mf pc loc stk M k n := Ev_callV hM hlk hq hO hC hst hnp hdd hrest hd h
theorem Ev_callVl {me2 : mMe} {idx a ci np d2 : Nat} {vs rest : List Value} {x : Int64} (hM : mMv me2 np) (hlk : Cond.methodLink me.1.cls idx me2.1 ∈ mT0) (hq : ∃ q : vw_C, vwCl[ci]? = some q ∧ q.1 = me2.1.cls) (hO : isO M a ci = true) (hC : EvC me2 E d2 0 0 (.ref a :: vs) M (some (.long x)) M1) (hst : stk = vs.reverse ++ .ref a :: rest) (hnp : vs.length = np) (hdd : d2 + 1 ≤ d) (hrest : (rest.map fun v => v.category).sum ≤ 8) (hd : decode me.2.1 pc = .ok (.invokevirtual idx, 3)) (h : Ev me E d mc ms r Mf (pc + 3) loc (.long x :: rest) M1 k n) : Ev me E d mc ms r Mf pc loc stk M k n := Ev_callV hM hlk hq hO hC hst hnp hdd hrest hd h
theorem Ev_callVv {me2 : mMe} {idx a ci np d2 : Nat} {vs rest : List Value} (hM : mMv me2 np) (hlk : Cond.methodLink me.1.cls idx me2.1 ∈ mT0) (hq : ∃ q : vw_C, vwCl[ci]? = some q ∧ q.1 = me2.1.cls) (hO : isO M a ci = true) (hC : EvC me2 E d2 0 0 (.ref a :: vs) M none M1) (hst : stk = vs.reverse ++ .ref a :: rest) (hnp : vs.length = np) (hdd : d2 + 1 ≤ d) (hrest : (rest.map fun v => v.category).sum ≤ 8) (hd : decode me.2.1 pc = .ok (.invokevirtual idx, 3)) (h : Ev me E d mc ms r Mf (pc + 3) loc rest M1 k n) : Ev me E d mc ms r Mf pc loc stk M k n := Ev_callV hM hlk hq hO hC hst hnp hdd hrest hd h
theorem Ev_callSi {me2 : mMe} {idx np d2 : Nat} {vs rest : List Value} {x : Int32} (hM : mMs me2 np) (hlk : Cond.methodLink me.1.cls idx me2.1 ∈ mT0) (hC : EvC me2 E d2 0 0 vs M (some (.int x)) M1) (hst : stk = vs.reverse ++ rest) (hnp : vs.length = np) (hdd : d2 + 1 ≤ d) (hrest : (rest.map fun v => v.category).sum ≤ 8) (hd : decode me.2.1 pc = .ok (.invokestatic idx, 3)) (h : Ev me E d mc ms r Mf (pc + 3) loc (.int x :: rest) M1 k n) : Ev me E d mc ms r Mf pc loc stk M k n := Ev_callS hM hlk hC hst hnp hdd hrest hd h
theorem Ev_callSl {me2 : mMe} {idx np d2 : Nat} {vs rest : List Value} {x : Int64} (hM : mMs me2 np) (hlk : Cond.methodLink me.1.cls idx me2.1 ∈ mT0) (hC : EvC me2 E d2 0 0 vs M (some (.long x)) M1) (hst : stk = vs.reverse ++ rest) (hnp : vs.length = np) (hdd : d2 + 1 ≤ d) (hrest : (rest.map fun v => v.category).sum ≤ 8) (hd : decode me.2.1 pc = .ok (.invokestatic idx, 3)) (h : Ev me E d mc ms r Mf (pc + 3) loc (.long x :: rest) M1 k n) : Ev me E d mc ms r Mf pc loc stk M k n := Ev_callS hM hlk hC hst hnp hdd hrest hd h
theorem nm_max : Lib.Math.max.name = yJ9_max_7cf53 := by decide +kernel
theorem nm_min : Lib.Math.min.name = yJ9_min_7cf53 := by decide +kernel
theorem nm_maxl : Lib.MathLoose.max_long.x = yJ9_max_f86c9 := by decide +kernel
theorem cd_max : Cond.code Lib.Math.max.name Lib.Math.max.code 2 (some .int) ∈ mT0 := mT0_tbl (i := 56) (by decide +kernel) (by decide +kernel)
theorem cd_min : Cond.code Lib.Math.min.name Lib.Math.min.code 2 (some .int) ∈ mT0 := mT0_tbl (i := 276) (by decide +kernel) (by decide +kernel)
theorem cd_maxl : Cond.code Lib.MathLoose.max_long.x Lib.MathLoose.max_long.code 4 (some .long) ∈ mT0 := mT0_tbl (i := 490) (by decide +kernel) (by decide +kernel)
theorem Ev_mmax {idx : Nat} {x y : Int32} (hw : Cond.methodLink me.1.cls idx yJ9_max_7cf53 ∈ mT0) (h1 : 1 ≤ d) (hrest : (stk.map fun v => v.category).sum ≤ 8) (hd : decode me.2.1 pc = .ok (.invokestatic idx, 3)) (h : Ev me E d mc ms r Mf (pc + 3) loc (.int (if x < y then y else x) :: stk) M k n) : Ev me E d mc ms r Mf pc loc (.int y :: .int x :: stk) M k n := by
  intro D p l e R s m args below meth c Z C Rt H locs ls hH hL hk hn hl
  obtain ⟨hx, hb, hml, hown, hts, hK, hnm, hRf, hRl, hRc, hRs⟩ := id C
  have hcat := mcat E hrest
  exact va_mmax hx hb (hml.trans hl.1.symm) hown (by rw [nm_max]; exact hts _ hw) (by rw [nm_max]; exact hts _ mdJ9_max_7cf53.2) (hts _ mdJ9_max_7cf53.1.2.1) (hts _ cd_max) (by omega) (by omega) (by omega) (by omega) hd (h D p l e R s m args below meth c Z C Rt H locs ls hH hL hk hn hl)
theorem Ev_mmin {idx : Nat} {x y : Int32} (hw : Cond.methodLink me.1.cls idx yJ9_min_7cf53 ∈ mT0) (h1 : 1 ≤ d) (hrest : (stk.map fun v => v.category).sum ≤ 8) (hd : decode me.2.1 pc = .ok (.invokestatic idx, 3)) (h : Ev me E d mc ms r Mf (pc + 3) loc (.int (if y < x then y else x) :: stk) M k n) : Ev me E d mc ms r Mf pc loc (.int y :: .int x :: stk) M k n := by
  intro D p l e R s m args below meth c Z C Rt H locs ls hH hL hk hn hl
  obtain ⟨hx, hb, hml, hown, hts, hK, hnm, hRf, hRl, hRc, hRs⟩ := id C
  have hcat := mcat E hrest
  exact va_mmin hx hb (hml.trans hl.1.symm) hown (by rw [nm_min]; exact hts _ hw) (by rw [nm_min]; exact hts _ mdJ9_min_7cf53.2) (hts _ mdJ9_min_7cf53.1.2.1) (hts _ cd_min) (by omega) (by omega) (by omega) (by omega) hd (h D p l e R s m args below meth c Z C Rt H locs ls hH hL hk hn hl)
theorem Ev_mmaxl {idx : Nat} {x y : Int64} (hw : Cond.methodLink me.1.cls idx yJ9_max_f86c9 ∈ mT0) (h1 : 1 ≤ d) (hrest : (stk.map fun v => v.category).sum ≤ 8) (hd : decode me.2.1 pc = .ok (.invokestatic idx, 3)) (h : Ev me E d mc ms r Mf (pc + 3) loc (.long (if y < x then x else y) :: stk) M k n) : Ev me E d mc ms r Mf pc loc (.long y :: .long x :: stk) M k n := by
  intro D p l e R s m args below meth c Z C Rt H locs ls hH hL hk hn hl
  obtain ⟨hx, hb, hml, hown, hts, hK, hnm, hRf, hRl, hRc, hRs⟩ := id C
  have hcat := mcat E hrest
  exact va_mmax_long hx hb (hml.trans hl.1.symm) hown (by rw [nm_maxl]; exact hts _ hw) (by rw [nm_maxl]; exact hts _ mdJ9_max_f86c9.2) (hts _ mdJ9_max_f86c9.1.2.1) (hts _ cd_maxl) (by omega) (by omega) (by omega) (by omega) hd (h D p l e R s m args below meth c Z C Rt H locs ls hH hL hk hn hl)
end MJ
