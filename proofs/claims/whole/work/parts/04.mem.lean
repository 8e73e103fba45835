/-! ===== rules of the small machine: fields, arrays, new cells, calls ===== -/
def gV (M : mM) (a ci k : Nat) : Option Value := match M[a]? with
  | some (.inl o) => if o.1 = ci then o.2[k]? else none
  | _ => none
def gI (M : mM) (a ci k : Nat) : Option Int32 := match gV M a ci k with
  | some (.int x) => some x
  | _ => none
def gL (M : mM) (a ci k : Nat) : Option Int64 := match gV M a ci k with
  | some (.long x) => some x
  | _ => none
def gR (M : mM) (a ci k : Nat) : Option Nat := match gV M a ci k with
  | some (.ref x) => some x
  | _ => none
def sV (M : mM) (a ci k : Nat) (v : Value) : Option mM := match M[a]? with
  | some (.inl o) => if o.1 = ci ∧ k < o.2.length ∧ 0 < a then some (M.set a (.inl (ci, o.2.set k v))) else none
  | _ => none
def aLen (M : mM) (a : Nat) : Option Int32 := match M[a]? with
  | some (.inr (.inl o)) => some (nI o.2.length)
  | _ => none
def aI (M : mM) (z : Bool) (a : Nat) (i : Int32) : Option Int32 := match M[a]? with
  | some (.inr (.inl o)) => if o.1 = z ∧ ¬ i < 0 then o.2[i.toNatClampNeg]? else none
  | _ => none
def aS (M : mM) (z : Bool) (a : Nat) (i : Int32) (x : Int32) : Option mM := match M[a]? with
  | some (.inr (.inl o)) => if o.1 = z ∧ ¬ i < 0 ∧ i.toNatClampNeg < o.2.length ∧ 0 < a then some (M.set a (.inr (.inl (z, o.2.set i.toNatClampNeg x)))) else none
  | _ => none
def qI (M : mM) (z : Bool) (a : Nat) (i : Int32) : Option Nat := match M[a]? with
  | some (.inr (.inr o)) => if o.1 = z ∧ ¬ i < 0 then (match o.2[i.toNatClampNeg]? with
    | some (.ref q) => some q
    | _ => none) else none
  | _ => none
def mcz (z : Bool) : Nat := match z with
  | false => 4
  | true => 6
def isO (M : mM) (a ci : Nat) : Bool := match M[a]? with
  | some (.inl o) => o.1 == ci
  | _ => false
def qS (M : mM) (z : Bool) (a : Nat) (i : Int32) (v : Nat) : Option mM := match M[a]? with
  | some (.inr (.inr o)) => if o.1 = z ∧ ¬ i < 0 ∧ i.toNatClampNeg < o.2.length ∧ 0 < a ∧ isO M v (mcz z) = true then some (M.set a (.inr (.inr (z, o.2.set i.toNatClampNeg (.ref v))))) else none
  | _ => none
theorem gV_spec {M : mM} {a ci k : Nat} {v : Value} (h : gV M a ci k = some v) : ∃ fs, M[a]? = some (.inl (ci, fs)) ∧ fs[k]? = some v := by
  unfold gV at h
  split at h
  · rename_i o ho
    split at h
    · rename_i hc
      obtain ⟨c, fs⟩ := o
      cases hc
      exact ⟨fs, ho, h⟩
    · cases h
  · cases h
theorem gI_spec {M : mM} {a ci k : Nat} {x : Int32} (h : gI M a ci k = some x) : gV M a ci k = some (.int x) := by
  unfold gI at h
  split at h
  · rename_i y hy
    cases h
    exact hy
  · cases h
theorem gL_spec {M : mM} {a ci k : Nat} {x : Int64} (h : gL M a ci k = some x) : gV M a ci k = some (.long x) := by
  unfold gL at h
  split at h
  · rename_i y hy
    cases h
    exact hy
  · cases h
theorem gR_spec {M : mM} {a ci k : Nat} {x : Nat} (h : gR M a ci k = some x) : gV M a ci k = some (.ref x) := by
  unfold gR at h
  split at h
  · rename_i y hy
    cases h
    exact hy
  · cases h
theorem sV_spec {M M1 : mM} {a ci k : Nat} {v : Value} (h : sV M a ci k v = some M1) : ∃ fs, M[a]? = some (.inl (ci, fs)) ∧ k < fs.length ∧ 0 < a ∧ M1 = M.set a (.inl (ci, fs.set k v)) := by
  unfold sV at h
  split at h
  · rename_i o ho
    split at h
    · rename_i hc
      obtain ⟨c, fs⟩ := o
      obtain ⟨h1, h2, h3⟩ := hc
      cases h1
      cases h
      exact ⟨fs, ho, h2, h3, rfl⟩
    · cases h
  · cases h
theorem aLen_spec {M : mM} {a : Nat} {x : Int32} (h : aLen M a = some x) : ∃ z xs, M[a]? = some (.inr (.inl (z, xs))) ∧ x = nI xs.length := by
  unfold aLen at h
  split at h
  · rename_i o ho
    cases h
    exact ⟨o.1, o.2, ho, rfl⟩
  · cases h
theorem aI_spec {M : mM} {z : Bool} {a : Nat} {i x : Int32} (h : aI M z a i = some x) : ∃ xs, M[a]? = some (.inr (.inl (z, xs))) ∧ ¬ i < 0 ∧ xs[i.toNatClampNeg]? = some x := by
  unfold aI at h
  split at h
  · rename_i o ho
    split at h
    · rename_i hc
      obtain ⟨c, fs⟩ := o
      obtain ⟨h1, h2⟩ := hc
      cases h1
      exact ⟨fs, ho, h2, h⟩
    · cases h
  · cases h
theorem aS_spec {M M1 : mM} {z : Bool} {a : Nat} {i x : Int32} (h : aS M z a i x = some M1) : ∃ xs, M[a]? = some (.inr (.inl (z, xs))) ∧ ¬ i < 0 ∧ i.toNatClampNeg < xs.length ∧ 0 < a ∧ M1 = M.set a (.inr (.inl (z, xs.set i.toNatClampNeg x))) := by
  unfold aS at h
  split at h
  · rename_i o ho
    split at h
    · rename_i hc
      obtain ⟨c, fs⟩ := o
      obtain ⟨h1, h2, h3, h4⟩ := hc
      cases h1
      cases h
      exact ⟨fs, ho, h2, h3, h4, rfl⟩
    · cases h
  · cases h
theorem qI_spec {M : mM} {z : Bool} {a : Nat} {i : Int32} {x : Nat} (h : qI M z a i = some x) : ∃ xs, M[a]? = some (.inr (.inr (z, xs))) ∧ ¬ i < 0 ∧ xs[i.toNatClampNeg]? = some (.ref x) := by
  unfold qI at h
  split at h
  · rename_i o ho
    split at h
    · rename_i hc
      obtain ⟨c, fs⟩ := o
      obtain ⟨h1, h2⟩ := hc
      cases h1
      split at h
      · rename_i q hq
        cases h
        exact ⟨fs, ho, h2, hq⟩
      · cases h
    · cases h
  · cases h
theorem isO_spec {M : mM} {a ci : Nat} (h : isO M a ci = true) : ∃ fs, M[a]? = some (.inl (ci, fs)) := by
  unfold isO at h
  split at h
  · rename_i o ho
    obtain ⟨c, fs⟩ := o
    have : c = ci := beq_iff_eq.mp h
    subst this
    exact ⟨fs, ho⟩
  · cases h
theorem qS_spec {M M1 : mM} {z : Bool} {a : Nat} {i : Int32} {v : Nat} (h : qS M z a i v = some M1) : ∃ xs, M[a]? = some (.inr (.inr (z, xs))) ∧ ¬ i < 0 ∧ i.toNatClampNeg < xs.length ∧ 0 < a ∧ (∃ fs, M[v]? = some (.inl (mcz z, fs))) ∧ M1 = M.set a (.inr (.inr (z, xs.set i.toNatClampNeg (.ref v)))) := by
  unfold qS at h
  split at h
  · rename_i o ho
    split at h
    · rename_i hc
      obtain ⟨c, fs⟩ := o
      obtain ⟨h1, h2, h3, h4, h5⟩ := hc
      cases h1
      cases h
      exact ⟨fs, ho, h2, h3, h4, isO_spec h5, rfl⟩
    · cases h
  · cases h
/-! the classes' own facts -/
def mTy (ci : Nat) : Nat → FieldType := match ci with
  | 0 => tyX0
  | 1 => tyX1
  | 2 => tyX2
  | 3 => tyX3
  | 4 => tyX4
  | 5 => tyX5
  | 6 => tyX6
  | 7 => tyX7
  | _ => tyX8
theorem uw_X0 : ∀ w ∈ u_ws RX0 TX0 3, w ∈ tables_1 ∧ goodWord w = true := by decide +kernel
theorem uw_X1 : ∀ w ∈ u_ws RX1 TX1 3, w ∈ tables_1 ∧ goodWord w = true := by decide +kernel
theorem uw_X2 : ∀ w ∈ u_ws RX2 TX2 2, w ∈ tables_1 ∧ goodWord w = true := by decide +kernel
theorem uw_X3 : ∀ w ∈ u_ws RX3 TX3 2, w ∈ tables_1 ∧ goodWord w = true := by decide +kernel
theorem uw_X4 : ∀ w ∈ u_ws RX4 TX4 3, w ∈ tables_1 ∧ goodWord w = true := by decide +kernel
theorem uw_X5 : ∀ w ∈ u_ws RX5 TX5 2, w ∈ tables_1 ∧ goodWord w = true := by decide +kernel
theorem uw_X6 : ∀ w ∈ u_ws RX6 TX6 3, w ∈ tables_1 ∧ goodWord w = true := by decide +kernel
theorem uw_X7 : ∀ w ∈ u_ws RX7 TX7 13, w ∈ tables_1 ∧ goodWord w = true := by decide +kernel
theorem uw_X8 : ∀ w ∈ u_ws RX8 TX8 24, w ∈ tables_1 ∧ goodWord w = true := by decide +kernel
theorem mT0_of {w : Cond} (h : w ∈ tables_1 ∧ goodWord w = true) : w ∈ mT0 := List.mem_filter.mpr ⟨List.mem_append_right _ h.1, h.2⟩
theorem mCl_ok : ∀ (ci : Nat) (r : vw_C), vwCl[ci]? = some r → (∀ w ∈ u_ws r.1 r.2.1 r.2.2, w ∈ mT0) ∧ (∀ k, k < r.2.2 → parseFieldDescriptor (r.2.1 k).2.2.1 = some (mTy ci k)) ∧ (∀ a, a < r.2.2 → ∀ b, b < r.2.2 → a ≠ b → (r.2.1 a).2.1 ≠ (r.2.1 b).2.1)
  | 0, r, h => by cases h; exact ⟨fun w hw => mT0_of (uw_X0 w hw), tyX0_ok, nmX0⟩
  | 1, r, h => by cases h; exact ⟨fun w hw => mT0_of (uw_X1 w hw), tyX1_ok, nmX1⟩
  | 2, r, h => by cases h; exact ⟨fun w hw => mT0_of (uw_X2 w hw), tyX2_ok, nmX2⟩
  | 3, r, h => by cases h; exact ⟨fun w hw => mT0_of (uw_X3 w hw), tyX3_ok, nmX3⟩
  | 4, r, h => by cases h; exact ⟨fun w hw => mT0_of (uw_X4 w hw), tyX4_ok, nmX4⟩
  | 5, r, h => by cases h; exact ⟨fun w hw => mT0_of (uw_X5 w hw), tyX5_ok, nmX5⟩
  | 6, r, h => by cases h; exact ⟨fun w hw => mT0_of (uw_X6 w hw), tyX6_ok, nmX6⟩
  | 7, r, h => by cases h; exact ⟨fun w hw => mT0_of (uw_X7 w hw), tyX7_ok, nmX7⟩
  | 8, r, h => by cases h; exact ⟨fun w hw => mT0_of (uw_X8 w hw), tyX8_ok, nmX8⟩
  | n + 9, r, h => by simp [vwCl] at h
/-- a field of a class, as a pool entry of the class 'own' names it -/
def mFl (own : String) (idx ci k : Nat) : Prop := ∃ r : vw_C, vwCl[ci]? = some r ∧ k < r.2.2 ∧ (Cond.fieldLink own idx (r.2.1 k).1 (r.2.1 k).2.1 (r.2.1 k).2.2.1 ∈ mT0 ∨ ∃ host, Cond.fieldLinkNest own idx (r.2.1 k).1 (r.2.1 k).2.1 (r.2.1 k).2.2.1 host ∈ mNw)
theorem vp_V_map {E : mE} {fs : List Value} {k : Nat} {v : Value} (h : fs[k]? = some v) : vp_V (fs.map (mtr E)) k = mtr E v := by
  simp [vp_V, h]
section MJ
variable {me : mMe} {E : mE} {d mc ms : Nat} {r : Option Value} {Mf : mM} {pc : Nat} {loc : mL} {stk : List Value} {M M1 : mM} {k n : Nat}
theorem Ev_get {idx a ci i : Nat} {v : Value} (hf : mFl me.1.cls idx ci i) (hd : decode me.2.1 pc = .ok (.getfield idx, 3)) (hg : gV M a ci i = some v) (h : Ev me E d mc ms r Mf (pc + 3) loc (v :: stk) M k n) : Ev me E d mc ms r Mf pc loc (.ref a :: stk) M k n := by
  intro D p l e R s m args below meth c Z C Rt H locs ls hH hL hk hn hl
  obtain ⟨fs, hM, hv⟩ := gV_spec hg
  obtain ⟨q, hc, hkN, hlk⟩ := hf
  obtain ⟨r', h1, -, cell, q1, q2, q3, q4⟩ := hH.1 a _ hM
  cases h1.symm.trans hc
  obtain ⟨u1, u2, u3⟩ := mCl_ok ci _ hc
  obtain ⟨hS, hfc, kC, hkC, hkind⟩ := C.2.2.2.2.2.1.1 ci _ hc
  obtain ⟨cf, kf, fi, f, hi, hsl⟩ := hS i hkN
  have hslot : cell.slots[f.slot]? = some (mtr E v) := by rw [hsl, q4 i hkN, vp_V_map hv]
  have hst := (u_facts hfc hkC (u_lays C.2.2.2.2.1 u1 hkN) hi).1
  have hun : cell.vm ≠ .unknown := by rw [q3]; exact fun h => by cases h
  rcases hlk with hlk | ⟨host, hlk⟩
  · exact W.getf C.1 C.2.1 C.2.2.2.1 (C.2.2.2.2.1 _ hlk) hi hst q1 hun hslot rfl rfl hd (h D p l e R s m args below meth c Z C Rt H locs ls hH hL hk hn hl)
  · exact va_Wgetf C.1 C.2.1 C.2.2.2.1 (va_Nw.use rfl (C.2.2.2.2.2.1.2.1 _ hlk)) hi hst q1 hun hslot rfl rfl hd (h D p l e R s m args below meth c Z C Rt H locs ls hH hL hk hn hl)
theorem Ev_getI {idx a ci i : Nat} {v : Int32} (hf : mFl me.1.cls idx ci i) (hd : decode me.2.1 pc = .ok (.getfield idx, 3)) (hg : gI M a ci i = some v) (h : Ev me E d mc ms r Mf (pc + 3) loc (.int v :: stk) M k n) : Ev me E d mc ms r Mf pc loc (.ref a :: stk) M k n := Ev_get hf hd (gI_spec hg) h
theorem Ev_getL {idx a ci i : Nat} {v : Int64} (hf : mFl me.1.cls idx ci i) (hd : decode me.2.1 pc = .ok (.getfield idx, 3)) (hg : gL M a ci i = some v) (h : Ev me E d mc ms r Mf (pc + 3) loc (.long v :: stk) M k n) : Ev me E d mc ms r Mf pc loc (.ref a :: stk) M k n := Ev_get hf hd (gL_spec hg) h
theorem Ev_getR {idx a ci i : Nat} {v : Nat} (hf : mFl me.1.cls idx ci i) (hd : decode me.2.1 pc = .ok (.getfield idx, 3)) (hg : gR M a ci i = some v) (h : Ev me E d mc ms r Mf (pc + 3) loc (.ref v :: stk) M k n) : Ev me E d mc ms r Mf pc loc (.ref a :: stk) M k n := Ev_get hf hd (gR_spec hg) h
theorem lL_app {E : mE} {locs : List Loc} {a i : Nat} (h : ∀ q ∈ locs, E.2 ≤ q.base) (ha : E.2 ≤ a) : ∀ q ∈ locs ++ [(⟨a, i⟩ : Loc)], E.2 ≤ q.base := by
  intro q hq
  rcases List.mem_append.mp hq with h1 | h1
  · exact h q h1
  · rw [List.mem_singleton] at h1
    subst h1
    exact ha
/-- a field written: in a constructor of its class, or one that isn't final -/
theorem Ev_put {idx a ci i : Nat} {v : Value} (hf : mFl me.1.cls idx ci i) (hfit : narrow (mTy ci i) (mtr E v) = mtr E v ∧ fits (mTy ci i) (mtr E v) = true) (hfin : ∀ q, vwCl[ci]? = some q → (q.2.1 i).2.2.2 = false ∨ ((q.2.1 i).2.2.2 = true ∧ me.1.name = "<init>" ∧ (q.2.1 i).1 = me.1.cls ∧ ∃ w, w ∈ mT0 ∧ w = Cond.fieldLink me.1.cls idx (q.2.1 i).1 (q.2.1 i).2.1 (q.2.1 i).2.2.1)) (hd : decode me.2.1 pc = .ok (.putfield idx, 3)) (hg : sV M a ci i v = some M1) (h : Ev me E d mc ms r Mf (pc + 3) loc stk M1 k n) : Ev me E d mc ms r Mf pc loc (v :: .ref a :: stk) M k n := by
  intro D p l e R s m args below meth c Z C Rt H locs ls hH hL hk hn hl
  obtain ⟨fs, hM, hv, ha0, rfl⟩ := sV_spec hg
  obtain ⟨q, hc, hkN, hlk⟩ := hf
  obtain ⟨r', h1, hlen, cell, q1, q2, q3, q4⟩ := hH.1 a _ hM
  cases h1.symm.trans hc
  obtain ⟨u1, u2, u3⟩ := mCl_ok ci _ hc
  obtain ⟨hS, hfc, kC, hkC, hkind⟩ := C.2.2.2.2.2.1.1 ci _ hc
  obtain ⟨cf, kf, fi, f, hi, hsl⟩ := hS i hkN
  have hap := va_apart (own := me.1.cls) C.2.2.2.2.1 u1 (mTy ci) u2 u3 C.2.2.2.2.2.1.va hc
  have hst := (u_facts hfc hkC (u_lays C.2.2.2.2.1 u1 hkN) hi).1
  have key : ∀ H' : Heap, H'[mad E a]? = some (cell.setSlot f.slot (mtr E v)) → H'.size = H.size → (∀ q : Nat, q ≠ mad E a → H'[q]? = H[q]?) → mHold E D s (M.set a (.inl (ci, fs.set i v))) H' := by
    intro H' e1 e2 e3
    rw [hsl] at e1
    refine hH.set hM e2 e3 ⟨_, hc, by rw [← hlen]; exact List.length_set, ?_⟩
    have hv' : i < (fs.map (mtr E)).length := by rw [List.length_map]; exact hv
    have := t_OB.to (V := updV (vp_V (fs.map (mtr E))) i (mtr E v)) (V' := vp_V ((fs.map (mtr E)).set i (mtr E v))) (⟨_, e1, q2, q3, t_set q4 hap hkN (mtr E v)⟩ : t_OB (mad E a) (D.1 ci) _ (D.2 ci) H' _) (fun j _ => vp_updV_set hv' (mtr E v) j)
    rw [List.map_set]
    exact this
  have hlay := C.2.2.2.2.1 _ (u1 _ (u_in_lay hkN))
  unfold u_lay at hlay
  rcases hfin _ hc with hfn | ⟨hfn, hnm, hdecl, w, hw, rfl⟩
  · rw [if_neg (by rw [hfn]; decide)] at hlay
    have h6 := u_store hfc hkC hkind hlay hi (u2 i hkN) hfit.1 hfit.2
    rcases hlk with hlk | ⟨host, hlk⟩
    · exact W.putK C.1 C.2.1 (f := f) ⟨C.2.2.2.1, C.2.2.2.2.1 _ hlk, ⟨_, _, _, hi⟩, hst⟩ (by rw [q2]; exact h6) q1 q3 (by rw [hsl]; exact k2_hasslot (q4 i hkN)) rfl rfl hd fun H' e1 e2 e3 => h D p l e R s m args below meth c Z C Rt H' _ ls (key H' e1 e2 e3) (lL_app hL (mad_base ha0)) hk hn hl
    · exact va_WputK C.1 C.2.1 (f := f) C.2.2.2.1 (va_Nw.use rfl (C.2.2.2.2.2.1.2.1 _ hlk)) hi hst (by rw [q2]; exact h6) q1 q3 (by rw [hsl]; exact k2_hasslot (q4 i hkN)) rfl rfl hd fun H' e1 e2 e3 => h D p l e R s m args below meth c Z C Rt H' _ ls (key H' e1 e2 e3) (lL_app hL (mad_base ha0)) hk hn hl
  · rw [if_pos hfn] at hlay
    have hcf : m.cls = cf := by
      obtain ⟨_, _, c', _, _, _, -, -, hf', -, -, -, hown2, -⟩ := Cond.laysFinal_spec hlay
      have e1 : c' = cf := by have := hi.symm.trans hf'; simp at this; exact this.1.symm
      rw [hdecl] at hown2
      rw [← e1]; exact Option.some.inj (C.2.2.2.1.symm.trans hown2)
    have h6 := u_fits hfc hkC hkind (Or.inr hlay) hi (u2 i hkN) hfit.1 hfit.2
    exact W.putFinK C.1 C.2.1 C.2.2.2.1 (C.2.2.2.2.1 _ hw) hi hst hcf (C.2.2.2.2.2.2.1 hnm) (by rw [q2]; exact h6) q1 q3 (by rw [hsl]; exact k2_hasslot (q4 i hkN)) rfl rfl hd fun H' e1 e2 e3 => h D p l e R s m args below meth c Z C Rt H' _ ls (key H' e1 e2 e3) (lL_app hL (mad_base ha0)) hk hn hl
theorem Ev_alen {a : Nat} {v : Int32} (hd : decode me.2.1 pc = .ok (.arraylength, 1)) (hg : aLen M a = some v) (h : Ev me E d mc ms r Mf (pc + 1) loc (.int v :: stk) M k n) : Ev me E d mc ms r Mf pc loc (.ref a :: stk) M k n := by
  intro D p l e R s m args below meth c Z C Rt H locs ls hH hL hk hn hl
  obtain ⟨z, xs, hM, rfl⟩ := aLen_spec hg
  obtain ⟨cell, h1, h2, h3, h4, h5⟩ := hH.1 a _ hM
  exact W.alen C.1 C.2.1 h1 h2 (by rw [h4]; rfl) rfl rfl hd (h D p l e R s m args below meth c Z C Rt H locs ls hH hL hk hn hl)
theorem mclamp {i : Int32} {N : Nat} (h0 : ¬ i < 0) (h1 : i.toNatClampNeg < N) : ¬ (i < 0 ∨ N ≤ i.toNatClampNeg) := by
  rintro (h | h)
  · exact h0 h
  · omega
theorem Ev_iald {a : Nat} {i v : Int32} (hd : decode me.2.1 pc = .ok (.iaload, 1)) (hg : aI M false a i = some v) (h : Ev me E d mc ms r Mf (pc + 1) loc (.int v :: stk) M k n) : Ev me E d mc ms r Mf pc loc (.int i :: .ref a :: stk) M k n := by
  intro D p l e R s m args below meth c Z C Rt H locs ls hH hL hk hn hl
  obtain ⟨xs, hM, h0, hv⟩ := aI_spec hg
  obtain ⟨cell, h1, h2, h3, h4, h5⟩ := hH.1 a _ hM
  have hlt := (List.getElem?_eq_some_iff.mp hv).1
  exact W.iald C.1 C.2.1 h1 h2 h3 (by rw [h4]; exact mclamp h0 hlt) (v := .int v) (by rw [h5 _ hlt]; simp [hv]) rfl rfl hd (h D p l e R s m args below meth c Z C Rt H locs ls hH hL hk hn hl)
theorem Ev_zald {a : Nat} {i v : Int32} (hd : decode me.2.1 pc = .ok (.baload, 1)) (hg : aI M true a i = some v) (h : Ev me E d mc ms r Mf (pc + 1) loc (.int v :: stk) M k n) : Ev me E d mc ms r Mf pc loc (.int i :: .ref a :: stk) M k n := by
  intro D p l e R s m args below meth c Z C Rt H locs ls hH hL hk hn hl
  obtain ⟨xs, hM, h0, hv⟩ := aI_spec hg
  obtain ⟨cell, h1, h2, h3, h4, h5⟩ := hH.1 a _ hM
  have hlt := (List.getElem?_eq_some_iff.mp hv).1
  exact W.zald C.1 C.2.1 h1 h2 h3 (by rw [h4]; exact mclamp h0 hlt) (v := .int v) (by rw [h5 _ hlt]; simp [hv]) rfl rfl hd (h D p l e R s m args below meth c Z C Rt H locs ls hH hL hk hn hl)
theorem mAt_ast {E : mE} {D : va_G} {s : State} {z : Bool} {a j : Nat} {xs : List Int32} {x : Int32} {cell : Cell} {H' : Heap} (h2 : s.isArrayOf cell (mty z)) (h3 : cell.vm ≠ .unknown) (h4 : cell.slots.size = xs.length) (h5 : ∀ j, j < xs.length → cell.slots[j]? = some (.int (xs.getD j 0))) (hj : j < xs.length) (e1 : H'[mad E a]? = some (cell.setSlot j (.int x))) : mAt E D s a (.inr (.inl (z, xs.set j x))) H' := by
  refine ⟨_, e1, h2, h3, by rw [List.length_set, ← h4]; simp [Cell.setSlot], fun q hq => ?_⟩
  rw [List.length_set] at hq
  by_cases hqj : q = j
  · subst hqj
    rw [Cell.slots_setSlot_self _ (by rw [h4]; exact hq)]
    simp [hq]
  · rw [slot_ne _ _ (Ne.symm hqj), h5 q hq]
    simp [List.getElem?_set_ne (Ne.symm hqj)]
theorem Ev_iast {a : Nat} {i v : Int32} (hd : decode me.2.1 pc = .ok (.iastore, 1)) (hg : aS M false a i v = some M1) (h : Ev me E d mc ms r Mf (pc + 1) loc stk M1 k n) : Ev me E d mc ms r Mf pc loc (.int v :: .int i :: .ref a :: stk) M k n := by
  intro D p l e R s m args below meth c Z C Rt H locs ls hH hL hk hn hl
  obtain ⟨xs, hM, h0, hlt, ha0, rfl⟩ := aS_spec hg
  obtain ⟨cell, h1, h2, h3, h4, h5⟩ := hH.1 a _ hM
  exact W.iast C.1 C.2.1 h1 h2 h3 (by rw [h4]; exact mclamp h0 hlt) rfl rfl hd fun H' e1 e2 e3 => h D p l e R s m args below meth c Z C Rt H' _ ls (hH.set hM e2 e3 (mAt_ast h2 h3 h4 h5 hlt e1)) (lL_app hL (mad_base ha0)) hk hn hl
theorem Ev_zast {a : Nat} {i v w : Int32} (hw : narrow .boolean (.int v) = .int w) (hd : decode me.2.1 pc = .ok (.bastore, 1)) (hg : aS M true a i w = some M1) (h : Ev me E d mc ms r Mf (pc + 1) loc stk M1 k n) : Ev me E d mc ms r Mf pc loc (.int v :: .int i :: .ref a :: stk) M k n := by
  intro D p l e R s m args below meth c Z C Rt H locs ls hH hL hk hn hl
  obtain ⟨xs, hM, h0, hlt, ha0, rfl⟩ := aS_spec hg
  obtain ⟨cell, h1, h2, h3, h4, h5⟩ := hH.1 a _ hM
  exact W.zast C.1 C.2.1 h1 h2 h3 (by rw [h4]; exact mclamp h0 hlt) rfl rfl hd fun H' e1 e2 e3 => h D p l e R s m args below meth c Z C Rt H' _ ls (hH.set hM e2 e3 (mAt_ast h2 h3 h4 h5 hlt (by rw [e1, hw]))) (lL_app hL (mad_base ha0)) hk hn hl
theorem Ev_aald {z : Bool} {a : Nat} {i : Int32} {v : Nat} (hd : decode me.2.1 pc = .ok (.aaload, 1)) (hg : qI M z a i = some v) (h : Ev me E d mc ms r Mf (pc + 1) loc (.ref v :: stk) M k n) : Ev me E d mc ms r Mf pc loc (.int i :: .ref a :: stk) M k n := by
  intro D p l e R s m args below meth c Z C Rt H locs ls hH hL hk hn hl
  obtain ⟨xs, hM, h0, hv⟩ := qI_spec hg
  obtain ⟨cA, h1, h2, h3⟩ := hH.1 a _ hM
  have hlt := (List.getElem?_eq_some_iff.mp hv).1
  exact W.aald (v := mtr E (.ref v)) (ty := .object (mel z)) C.1 C.2.1 h1 (h2 _ _) rfl (fun q => by cases q) (by rw [arrV_size]; exact mclamp h0 hlt) (by rw [arrV_read _ _ hlt, vp_V_map hv]) rfl rfl hd (h D p l e R s m args below meth c Z C Rt H locs ls hH hL hk hn hl)
theorem mel_cl (z : Bool) : ∃ q : vw_C, vwCl[mcz z]? = some q ∧ q.1 = mel z := by cases z <;> exact ⟨_, rfl, rfl⟩
theorem Ev_aast {z : Bool} {a : Nat} {i : Int32} {v : Nat} (hd : decode me.2.1 pc = .ok (.aastore, 1)) (hg : qS M z a i v = some M1) (h : Ev me E d mc ms r Mf (pc + 1) loc stk M1 k n) : Ev me E d mc ms r Mf pc loc (.ref v :: .int i :: .ref a :: stk) M k n := by
  intro D p l e R s m args below meth c Z C Rt H locs ls hH hL hk hn hl
  obtain ⟨xs, hM, h0, hlt, ha0, ⟨fs, hMv⟩, rfl⟩ := qS_spec hg
  obtain ⟨cA, h1, h2, h3⟩ := hH.1 a _ hM
  obtain ⟨r', hr', -, cellV, g1, g2, g3, -⟩ := hH.1 v _ hMv
  obtain ⟨q, hq, hqe⟩ := mel_cl z
  cases hr'.symm.trans hq
  have hcls := (C.2.2.2.2.2.1.1 _ _ hq).2
  rw [hqe] at hcls
  have h3' := h3
  obtain ⟨kA, comp, k1, k2, k3, -⟩ := h3
  have hcomp : comp = D.1 (mcz z) := Option.some.inj (k3.symm.trans hcls.1)
  subst hcomp
  obtain ⟨kC, hkC, -⟩ := hcls.2
  refine W.aast C.1 C.2.1 h1 (fun q h => by cases h) (fun h => by cases h) k1 k2 rfl hkC ⟨h0, by rw [arrV_size]; exact hlt⟩ g1 (fun q h => by rw [g3] at h; cases h) (by rw [g2]; exact hkC) (by rw [g2]; exact va_assign hcls) rfl rfl hd fun H' e1 e2 e3 => ?_
  refine h D p l e R s m args below meth c Z C Rt H' _ ls (hH.set hM e2 e3 ⟨cA, ?_, h2, h3'⟩) (lL_app hL (mad_base ha0)) hk hn hl
  rw [e1, arrV_store]
  simp only [List.length_set]
  congr 2
  funext j
  rw [List.map_set]
  exact vp_updV_set (by rw [List.length_map]; exact hlt) _ j
end MJ
