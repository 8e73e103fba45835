/-! ===== the small machine: cells by number (0 the script, the rest in the order of their making), values with such numbers as references ===== -/
abbrev mC : Type := (Nat × List Value) ⊕ (Bool × List Int32) ⊕ (Bool × List Value)
abbrev mM : Type := List mC
abbrev mE : Type := Nat × Nat
abbrev mMe : Type := MethodName × ByteArray × Nat × Option FieldType
abbrev mL : Type := List (Option Value)
def mad (E : mE) (k : Nat) : Nat := match k with
  | 0 => E.1
  | j + 1 => E.2 + j
def mtr (E : mE) (v : Value) : Value := match v with
  | .ref k => .ref (mad E k)
  | w => w
def mty (z : Bool) : FieldType := match z with
  | false => .int
  | true => .boolean
def mel (z : Bool) : String := match z with
  | false => RX4
  | true => RX6
def mAt (E : mE) (D : va_G) (U : State) (k : Nat) (c : mC) (H : Heap) : Prop := match c with
  | .inl o => ∃ r : vw_C, vwCl[o.1]? = some r ∧ o.2.length = r.2.2 ∧ t_OB (mad E k) (D.1 o.1) r.2.2 (D.2 o.1) H (vp_V (o.2.map (mtr E)))
  | .inr (.inl o) => ∃ cell : Cell, H[mad E k]? = some cell ∧ U.isArrayOf cell (mty o.1) ∧ cell.vm ≠ .unknown ∧ cell.slots.size = o.2.length ∧ ∀ j, j < o.2.length → cell.slots[j]? = some (.int (o.2.getD j 0))
  | .inr (.inr o) => ∃ cA : ClassId, H[mad E k]? = some (arrV cA o.2.length (vp_V (o.2.map (mtr E)))) ∧ ArrOfT U cA (.object (mel o.1)) ∧ va_RA U cA (.object (mel o.1))
theorem mAt.kept {E : mE} {D : va_G} {U : State} {k : Nat} {c : mC} {H H1 : Heap} (h : mAt E D U k c H) (hq : H1[mad E k]? = H[mad E k]?) : mAt E D U k c H1 := by
  rcases c with o | o | o
  · obtain ⟨r, h1, h2, h3⟩ := h
    exact ⟨r, h1, h2, h3.kept hq⟩
  · obtain ⟨cell, h1, h2⟩ := h
    exact ⟨cell, by rw [hq]; exact h1, h2⟩
  · obtain ⟨cA, h1, h2⟩ := h
    exact ⟨cA, by rw [hq]; exact h1, h2⟩
theorem mAt.moved {E : mE} {D : va_G} {u U : State} {k : Nat} {c : mC} {H : Heap} (hvm : u.vm.Alike U.vm) (h : mAt E D u k c H) : mAt E D U k c H := by
  rcases c with o | o | o
  · exact h
  · obtain ⟨cell, h1, h2, h3⟩ := h
    exact ⟨cell, h1, State.isArrayOf_alike hvm h2, h3⟩
  · obtain ⟨cA, h1, h2, h3⟩ := h
    exact ⟨cA, h1, arrOfT_moved hvm h2, h3.moved hvm⟩
theorem mAt.lt {E : mE} {D : va_G} {U : State} {k : Nat} {c : mC} {H : Heap} (h : mAt E D U k c H) : mad E k < H.size := by
  rcases c with o | o | o
  · obtain ⟨r, h1, h2, cell, h3, -⟩ := h
    exact (Array.getElem?_eq_some_iff.mp h3).1
  · obtain ⟨cell, h1, -⟩ := h
    exact (Array.getElem?_eq_some_iff.mp h1).1
  · obtain ⟨cA, h1, -⟩ := h
    exact (Array.getElem?_eq_some_iff.mp h1).1
theorem mad_inj {E : mE} (hE : E.1 < E.2) {i j : Nat} (h : mad E i = mad E j) : i = j := by
  cases i <;> cases j <;> simp only [mad] at h <;> omega
theorem mad_base {E : mE} {k : Nat} (hk : 0 < k) : E.2 ≤ mad E k := by
  cases k with
  | zero => omega
  | succ k => exact Nat.le_add_right _ _
/-- the heap holds the cells -/
def mHold (E : mE) (D : va_G) (U : State) (M : mM) (H : Heap) : Prop := (∀ (k : Nat) (c : mC), M[k]? = some c → mAt E D U k c H) ∧ H.size + 1 = E.2 + M.length ∧ E.1 < E.2 ∧ 1 ≤ M.length
theorem mHold.moved {E : mE} {D : va_G} {u U : State} {M : mM} {H : Heap} (hvm : u.vm.Alike U.vm) (h : mHold E D u M H) : mHold E D U M H := ⟨fun k c hk => (h.1 k c hk).moved hvm, h.2⟩
theorem mHold.set {E : mE} {D : va_G} {U : State} {M : mM} {H H1 : Heap} {k : Nat} {c0 c : mC} (h : mHold E D U M H) (hk : M[k]? = some c0) (hz : H1.size = H.size) (ho : ∀ q : Nat, q ≠ mad E k → H1[q]? = H[q]?) (hc : mAt E D U k c H1) : mHold E D U (M.set k c) H1 := by
  have hl := (List.getElem?_eq_some_iff.mp hk).1
  refine ⟨fun j cj hj => ?_, by rw [hz, List.length_set]; exact h.2.1, h.2.2.1, by rw [List.length_set]; exact h.2.2.2⟩
  by_cases hjk : j = k
  · subst hjk
    rw [List.getElem?_set_self hl] at hj
    cases hj
    exact hc
  · rw [List.getElem?_set_ne (Ne.symm hjk)] at hj
    exact (h.1 j cj hj).kept (ho _ (fun z => hjk (mad_inj h.2.2.1 z)))
theorem mHold.new {E : mE} {D : va_G} {U : State} {M : mM} {H : Heap} (h : mHold E D U M H) : mad E M.length = H.size := by
  have h1 := h.2.1
  have h2 := h.2.2.2
  cases hm : M.length with
  | zero => omega
  | succ n => simp only [mad]; omega
theorem mHold.push {E : mE} {D : va_G} {U : State} {M : mM} {H H1 : Heap} {c : mC} (h : mHold E D U M H) (hz : H1.size = H.size + 1) (ho : ∀ q : Nat, q < H.size → H1[q]? = H[q]?) (hc : mAt E D U M.length c H1) : mHold E D U (M ++ [c]) H1 := by
  refine ⟨fun j cj hj => ?_, by rw [hz, List.length_append, List.length_singleton]; have := h.2.1; omega, h.2.2.1, by have := h.2.2.2; rw [List.length_append]; omega⟩
  by_cases hl : j < M.length
  · rw [List.getElem?_append_left hl] at hj
    have h1 := h.1 j cj hj
    exact h1.kept (ho _ h1.lt)
  · rw [List.getElem?_append_right (by omega)] at hj
    have hz : j - M.length < 1 := (List.getElem?_eq_some_iff.mp hj).1
    have hj0 : j = M.length := by omega
    subst hj0
    rw [Nat.sub_self] at hj
    cases hj
    exact hc
/-! the words -/
def mNest : Cond → Bool
  | .fieldLinkNest _ _ _ _ _ _ => true
  | .methodLinkNest _ _ _ _ => true
  | _ => false
def mT0 : List Cond := lw_tbl.filter goodWord
def mNw : List Cond := lw_tbl.filter mNest
def mK (D : va_G) (U : State) : Prop := (∀ (c : Nat) (q : vw_C), vwCl[c]? = some q → u_Kn U q.1 q.2.1 q.2.2 (D.1 c) (D.2 c)) ∧ (∀ w ∈ mNw, va_Nw w U) ∧ va_AO RX4 U ∧ va_AO RX6 U
theorem mK.warm {D : va_G} {s U : State} (hW : s.WarmedH U.vm) (h : mK D s) : mK D U := by
  refine ⟨fun c q hq => u_Kn_moved hW.alike (h.1 c q hq), fun w hw => ?_, h.2.2.1.moved hW.alike, h.2.2.2.moved hW.alike⟩
  have h1 := h.2.1 w hw
  have h2 : mNest w = true := (List.mem_filter.mp hw).2
  cases w <;> first | exact va_Nw.warmF hW h1 | exact va_Nw.warmM hW h1 | cases h2
theorem mK.va {D : va_G} {U : State} (h : mK D U) : va_K D vwCl [] U := ⟨h.1, fun k q hk => by simp at hk⟩
def mws (me : mMe) : List Cond := Cond.code me.1 me.2.1 me.2.2.1 me.2.2.2 :: mT0
def mrm (d mc ms : Nat) : Room := { frames := d, cells := mc, slots := ms, locals := 40 * d }
theorem mT0_tbl {i : Nat} {w : Cond} (h : tables_1[i]? = some w) (hg : goodWord w = true) : w ∈ mT0 := List.mem_filter.mpr ⟨List.mem_append_right _ (List.mem_of_getElem? h), hg⟩
theorem mNw_tbl {i : Nat} {w : Cond} (h : tables_1[i]? = some w) (hg : mNest w = true) : w ∈ mNw := List.mem_filter.mpr ⟨List.mem_append_right _ (List.mem_of_getElem? h), hg⟩
theorem mT0_prv {i : Nat} {w : Cond} (h : (k2_sels lw_privs)[i]? = some w) (hg : goodWord w = true) : w ∈ mT0 := List.mem_filter.mpr ⟨List.mem_append_left _ (List.mem_of_getElem? h), hg⟩
/-! locals -/
def mloc (E : mE) : Nat → mL → List (Nat × Value)
  | _, [] => []
  | i, none :: t => mloc E (i + 1) t
  | i, some v :: t => (i, mtr E v) :: mloc E (i + 1) t
theorem mloc_mem {E : mE} {q : Nat × Value} : ∀ {i : Nat} {l : mL}, q ∈ mloc E i l ↔ ∃ (j : Nat) (v : Value), l[j]? = some (some v) ∧ q = (i + j, mtr E v)
  | i, [] => by simp [mloc]
  | i, none :: t => by
    rw [mloc, mloc_mem]
    constructor
    · rintro ⟨j, v, h1, h2⟩
      exact ⟨j + 1, v, by simpa using h1, by rw [h2]; congr 1; omega⟩
    · rintro ⟨j, v, h1, h2⟩
      cases j with
      | zero => simp at h1
      | succ j => exact ⟨j, v, by simpa using h1, by rw [h2]; congr 1; omega⟩
  | i, some w :: t => by
    rw [mloc, List.mem_cons, mloc_mem]
    constructor
    · rintro (h | ⟨j, v, h1, h2⟩)
      · exact ⟨0, w, rfl, h⟩
      · exact ⟨j + 1, v, by simpa using h1, by rw [h2]; congr 1; omega⟩
    · rintro ⟨j, v, h1, h2⟩
      cases j with
      | zero => simp at h1; subst h1; exact Or.inl h2
      | succ j => exact Or.inr ⟨j, v, by simpa using h1, by rw [h2]; congr 1; omega⟩
theorem mloc_at {E : mE} {ls : Array Slot} {nL : Nat} {loc : mL} (h : lv_has ls nL (mloc E 0 loc)) {i : Nat} {v : Value} (hi : loc[i]? = some (some v)) : ls[i]? = some (.val (mtr E v)) :=
  h.2.2 (i, mtr E v) (mloc_mem.mpr ⟨i, v, hi, by rw [Nat.zero_add]⟩)
theorem lv_has.mono {ls : Array Slot} {nL : Nat} {l l' : List (Nat × Value)} (h : lv_has ls nL l) (hs : ∀ q ∈ l', q ∈ l) : lv_has ls nL l' := ⟨h.1, h.2.1, fun q hq => h.2.2 q (hs q hq)⟩
/-- no long lies right below that place -/
def mok1 (loc : mL) (i : Nat) : Bool := match i with
  | 0 => true
  | j + 1 => match loc[j]? with
    | some (some v) => v.category == 1
    | _ => true
theorem mtr_cat (E : mE) (v : Value) : (mtr E v).category = v.category := by cases v <;> rfl
theorem mloc_set1 {E : mE} {loc : mL} {i : Nat} {v : Value} (hok : mok1 loc i = true) : ∀ q ∈ mloc E 0 (loc.set i (some v)), q ∈ (i, mtr E v) :: (mloc E 0 loc).filter (fun q => !(q.1 == i) && !(q.1 + 1 == i && q.2.category == 2)) := by
  intro q hq
  obtain ⟨j, w, h1, h2⟩ := mloc_mem.mp hq
  rw [Nat.zero_add] at h2
  by_cases hji : j = i
  · subst hji
    have hl : j < loc.length := by
      have := (List.getElem?_eq_some_iff.mp h1).1
      rwa [List.length_set] at this
    rw [List.getElem?_set_self hl] at h1
    cases h1
    rw [h2]
    exact List.mem_cons_self
  · rw [List.getElem?_set_ne (Ne.symm hji)] at h1
    refine List.mem_cons_of_mem _ (List.mem_filter.mpr ⟨mloc_mem.mpr ⟨j, w, h1, by rw [h2, Nat.zero_add]⟩, ?_⟩)
    rw [h2]
    simp only [mtr_cat, Bool.and_eq_true, Bool.not_eq_true', beq_eq_false_iff_ne, ne_eq, hji, not_false_eq_true, true_and]
    cases i with
    | zero => simp
    | succ i =>
      by_cases hjj : j = i
      · subst hjj
        simp only [mok1, h1] at hok
        have := beq_iff_eq.mp hok
        simp [this]
      · simp [hjj]
theorem mloc_set2 {E : mE} {loc : mL} {i : Nat} {v : Value} (hok : mok1 loc i = true) : ∀ q ∈ mloc E 0 ((loc.set i (some v)).set (i + 1) none), q ∈ (i, mtr E v) :: (mloc E 0 loc).filter (fun q => !(q.1 == i) && (!(q.1 == i + 1) && !(q.1 + 1 == i && q.2.category == 2))) := by
  intro q hq
  obtain ⟨j, w, h1, h2⟩ := mloc_mem.mp hq
  rw [Nat.zero_add] at h2
  have hj1 : j ≠ i + 1 := by
    rintro rfl
    by_cases hl : i + 1 < (loc.set i (some v)).length
    · rw [List.getElem?_set_self hl] at h1; cases h1
    · rw [List.getElem?_eq_none (by rw [List.length_set]; omega)] at h1; cases h1
  rw [List.getElem?_set_ne (Ne.symm hj1)] at h1
  by_cases hji : j = i
  · subst hji
    have hl : j < loc.length := by
      have := (List.getElem?_eq_some_iff.mp h1).1
      rwa [List.length_set] at this
    rw [List.getElem?_set_self hl] at h1
    cases h1
    rw [h2]
    exact List.mem_cons_self
  · rw [List.getElem?_set_ne (Ne.symm hji)] at h1
    refine List.mem_cons_of_mem _ (List.mem_filter.mpr ⟨mloc_mem.mpr ⟨j, w, h1, by rw [h2, Nat.zero_add]⟩, ?_⟩)
    rw [h2]
    simp only [mtr_cat, Bool.and_eq_true, Bool.not_eq_true', beq_eq_false_iff_ne, ne_eq, hji, hj1, not_false_eq_true, true_and]
    cases i with
    | zero => simp
    | succ i =>
      by_cases hjj : j = i
      · subst hjj
        simp only [mok1, h1] at hok
        have := beq_iff_eq.mp hok
        simp [this]
      · simp [hjj]
theorem mloc_drop {E : mE} {loc : mL} {i : Nat} : ∀ q ∈ mloc E 0 (loc.set i none), q ∈ mloc E 0 loc := by
  intro q hq
  obtain ⟨j, w, h1, h2⟩ := mloc_mem.mp hq
  refine mloc_mem.mpr ⟨j, w, ?_, h2⟩
  by_cases hji : j = i
  · subst hji
    by_cases hl : j < loc.length
    · rw [List.getElem?_set_self hl] at h1; cases h1
    · rw [List.getElem?_eq_none (by rw [List.length_set]; omega)] at h1; cases h1
  · rwa [List.getElem?_set_ne (Ne.symm hji)] at h1
/-! the judgements: from a place of a method's code, and of a method called -/
def mretI (ret : Option FieldType) (r : Option Value) (i : Instr) (st : List Value) : Prop := match r with
  | none => i = .return_ ∧ st = [] ∧ ret = none
  | some (.int v) => i = .ireturn ∧ st = [.int v] ∧ ∃ ty, ret = some ty ∧ narrow ty (.int v) = .int v
  | some (.long v) => i = .lreturn ∧ st = [.long v] ∧ ret = some .long
  | _ => False
def mCtx (me : mMe) (D : va_G) (d mc ms : Nat) (p : Program) (R : Room) (s : State) (m : MethodId) (args : Array Value) (meth : Method) (c : Code) : Prop :=
  p.tables.exec = Jvm.exec ∧ c.code = me.2.1 ∧ c.maxLocals = me.2.2.1 ∧ s.vm.findClass me.1.cls = some m.cls ∧ (∀ w ∈ mT0, w.before args s = true) ∧ mK D s ∧ (me.1.name = "<init>" → meth.name = "<init>") ∧ d ≤ R.frames ∧ 40 * d ≤ R.locals ∧ mc ≤ R.cells ∧ ms ≤ R.slots
def mRet (me : mMe) (E : mE) (D : va_G) (mc ms : Nat) (r : Option Value) (Mf : mM) (p : Program) (l : Launch) (e : Env) (R : Room) (s : State) (m : MethodId) (args : Array Value) (below : List Frame) (meth : Method) (c : Code) (Z : State → Prop) : Prop :=
  ∀ (H : Heap) (locs : List Loc) (k n : Nat) (ls : Array Slot) (pc : Nat) (st : List Value) (i : Instr), mHold E D s Mf H → (∀ q ∈ locs, E.2 ≤ q.base) → k ≤ mc → n ≤ ms → mretI me.2.2.2 r i st → decode me.2.1 pc = .ok (i, 1) → W p l e R s m args below meth c H locs k n Z (F0 m pc ls st)
def Ev (me : mMe) (E : mE) (d mc ms : Nat) (r : Option Value) (Mf : mM) (pc : Nat) (loc : mL) (stk : List Value) (M : mM) (k n : Nat) : Prop :=
  ∀ (D : va_G) (p : Program) (l : Launch) (e : Env) (R : Room) (s : State) (m : MethodId) (args : Array Value) (below : List Frame) (meth : Method) (c : Code) (Z : State → Prop),
    mCtx me D d mc ms p R s m args meth c → mRet me E D mc ms r Mf p l e R s m args below meth c Z →
    ∀ (H : Heap) (locs : List Loc) (ls : Array Slot), mHold E D s M H → (∀ q ∈ locs, E.2 ≤ q.base) → k ≤ mc → n ≤ ms → lv_has ls me.2.2.1 (mloc E 0 loc) → W p l e R s m args below meth c H locs k n Z (F0 m pc ls (stk.map (mtr E)))
def mQc (E : mE) (D : va_G) (r : Option Value) (Mf : mM) : Array Value → State → Outcome → State → Prop := fun _ _ o t => o = .returned (r.map (mtr E)) ∧ mHold E D t Mf t.heap
def mPc (E : mE) (D : va_G) (vs : List Value) (M : mM) : Array Value → State → Prop := va_Pc (vs.map (mtr E)) (fun U => mHold E D U M U.heap ∧ mK D U)
def EvC (me : mMe) (E : mE) (d mc ms : Nat) (vs : List Value) (M : mM) (r : Option Value) (Mf : mM) : Prop :=
  ∀ (D : va_G) (l : Launch), Met l me.1 (mws me) (mrm d mc ms) (mPc E D vs M) (mQc E D r Mf) mc ms (fun q => E.2 ≤ q)
theorem EvC.of {me : mMe} {E : mE} {d mc ms : Nat} {vs : List Value} {M Mf : mM} {r : Option Value} (loc : mL) (hy : plainName me.1.cls = true) (hent : mloc E 0 loc = lv_args 0 (vs.map (mtr E))) (hsz : (lg_sl (vs.map (mtr E))).length ≤ me.2.2.1)
    (h : Ev me E d mc ms r Mf 0 loc [] M 0 0) : EvC me E d mc ms vs M r Mf := by
  intro D l
  refine Met.ofW (cc := me.2.1) (maxL := me.2.2.1) (ret := me.2.2.2) hy rfl ?_
  intro p e s m args below meth c s₁ B hml hv
  obtain ⟨rfl, hH, hK⟩ := hv
  have hts := atoms_spec (ws := mws me) B.pre
  have hl := lv_entry (vs.map (mtr E)) (n := me.2.2.1) hsz
  rw [lg_entry_eq]
  generalize (lg_sl (vs.map (mtr E)) ++ List.replicate (me.2.2.1 - (lg_sl (vs.map (mtr E))).length) Slot.unset).toArray = ls at hl ⊢
  have hr := B.returns
  have hlocks := B.notSynchronized
  refine h D p l e _ s m _ below meth c _ ⟨B.exec, B.bytes, hml, findClass_of_methodNamed B.named, fun w hw => hts w (List.mem_cons_of_mem _ hw), hK, (fun hi => (name_of_methodNamed B.named B.method).1.trans hi), Nat.le_refl d, Nat.le_refl _, Nat.le_refl mc, Nat.le_refl ms⟩ ?_ s.heap [] ls hH (fun _ h => by cases h) (Nat.zero_le _) (Nat.zero_le _) (by rw [hent]; exact hl)
  intro H locs k n ls pc st i hH' hL hk hn hret hd
  refine W.widen hk hn ?_
  cases r with
  | none =>
    obtain ⟨rfl, rfl, hr2⟩ := hret
    exact W.vret B.exec B.bytes (hr.trans hr2) (fun t ht hW => ⟨rfl, by rw [ht]; exact hH'.moved hW.alike⟩) hL hd
  | some v =>
    cases v with
    | int v =>
      obtain ⟨rfl, rfl, ty, hr2, hn⟩ := hret
      exact W.zret B.exec B.bytes (hr.trans hr2) hn (fun t ht hW => ⟨rfl, by rw [ht]; exact hH'.moved hW.alike⟩) hL hd
    | long v =>
      obtain ⟨rfl, rfl, hr2⟩ := hret
      exact W.lret B.exec B.bytes (hr.trans hr2) (fun t ht hW => ⟨rfl, by rw [ht]; exact hH'.moved hW.alike⟩) hL hd
    | float _ => exact absurd hret (fun h => h)
    | double _ => exact absurd hret (fun h => h)
    | null => exact absurd hret (fun h => h)
    | ref _ => exact absurd hret (fun h => h)
    | retAddr _ => exact absurd hret (fun h => h)
