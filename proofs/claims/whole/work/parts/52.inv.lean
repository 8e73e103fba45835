/-! ===== what holds between two calls of the law ===== -/
def gV1 (c : Nat) (U : tV) : Prop := gW U.2 ∧ ∃ y, y ≤ c ∧ U.1 = nI y
def GI (c : Nat) (tx : List Int32) (V : tV) (A : List tV) (K : Nat → Option tV) (L : List (Int32 × Int32)) : Prop := gT tx ∧ gV1 c V ∧ (∀ i, gV1 c (A.getD i e0)) ∧ (∀ s U, K s = some U → gV1 c U) ∧ gLa L
def IN (w : mW) (D : mD) (c : Nat) : Prop := ∃ tx V A K bd L, CI D tx V A K bd L ∧ RI D tx V A K bd L ∧ GI c tx V A K L ∧ w.2 1 = w.2 272
theorem gV1.up {c : Nat} {U : tV} (h : gV1 c U) : gV1 (c + 1) U := by
  obtain ⟨h1, y, h2, h3⟩ := h
  exact ⟨h1, y, by omega, h3⟩
theorem gV1_e0 {c : Nat} : gV1 c e0 := ⟨gW_nil, 0, Nat.zero_le c, rfl⟩
theorem GI.up {c : Nat} {tx : List Int32} {V : tV} {A : List tV} {K : Nat → Option tV} {L : List (Int32 × Int32)} (h : GI c tx V A K L) : GI (c + 1) tx V A K L := ⟨h.1, h.2.1.up, fun i => (h.2.2.1 i).up, fun s U hU => (h.2.2.2.1 s U hU).up, h.2.2.2.2⟩
section IV
variable {D D' : mD} {c : Nat} {tx : List Int32} {V : tV} {A : List tV} {K : Nat → Option tV} {bd : List Int32} {L : List (Int32 × Int32)}
theorem RI.cls (h : RI D tx V A K bd L) (f : ∀ a, 272 ≤ a → D' a = D a) : RI D' tx V A K bd L := by
  obtain ⟨c1, c2, c3, c4, c5, c6⟩ := h
  exact ⟨c1.kept (by rw [f 272 (by omega)]) (f 278 (by omega)), c2.kept (by rw [f 272 (by omega)]) (f 273 (by omega)) (fun k _ => by rw [f 274 (by omega)]), c3.kept (by rw [f 272 (by omega)]) (by rw [f 272 (by omega)]) (f 273 (by omega)) (f 280 (by omega)), c4.kept (f 284 (by omega)) (f 273 (by omega)) (f 285 (by omega)), c5.kept (by rw [f 272 (by omega)]) (f 279 (by omega)), c6.kept (by rw [f 272 (by omega)]) (f 282 (by omega)) (f 283 (by omega))⟩
theorem CI.ref (h : CI D tx V A K bd L) (f : ∀ a, a < 272 → D' a = D a) : CI D' tx V A K bd L := h.scr (fun a ha => f a (by omega))
theorem tN_push {x : Int32} {j : Nat} (h : j < tx.length + 1) : tN (tx ++ [x]) j = if j < tx.length then tN tx j else x.toNatClampNeg := by
  unfold tN
  rw [getD_pushI h]
  split <;> rfl
theorem gT.wr {x : Int32} (h : gT tx) : gT (wrA tx x).2 := by
  unfold wrA
  split
  · exact h
  · rename_i h1
    split
    · exact h
    · intro j hj
      have hj2 : j < tx.length + 1 := by simpa using hj
      rw [tN_push hj2, getD_pushI hj2]
      have hx0 : ¬ x < 0 := fun q => h1 (Or.inl q)
      have hx1 : x ≤ 255 := Int32.not_lt.mp (fun q => h1 (Or.inr (Int32.not_le.mpr q)))
      obtain ⟨e1, e2⟩ := clamp_nI hx0
      by_cases hjl : j < tx.length
      · rw [if_pos hjl, if_pos hjl]
        exact h j hjl
      · rw [if_neg hjl, if_neg hjl]
        refine ⟨e1, ?_⟩
        rw [e1, show (255 : Int32) = nI 255 from by decide, nI_leI e2 (by omega)] at hx1
        omega
theorem gT_nil : gT [] := fun j hj => by simp at hj
theorem pl_push {t : Int32 × Int32} {j : Nat} (h : j < L.length + 1) : pl (L ++ [t]) j = if j < L.length then pl L j else t.1.toNatClampNeg := by
  unfold pl
  rw [getD_pushL h]
  split <;> rfl
theorem gLa_nil : gLa [] := fun j hj => by simp at hj
theorem gLa.lay {p y : Int32} (h : gLa L) : gLa (laA L p y).2 := by
  unfold laA
  split
  · exact h
  · rename_i h1
    split
    · exact h
    · intro j hj
      have hj2 : j < L.length + 1 := by simpa using hj
      rw [pl_push hj2, getD_pushL hj2]
      have hp0 : ¬ p < 0 := fun q => h1 (Or.inl q)
      have hp1 : p < 12 := Int32.not_le.mp (fun q => h1 (Or.inr (Or.inl (Int32.not_lt.mpr q))))
      have hy : y = 0 ∨ y = 1 := Classical.byContradiction (fun q => h1 (Or.inr (Or.inr q)))
      obtain ⟨e1, e2⟩ := clamp_nI hp0
      by_cases hjl : j < L.length
      · rw [if_pos hjl, if_pos hjl]
        exact h j hjl
      · rw [if_neg hjl, if_neg hjl]
        refine ⟨e1, ?_, hy⟩
        rw [e1, ← nI_12, nI_ltI e2 (by omega)] at hp1
        exact hp1
theorem getD_out {A : List tV} {i : Nat} (h : A.length ≤ i) : A.getD i e0 = e0 := by
  rw [List.getD_eq_getElem?_getD, List.getElem?_eq_none h]
  rfl
theorem GI.op {x : Int32} {U : tV} (h : GI c tx V A K L) (hU : gV1 (c + 1) U) : GI (c + 1) tx (opV V A x U).1 (opV V A x U).2 K L := by
  by_cases hx : x < 0
  · rw [op_f hx]
    exact h.up
  · rw [op_t hx]
    refine ⟨h.1, hU, fun i => ?_, fun s U hU => (h.2.2.2.1 s U hU).up, h.2.2.2.2⟩
    unfold pushA
    dsimp only
    split
    · rw [getD_pushV]
      split
      · rw [getD_tailV]; exact (h.2.2.1 _).up
      · split
        · exact h.2.1.up
        · exact gV1_e0
    · rw [getD_pushV]
      split
      · exact (h.2.2.1 _).up
      · split
        · exact h.2.1.up
        · exact gV1_e0
theorem gV1.ny {ss : List tS} (h : gV1 c V) (hs : gW ss) : gV1 (c + 1) (V.1, ss) := by
  obtain ⟨h1, y, h2, h3⟩ := h
  exact ⟨hs, y, by omega, h3⟩
theorem gV1.wi (h : gV1 c V) : gV1 (c + 1) (V.1 + 1, win V.2) := by
  obtain ⟨h1, y, h2, h3⟩ := h
  exact ⟨h1.oWin, y + 1, by omega, by dsimp only; rw [h3, nI_1]⟩
theorem GI.un (h : GI c tx V A K L) : GI (c + 1) tx (if A.length = 0 then V else A.getD (A.length - 1) e0) A.dropLast K L := by
  refine ⟨h.1, ?_, fun i => ?_, fun s U hU => (h.2.2.2.1 s U hU).up, h.2.2.2.2⟩
  · split
    · exact h.2.1.up
    · exact (h.2.2.1 _).up
  · by_cases hi : i < A.length - 1
    · rw [getD_dropLastV hi]; exact (h.2.2.1 i).up
    · rw [getD_out (by rw [List.length_dropLast]; omega)]; exact gV1_e0
theorem GI.kp {x : Int32} (h : GI c tx V A K L) : GI (c + 1) tx V A (if x = 0 then setK K 0 V else if x = 1 then setK K 1 V else K) L := by
  refine ⟨h.1, h.2.1.up, fun i => (h.2.2.1 i).up, fun s U hU => ?_, h.2.2.2.2⟩
  have key : ∀ q, setK K q V s = some U → gV1 (c + 1) U := by
    intro q hq
    unfold setK at hq
    split at hq
    · cases hq; exact h.2.1.up
    · exact (h.2.2.2.1 s U hq).up
  split at hU
  · exact key 0 hU
  · split at hU
    · exact key 1 hU
    · exact (h.2.2.2.1 s U hU).up
theorem slotK_of {x : Int32} {U : tV} (h : slotK K x = some U) : ∃ s, K s = some U := by
  unfold slotK at h
  split at h
  · exact ⟨0, h⟩
  · split at h
    · exact ⟨1, h⟩
    · cases h
theorem GI.yr (h : GI c tx V A K L) (hc : c ≤ 2048) : ∀ s U, K s = some U → ¬ U.1 < 0 := fun s U hU => by
  obtain ⟨_, y, hy, e⟩ := h.2.2.2.1 s U hU
  rw [e]
  exact nI_pos (by omega)
theorem lc_self {a : Int64} : lg_cmp a a = 0 := lcmp0.mpr rfl
end IV
