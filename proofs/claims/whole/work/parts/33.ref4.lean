/-! ===== the reference's whole state, and its simple calls ===== -/
def RTx (D : mD) (tx : List Int32) : Prop := D 272 8 = nI tx.length ∧ tx.length ≤ 48 ∧ ∀ j, j < tx.length → D 278 j = tx.getD j 0
def RVl (D : mD) (V : tV) : Prop := D 272 0 = nI V.2.length ∧ NwD (D 274) (D 273) (57 * 0) V
def RAc (D : mD) (n : Nat) (A : List tV) : Prop := D 272 13 = nI A.length ∧ A.length ≤ 14 ∧ ∃ nx, nx < 14 ∧ D 272 14 = nI nx ∧ ∀ i, i < A.length → (A.getD i e0).2.length = n ∧ NwD (D 280) (D 273) (57 * ((nx + 14 - A.length + i) % 14)) (A.getD i e0)
def RSl (D : mD) (n : Nat) (K : Nat → Option tV) : Prop := ∀ s, s < 2 → D 284 s = b2i (K s).isSome ∧ ∀ U, K s = some U → U.2.length = n ∧ NwD (D 285) (D 273) (57 * s) U
def RBd (D : mD) (bd : List Int32) : Prop := D 272 11 = nI bd.length ∧ bd.length ≤ 12 ∧ ∀ j, j < bd.length → D 279 j = bd.getD j 0
def RLa (D : mD) (L : List (Int32 × Int32)) : Prop := D 272 18 = nI L.length ∧ L.length ≤ 6 ∧ ∀ j, j < L.length → D 282 j = (L.getD j (0, 0)).1 ∧ D 283 j = (L.getD j (0, 0)).2
def RI (D : mD) (tx : List Int32) (V : tV) (A : List tV) (K : Nat → Option tV) (bd : List Int32) (L : List (Int32 × Int32)) : Prop := RTx D tx ∧ RVl D V ∧ RAc D V.2.length A ∧ RSl D V.2.length K ∧ RBd D bd ∧ RLa D L
theorem RTx.kept {D D' : mD} {tx : List Int32} (h : RTx D tx) (h1 : D' 272 8 = D 272 8) (h2 : D' 278 = D 278) : RTx D' tx := ⟨by rw [h1]; exact h.1, h.2.1, fun j hj => by rw [h2]; exact h.2.2 j hj⟩
theorem RVl.kept {D D' : mD} {V : tV} (h : RVl D V) (h1 : D' 272 0 = D 272 0) (h2 : D' 273 = D 273) (h3 : ∀ k, k < 57 → D' 274 k = D 274 k) : RVl D' V := ⟨by rw [h1]; exact h.1, h.2.kept (fun k hk => h3 _ (by omega)) (fun i _ => by rw [h2])⟩
theorem RAc.kept {D D' : mD} {n : Nat} {A : List tV} (h : RAc D n A) (h1 : D' 272 13 = D 272 13) (h2 : D' 272 14 = D 272 14) (h3 : D' 273 = D 273) (h4 : D' 280 = D 280) : RAc D' n A := by
  obtain ⟨q1, q2, nx, q3, q4, q5⟩ := h
  exact ⟨by rw [h1]; exact q1, q2, nx, q3, by rw [h2]; exact q4, fun i hi => by rw [h3, h4]; exact q5 i hi⟩
theorem RSl.kept {D D' : mD} {n : Nat} {K : Nat → Option tV} (h : RSl D n K) (h1 : D' 284 = D 284) (h2 : D' 273 = D 273) (h3 : D' 285 = D 285) : RSl D' n K := fun s hs => by rw [h1, h2, h3]; exact h s hs
theorem RBd.kept {D D' : mD} {bd : List Int32} (h : RBd D bd) (h1 : D' 272 11 = D 272 11) (h2 : D' 279 = D 279) : RBd D' bd := ⟨by rw [h1]; exact h.1, h.2.1, fun j hj => by rw [h2]; exact h.2.2 j hj⟩
theorem RLa.kept {D D' : mD} {L : List (Int32 × Int32)} (h : RLa D L) (h1 : D' 272 18 = D 272 18) (h2 : D' 282 = D 282) (h3 : D' 283 = D 283) : RLa D' L := ⟨by rw [h1]; exact h.1, h.2.1, fun j hj => by rw [h2, h3]; exact h.2.2 j hj⟩
/-- what may change and leave the state as it is -/
def RFr (D D' : mD) : Prop := (∀ a, a < 272 → D' a = D a) ∧ (∀ k, k ≠ 6 → k ≠ 9 → k ≠ 10 → k ≠ 17 → D' 272 k = D 272 k) ∧ D' 273 = D 273 ∧ (∀ k, k < 57 → D' 274 k = D 274 k) ∧ D' 278 = D 278 ∧ D' 279 = D 279 ∧ D' 280 = D 280 ∧ D' 282 = D 282 ∧ D' 283 = D 283 ∧ D' 284 = D 284 ∧ D' 285 = D 285
theorem RFr.rf {D : mD} : RFr D D := ⟨fun _ _ => rfl, fun _ _ _ _ _ => rfl, rfl, fun _ _ => rfl, rfl, rfl, rfl, rfl, rfl, rfl, rfl⟩
theorem RFr.tr {D D1 D2 : mD} (h1 : RFr D D1) (h2 : RFr D1 D2) : RFr D D2 := by
  obtain ⟨a1, a2, a3, a4, a5, a6, a7, a8, a9, a10, a11⟩ := h1
  obtain ⟨b1, b2, b3, b4, b5, b6, b7, b8, b9, b10, b11⟩ := h2
  exact ⟨fun a ha => (b1 a ha).trans (a1 a ha), fun k k1 k2 k3 k4 => (b2 k k1 k2 k3 k4).trans (a2 k k1 k2 k3 k4), b3.trans a3, fun k hk => (b4 k hk).trans (a4 k hk), b5.trans a5, b6.trans a6, b7.trans a7, b8.trans a8, b9.trans a9, b10.trans a10, b11.trans a11⟩
theorem RI.scr {D D' : mD} {tx : List Int32} {V : tV} {A : List tV} {K : Nat → Option tV} {bd : List Int32} {L : List (Int32 × Int32)} (h : RI D tx V A K bd L) (f : RFr D D') : RI D' tx V A K bd L := by
  obtain ⟨c1, c2, c3, c4, c5, c6⟩ := h
  obtain ⟨a1, a2, a3, a4, a5, a6, a7, a8, a9, a10, a11⟩ := f
  exact ⟨c1.kept (a2 8 (by omega) (by omega) (by omega) (by omega)) a5, c2.kept (a2 0 (by omega) (by omega) (by omega) (by omega)) a3 a4, c3.kept (a2 13 (by omega) (by omega) (by omega) (by omega)) (a2 14 (by omega) (by omega) (by omega) (by omega)) a3 a7, c4.kept a10 a3 a11, c5.kept (a2 11 (by omega) (by omega) (by omega) (by omega)) a6, c6.kept (a2 18 (by omega) (by omega) (by omega) (by omega)) a8 a9⟩
theorem RFr.lv1 {D D' : mD} (h : LvF 1 D D') : RFr D D' := ⟨fun a ha => h.1 a (by omega), fun k _ _ _ _ => by rw [h.1 272 (by omega)], h.1 273 (by omega), fun k hk => h.2 k (by omega), h.1 278 (by omega), h.1 279 (by omega), h.1 280 (by omega), h.1 282 (by omega), h.1 283 (by omega), h.1 284 (by omega), h.1 285 (by omega)⟩
section R4
variable {w : mW} {D : mD} {tx : List Int32} {V : tV} {A : List tV} {K : Nat → Option tV} {bd : List Int32} {L : List (Int32 × Int32)}
theorem d64 {x : Int32} {lo hi : Int32} {lo' hi' : Int64} (h1 : lo' = Int32.toInt64 lo) (h2 : hi' = Int32.toInt64 hi) {M : mM} : fX8_in M (Int32.toInt64 x) lo' hi' = some (b2i (decide (¬ x < lo ∧ ¬ hi < x))) := by
  rw [h1, h2, r_in]
theorem r_write {x : Int32} (h : RI D tx V A K bd L) : ∃ D', fX8_write (Y w D) 272 x = some ((wrA tx x).1, Y w D') ∧ RI D' (wrA tx x).2 V A K bd L ∧ ∀ a, a < 272 → D' a = D a := by
  obtain ⟨c1, c2, c3, c4, c5, c6⟩ := id h
  obtain ⟨t1, t2, t3⟩ := id c1
  unfold fX8_write
  rw [if_pos eO_272, d64 (lo := 0) (hi := 255) (by decide) (by decide), Option.bind_some]
  by_cases hx : x < 0 ∨ ¬ x ≤ 255
  · have e : wrA tx x = (-2, tx) := by unfold wrA; rw [if_pos hx]
    rw [if_pos, e]
    · exact ⟨D, rfl, h, fun a _ => rfl⟩
    · rw [b2i_0, decide_eq_false_iff_not]
      rintro ⟨q1, q2⟩
      rcases hx with q | q
      · exact q1 q
      · exact q2 (Int32.not_le.mp q)
  · rw [if_neg, eF_272_8, Option.bind_some, t1]
    · by_cases hl : tx.length = 48
      · have e : wrA tx x = (-4, tx) := by unfold wrA; rw [if_neg hx, if_pos hl]
        rw [if_pos (by rw [hl, nI_48]), e]
        exact ⟨D, rfl, h, fun a _ => rfl⟩
      · have e : wrA tx x = (nI (tx.length + 1), tx ++ [x]) := by unfold wrA; rw [if_neg hx, if_neg hl]
        rw [if_neg (fun q => hl ((nI_eq (by omega) (by omega)).mp (q.trans nI_48.symm))), eF_272_7, Option.bind_some, Option.bind_some, Y_aS kA_278 (by omega), Option.bind_some, eF_272_8, Option.bind_some, ud_r (by omega), t1, nI_1, eS_272_8, Option.bind_some, eF_272_8, Option.bind_some, ud_s, e]
        have f2 : ∀ k, k ≠ 8 → ud (ud D 278 tx.length x) 272 8 (nI (tx.length + 1)) 272 k = D 272 k := fun k hk => by rw [ud_n (by omega), ud_r (by omega)]
        have f3 : ∀ a, a ≠ 272 → a ≠ 278 → ud (ud D 278 tx.length x) 272 8 (nI (tx.length + 1)) a = D a := fun a h1 h2 => by rw [ud_r h1, ud_r h2]
        refine ⟨_, rfl, ⟨⟨by rw [ud_s]; simp, by simp; omega, fun j hj => ?_⟩, c2.kept (f2 0 (by omega)) (f3 _ (by omega) (by omega)) (fun k _ => by rw [f3 274 (by omega) (by omega)]), c3.kept (f2 13 (by omega)) (f2 14 (by omega)) (f3 _ (by omega) (by omega)) (f3 _ (by omega) (by omega)), c4.kept (f3 _ (by omega) (by omega)) (f3 _ (by omega) (by omega)) (f3 _ (by omega) (by omega)), c5.kept (f2 11 (by omega)) (f3 _ (by omega) (by omega)), c6.kept (f2 18 (by omega)) (f3 _ (by omega) (by omega)) (f3 _ (by omega) (by omega))⟩, fun a ha => f3 a (by omega) (by omega)⟩
        have hj2 : j < tx.length + 1 := by simpa using hj
        rw [ud_r (by omega), getD_pushI hj2]
        by_cases hj3 : j < tx.length
        · rw [if_pos hj3, ud_n (by omega), t3 j hj3]
        · have : j = tx.length := by omega
          subst this
          rw [if_neg hj3, ud_s]
    · rw [b2i_0, decide_eq_false_iff_not]
      intro q
      exact q ⟨fun q1 => hx (Or.inl q1), fun q2 => hx (Or.inr (Int32.not_le.mpr q2))⟩
theorem r_wipe (h : RI D tx V A K bd L) : ∃ D', fX8_wipe (Y w D) 272 = some (nI tx.length, Y w D') ∧ RI D' [] V A K bd L ∧ ∀ a, a < 272 → D' a = D a := by
  obtain ⟨c1, c2, c3, c4, c5, c6⟩ := id h
  unfold fX8_wipe
  rw [if_pos eO_272, eF_272_8, Option.bind_some, c1.1, eS_272_8, Option.bind_some]
  exact ⟨_, rfl, ⟨⟨by rw [ud_s]; rfl, by simp, fun j hj => by simp at hj⟩, c2.kept (ud_n (by omega)) (ud_r (by omega)) (fun k _ => by rw [ud_r (by omega)]), c3.kept (ud_n (by omega)) (ud_n (by omega)) (ud_r (by omega)) (ud_r (by omega)), c4.kept (ud_r (by omega)) (ud_r (by omega)) (ud_r (by omega)), c5.kept (ud_n (by omega)) (ud_r (by omega)), c6.kept (ud_n (by omega)) (ud_r (by omega)) (ud_r (by omega))⟩, fun a ha => ud_r (by omega)⟩
theorem r_unlay (h : RI D tx V A K bd L) : ∃ D', fX8_unlay (Y w D) 272 = some (nI L.length, Y w D') ∧ RI D' tx V A K bd [] ∧ ∀ a, a < 272 → D' a = D a := by
  obtain ⟨c1, c2, c3, c4, c5, c6⟩ := id h
  unfold fX8_unlay
  rw [if_pos eO_272, eF_272_18, Option.bind_some, c6.1, eS_272_18, Option.bind_some]
  exact ⟨_, rfl, ⟨c1.kept (ud_n (by omega)) (ud_r (by omega)), c2.kept (ud_n (by omega)) (ud_r (by omega)) (fun k _ => by rw [ud_r (by omega)]), c3.kept (ud_n (by omega)) (ud_n (by omega)) (ud_r (by omega)) (ud_r (by omega)), c4.kept (ud_r (by omega)) (ud_r (by omega)) (ud_r (by omega)), c5.kept (ud_n (by omega)) (ud_r (by omega)), ⟨by rw [ud_s]; rfl, by simp, fun j hj => by simp at hj⟩⟩, fun a ha => ud_r (by omega)⟩
theorem r_lay {p y : Int32} (h : RI D tx V A K bd L) : ∃ D', fX8_lay (Y w D) 272 p y = some ((laA L p y).1, Y w D') ∧ RI D' tx V A K bd (laA L p y).2 ∧ ∀ a, a < 272 → D' a = D a := by
  obtain ⟨c1, c2, c3, c4, c5, c6⟩ := id h
  obtain ⟨l1, l2, l3⟩ := id c6
  unfold fX8_lay
  rw [if_pos eO_272, d64 (lo := 0) (hi := 11) (by decide) (by decide), Option.bind_some, d64 (lo := 0) (hi := 1) (by decide) (by decide), Option.bind_some]
  have h12 : (11 : Int32) < p ↔ ¬ p < 12 := by
    rw [Int32.not_lt, Int32.lt_iff_toInt_lt, Int32.le_iff_toInt_le, show (11 : Int32).toInt = 11 from rfl, show (12 : Int32).toInt = 12 from rfl]
    omega
  by_cases hp : p < 0 ∨ ¬ p < 12
  · have e : laA L p y = (-2, L) := by
      unfold laA
      rw [if_pos]
      rcases hp with q | q
      · exact Or.inl q
      · exact Or.inr (Or.inl q)
    rw [if_pos, e]
    · exact ⟨D, rfl, h, fun a _ => rfl⟩
    · rw [b2i_0, decide_eq_false_iff_not, h12]
      rintro ⟨q1, q2⟩
      rcases hp with q | q
      · exact q1 q
      · exact q2 q
  · rw [if_neg]
    · by_cases hy : y = 0 ∨ y = 1
      · have hno : ¬ (p < 0 ∨ ¬ p < 12 ∨ ¬ (y = 0 ∨ y = 1)) := by
          rintro (q | q | q)
          · exact hp (Or.inl q)
          · exact hp (Or.inr q)
          · exact q hy
        rw [if_neg, eF_272_18, Option.bind_some, l1]
        · by_cases hl : L.length = 6
          · have e : laA L p y = (-4, L) := by unfold laA; rw [if_neg hno, if_pos hl]
            rw [if_pos (by rw [hl, nI_6]), e]
            exact ⟨D, rfl, h, fun a _ => rfl⟩
          · have e : laA L p y = (nI (L.length + 1), L ++ [(p, y)]) := by unfold laA; rw [if_neg hno, if_neg hl]
            rw [if_neg (fun q => hl ((nI_eq (by omega) (by omega)).mp (q.trans nI_6.symm))), eF_272_19, Option.bind_some, Option.bind_some, Y_aS kA_282 (by omega), Option.bind_some, eF_272_20, Option.bind_some, eF_272_18, Option.bind_some, ud_r (by omega), l1, Y_aS kA_283 (by omega), Option.bind_some, eF_272_18, Option.bind_some, ud_r (by omega), ud_r (by omega), l1, nI_1, eS_272_18, Option.bind_some, eF_272_18, Option.bind_some, ud_s, e]
            have f2 : ∀ k, k ≠ 18 → ud (ud (ud D 282 L.length p) 283 L.length y) 272 18 (nI (L.length + 1)) 272 k = D 272 k := fun k hk => by rw [ud_n (by omega), ud_r (by omega), ud_r (by omega)]
            have f3 : ∀ a, a ≠ 272 → a ≠ 282 → a ≠ 283 → ud (ud (ud D 282 L.length p) 283 L.length y) 272 18 (nI (L.length + 1)) a = D a := fun a h1 h2 h3 => by rw [ud_r h1, ud_r h3, ud_r h2]
            refine ⟨_, rfl, ⟨c1.kept (f2 8 (by omega)) (f3 _ (by omega) (by omega) (by omega)), c2.kept (f2 0 (by omega)) (f3 _ (by omega) (by omega) (by omega)) (fun k _ => by rw [f3 274 (by omega) (by omega) (by omega)]), c3.kept (f2 13 (by omega)) (f2 14 (by omega)) (f3 _ (by omega) (by omega) (by omega)) (f3 _ (by omega) (by omega) (by omega)), c4.kept (f3 _ (by omega) (by omega) (by omega)) (f3 _ (by omega) (by omega) (by omega)) (f3 _ (by omega) (by omega) (by omega)), c5.kept (f2 11 (by omega)) (f3 _ (by omega) (by omega) (by omega)), ⟨by rw [ud_s]; simp, by simp; omega, fun j hj => ?_⟩⟩, fun a ha => f3 a (by omega) (by omega) (by omega)⟩
            have hj2 : j < L.length + 1 := by simpa using hj
            rw [getD_pushL hj2]
            by_cases hj3 : j < L.length
            · rw [if_pos hj3]
              exact ⟨by rw [ud_r (by omega), ud_r (by omega), ud_n (by omega)]; exact (l3 j hj3).1, by rw [ud_r (by omega), ud_n (by omega), ud_r (by omega)]; exact (l3 j hj3).2⟩
            · have : j = L.length := by omega
              subst this
              rw [if_neg hj3]
              exact ⟨by rw [ud_r (by omega), ud_r (by omega), ud_s], by rw [ud_r (by omega), ud_s]⟩
        · rw [b2i_0, decide_eq_false_iff_not]
          intro q
          refine q ⟨?_, ?_⟩
          · exact (in01.mpr hy).1
          · exact Int32.not_lt.mpr (in01.mpr hy).2
      · have e : laA L p y = (-2, L) := by unfold laA; rw [if_pos (Or.inr (Or.inr hy))]
        rw [if_pos, e]
        · exact ⟨D, rfl, h, fun a _ => rfl⟩
        · rw [b2i_0, decide_eq_false_iff_not]
          rintro ⟨q1, q2⟩
          exact hy (in01.mp ⟨q1, Int32.not_lt.mp q2⟩)
    · rw [b2i_0, decide_eq_false_iff_not, h12]
      intro q
      exact q ⟨fun q1 => hp (Or.inl q1), fun q2 => hp (Or.inr q2)⟩
theorem r_seed {x : Int64} : fX8_seed (Y w D) 272 x = some (w.2 272, Y (w.1, fun q => if q = 272 then x else w.2 q) D) := by
  unfold fX8_seed
  rw [if_pos eO_272, eF_272_21, Option.bind_some, Y_sL (by decide +kernel), Option.bind_some]
end R4
