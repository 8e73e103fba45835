/-! ===== the class's whole state, and its simple calls ===== -/
def TxD (D : mD) (tx : List Int32) : Prop := D 2 1 = nI tx.length ∧ tx.length ≤ 48 ∧ ∀ j, j < tx.length → D 3 j = tx.getD j 0
def LaD (D : mD) (L : List (Int32 × Int32)) : Prop := D 260 2 = nI L.length ∧ L.length ≤ 6 ∧ ∀ j, j < L.length → D 261 j = (L.getD j (0, 0)).1 ∧ D 262 j = (L.getD j (0, 0)).2
def CI (D : mD) (tx : List Int32) (V : tV) (A : List tV) (K : Nat → Option tV) (bd : List Int32) (L : List (Int32 × Int32)) : Prop := TxD D tx ∧ VlD D 4 V ∧ (∃ fi, ActD D fi A) ∧ SltD D K ∧ (RowD D 263 bd ∧ bd.length ≤ 12) ∧ LaD D L
theorem TxD.kept {D D' : mD} {tx : List Int32} (h : TxD D tx) (h2 : D' 2 = D 2) (h3 : D' 3 = D 3) : TxD D' tx := ⟨by rw [h2]; exact h.1, h.2.1, fun j hj => by rw [h3]; exact h.2.2 j hj⟩
theorem LaD.kept {D D' : mD} {L : List (Int32 × Int32)} (h : LaD D L) (h1 : ∀ a, 260 ≤ a → a < 263 → D' a = D a) : LaD D' L := ⟨by rw [h1 260 (by omega) (by omega)]; exact h.1, h.2.1, fun j hj => by rw [h1 261 (by omega) (by omega), h1 262 (by omega) (by omega)]; exact h.2.2 j hj⟩
theorem CI.scr {D D' : mD} {tx : List Int32} {V : tV} {A : List tV} {K : Nat → Option tV} {bd : List Int32} {L : List (Int32 × Int32)} (h : CI D tx V A K bd L) (h1 : ∀ a, (a < 18 ∨ (32 ≤ a ∧ a < 265)) → D' a = D a) : CI D' tx V A K bd L := by
  obtain ⟨c1, c2, ⟨fi, c3⟩, c4, c5, c6⟩ := h
  exact ⟨c1.kept (h1 2 (by omega)) (h1 3 (by omega)), c2.kept (fun a ha hb => h1 a (by omega)), ⟨fi, c3.kept (fun a ha hb => h1 a (by omega))⟩, c4.kept (fun a ha hb => h1 a (by omega)), ⟨c5.1.kept (h1 263 (by omega)) (h1 264 (by omega)), c5.2⟩, c6.kept (fun a ha hb => h1 a (by omega))⟩
section C1
variable {w : mW} {D : mD} {tx : List Int32} {V : tV} {A : List tV} {K : Nat → Option tV} {bd : List Int32} {L : List (Int32 × Int32)}
theorem nI_48 : nI 48 = 48 := by decide +kernel
theorem nI_6 : nI 6 = 6 := by decide +kernel
theorem ilt_t {α : Type} {a b : Nat} {t e : α} (h : a < b) (hb : b < 2 ^ 31) : (if nI a < nI b then t else e) = t := if_pos (nI_lt h hb)
theorem ilt_f {α : Type} {a b : Nat} {t e : α} (h : b ≤ a) (ha : a < 2 ^ 31) : (if nI a < nI b then t else e) = e := if_neg (nI_nlt h ha)
theorem getD_pushI {xs : List Int32} {x : Int32} {j : Nat} (h : j < xs.length + 1) : (xs ++ [x]).getD j 0 = if j < xs.length then xs.getD j 0 else x := by
  by_cases h2 : j < xs.length
  · rw [if_pos h2, getD_app h2]
  · have : j = xs.length := by omega
    subst this
    rw [if_neg h2, getD_app2]
def wrA (tx : List Int32) (x : Int32) : Int32 × List Int32 := if x < 0 ∨ ¬ x ≤ 255 then (-2, tx) else if tx.length = 48 then (-4, tx) else (nI (tx.length + 1), tx ++ [x])
theorem c_write {x : Int32} (h : CI D tx V A K bd L) : ∃ D', fX7_write (Y w D) 1 x = some ((wrA tx x).1, Y w D') ∧ CI D' (wrA tx x).2 V A K bd L ∧ ∀ a, 272 ≤ a → D' a = D a := by
  obtain ⟨c1, c2, c3, c4, c5, c6⟩ := id h
  unfold fX7_write
  rw [if_pos eO_1]
  by_cases hx : x < 0
  · have e : wrA tx x = (-2, tx) := by unfold wrA; rw [if_pos (Or.inl hx)]
    rw [if_pos hx, e]
    exact ⟨D, rfl, h, fun a _ => rfl⟩
  · rw [if_neg hx]
    by_cases hx2 : x ≤ 255
    · have hno : ¬ (x < 0 ∨ ¬ x ≤ 255) := by rintro (q | q); exact hx q; exact q hx2
      obtain ⟨t1, t2, t3⟩ := id c1
      rw [if_pos hx2, eF_1_0, Option.bind_some]
      unfold fX5_add
      rw [if_pos eO_2, eF_2_1, Option.bind_some, t1, ← nI_48]
      by_cases hl : tx.length = 48
      · have e : wrA tx x = (-4, tx) := by unfold wrA; rw [if_neg hno, if_pos hl]
        rw [ilt_f (by omega) (by omega), e]
        exact ⟨D, rfl, h, fun a _ => rfl⟩
      · have e : wrA tx x = (nI (tx.length + 1), tx ++ [x]) := by unfold wrA; rw [if_neg hno, if_neg hl]
        rw [ilt_t (by omega) (by omega), eF_2_0, Option.bind_some, Option.bind_some, Y_aS kA_3 (by omega), Option.bind_some, eF_2_1, Option.bind_some, ud_r (by omega), t1, nI_1, eS_2_1, Option.bind_some, eF_2_1, Option.bind_some, ud_s, Option.bind_some, e]
        refine ⟨_, rfl, ⟨⟨by rw [ud_s]; simp, by simp; omega, fun j hj => ?_⟩, c2.kept (fun a ha hb => by rw [ud_r (by omega), ud_r (by omega)]), ?_, c4.kept (fun a ha hb => by rw [ud_r (by omega), ud_r (by omega)]), ⟨c5.1.kept (by rw [ud_r (by omega), ud_r (by omega)]) (by rw [ud_r (by omega), ud_r (by omega)]), c5.2⟩, c6.kept (fun a ha hb => by rw [ud_r (by omega), ud_r (by omega)])⟩, fun a ha => by rw [ud_r (by omega), ud_r (by omega)]⟩
        · have hj2 : j < tx.length + 1 := by simpa using hj
          rw [ud_r (by omega), getD_pushI hj2]
          by_cases hj3 : j < tx.length
          · rw [if_pos hj3, ud_n (by omega), t3 j hj3]
          · have : j = tx.length := by omega
            subst this
            rw [if_neg hj3, ud_s]
        · obtain ⟨fi, c3⟩ := c3
          exact ⟨fi, c3.kept (fun a ha hb => by rw [ud_r (by omega), ud_r (by omega)])⟩
    · have e : wrA tx x = (-2, tx) := by unfold wrA; rw [if_pos (Or.inr hx2)]
      rw [if_neg hx2, e]
      exact ⟨D, rfl, h, fun a _ => rfl⟩
theorem c_wipe (h : CI D tx V A K bd L) : ∃ D', fX7_wipe (Y w D) 1 = some (nI tx.length, Y w D') ∧ CI D' [] V A K bd L ∧ ∀ a, 272 ≤ a → D' a = D a := by
  obtain ⟨c1, c2, ⟨fi, c3⟩, c4, c5, c6⟩ := id h
  unfold fX7_wipe
  rw [if_pos eO_1, eF_1_0, Option.bind_some]
  unfold fX5_clear
  rw [if_pos eO_2, eF_2_1, Option.bind_some, c1.1, eS_2_1, Option.bind_some, Option.bind_some]
  exact ⟨_, rfl, ⟨⟨by rw [ud_s]; rfl, by simp, fun j hj => by simp at hj⟩, c2.kept (fun a ha hb => ud_r (by omega)), ⟨fi, c3.kept (fun a ha hb => ud_r (by omega))⟩, c4.kept (fun a ha hb => ud_r (by omega)), ⟨c5.1.kept (ud_r (by omega)) (ud_r (by omega)), c5.2⟩, c6.kept (fun a ha hb => ud_r (by omega))⟩, fun a ha => ud_r (by omega)⟩
def laA (L : List (Int32 × Int32)) (p y : Int32) : Int32 × List (Int32 × Int32) := if p < 0 ∨ ¬ p < 12 ∨ ¬ (y = 0 ∨ y = 1) then (-2, L) else if L.length = 6 then (-4, L) else (nI (L.length + 1), L ++ [(p, y)])
theorem in01 {y : Int32} : (¬ y < 0 ∧ y ≤ 1) ↔ (y = 0 ∨ y = 1) := by
  constructor
  · rintro ⟨h1, h2⟩
    obtain ⟨j, hj, rfl⟩ := nI_of h1
    have : j ≤ 1 := by
      rw [show (1 : Int32) = nI 1 from by decide] at h2
      exact (nI_leI hj (by omega)).mp h2
    rcases (show j = 0 ∨ j = 1 by omega) with rfl | rfl
    · left; exact nI_0
    · right; decide
  · rintro (rfl | rfl) <;> decide
theorem getD_pushL {L : List (Int32 × Int32)} {t : Int32 × Int32} {j : Nat} (h : j < L.length + 1) : (L ++ [t]).getD j (0, 0) = if j < L.length then L.getD j (0, 0) else t := by
  by_cases h2 : j < L.length
  · rw [if_pos h2, List.getD_eq_getElem?_getD, List.getElem?_append_left h2, ← List.getD_eq_getElem?_getD]
  · have : j = L.length := by omega
    subst this
    rw [if_neg h2]
    simp
theorem c_ladd {p y : Int32} (h : CI D tx V A K bd L) (hy : y = 0 ∨ y = 1) : ∃ D', fX1_add (Y w D) 260 p y = some ((if L.length = 6 then -4 else nI (L.length + 1)), Y w D') ∧ CI D' tx V A K bd (if L.length = 6 then L else L ++ [(p, y)]) ∧ ∀ a, 272 ≤ a → D' a = D a := by
  obtain ⟨c1, c2, ⟨fi, c3⟩, c4, c5, c6⟩ := id h
  obtain ⟨l1, l2, l3⟩ := id c6
  have hm : mzb y = y := by rcases hy with rfl | rfl <;> rfl
  unfold fX1_add
  rw [if_pos eO_260, eF_260_2, Option.bind_some, l1, ← nI_6]
  by_cases hl : L.length = 6
  · rw [ilt_f (by omega) (by omega), if_pos hl, if_pos hl]
    exact ⟨D, rfl, h, fun a _ => rfl⟩
  · rw [ilt_t (by omega) (by omega), if_neg hl, if_neg hl, eF_260_0, Option.bind_some, Option.bind_some, Y_aS kA_261 (by omega), Option.bind_some, eF_260_1, Option.bind_some, eF_260_2, Option.bind_some, ud_r (by omega), l1, Y_aS kA_262 (by omega), Option.bind_some, eF_260_2, Option.bind_some, ud_r (by omega), ud_r (by omega), l1, nI_1, eS_260_2, Option.bind_some, eF_260_2, Option.bind_some, ud_s, hm]
    have fr : ∀ a, a ≠ 260 → a ≠ 261 → a ≠ 262 → ud (ud (ud D 261 L.length p) 262 L.length y) 260 2 (nI (L.length + 1)) a = D a := fun a h1 h2 h3 => by rw [ud_r h1, ud_r h3, ud_r h2]
    refine ⟨_, rfl, ⟨c1.kept (fr 2 (by omega) (by omega) (by omega)) (fr 3 (by omega) (by omega) (by omega)), c2.kept (fun a ha hb => fr a (by omega) (by omega) (by omega)), ⟨fi, c3.kept (fun a ha hb => fr a (by omega) (by omega) (by omega))⟩, c4.kept (fun a ha hb => fr a (by omega) (by omega) (by omega)), ⟨c5.1.kept (fr _ (by omega) (by omega) (by omega)) (fr _ (by omega) (by omega) (by omega)), c5.2⟩, ⟨by rw [ud_s]; simp, by simp; omega, fun j hj => ?_⟩⟩, fun a ha => fr a (by omega) (by omega) (by omega)⟩
    have hj2 : j < L.length + 1 := by simpa using hj
    rw [getD_pushL hj2]
    by_cases hj3 : j < L.length
    · rw [if_pos hj3]
      exact ⟨by rw [ud_r (by omega), ud_r (by omega), ud_n (by omega)]; exact (l3 j hj3).1, by rw [ud_r (by omega), ud_n (by omega), ud_r (by omega)]; exact (l3 j hj3).2⟩
    · have : j = L.length := by omega
      subst this
      rw [if_neg hj3]
      exact ⟨by rw [ud_r (by omega), ud_r (by omega), ud_s], by rw [ud_r (by omega), ud_s]⟩
theorem c_lay {p y : Int32} (h : CI D tx V A K bd L) : ∃ D', fX7_lay (Y w D) 1 p y = some ((laA L p y).1, Y w D') ∧ CI D' tx V A K bd (laA L p y).2 ∧ ∀ a, 272 ≤ a → D' a = D a := by
  unfold fX7_lay
  rw [if_pos eO_1]
  by_cases h1 : p < 0
  · have e : laA L p y = (-2, L) := by unfold laA; rw [if_pos (Or.inl h1)]
    rw [if_pos h1, e]
    exact ⟨D, rfl, h, fun a _ => rfl⟩
  · rw [if_neg h1]
    by_cases h2 : 12 ≤ p
    · have e : laA L p y = (-2, L) := by unfold laA; rw [if_pos (Or.inr (Or.inl (Int32.not_lt.mpr h2)))]
      rw [if_pos h2, e]
      exact ⟨D, rfl, h, fun a _ => rfl⟩
    · rw [if_neg h2]
      by_cases h3 : y = 0 ∨ y = 1
      · obtain ⟨g1, g2⟩ := in01.mpr h3
        rw [if_neg g1, if_pos g2, eF_1_5, Option.bind_some]
        obtain ⟨D', k1, k2, k3⟩ := c_ladd (w := w) (p := p) h h3
        have hno : ¬ (p < 0 ∨ ¬ p < 12 ∨ ¬ (y = 0 ∨ y = 1)) := by
          rintro (q | q | q)
          · exact h1 q
          · exact h2 (Int32.not_lt.mp q)
          · exact q h3
        have e : laA L p y = ((if L.length = 6 then -4 else nI (L.length + 1)), (if L.length = 6 then L else L ++ [(p, y)])) := by
          unfold laA
          rw [if_neg hno]
          split <;> rfl
        rw [e]
        refine ⟨D', ?_, k2, k3⟩
        rcases h3 with rfl | rfl
        · rw [if_neg (by decide), k1, Option.bind_some]
        · rw [if_pos rfl, k1, Option.bind_some]
      · have e : laA L p y = (-2, L) := by unfold laA; rw [if_pos (Or.inr (Or.inr h3))]
        rw [e]
        refine ⟨D, ?_, h, fun a _ => rfl⟩
        by_cases h4 : y < 0
        · rw [if_pos h4]
        · rw [if_neg h4, if_neg (fun q => h3 (in01.mp ⟨h4, q⟩))]
theorem c_unlay (h : CI D tx V A K bd L) : ∃ D', fX7_unlay (Y w D) 1 = some (nI L.length, Y w D') ∧ CI D' tx V A K bd [] ∧ ∀ a, 272 ≤ a → D' a = D a := by
  obtain ⟨c1, c2, ⟨fi, c3⟩, c4, c5, c6⟩ := id h
  unfold fX7_unlay
  rw [if_pos eO_1, eF_1_5, Option.bind_some]
  unfold fX1_clear
  rw [if_pos eO_260, eF_260_2, Option.bind_some, c6.1, eS_260_2, Option.bind_some, Option.bind_some]
  exact ⟨_, rfl, ⟨c1.kept (ud_r (by omega)) (ud_r (by omega)), c2.kept (fun a ha hb => ud_r (by omega)), ⟨fi, c3.kept (fun a ha hb => ud_r (by omega))⟩, c4.kept (fun a ha hb => ud_r (by omega)), ⟨c5.1.kept (ud_r (by omega)) (ud_r (by omega)), c5.2⟩, ⟨by rw [ud_s]; rfl, by simp, fun j hj => by simp at hj⟩⟩, fun a ha => ud_r (by omega)⟩
theorem c_keep {x : Int32} (h : CI D tx V A K bd L) : ∃ D', fX7_keep (Y w D) 1 x = some ((if x = 0 ∨ x = 1 then V.1 else -1), Y w D') ∧ CI D' tx V A (if x = 0 then setK K 0 V else if x = 1 then setK K 1 V else K) bd L ∧ ∀ a, 272 ≤ a → D' a = D a := by
  obtain ⟨c1, c2, ⟨fi, c3⟩, c4, c5, c6⟩ := id h
  unfold fX7_keep
  rw [if_pos eO_1, eF_1_4, Option.bind_some, eF_1_1, Option.bind_some]
  obtain ⟨D', g1, g2, g3⟩ := l_put (w := w) (x := x) c4 c2
  rw [g1, Option.bind_some]
  exact ⟨D', rfl, ⟨c1.kept (g3 2 (by omega)) (g3 3 (by omega)), c2.kept (fun a ha hb => g3 a (by omega)), ⟨fi, c3.kept (fun a ha hb => g3 a (by omega))⟩, g2, ⟨c5.1.kept (g3 263 (by omega)) (g3 264 (by omega)), c5.2⟩, c6.kept (fun a ha hb => g3 a (by omega))⟩, fun a ha => g3 a (by omega)⟩
/-- again: a year below 0 never comes -/
theorem c_again {x : Int32} (h : CI D tx V A K bd L) (hy : ∀ s U, K s = some U → ¬ U.1 < 0) : ∃ D', fX7_again (Y w D) 1 x = some ((if x = 0 ∨ x = 1 then (match slotK K x with | some U => U.1 | none => -3) else -1), Y w D') ∧ (match slotK K x with | some U => CI D' tx U [] K bd L | none => CI D' tx V A K bd L) ∧ ∀ a, 272 ≤ a → D' a = D a := by
  obtain ⟨c1, c2, ⟨fi, c3⟩, c4, c5, c6⟩ := id h
  unfold fX7_again
  rw [if_pos eO_1, eF_1_4, Option.bind_some, eF_1_1, Option.bind_some]
  obtain ⟨D1, g1, g2⟩ := l_bringBack (w := w) (x := x) c4
  rw [g1, Option.bind_some]
  cases hk : slotK K x with
  | none =>
    rw [hk] at g2
    subst g2
    have hneg : (if x = 0 ∨ x = 1 then (-3 : Int32) else -1) < 0 := by split <;> decide
    refine ⟨D1, ?_, h, fun a _ => rfl⟩
    dsimp only
    rw [if_pos hneg]
  | some U =>
    rw [hk] at g2
    obtain ⟨g2, g3⟩ := g2
    have hx : x = 0 ∨ x = 1 := by
      unfold slotK at hk
      by_cases h0 : x = 0
      · exact Or.inl h0
      · rw [if_neg h0] at hk
        by_cases h1 : x = 1
        · exact Or.inr h1
        · rw [if_neg h1] at hk; cases hk
    have hU : ¬ U.1 < 0 := by
      unfold slotK at hk
      rcases hx with rfl | rfl
      · rw [if_pos rfl] at hk; exact hy 0 U hk
      · rw [if_neg (by decide), if_pos rfl] at hk; exact hy 1 U hk
    dsimp only
    rw [if_pos hx, if_neg hU, eF_1_3, Option.bind_some]
    obtain ⟨D2, k1, k2, k3⟩ := l_aclear (w := w) (D := D1)
    rw [k1, Option.bind_some]
    have fr : ∀ a, (a < 4 ∨ 18 ≤ a) → a ≠ 32 → D2 a = D a := fun a h1 h2 => by rw [k3 a h2, g3 a h1]
    exact ⟨D2, rfl, ⟨c1.kept (fr 2 (by omega) (by omega)) (fr 3 (by omega) (by omega)), g2.kept (fun a ha hb => k3 a (by omega)), ⟨0, k2⟩, c4.kept (fun a ha hb => fr a (by omega) (by omega)), ⟨c5.1.kept (fr 263 (by omega) (by omega)) (fr 264 (by omega) (by omega)), c5.2⟩, c6.kept (fun a ha hb => fr a (by omega) (by omega))⟩, fun a ha => fr a (by omega) (by omega)⟩
theorem c_undo (h : CI D tx V A K bd L) : ∃ D', fX7_undo (Y w D) 1 = some ((if A.length = 0 then -3 else nI (A.length - 1)), Y w D') ∧ CI D' tx (if A.length = 0 then V else A.getD (A.length - 1) e0) A.dropLast K bd L ∧ ∀ a, 272 ≤ a → D' a = D a := by
  obtain ⟨c1, c2, ⟨fi, c3⟩, c4, c5, c6⟩ := id h
  unfold fX7_undo
  rw [if_pos eO_1, eF_1_3, Option.bind_some, eF_1_1, Option.bind_some]
  obtain ⟨D1, g1, g2, g3⟩ := l_takeBack (w := w) c3
  rw [g1, Option.bind_some]
  by_cases h0 : A.length = 0
  · rw [if_pos h0] at g3
    subst g3
    rw [if_pos h0, if_pos h0]
    exact ⟨D1, rfl, ⟨c1, c2, ⟨fi, g2⟩, c4, c5, c6⟩, fun a _ => rfl⟩
  · rw [if_neg h0] at g3
    obtain ⟨g3, g4⟩ := g3
    rw [if_neg h0, if_neg h0]
    exact ⟨D1, rfl, ⟨c1.kept (g4 2 (by omega) (by omega)) (g4 3 (by omega) (by omega)), g3, ⟨fi, g2⟩, c4.kept (fun a ha hb => g4 a (by omega) (by omega)), ⟨c5.1.kept (g4 263 (by omega) (by omega)) (g4 264 (by omega) (by omega)), c5.2⟩, c6.kept (fun a ha hb => g4 a (by omega) (by omega))⟩, fun a ha => g4 a (by omega) (by omega)⟩
/-! acts: tried on the trial, taken over -/
def opV (V : tV) (A : List tV) (x : Int32) (U : tV) : tV × List tV := if x < 0 then (V, A) else (U, pushA A V)
theorem c_take {x : Int32} {U : tV} (h : CI D tx V A K bd L) (hU : VlD D 18 U) : ∃ D', fX7_take (Y w D) 1 x = some (x, Y w D') ∧ CI D' tx (opV V A x U).1 (opV V A x U).2 K bd L ∧ ∀ a, 272 ≤ a → D' a = D a := by
  obtain ⟨c1, c2, ⟨fi, c3⟩, c4, c5, c6⟩ := id h
  unfold fX7_take
  rw [if_pos eO_1]
  by_cases hx : x < 0
  · have e : opV V A x U = (V, A) := by unfold opV; rw [if_pos hx]
    rw [if_pos hx, e]
    exact ⟨D, rfl, h, fun a _ => rfl⟩
  · have e : opV V A x U = (U, pushA A V) := by unfold opV; rw [if_neg hx]
    rw [if_neg hx, e, eF_1_3, Option.bind_some, eF_1_1, Option.bind_some]
    obtain ⟨D1, fi', g1, g2, g3⟩ := l_remember (w := w) c3 c2
    rw [g1, Option.bind_some, eF_1_1, Option.bind_some, eF_1_2, Option.bind_some]
    obtain ⟨D2, k1, k2, k3⟩ := l_vsetTo (w := w) (D := D1) isVl_4 isVl_18 (by omega) (hU.kept (fun a ha hb => g3 a (by omega)))
    rw [k1, Option.bind_some]
    have fr : ∀ a, (a < 4 ∨ 18 ≤ a) → (a < 32 ∨ 230 ≤ a) → D2 a = D a := fun a h1 h2 => by rw [k3 a h1, g3 a h2]
    exact ⟨D2, rfl, ⟨c1.kept (fr 2 (by omega) (by omega)) (fr 3 (by omega) (by omega)), k2, ⟨fi', g2.kept (fun a ha hb => k3 a (by omega))⟩, c4.kept (fun a ha hb => fr a (by omega) (by omega)), ⟨c5.1.kept (fr 263 (by omega) (by omega)) (fr 264 (by omega) (by omega)), c5.2⟩, c6.kept (fun a ha hb => fr a (by omega) (by omega))⟩, fun a ha => fr a (by omega) (by omega)⟩
/-- the trial, as the valley is -/
theorem c_trial (h : CI D tx V A K bd L) : ∃ D', fX6_setTo (Y w D) 18 4 = some (Y w D') ∧ VlD D' 18 V ∧ CI D' tx V A K bd L ∧ ∀ a, (a < 18 ∨ 32 ≤ a) → D' a = D a := by
  obtain ⟨D1, g1, g2, g3⟩ := l_vsetTo (w := w) isVl_18 isVl_4 (by omega) h.2.1
  exact ⟨D1, g1, g2, h.scr (fun a ha => g3 a (by omega)), g3⟩
theorem c_winter (h : CI D tx V A K bd L) : ∃ D', fX7_winter (Y w D) 1 = some (nI (pop V.2) - nI (pop (win V.2)), Y w D') ∧ CI D' tx (opV V A (nI (pop V.2) - nI (pop (win V.2))) (V.1 + 1, win V.2)).1 (opV V A (nI (pop V.2) - nI (pop (win V.2))) (V.1 + 1, win V.2)).2 K bd L ∧ ∀ a, 272 ≤ a → D' a = D a := by
  unfold fX7_winter
  obtain ⟨D1, g1, g2, g3, g4⟩ := c_trial (w := w) h
  obtain ⟨D2, k1, k2, k3⟩ := l_passWinter (w := w) isVl_18 g2
  obtain ⟨D3, m1, m2, m3⟩ := c_take (w := w) (x := nI (pop V.2) - nI (pop (win V.2))) (g3.scr (fun a ha => k3 a (by omega))) k2
  rw [if_pos eO_1, eF_1_2, Option.bind_some, eF_1_1, Option.bind_some, g1, Option.bind_some, eF_1_2, Option.bind_some, k1, Option.bind_some]
  dsimp only
  rw [m1, Option.bind_some]
  exact ⟨D3, rfl, m2, fun a ha => by rw [m3 a ha, k3 a (by omega), g4 a (by omega)]⟩
theorem c_hang {x y : Int32} (h : CI D tx V A K bd L) : ∃ D', fX7_hang (Y w D) 1 x y = some ((hgA V.2 x y).1, Y w D') ∧ CI D' tx (opV V A (hgA V.2 x y).1 (V.1, (hgA V.2 x y).2)).1 (opV V A (hgA V.2 x y).1 (V.1, (hgA V.2 x y).2)).2 K bd L ∧ ∀ a, 272 ≤ a → D' a = D a := by
  unfold fX7_hang
  obtain ⟨D1, g1, g2, g3, g4⟩ := c_trial (w := w) h
  obtain ⟨D2, k1, k2, k3⟩ := l_hangIn (w := w) (x := x) (y := y) isVl_18 g2
  obtain ⟨D3, m1, m2, m3⟩ := c_take (w := w) (x := (hgA V.2 x y).1) (g3.scr (fun a ha => k3 a (by omega))) k2
  rw [if_pos eO_1, eF_1_2, Option.bind_some, eF_1_1, Option.bind_some, g1, Option.bind_some, eF_1_2, Option.bind_some, k1, Option.bind_some]
  dsimp only
  rw [m1, Option.bind_some]
  exact ⟨D3, rfl, m2, fun a ha => by rw [m3 a ha, k3 a (by omega), g4 a (by omega)]⟩
theorem c_turn {x : Int32} (h : CI D tx V A K bd L) : ∃ D', fX7_turn (Y w D) 1 x = some ((tnA V.2 x).1, Y w D') ∧ CI D' tx (opV V A (tnA V.2 x).1 (V.1, (tnA V.2 x).2)).1 (opV V A (tnA V.2 x).1 (V.1, (tnA V.2 x).2)).2 K bd L ∧ ∀ a, 272 ≤ a → D' a = D a := by
  unfold fX7_turn
  obtain ⟨D1, g1, g2, g3, g4⟩ := c_trial (w := w) h
  obtain ⟨D2, k1, k2, k3⟩ := l_turnAbout (w := w) (x := x) isVl_18 g2
  obtain ⟨D3, m1, m2, m3⟩ := c_take (w := w) (x := (tnA V.2 x).1) (g3.scr (fun a ha => k3 a (by omega))) k2
  rw [if_pos eO_1, eF_1_2, Option.bind_some, eF_1_1, Option.bind_some, g1, Option.bind_some, eF_1_2, Option.bind_some, k1, Option.bind_some]
  dsimp only
  rw [m1, Option.bind_some]
  exact ⟨D3, rfl, m2, fun a ha => by rw [m3 a ha, k3 a (by omega), g4 a (by omega)]⟩
theorem c_snip {x : Int32} (h : CI D tx V A K bd L) : ∃ D', fX7_snip (Y w D) 1 x = some ((snA V.2 x).1, Y w D') ∧ CI D' tx (opV V A (snA V.2 x).1 (V.1, (snA V.2 x).2)).1 (opV V A (snA V.2 x).1 (V.1, (snA V.2 x).2)).2 K bd L ∧ ∀ a, 272 ≤ a → D' a = D a := by
  unfold fX7_snip
  obtain ⟨D1, g1, g2, g3, g4⟩ := c_trial (w := w) h
  obtain ⟨D2, k1, k2, k3⟩ := l_snipEnd (w := w) (x := x) isVl_18 g2
  obtain ⟨D3, m1, m2, m3⟩ := c_take (w := w) (x := (snA V.2 x).1) (g3.scr (fun a ha => k3 a (by omega))) k2
  rw [if_pos eO_1, eF_1_2, Option.bind_some, eF_1_1, Option.bind_some, g1, Option.bind_some, eF_1_2, Option.bind_some, k1, Option.bind_some]
  dsimp only
  rw [m1, Option.bind_some]
  exact ⟨D3, rfl, m2, fun a ha => by rw [m3 a ha, k3 a (by omega), g4 a (by omega)]⟩
theorem c_join {x y : Int32} (h : CI D tx V A K bd L) : ∃ D', fX7_join (Y w D) 1 x y = some ((jnA V.2 x y).1, Y w D') ∧ CI D' tx (opV V A (jnA V.2 x y).1 (V.1, (jnA V.2 x y).2)).1 (opV V A (jnA V.2 x y).1 (V.1, (jnA V.2 x y).2)).2 K bd L ∧ ∀ a, 272 ≤ a → D' a = D a := by
  unfold fX7_join
  obtain ⟨D1, g1, g2, g3, g4⟩ := c_trial (w := w) h
  obtain ⟨D2, k1, k2, k3⟩ := l_joinTo (w := w) (x := x) (y := y) isVl_18 g2
  obtain ⟨D3, m1, m2, m3⟩ := c_take (w := w) (x := (jnA V.2 x y).1) (g3.scr (fun a ha => k3 a (by omega))) k2
  rw [if_pos eO_1, eF_1_2, Option.bind_some, eF_1_1, Option.bind_some, g1, Option.bind_some, eF_1_2, Option.bind_some, k1, Option.bind_some]
  dsimp only
  rw [m1, Option.bind_some]
  exact ⟨D3, rfl, m2, fun a ha => by rw [m3 a ha, k3 a (by omega), g4 a (by omega)]⟩
end C1
