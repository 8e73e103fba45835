/-! ===== what is good: houses, kinds, bends ===== -/
def gB (xs : List Int32) : Prop := ∀ x ∈ xs, x = 1 ∨ x = 2 ∨ x = 3 ∨ x = 4
def gS (t : tS) : Prop := (t.1 = 0 ∨ t.1 = 1 ∨ t.1 = 2 ∨ t.1 = 3) ∧ (t.2.1 = 0 ∨ t.2.1 = 1 ∨ t.2.1 = 2 ∨ t.2.1 = 3) ∧ gB t.2.2
def gW (ss : List tS) : Prop := ∀ i, gS (ss.getD i d0)
theorem gB_nil : gB [] := fun x hx => by cases hx
theorem gB.tail {xs : List Int32} (h : gB xs) : gB xs.tail := fun x hx => h x (List.mem_of_mem_tail hx)
theorem gB.dropLast {xs : List Int32} (h : gB xs) : gB xs.dropLast := fun x hx => h x (List.dropLast_subset xs hx)
theorem gB.rev {xs : List Int32} (h : gB xs) : gB xs.reverse := fun x hx => h x (List.mem_reverse.mp hx)
theorem gB.join {xs ys : List Int32} (h : gB xs) (h2 : gB ys) : gB (joinL xs ys) := fun x hx => by
  rcases List.mem_append.mp hx with q | q
  · exact h x q
  · exact h2 x (List.mem_of_mem_drop q)
theorem gB.at {xs : List Int32} (h : gB xs) {j : Nat} (hj : j < xs.length) : ¬ xs.getD j 0 < 0 := by
  have e : xs.getD j 0 = xs[j] := by simp [hj]
  have := h _ (List.getElem_mem hj)
  rw [e]
  rcases this with q | q | q | q <;> rw [q] <;> decide
theorem gW.oSet {ss : List tS} {i : Nat} {t : tS} (h : gW ss) (ht : gS t) : gW (ss.set i t) := fun j => by
  by_cases hi : i < ss.length
  · rw [getD_set hi]
    split
    · exact ht
    · exact h j
  · rw [List.set_eq_of_length_le (by omega)]
    exact h j
theorem gW.oKd {ss : List tS} (h : gW ss) : KdG ss := fun j _ => (h j).2.1
theorem gW.oFlood {ss : List tS} {i : Nat} (h : gW ss) : gW (flood ss i) := fun j => by
  rw [← floodF_eq, (floodF_get ss.length 0 ss (by omega)).2 j]
  split
  · unfold fl1
    split
    · exact ⟨(h j).1, (h j).2.1, (h j).2.2.tail⟩
    · exact h j
  · exact h j
theorem gW.oWinOf {ss : List tS} {i : Nat} (h : gW ss) : gW (winOf ss i) := by
  unfold winOf
  split
  · exact h.oFlood
  · split
    · refine h.oSet ⟨(h i).1, (h i).2.1, ?_⟩
      dsimp only
      split
      · exact (h i).2.2.dropLast.tail
      · exact (h i).2.2.dropLast
    · exact h
theorem gW.oWinF : ∀ (k j : Nat) {ss : List tS}, gW ss → gW (winF j k ss)
  | 0, _, _, h => h
  | k + 1, j, ss, h => by
    rw [winF]
    refine gW.oWinF k (j + 1) ?_
    split
    · exact h.oWinOf
    · exact h
theorem gW.oWin {ss : List tS} (h : gW ss) : gW (win ss) := gW.oWinF _ _ h
theorem gW.oWinN : ∀ (k : Nat) {ss : List tS}, gW ss → gW (winN k ss)
  | 0, _, h => h
  | k + 1, _, h => gW.oWinN k h.oWin
theorem in03 {y : Int32} : (¬ y < 0 ∧ y < 4) ↔ (y = 0 ∨ y = 1 ∨ y = 2 ∨ y = 3) := by
  constructor
  · rintro ⟨h1, h2⟩
    obtain ⟨j, hj, rfl⟩ := nI_of h1
    rw [← nI_4] at h2
    have : j < 4 := (nI_ltI hj (by omega)).mp h2
    rcases (show j = 0 ∨ j = 1 ∨ j = 2 ∨ j = 3 by omega) with rfl | rfl | rfl | rfl
    · left; exact nI_0
    · right; left; decide
    · right; right; left; decide
    · right; right; right; decide
  · rintro (rfl | rfl | rfl | rfl) <;> decide
theorem gW.oHang {ss : List tS} {x y : Int32} (h : gW ss) : gW (hgA ss x y).2 := by
  unfold hgA
  split
  · exact h
  · rename_i h1
    split
    · exact h
    · refine h.oSet ⟨?_, (h _).2⟩
      refine in03.mp ⟨fun q => h1 (Or.inr (Or.inl q)), Int32.not_le.mp (fun q => h1 (Or.inr (Or.inr (Int32.not_lt.mpr q))))⟩
theorem gW.oTurn {ss : List tS} {x : Int32} (h : gW ss) : gW (tnA ss x).2 := by
  unfold tnA
  split
  · exact h
  · exact h.oSet ⟨(h _).1, (h _).2.1, (h _).2.2.rev⟩
theorem gW.oSnip {ss : List tS} {x : Int32} (h : gW ss) : gW (snA ss x).2 := by
  unfold snA
  split
  · exact h
  · split
    · exact h
    · exact h.oSet ⟨(h _).1, (h _).2.1, (h _).2.2.dropLast⟩
theorem gW.oJoin {ss : List tS} {x y : Int32} (h : gW ss) : gW (jnA ss x y).2 := by
  unfold jnA
  split
  · exact h
  · split
    · exact h
    · split
      · exact h
      · split
        · exact h
        · refine gW.oSet (gW.oSet h ?_) ?_
          · exact ⟨(h _).1, (h _).2.1, (h _).2.2.join (h _).2.2⟩
          · exact ⟨(h _).1, (h _).2.1, gB_nil⟩
theorem hg_len {ss : List tS} {x y : Int32} : (hgA ss x y).2.length = ss.length := by
  unfold hgA
  repeat' split
  all_goals simp
theorem tn_len {ss : List tS} {x : Int32} : (tnA ss x).2.length = ss.length := by
  unfold tnA
  repeat' split
  all_goals simp
theorem sn_len {ss : List tS} {x : Int32} : (snA ss x).2.length = ss.length := by
  unfold snA
  repeat' split
  all_goals simp
theorem jn_len {ss : List tS} {x y : Int32} : (jnA ss x y).2.length = ss.length := by
  unfold jnA
  repeat' split
  all_goals simp
/-! ===== the reference's doings ===== -/
section R6
variable {w : mW} {D : mD} {l i : Nat} {tx : List Int32} {V : tV} {A : List tV} {K : Nat → Option tV} {bd : List Int32} {L : List (Int32 × Int32)}
theorem op_t {x : Int32} {U : tV} (h : ¬ x < 0) : opV V A x U = (U, pushA A V) := by unfold opV; rw [if_neg h]
theorem op_f {x : Int32} {U : tV} (h : x < 0) : opV V A x U = (V, A) := by unfold opV; rw [if_pos h]
theorem r_winter (h : RI D tx V A K bd L) (hg : gW V.2) : ∃ D', fX8_winter (Y w D) 272 = some (nI (pop V.2) - nI (pop (win V.2)), Y w D') ∧ RI D' tx (opV V A (nI (pop V.2) - nI (pop (win V.2))) (V.1 + 1, win V.2)).1 (opV V A (nI (pop V.2) - nI (pop (win V.2))) (V.1 + 1, win V.2)).2 K bd L ∧ ∀ a, a < 272 → D' a = D a := by
  have hp := pop_le V.2
  rw [wi_ans, op_t (nI_pos (by omega))]
  obtain ⟨D1, g1, g2, g3, g4, g5⟩ := r_keepAct (w := w) h
  obtain ⟨D2, k1, k2, k3⟩ := r_passOn (w := w) (l := 0) (by omega) g2.2.1.1 g2.2.1.2 hg.oKd
  rw [nI_0] at k1
  unfold fX8_winter
  rw [if_pos eO_272, g1, Option.bind_some, k1, Option.bind_some]
  exact ⟨D2, rfl, g2.lv0 (by dsimp only; rw [win_len]) k3 k2, fun a ha => by rw [k3.1 a (by omega), g3 a ha]⟩
theorem lt34 {y : Int32} : (3 : Int32) < y ↔ ¬ y < 4 := by
  rw [Int32.not_lt, Int32.lt_iff_toInt_lt, Int32.le_iff_toInt_le, show (3 : Int32).toInt = 3 from rfl, show (4 : Int32).toInt = 4 from rfl]
  omega
theorem r_hang0 {y : Int32} {l : Nat} (hl : l < 2) (h : NwD (D 274) (D 273) (57 * l) V) (hi : i < V.2.length) : NwD (ud D 274 (57 * l + i) y 274) (ud D 274 (57 * l + i) y 273) (57 * l) (V.1, V.2.set i (y, (V.2.getD i d0).2.1, (V.2.getD i d0).2.2)) ∧ LvF l D (ud D 274 (57 * l + i) y) := by
  have q2 := h.2.1
  obtain ⟨a1, a2, a3, a4, a5⟩ := h.2.2 i hi
  refine ⟨?_, LvF.ud (by omega)⟩
  rw [ud_r (a' := 273) (by omega)]
  exact h.upd hi (fun k h1 h2 h3 h4 => ud_n (by omega)) ud_s rfl (by rw [ud_n (by omega)]; exact a3) a4 (fun j hj => by rw [ud_n (by omega)]; exact a5 j hj)
theorem r_hang {x y : Int32} (h : RI D tx V A K bd L) (hg : gW V.2) : ∃ D', fX8_hang (Y w D) 272 x y = some ((hgA V.2 x y).1, Y w D') ∧ RI D' tx (opV V A (hgA V.2 x y).1 (V.1, (hgA V.2 x y).2)).1 (opV V A (hgA V.2 x y).1 (V.1, (hgA V.2 x y).2)).2 K bd L ∧ ∀ a, a < 272 → D' a = D a := by
  have q2 := h.2.1.2.2.1
  unfold fX8_hang
  rw [if_pos eO_272, r_there h.2.1, Option.bind_some, d64 (lo := 0) (hi := 3) (by decide) (by decide), Option.bind_some]
  cases hb : hasI V.2 x with
  | false =>
    have e : hgA V.2 x y = (-1, V.2) := by unfold hgA; rw [if_pos (Or.inl hb)]
    rw [if_pos (by rfl), e]
    dsimp only
    rw [op_f (by decide)]
    exact ⟨D, rfl, h, fun a _ => rfl⟩
  | true =>
    rw [if_neg nb0]
    by_cases hy : y < 0 ∨ ¬ y < 4
    · have e : hgA V.2 x y = (-1, V.2) := by unfold hgA; rw [if_pos (Or.inr hy)]
      rw [if_pos, e]
      · dsimp only
        rw [op_f (by decide)]
        exact ⟨D, rfl, h, fun a _ => rfl⟩
      · rw [b2i_0, decide_eq_false_iff_not]
        rintro ⟨p1, p2⟩
        rcases hy with q | q
        · exact p1 q
        · exact p2 (lt34.mpr q)
    · obtain ⟨i, hi, rfl, ht⟩ := hasI_spec hb
      obtain ⟨a1, a2, a3, a4, a5⟩ := h.2.1.2.2.2 i hi
      rw [Nat.mul_zero, Nat.zero_add] at a1
      have hno : ¬ (hasI V.2 (nI i) = false ∨ y < 0 ∨ ¬ y < 4) := by
        rintro (q | q)
        · rw [hb] at q; cases q
        · exact hy q
      rw [if_neg, eF_272_2, Option.bind_some, nw_at (by omega), Option.bind_some, a1]
      · by_cases hh : (V.2.getD i d0).1 = y
        · have e : hgA V.2 (nI i) y = (-3, V.2) := by unfold hgA; rw [if_neg hno, nI_clamp (by omega), if_pos hh]
          rw [if_pos hh, e]
          dsimp only
          rw [op_f (by decide)]
          exact ⟨D, rfl, h, fun a _ => rfl⟩
        · have e : hgA V.2 (nI i) y = (nI (cnt (V.2.set i (y, (V.2.getD i d0).2.1, (V.2.getD i d0).2.2)) y), V.2.set i (y, (V.2.getD i d0).2.1, (V.2.getD i d0).2.2)) := by
            unfold hgA
            rw [if_neg hno, nI_clamp (by omega), if_neg hh]
          have hc := cnt_lt (ss := V.2.set i (y, (V.2.getD i d0).2.1, (V.2.getD i d0).2.2)) (h := y) (by simpa using q2)
          obtain ⟨D1, g1, g2, g3, g4, g5⟩ := r_keepAct (w := w) h
          obtain ⟨k1, k2⟩ := r_hang0 (y := y) (l := 0) (by omega) g2.2.1.2 hi
          rw [Nat.mul_zero, Nat.zero_add] at k2
          rw [show 57 * 0 + i = i by omega] at k1
          have hR := g2.lv0 (V' := (V.1, V.2.set i (y, (V.2.getD i d0).2.1, (V.2.getD i d0).2.2))) (by simp) k2 k1
          have hin := r_inHouse (w := w) (x := y) (l := 0) (by omega) hR.2.1.1 hR.2.1.2
          rw [nI_0] at hin
          rw [if_neg hh, g1, Option.bind_some, eF_272_2, Option.bind_some, nw_st (by omega), Option.bind_some, hin, Option.bind_some, r_ones, Option.bind_some, on_w4, ← cnt_inB (by simpa using q2), e]
          dsimp only
          rw [op_t (nI_pos hc)]
          exact ⟨_, rfl, hR, fun a ha => by rw [k2.1 a (by omega), g3 a ha]⟩
      · rw [b2i_0, decide_eq_false_iff_not]
        intro q
        exact q ⟨fun q1 => hy (Or.inl q1), fun q2 => hy (Or.inr (lt34.mp q2))⟩
theorem rev0 {xs : List Int32} (h : gB xs) (h0 : xs.length ≠ 0) : ¬ xs.reverse.getD 0 0 < 0 := h.rev.at (by simp; omega)
theorem r_turn {x : Int32} (h : RI D tx V A K bd L) (hg : gW V.2) : ∃ D', fX8_turn (Y w D) 272 x = some ((tnA V.2 x).1, Y w D') ∧ RI D' tx (opV V A (tnA V.2 x).1 (V.1, (tnA V.2 x).2)).1 (opV V A (tnA V.2 x).1 (V.1, (tnA V.2 x).2)).2 K bd L ∧ ∀ a, a < 272 → D' a = D a := by
  have q2 := h.2.1.2.2.1
  unfold fX8_turn
  rw [if_pos eO_272, r_there h.2.1, Option.bind_some]
  cases hb : hasI V.2 x with
  | false =>
    have e : tnA V.2 x = (-1, V.2) := by unfold tnA; rw [if_pos hb]
    rw [if_pos (by rfl), e]
    dsimp only
    rw [op_f (by decide)]
    exact ⟨D, rfl, h, fun a _ => rfl⟩
  | true =>
    obtain ⟨i, hi, rfl, ht⟩ := hasI_spec hb
    have e : tnA V.2 (nI i) = ((V.2.getD i d0).2.2.reverse.getD 0 0, V.2.set i ((V.2.getD i d0).1, (V.2.getD i d0).2.1, (V.2.getD i d0).2.2.reverse)) := by
      unfold tnA
      rw [hb, if_neg ntf, nI_clamp (by omega)]
    have h0 := there_ne.mp ht
    obtain ⟨D1, g1, g2, g3, g4, g5⟩ := r_keepAct (w := w) h
    obtain ⟨D2, k1, k2, k3, k4⟩ := r_turnOn (w := w) (l := 0) (by omega) g2.2.1.2 hi
    have hba := r_bendAt (w := w) (D := D2) (l := 0) (i := i) (j := 0) (by omega) (by omega) (by omega)
    rw [nI_0] at hba k1
    rw [if_neg nb0, g1, Option.bind_some, k1, Option.bind_some, hba, Option.bind_some, k4 0 (by omega), e]
    dsimp only
    rw [op_t (rev0 (hg i).2.2 h0)]
    exact ⟨_, rfl, g2.lv0 (by simp) k3 k2, fun a ha => by rw [k3.1 a (by omega), g3 a ha]⟩
theorem r_snip {x : Int32} (h : RI D tx V A K bd L) (hg : gW V.2) : ∃ D', fX8_snip (Y w D) 272 x = some ((snA V.2 x).1, Y w D') ∧ RI D' tx (opV V A (snA V.2 x).1 (V.1, (snA V.2 x).2)).1 (opV V A (snA V.2 x).1 (V.1, (snA V.2 x).2)).2 K bd L ∧ ∀ a, a < 272 → D' a = D a := by
  have q2 := h.2.1.2.2.1
  unfold fX8_snip
  rw [if_pos eO_272, r_there h.2.1, Option.bind_some]
  cases hb : hasI V.2 x with
  | false =>
    have e : snA V.2 x = (-1, V.2) := by unfold snA; rw [if_pos hb]
    rw [if_pos (by rfl), e]
    dsimp only
    rw [op_f (by decide)]
    exact ⟨D, rfl, h, fun a _ => rfl⟩
  | true =>
    obtain ⟨i, hi, rfl, ht⟩ := hasI_spec hb
    obtain ⟨a1, a2, a3, a4, a5⟩ := h.2.1.2.2.2 i hi
    rw [Nat.mul_zero, Nat.zero_add] at a3
    have h0 := there_ne.mp ht
    rw [if_neg nb0, eF_272_2, Option.bind_some, show (4 : Int32) + nI i = nI (4 + i) from by rw [← nI_4, nI_add], nw_at (by omega), Option.bind_some, a3]
    by_cases h1 : (V.2.getD i d0).2.2.length = 1
    · have e : snA V.2 (nI i) = (-3, V.2) := by unfold snA; rw [hb, if_neg ntf, nI_clamp (by omega), if_pos (by omega)]
      rw [if_pos (by rw [h1]; decide), e]
      dsimp only
      rw [op_f (by decide)]
      exact ⟨D, rfl, h, fun a _ => rfl⟩
    · have e : snA V.2 (nI i) = ((V.2.getD i d0).2.2.getD ((V.2.getD i d0).2.2.length - 1) 0, V.2.set i ((V.2.getD i d0).1, (V.2.getD i d0).2.1, (V.2.getD i d0).2.2.dropLast)) := by
        unfold snA
        rw [hb, if_neg ntf, nI_clamp (by omega), if_neg (by omega)]
      obtain ⟨D1, g1, g2, g3, g4, g5⟩ := r_keepAct (w := w) h
      obtain ⟨D2, k1, k2, k3, k4⟩ := r_loseLast (w := w) (l := 0) (by omega) g2.2.1.2 hi
      have hm := (k2.2.2 i (by simpa using hi)).2.2.1
      dsimp only at hm
      rw [getD_self hi, Nat.mul_zero, Nat.zero_add, List.length_dropLast] at hm
      have hba := r_bendAt (w := w) (D := D2) (l := 0) (i := i) (j := (V.2.getD i d0).2.2.length - 1) (by omega) (by omega) (by omega)
      rw [nI_0] at hba k1
      rw [if_neg (fun q => h1 ((nI_eq (by omega) (by omega)).mp (q.trans nI_n1.symm))), g1, Option.bind_some, k1, Option.bind_some, eF_272_2, Option.bind_some, nw_at (by omega), Option.bind_some, hm, hba, Option.bind_some, k4 _ (by omega), g4, a5 _ (by omega), e]
      dsimp only
      rw [op_t ((hg i).2.2.at (by omega))]
      exact ⟨_, rfl, g2.lv0 (by simp) k3 k2, fun a ha => by rw [k3.1 a (by omega), g3 a ha]⟩
theorem r_join {x y : Int32} (h : RI D tx V A K bd L) : ∃ D', fX8_join (Y w D) 272 x y = some ((jnA V.2 x y).1, Y w D') ∧ RI D' tx (opV V A (jnA V.2 x y).1 (V.1, (jnA V.2 x y).2)).1 (opV V A (jnA V.2 x y).1 (V.1, (jnA V.2 x y).2)).2 K bd L ∧ ∀ a, a < 272 → D' a = D a := by
  have q2 := h.2.1.2.2.1
  unfold fX8_join
  rw [if_pos eO_272, r_there h.2.1, Option.bind_some]
  cases hb : hasI V.2 x with
  | false =>
    have e : jnA V.2 x y = (-1, V.2) := by unfold jnA; rw [if_pos (Or.inl hb)]
    rw [if_pos (by rfl), e]
    dsimp only
    rw [op_f (by decide)]
    exact ⟨D, rfl, h, fun a _ => rfl⟩
  | true =>
    rw [if_neg nb0, r_there h.2.1, Option.bind_some]
    cases hb2 : hasI V.2 y with
    | false =>
      have e : jnA V.2 x y = (-1, V.2) := by unfold jnA; rw [if_pos (Or.inr hb2)]
      rw [if_pos (by rfl), e]
      dsimp only
      rw [op_f (by decide)]
      exact ⟨D, rfl, h, fun a _ => rfl⟩
    | true =>
      rw [if_neg nb0]
      have h0 : ¬ (hasI V.2 x = false ∨ hasI V.2 y = false) := by rw [hb, hb2]; exact ntff
      by_cases hxy : x = y
      · have e : jnA V.2 x y = (-2, V.2) := by unfold jnA; rw [if_neg h0, if_pos hxy]
        rw [if_pos hxy, e]
        dsimp only
        rw [op_f (by decide)]
        exact ⟨D, rfl, h, fun a _ => rfl⟩
      · obtain ⟨i, hi, rfl, ht⟩ := hasI_spec hb
        obtain ⟨j, hj, rfl, ht2⟩ := hasI_spec hb2
        have ho := r_isOneHouse (w := w) (l := 0) (by omega) h.2.1.2 hi hj
        have hcj := r_canJoin (w := w) (l := 0) (x := nI i) (y := nI j) (by omega) h.2.1.1 h.2.1.2
        have hne : i ≠ j := fun q => hxy (by rw [q])
        rw [nI_0] at ho hcj
        rw [if_neg hxy, ho, Option.bind_some]
        by_cases hh : (V.2.getD i d0).1 = (V.2.getD j d0).1
        · rw [decide_eq_true hh, if_neg nb0, hcj, Option.bind_some]
          have gi : gt V.2 (nI i) = V.2.getD i d0 := by unfold gt; rw [nI_clamp (by omega)]
          have gj : gt V.2 (nI j) = V.2.getD j d0 := by unfold gt; rw [nI_clamp (by omega)]
          by_cases h12 : (joinL (V.2.getD i d0).2.2 (V.2.getD j d0).2.2).length ≤ 12
          · have hc : cjB V.2 (nI i) (nI j) = true := by
              unfold cjB
              rw [hb, hb2, gi, gj, decide_eq_true hh, decide_eq_true h12, decide_eq_false hxy]
              rfl
            have e : jnA V.2 (nI i) (nI j) = (nI (joinL (V.2.getD i d0).2.2 (V.2.getD j d0).2.2).length, (V.2.set i ((V.2.getD i d0).1, (V.2.getD i d0).2.1, joinL (V.2.getD i d0).2.2 (V.2.getD j d0).2.2)).set j ((V.2.getD j d0).1, (V.2.getD j d0).2.1, [])) := by
              unfold jnA
              rw [if_neg h0, if_neg hxy, nI_clamp (by omega), nI_clamp (by omega), if_neg (fun q => q hh), if_neg (by omega)]
            obtain ⟨D1, g1, g2, g3, g4, g5⟩ := r_keepAct (w := w) h
            obtain ⟨D2, k1, k2, k3⟩ := r_joinOn (w := w) (l := 0) (by omega) g2.2.1.2 hi hj hne h12
            have hm := (k2.2.2 i (by simpa using hi)).2.2.1
            dsimp only at hm
            rw [getD_set (by simpa using hj), if_neg hne, getD_self hi, Nat.mul_zero, Nat.zero_add] at hm
            rw [nI_0] at k1
            rw [hc, if_neg nb0, g1, Option.bind_some, k1, Option.bind_some, eF_272_2, Option.bind_some, show (4 : Int32) + nI i = nI (4 + i) from by rw [← nI_4, nI_add], nw_at (by omega), Option.bind_some, hm, e]
            dsimp only
            rw [op_t (nI_pos (by omega))]
            exact ⟨_, rfl, g2.lv0 (by simp) k3 k2, fun a ha => by rw [k3.1 a (by omega), g3 a ha]⟩
          · have hc : cjB V.2 (nI i) (nI j) = false := by
              unfold cjB
              rw [gi, gj, decide_eq_false h12, Bool.and_false]
            have e : jnA V.2 (nI i) (nI j) = (-4, V.2) := by
              unfold jnA
              rw [if_neg h0, if_neg hxy, nI_clamp (by omega), nI_clamp (by omega), if_neg (fun q => q hh), if_pos (by omega)]
            rw [hc, if_pos (by rfl), e]
            dsimp only
            rw [op_f (by decide)]
            exact ⟨D, rfl, h, fun a _ => rfl⟩
        · have e : jnA V.2 (nI i) (nI j) = (-3, V.2) := by
            unfold jnA
            rw [if_neg h0, if_neg hxy, nI_clamp (by omega), nI_clamp (by omega), if_pos hh]
          rw [decide_eq_false hh, if_pos (by rfl), e]
          dsimp only
          rw [op_f (by decide)]
          exact ⟨D, rfl, h, fun a _ => rfl⟩
end R6
