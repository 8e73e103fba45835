/-! ===== the reference: undo, trials, slots, counts ===== -/
section R7
variable {w : mW} {D : mD} {l i : Nat} {tx : List Int32} {V : tV} {A : List tV} {K : Nat → Option tV} {bd : List Int32} {L : List (Int32 × Int32)}
theorem nI_13 : nI 13 = 13 := by decide +kernel
theorem getD_dropLastV {A : List tV} {j : Nat} (h : j < A.length - 1) : A.dropLast.getD j e0 = A.getD j e0 := by
  rw [List.getD_eq_getElem?_getD, List.getD_eq_getElem?_getD, List.getElem?_dropLast, if_pos h]
theorem r_undo_c36 {nx n : Nat} (hnx : nx < 14) : ∀ (k j fuel : Nat) (D : mD), j + k = 57 → k < fuel → D 272 14 = nI nx → D 272 13 = nI n → ∃ D', fX8_undo_c36 fuel (Y w D) 272 (nI j) = some (nI n, Y w D') ∧ (∀ q, j ≤ q → q < 57 → D' 274 q = D 280 (57 * nx + q)) ∧ (∀ q, (q < j ∨ 57 ≤ q) → D' 274 q = D 274 q) ∧ (∀ a, a ≠ 274 → D' a = D a) := by
  intro k
  induction k with
  | zero =>
    intro j fuel D hj hf h1 h2
    obtain ⟨f, rfl, hf⟩ := fu hf
    rw [fX8_undo_c36.eq_2, ← nI_57, il_t (by omega) (by omega), eF_272_13, Option.bind_some, h2]
    exact ⟨D, rfl, fun q h1 h2 => by omega, fun q _ => rfl, fun a _ => rfl⟩
  | succ k ih =>
    intro j fuel D hj hf h1 h2
    obtain ⟨f, rfl, hf⟩ := fu hf
    rw [fX8_undo_c36.eq_2, ← nI_57, il_f (by omega) (by omega), eF_272_2, Option.bind_some, eF_272_15, Option.bind_some, eF_272_14, Option.bind_some, h1, pk_mul, nI_add, rw_at2 (by omega), Option.bind_some, nw_st (by omega), Option.bind_some, nI_1]
    obtain ⟨D', g1, g2, g3, g4⟩ := ih (j + 1) f (ud D 274 j (D 280 (57 * nx + j))) (by omega) (by omega) (by rw [ud_r (by omega)]; exact h1) (by rw [ud_r (by omega)]; exact h2)
    refine ⟨D', g1, fun q h1 h2 => ?_, fun q hq => by rw [g3 q (by omega), ud_n (by omega)], fun a ha => by rw [g4 a ha, ud_r ha]⟩
    by_cases hqj : q = j
    · subst hqj
      rw [g3 q (by omega), ud_s]
    · rw [g2 q (by omega) h2, ud_r (by omega)]
theorem r_undo (h : RI D tx V A K bd L) : ∃ D', fX8_undo (Y w D) 272 = some ((if A.length = 0 then -3 else nI (A.length - 1)), Y w D') ∧ RI D' tx (if A.length = 0 then V else A.getD (A.length - 1) e0) A.dropLast K bd L ∧ ∀ a, a < 272 → D' a = D a := by
  obtain ⟨c1, c2, c3, c4, c5, c6⟩ := id h
  obtain ⟨q1, q2, nx, q3, q4, q5⟩ := id c3
  unfold fX8_undo
  rw [if_pos eO_272, eF_272_13, Option.bind_some, q1]
  by_cases h0 : A.length = 0
  · have hA : A = [] := List.eq_nil_of_length_eq_zero h0
    subst hA
    rw [if_pos (by rfl)]
    exact ⟨D, rfl, h, fun a _ => rfl⟩
  · obtain ⟨n, hn⟩ : ∃ n, A.length = n + 1 := ⟨A.length - 1, by omega⟩
    rw [if_neg (nI_ne0 (by omega) (by omega)), if_neg h0, if_neg h0, Option.bind_some, hn, nI_pred, eS_272_13, Option.bind_some, eF_272_14, Option.bind_some, ud_n (by omega), q4, ← nI_13, nI_add, rem14 (by omega), eS_272_14, Option.bind_some, ← nI_0, show n + 1 - 1 = n by omega]
    have hm : ∀ b : Nat, b % 14 < 14 := fun b => Nat.mod_lt b (by omega)
    obtain ⟨D', g1, g2, g3, g4⟩ := r_undo_c36 (w := w) (n := n) (hm (nx + 13)) 57 0 FUEL (ud (ud D 272 13 (nI n)) 272 14 (nI ((nx + 13) % 14))) (by omega) (FU (by omega)) ud_s (by rw [ud_n (by omega), ud_s])
    have f1 : ∀ a, a ≠ 274 → a ≠ 272 → D' a = D a := fun a h1 h2 => by rw [g4 a h1, ud_r h2, ud_r h2]
    have f2 : ∀ k, k ≠ 13 → k ≠ 14 → D' 272 k = D 272 k := fun k h1 h2 => by rw [g4 272 (by omega), ud_n (by omega), ud_n (by omega)]
    obtain ⟨p1, p2⟩ := q5 n (by omega)
    rw [hn, show (nx + 14 - (n + 1) + n) % 14 = (nx + 13) % 14 by omega] at p2
    have f3 := f1 273 (by omega) (by omega)
    refine ⟨D', g1, ⟨c1.kept (f2 8 (by omega) (by omega)) (f1 278 (by omega) (by omega)), ⟨by rw [f2 0 (by omega) (by omega), p1]; exact c2.1, ?_⟩, ?_, ?_, c5.kept (f2 11 (by omega) (by omega)) (f1 279 (by omega) (by omega)), c6.kept (f2 18 (by omega) (by omega)) (f1 282 (by omega) (by omega)) (f1 283 (by omega) (by omega))⟩, fun a ha => f1 a (by omega) (by omega)⟩
    · exact p2.kept (fun k hk => by rw [Nat.mul_zero, Nat.zero_add, g2 k (by omega) hk, ud_r (by omega), ud_r (by omega)]) (fun i _ => by rw [f3])
    · rw [p1]
      refine ⟨by rw [g4 272 (by omega), ud_n (by omega), ud_s, List.length_dropLast, hn]; rfl, by rw [List.length_dropLast]; omega, (nx + 13) % 14, hm _, by rw [g4 272 (by omega), ud_s], fun i hi => ?_⟩
      rw [List.length_dropLast, hn] at hi
      rw [getD_dropLastV (by omega), List.length_dropLast, hn, f3, f1 280 (by omega) (by omega)]
      have := q5 i (by omega)
      rw [hn] at this
      rw [show ((nx + 13) % 14 + 14 - (n + 1 - 1) + i) % 14 = (nx + 14 - (n + 1) + i) % 14 by omega]
      exact this
    · rw [p1]; exact c4.kept (f1 284 (by omega) (by omega)) f3 (f1 285 (by omega) (by omega))
/-! the trial -/
theorem r_layTrial_c2 : ∀ (k j fuel : Nat) (D : mD), j + k = 57 → k < fuel → ∃ D', fX8_layTrial_c2 fuel (Y w D) 272 (nI j) = some (Y w D') ∧ (∀ q, j ≤ q → q < 57 → D' 274 (57 + q) = D 274 q) ∧ (∀ q, (q < 57 + j) → D' 274 q = D 274 q) ∧ (∀ q, 114 ≤ q → D' 274 q = D 274 q) ∧ (∀ a, a ≠ 274 → D' a = D a) := by
  intro k
  induction k with
  | zero =>
    intro j fuel D hj hf
    obtain ⟨f, rfl, hf⟩ := fu hf
    rw [fX8_layTrial_c2.eq_2, ← nI_57, il_t (by omega) (by omega)]
    exact ⟨D, rfl, fun q h1 h2 => by omega, fun q _ => rfl, fun q _ => rfl, fun a _ => rfl⟩
  | succ k ih =>
    intro j fuel D hj hf
    obtain ⟨f, rfl, hf⟩ := fu hf
    rw [fX8_layTrial_c2.eq_2, ← nI_57, il_f (by omega) (by omega), eF_272_2, Option.bind_some, Option.bind_some, nw_at (by omega), Option.bind_some, nI_add, nw_st (by omega), Option.bind_some, nI_1]
    obtain ⟨D', g1, g2, g3, g5, g4⟩ := ih (j + 1) f (ud D 274 (57 + j) (D 274 j)) (by omega) (by omega)
    refine ⟨D', g1, fun q h1 h2 => ?_, fun q hq => by rw [g3 q (by omega), ud_n (by omega)], fun q hq => by rw [g5 q hq, ud_n (by omega)], fun a ha => by rw [g4 a ha, ud_r ha]⟩
    by_cases hqj : q = j
    · subst hqj
      rw [g3 _ (by omega), ud_s]
    · rw [g2 q (by omega) h2, ud_n (by omega)]
theorem r_layTrial (h : NwD (D 274) (D 273) (57 * 0) V) : ∃ D', fX8_layTrial (Y w D) 272 = some (Y w D') ∧ NwD (D' 274) (D' 273) (57 * 1) V ∧ LvF 1 D D' := by
  unfold fX8_layTrial
  rw [if_pos eO_272, ← nI_0]
  obtain ⟨D', g1, g2, g3, g5, g4⟩ := r_layTrial_c2 (w := w) 57 0 FUEL D (by omega) (FU (by omega))
  exact ⟨D', g1, h.kept (fun k hk => by rw [Nat.mul_one, Nat.mul_zero, Nat.zero_add, g2 k (by omega) hk]) (fun i _ => by rw [g4 273 (by omega)]), g4, fun k hk => by
    by_cases hk2 : k < 57
    · exact g3 k (by omega)
    · exact g5 k (by omega)⟩
theorem r_later_c32 {N : Nat} (hN : N < 1000) : ∀ (k j fuel : Nat) (D : mD) (U : tV), j + k = N → k < fuel → i < U.2.length → D 272 0 = nI U.2.length → NwD (D 274) (D 273) (57 * 1) U → gW U.2 → ∃ D', fX8_later_c32 fuel (Y w D) 272 (nI i) (nI N) (nI j) = some (nI ((winN k U.2).getD i d0).2.2.length, Y w D') ∧ LvF 1 D D' := by
  intro k
  induction k with
  | zero =>
    intro j fuel D U hj hf hi hn h hg
    obtain ⟨f, rfl, hf⟩ := fu hf
    have q2 := h.2.1
    have hm := (h.2.2 i hi).2.2.1
    rw [fX8_later_c32.eq_2, il_t (by omega) (by omega), eF_272_2, Option.bind_some, ← nI_61, nI_add, nw_at (by omega), Option.bind_some, show 61 + i = 57 * 1 + 4 + i by omega, hm]
    exact ⟨D, rfl, LvF.rf⟩
  | succ k ih =>
    intro j fuel D U hj hf hi hn h hg
    obtain ⟨f, rfl, hf⟩ := fu hf
    obtain ⟨D1, k1, k2, k3⟩ := r_passOn (w := w) (l := 1) (by omega) hn h hg.oKd
    rw [nI_n1] at k1
    rw [fX8_later_c32.eq_2, il_f (by omega) (by omega), k1, Option.bind_some, nI_1]
    obtain ⟨D', g1, g2⟩ := ih (j + 1) f D1 (U.1 + 1, win U.2) (by omega) (by omega) (by dsimp only; rw [win_len]; exact hi) (by dsimp only; rw [win_len, k3.1 272 (by omega)]; exact hn) k2 hg.oWin
    exact ⟨D', g1, k3.tr g2⟩
theorem lt_20 {y : Int32} : (20 : Int32) < y ↔ ¬ y ≤ 20 := Int32.not_le.symm
theorem r_later {x y : Int32} (h : RI D tx V A K bd L) (hg : gW V.2) : ∃ D', fX8_later (Y w D) 272 x y = some (ltA V.2 x y, Y w D') ∧ RI D' tx V A K bd L ∧ ∀ a, a < 272 → D' a = D a := by
  unfold fX8_later ltA
  rw [if_pos eO_272, r_there h.2.1, Option.bind_some, d64 (lo := 0) (hi := 20) (by decide) (by decide), Option.bind_some]
  have q2 := h.2.1.2.2.1
  cases hb : hasI V.2 x with
  | false =>
    rw [if_pos rfl, if_pos (by rfl)]
    exact ⟨D, rfl, h, fun a _ => rfl⟩
  | true =>
    obtain ⟨i, hi, rfl, ht⟩ := hasI_spec hb
    rw [if_neg nb0, if_neg ntf]
    by_cases hy : y < 0 ∨ ¬ y ≤ 20
    · rw [if_pos hy, if_pos]
      · exact ⟨D, rfl, h, fun a _ => rfl⟩
      · rw [b2i_0, decide_eq_false_iff_not]
        rintro ⟨p1, p2⟩
        rcases hy with q | q
        · exact p1 q
        · exact p2 (lt_20.mpr q)
    · have hy1 : ¬ y < 0 := fun q => hy (Or.inl q)
      obtain ⟨j, hj, rfl⟩ := nI_of hy1
      have hj2 : j ≤ 20 := by
        refine (nI_leI hj (by omega)).mp ?_
        rw [nI_20]
        exact Int32.not_lt.mp (fun q => hy (Or.inr (lt_20.mp q)))
      obtain ⟨D1, g1, g2, g3⟩ := r_layTrial (w := w) h.2.1.2
      obtain ⟨D', k1, k2⟩ := r_later_c32 (w := w) (i := i) (N := j) (by omega) j 0 FUEL D1 V (by omega) (FU (by omega)) hi (by rw [g3.1 272 (by omega)]; exact h.2.1.1) g2 hg
      rw [nI_0] at k1
      rw [if_neg hy, if_neg, g1, Option.bind_some, k1, nI_clamp hj, nI_clamp (by omega)]
      · exact ⟨D', rfl, h.scr (RFr.lv1 (g3.tr k2)), fun a ha => (g3.tr k2).1 a (by omega)⟩
      · rw [b2i_0, decide_eq_false_iff_not]
        intro q
        exact q ⟨hy1, fun q2 => hy (Or.inr (lt_20.mp q2))⟩
theorem nI_21 : nI 21 = 21 := by decide +kernel
theorem r_lasts_c17 : ∀ (k j fuel : Nat) (D : mD) (U : tV), j + k = 21 → k < fuel → i < U.2.length → D 272 0 = nI U.2.length → NwD (D 274) (D 273) (57 * 1) U → gW U.2 → ∃ D', fX8_lasts_c17 fuel (Y w D) 272 (nI i) (nI j) = some (lasF i j k U.2, Y w D') ∧ LvF 1 D D' := by
  intro k
  induction k with
  | zero =>
    intro j fuel D U hj hf hi hn h hg
    obtain ⟨f, rfl, hf⟩ := fu hf
    rw [fX8_lasts_c17.eq_2, ← nI_21, il_t (by omega) (by omega)]
    exact ⟨D, rfl, LvF.rf⟩
  | succ k ih =>
    intro j fuel D U hj hf hi hn h hg
    obtain ⟨f, rfl, hf⟩ := fu hf
    have q2 := h.2.1
    obtain ⟨D1, k1, k2, k3⟩ := r_passOn (w := w) (l := 1) (by omega) hn h hg.oKd
    have hn1 : D1 272 0 = nI (win U.2).length := by rw [win_len, k3.1 272 (by omega)]; exact hn
    have hth := r_isThere (w := w) (l := 1) (x := nI i) (by omega) hn1 k2
    rw [nI_n1] at k1 hth
    dsimp only at hth
    rw [hasI_nI (by omega)] at hth
    rw [fX8_lasts_c17.eq_2, ← nI_21, il_f (by omega) (by omega), k1, Option.bind_some]
    dsimp only
    rw [hth, Option.bind_some, nI_1]
    cases hb : there (win U.2) i with
    | false =>
      rw [if_pos (by rfl), lasF, hb, if_neg (by decide)]
      exact ⟨D1, rfl, k3⟩
    | true =>
      rw [if_neg nb0, lasF, hb, if_pos rfl]
      obtain ⟨D', g1, g2⟩ := ih (j + 1) f D1 (U.1 + 1, win U.2) (by omega) (by omega) (by dsimp only; rw [win_len]; exact hi) hn1 k2 hg.oWin
      exact ⟨D', g1, k3.tr g2⟩
theorem r_lasts {x : Int32} (h : RI D tx V A K bd L) (hg : gW V.2) : ∃ D', fX8_lasts (Y w D) 272 x = some (lsA V.2 x, Y w D') ∧ RI D' tx V A K bd L ∧ ∀ a, a < 272 → D' a = D a := by
  unfold fX8_lasts lsA
  rw [if_pos eO_272, r_there h.2.1, Option.bind_some]
  have q2 := h.2.1.2.2.1
  cases hb : hasI V.2 x with
  | false =>
    rw [if_pos rfl, if_pos (by rfl)]
    exact ⟨D, rfl, h, fun a _ => rfl⟩
  | true =>
    obtain ⟨i, hi, rfl, ht⟩ := hasI_spec hb
    obtain ⟨D1, g1, g2, g3⟩ := r_layTrial (w := w) h.2.1.2
    obtain ⟨D', k1, k2⟩ := r_lasts_c17 (w := w) (i := i) 20 1 FUEL D1 V (by omega) (FU (by omega)) hi (by rw [g3.1 272 (by omega)]; exact h.2.1.1) g2 hg
    rw [if_neg nb0, if_neg ntf, g1, Option.bind_some, ← nI_n1, k1, nI_clamp (by omega)]
    exact ⟨D', rfl, h.scr (RFr.lv1 (g3.tr k2)), fun a ha => (g3.tr k2).1 a (by omega)⟩
/-! slots -/
theorem kp_at {k : Nat} (h : k < 114) : aI (Y w D) false 285 (nI k) = some (D 285 k) := Y_aI kA_285 h
theorem kp_st {k : Nat} {v : Int32} (h : k < 114) : aS (Y w D) false 285 (nI k) v = some (Y w (ud D 285 k v)) := Y_aS kA_285 h
theorem r_keep_c21 {s : Nat} (hs : s < 2) : ∀ (k j fuel : Nat) (D : mD), j + k = 57 → k < fuel → ∃ D', fX8_keep_c21 fuel (Y w D) 272 (nI s) (nI j) = some (D 274 56, Y w D') ∧ (∀ q, j ≤ q → q < 57 → D' 285 (57 * s + q) = D 274 q) ∧ (∀ q, (q < 57 * s + j ∨ 57 * s + 57 ≤ q) → D' 285 q = D 285 q) ∧ (∀ a, a ≠ 285 → D' a = D a) := by
  intro k
  induction k with
  | zero =>
    intro j fuel D hj hf
    obtain ⟨f, rfl, hf⟩ := fu hf
    rw [fX8_keep_c21.eq_2, ← nI_57, il_t (by omega) (by omega), eF_272_2, Option.bind_some, ← nI_56, nw_at (by omega), Option.bind_some]
    exact ⟨D, rfl, fun q h1 h2 => by omega, fun q _ => rfl, fun a _ => rfl⟩
  | succ k ih =>
    intro j fuel D hj hf
    obtain ⟨f, rfl, hf⟩ := fu hf
    rw [fX8_keep_c21.eq_2, ← nI_57, il_f (by omega) (by omega), eF_272_23, Option.bind_some, eF_272_2, Option.bind_some, nw_at (by omega), Option.bind_some, pk_mul, nI_add, kp_st (by omega), Option.bind_some, nI_1]
    obtain ⟨D', g1, g2, g3, g4⟩ := ih (j + 1) f (ud D 285 (57 * s + j) (D 274 j)) (by omega) (by omega)
    rw [ud_r (by omega)] at g1
    refine ⟨D', g1, fun q h1 h2 => ?_, fun q hq => by rw [g3 q (by omega), ud_n (by omega)], fun a ha => by rw [g4 a ha, ud_r ha]⟩
    by_cases hqj : q = j
    · subst hqj
      rw [g3 _ (by omega), ud_s]
    · rw [g2 q (by omega) h2, ud_r (by omega)]
theorem r_keep {x : Int32} (h : RI D tx V A K bd L) : ∃ D', fX8_keep (Y w D) 272 x = some ((if x = 0 ∨ x = 1 then V.1 else -1), Y w D') ∧ RI D' tx V A (if x = 0 then setK K 0 V else if x = 1 then setK K 1 V else K) bd L ∧ ∀ a, a < 272 → D' a = D a := by
  obtain ⟨c1, c2, c3, c4, c5, c6⟩ := id h
  unfold fX8_keep
  rw [if_pos eO_272, d64 (lo := 0) (hi := 1) (by decide) (by decide), Option.bind_some]
  by_cases hx : x = 0 ∨ x = 1
  · obtain ⟨s, hs, rfl, hK⟩ : ∃ s, s < 2 ∧ x = nI s ∧ (if x = 0 then setK K 0 V else if x = 1 then setK K 1 V else K) = setK K s V := by
      rcases hx with rfl | rfl
      · exact ⟨0, by omega, by decide, by rw [if_pos rfl]⟩
      · exact ⟨1, by omega, by decide, by rw [if_neg (by decide), if_pos rfl]⟩
    rw [if_pos hx, hK, if_neg, eF_272_22, Option.bind_some, Y_aS kA_284 (by omega), Option.bind_some, ← nI_0]
    · obtain ⟨D', g1, g2, g3, g4⟩ := r_keep_c21 (w := w) hs 57 0 FUEL (ud D 284 s (mzb 1)) (by omega) (FU (by omega))
      have hy : ud D 284 s (mzb 1) 274 56 = V.1 := by rw [ud_r (by omega)]; exact c2.2.1
      rw [hy] at g1
      have f1 : ∀ a, a ≠ 285 → a ≠ 284 → D' a = D a := fun a h1 h2 => by rw [g4 a h1, ud_r h2]
      have f3 := f1 273 (by omega) (by omega)
      refine ⟨D', g1, ⟨c1.kept (by rw [f1 272 (by omega) (by omega)]) (f1 278 (by omega) (by omega)), c2.kept (by rw [f1 272 (by omega) (by omega)]) f3 (fun k _ => by rw [f1 274 (by omega) (by omega)]), c3.kept (by rw [f1 272 (by omega) (by omega)]) (by rw [f1 272 (by omega) (by omega)]) f3 (f1 280 (by omega) (by omega)), fun q hq => ?_, c5.kept (by rw [f1 272 (by omega) (by omega)]) (f1 279 (by omega) (by omega)), c6.kept (by rw [f1 272 (by omega) (by omega)]) (f1 282 (by omega) (by omega)) (f1 283 (by omega) (by omega))⟩, fun a ha => f1 a (by omega) (by omega)⟩
      rw [g4 284 (by omega), f3]
      by_cases hqs : q = s
      · subst hqs
        refine ⟨by rw [ud_s, show (setK K q V q).isSome = true from by simp [setK]]; rfl, fun U hU => ?_⟩
        have : V = U := by simpa [setK] using hU
        subst this
        exact ⟨rfl, c2.2.kept (fun k hk => by rw [g2 k (by omega) hk, ud_r (by omega), Nat.mul_zero, Nat.zero_add]) (fun i _ => rfl)⟩
      · have e : setK K s V q = K q := by simp [setK, hqs]
        rw [e, ud_n (by omega)]
        refine ⟨(c4 q hq).1, fun U hU => ?_⟩
        obtain ⟨p1, p2⟩ := (c4 q hq).2 U hU
        exact ⟨p1, p2.kept (fun k hk => by rw [g3 _ (by omega), ud_r (by omega)]) (fun i _ => rfl)⟩
    · rw [b2i_0, decide_eq_false_iff_not]
      intro q
      exact q ⟨(in01.mpr hx).1, Int32.not_lt.mpr (in01.mpr hx).2⟩
  · have h0 : ¬ x = 0 := fun q => hx (Or.inl q)
    have h1 : ¬ x = 1 := fun q => hx (Or.inr q)
    rw [if_pos, if_neg hx, if_neg h0, if_neg h1]
    · exact ⟨D, rfl, h, fun a _ => rfl⟩
    · rw [b2i_0, decide_eq_false_iff_not]
      rintro ⟨q1, q2⟩
      exact hx (in01.mp ⟨q1, Int32.not_lt.mp q2⟩)
theorem r_again_c26 {s : Nat} (hs : s < 2) : ∀ (k j fuel : Nat) (D : mD), j + k = 57 → k < fuel → ∃ D', fX8_again_c26 fuel (Y w D) 272 (nI s) (nI j) = some (D' 274 56, Y w D') ∧ (∀ q, j ≤ q → q < 57 → D' 274 q = D 285 (57 * s + q)) ∧ (∀ q, (q < j) → D' 274 q = D 274 q) ∧ D' 272 13 = 0 ∧ (∀ q, q ≠ 13 → D' 272 q = D 272 q) ∧ (∀ a, a ≠ 274 → a ≠ 272 → D' a = D a) := by
  intro k
  induction k with
  | zero =>
    intro j fuel D hj hf
    obtain ⟨f, rfl, hf⟩ := fu hf
    rw [fX8_again_c26.eq_2, ← nI_57, il_t (by omega) (by omega), eS_272_13, Option.bind_some, eF_272_2, Option.bind_some, ← nI_56, nw_at (by omega), Option.bind_some]
    exact ⟨_, rfl, fun q h1 h2 => by omega, fun q _ => by rw [ud_r (by omega)], ud_s, fun q hq => ud_n (by omega), fun a h1 h2 => ud_r h2⟩
  | succ k ih =>
    intro j fuel D hj hf
    obtain ⟨f, rfl, hf⟩ := fu hf
    rw [fX8_again_c26.eq_2, ← nI_57, il_f (by omega) (by omega), eF_272_2, Option.bind_some, eF_272_23, Option.bind_some, pk_mul, nI_add, kp_at (by omega), Option.bind_some, nw_st (by omega), Option.bind_some, nI_1]
    obtain ⟨D', g1, g2, g3, g4, g5, g6⟩ := ih (j + 1) f (ud D 274 j (D 285 (57 * s + j))) (by omega) (by omega)
    refine ⟨D', g1, fun q h1 h2 => ?_, fun q hq => by rw [g3 q (by omega), ud_n (by omega)], g4, fun q hq => by rw [g5 q hq, ud_r (by omega)], fun a h1 h2 => by rw [g6 a h1 h2, ud_r h1]⟩
    by_cases hqj : q = j
    · subst hqj
      rw [g3 _ (by omega), ud_s]
    · rw [g2 q (by omega) h2, ud_r (by omega)]
theorem r_again {x : Int32} (h : RI D tx V A K bd L) : ∃ D', fX8_again (Y w D) 272 x = some ((if x = 0 ∨ x = 1 then (match slotK K x with | some U => U.1 | none => -3) else -1), Y w D') ∧ (match slotK K x with | some U => RI D' tx U [] K bd L | none => RI D' tx V A K bd L) ∧ ∀ a, a < 272 → D' a = D a := by
  obtain ⟨c1, c2, c3, c4, c5, c6⟩ := id h
  unfold fX8_again
  rw [if_pos eO_272, d64 (lo := 0) (hi := 1) (by decide) (by decide), Option.bind_some]
  by_cases hx : x = 0 ∨ x = 1
  · obtain ⟨s, hs, rfl, hK⟩ : ∃ s, s < 2 ∧ x = nI s ∧ slotK K x = K s := by
      rcases hx with rfl | rfl
      · exact ⟨0, by omega, by decide, by unfold slotK; rw [if_pos rfl]⟩
      · exact ⟨1, by omega, by decide, by unfold slotK; rw [if_neg (by decide), if_pos rfl]⟩
    rw [if_pos hx, hK, if_neg, eF_272_22, Option.bind_some, Y_aI kA_284 (by omega), Option.bind_some, (c4 s hs).1]
    · cases hk : K s with
      | none =>
        rw [if_pos (by rfl)]
        exact ⟨D, rfl, h, fun a _ => rfl⟩
      | some U =>
        obtain ⟨p1, p2⟩ := (c4 s hs).2 U hk
        rw [if_neg (by exact nb0), ← nI_0]
        obtain ⟨D', g1, g2, g3, g4, g5, g6⟩ := r_again_c26 (w := w) hs 57 0 FUEL D (by omega) (FU (by omega))
        have f3 := g6 273 (by omega) (by omega)
        have hV : NwD (D' 274) (D' 273) (57 * 0) U := p2.kept (fun k hk => by rw [Nat.mul_zero, Nat.zero_add, g2 k (by omega) hk]) (fun i _ => by rw [f3])
        have hy : D' 274 56 = U.1 := hV.1
        rw [hy] at g1
        refine ⟨D', g1, ⟨c1.kept (g5 8 (by omega)) (g6 278 (by omega) (by omega)), ⟨by rw [g5 0 (by omega), p1]; exact c2.1, hV⟩, ?_, by rw [p1]; exact c4.kept (g6 284 (by omega) (by omega)) f3 (g6 285 (by omega) (by omega)), c5.kept (g5 11 (by omega)) (g6 279 (by omega) (by omega)), c6.kept (g5 18 (by omega)) (g6 282 (by omega) (by omega)) (g6 283 (by omega) (by omega))⟩, fun a ha => g6 a (by omega) (by omega)⟩
        obtain ⟨q1, q2, nx, q3, q4, q5⟩ := id c3
        exact ⟨by rw [g4]; rfl, by simp, nx, q3, by rw [g5 14 (by omega)]; exact q4, fun i hi => by simp at hi⟩
    · rw [b2i_0, decide_eq_false_iff_not]
      intro q
      exact q ⟨(in01.mpr hx).1, Int32.not_lt.mpr (in01.mpr hx).2⟩
  · have h0 : ¬ x = 0 := fun q => hx (Or.inl q)
    have h1 : ¬ x = 1 := fun q => hx (Or.inr q)
    have hK : slotK K x = none := by unfold slotK; rw [if_neg h0, if_neg h1]
    rw [if_pos, if_neg hx, hK]
    · exact ⟨D, rfl, h, fun a _ => rfl⟩
    · rw [b2i_0, decide_eq_false_iff_not]
      rintro ⟨q1, q2⟩
      exact hx (in01.mp ⟨q1, Int32.not_lt.mp q2⟩)
/-! counts -/
theorem r_bendsOfAll_c4 (hl : l < 2) (hn : D 272 0 = nI V.2.length) (h : NwD (D 274) (D 273) (57 * l) V) : ∀ (k j fuel a : Nat), j + k = V.2.length → k < fuel → fX8_bendsOfAll_c4 (Y w D) fuel 272 (nI l) (nI a) (nI j) = some (nI (sumF V.2 j k a)) := by
  have q2 := h.2.1
  intro k
  induction k with
  | zero =>
    intro j fuel a hj hf
    obtain ⟨f, rfl, hf⟩ := fu hf
    rw [fX8_bendsOfAll_c4.eq_2, eF_272_0, Option.bind_some, hn, il_t (by omega) (by omega)]
    rfl
  | succ k ih =>
    intro j fuel a hj hf
    obtain ⟨f, rfl, hf⟩ := fu hf
    rw [fX8_bendsOfAll_c4.eq_2, eF_272_0, Option.bind_some, hn, il_f (by omega) (by omega), eF_272_2, Option.bind_some, ix4, nw_at (by omega), Option.bind_some, (h.2.2 j (by omega)).2.2.1, nI_add, nI_1, ih (j + 1) f _ (by omega) (by omega)]
    rfl
theorem r_bendsOfAll (hl : l < 2) (hn : D 272 0 = nI V.2.length) (h : NwD (D 274) (D 273) (57 * l) V) : fX8_bendsOfAll (Y w D) 272 (nI l) = some (nI (sumF V.2 0 V.2.length 0)) := by
  have q2 := h.2.1
  unfold fX8_bendsOfAll
  have := r_bendsOfAll_c4 (w := w) hl hn h V.2.length 0 FUEL 0 (by omega) (FU (by omega))
  rw [nI_0] at this
  rw [if_pos eO_272, this]
def uhF (ss : List tS) : Nat → Nat → Int32 → Int32
  | _, 0, a => a
  | j, k + 1, a => uhF ss (j + 1) k (if w4 (inB ss (nI j) 0) (inB ss (nI j) 1) (inB ss (nI j) 2) (inB ss (nI j) 3) = 0 then a ||| 0 else a ||| (1 <<< (nI j &&& 31)))
theorem r_usedHouses_c4 (hn : D 272 0 = nI V.2.length) (h : NwD (D 274) (D 273) (57 * 0) V) : ∀ (k j fuel : Nat) (a : Int32), j + k = 4 → k < fuel → fX8_usedHouses_c4 (Y w D) fuel 272 a (nI j) = some (uhF V.2 j k a) := by
  intro k
  induction k with
  | zero =>
    intro j fuel a hj hf
    obtain ⟨f, rfl, hf⟩ := fu hf
    rw [fX8_usedHouses_c4.eq_2, ← nI_4, il_t (by omega) (by omega)]
    rfl
  | succ k ih =>
    intro j fuel a hj hf
    obtain ⟨f, rfl, hf⟩ := fu hf
    have hin := r_inHouse (w := w) (x := nI j) (l := 0) (by omega) hn h
    rw [nI_0] at hin
    rw [fX8_usedHouses_c4.eq_2, ← nI_4, il_f (by omega) (by omega), hin, Option.bind_some, nI_1, ih (j + 1) f _ (by omega) (by omega), ih (j + 1) f _ (by omega) (by omega), uhF]
    split <;> rfl
def hs1 (a : Int32) (t : Bool) (h : Int32) : Int32 := if t = true then a ||| (1 <<< (h &&& 31)) else a ||| 0
def hx1 (a h : Int32) (t0 t1 t2 t3 : Bool) (h0 h1 h2 h3 : Int32) : Int32 := if w4 (t0 && decide (h0 = h)) (t1 && decide (h1 = h)) (t2 && decide (h2 = h)) (t3 && decide (h3 = h)) = 0 then a ||| 0 else a ||| (1 <<< (h &&& 31))
theorem hs_all : ∀ (t0 t1 t2 t3 : Bool) (h0 h1 h2 h3 : Fin 4), hs1 (hs1 (hs1 (hs1 0 t0 (nI h0.val)) t1 (nI h1.val)) t2 (nI h2.val)) t3 (nI h3.val) = hx1 (hx1 (hx1 (hx1 0 (nI 0) t0 t1 t2 t3 (nI h0.val) (nI h1.val) (nI h2.val) (nI h3.val)) (nI 1) t0 t1 t2 t3 (nI h0.val) (nI h1.val) (nI h2.val) (nI h3.val)) (nI 2) t0 t1 t2 t3 (nI h0.val) (nI h1.val) (nI h2.val) (nI h3.val)) (nI 3) t0 t1 t2 t3 (nI h0.val) (nI h1.val) (nI h2.val) (nI h3.val) := by decide +kernel
theorem f4_of {x : Int32} (h : x = 0 ∨ x = 1 ∨ x = 2 ∨ x = 3) : ∃ k : Fin 4, x = nI k.val := by
  rcases h with rfl | rfl | rfl | rfl
  · exact ⟨0, by decide⟩
  · exact ⟨1, by decide⟩
  · exact ⟨2, by decide⟩
  · exact ⟨3, by decide⟩
theorem hseF_out {ss : List tS} : ∀ (k j : Nat) (a : Int32), ss.length ≤ j → hseF ss j k a = a
  | 0, _, _, _ => rfl
  | k + 1, j, a, h => by
    rw [hseF, there_out h, if_neg (by decide), Int32.or_zero, hseF_out k (j + 1) a (by omega)]
theorem hseF_app {ss : List tS} : ∀ (k m j : Nat) (a : Int32), hseF ss j (k + m) a = hseF ss (j + k) m (hseF ss j k a)
  | 0, m, j, a => by rw [Nat.zero_add]; rfl
  | k + 1, m, j, a => by
    rw [show k + 1 + m = (k + m) + 1 by omega, hseF, hseF_app k m (j + 1), hseF, show j + 1 + k = j + (k + 1) by omega]
theorem hse4 {ss : List tS} (h : ss.length ≤ 4) : hseF ss 0 ss.length 0 = hseF ss 0 4 0 := by
  have := hseF_app (ss := ss) ss.length (4 - ss.length) 0 0
  rw [show ss.length + (4 - ss.length) = 4 by omega, hseF_out (4 - ss.length) (0 + ss.length) _ (by omega)] at this
  exact this.symm
theorem uh_hse {ss : List tS} (h : ss.length ≤ 4) (hg : gW ss) : uhF ss 0 4 0 = hseF ss 0 ss.length 0 := by
  rw [hse4 h]
  obtain ⟨h0, e0⟩ := f4_of (hg 0).1
  obtain ⟨h1, e1⟩ := f4_of (hg 1).1
  obtain ⟨h2, e2⟩ := f4_of (hg 2).1
  obtain ⟨h3, e3⟩ := f4_of (hg 3).1
  have := hs_all (there ss 0) (there ss 1) (there ss 2) (there ss 3) h0 h1 h2 h3
  simp only [uhF, hseF, inB, e0, e1, e2, e3]
  exact this.symm
theorem r_count {x : Int32} (h : RI D tx V A K bd L) (hg : gW V.2) : fX8_count (Y w D) 272 x = some (ctA tx V A bd L x) := by
  obtain ⟨c1, c2, c3, c4, c5, c6⟩ := id h
  have hsum := r_bendsOfAll (w := w) (l := 0) (by omega) c2.1 c2.2
  have hwho := r_whoIs (w := w) (l := 0) (by omega) c2.1 c2.2
  have huse : fX8_usedHouses (Y w D) 272 = some (hseF V.2 0 V.2.length 0) := by
    unfold fX8_usedHouses
    have := r_usedHouses_c4 (w := w) c2.1 c2.2 4 0 FUEL 0 (by omega) (FU (by omega))
    rw [nI_0] at this
    rw [if_pos eO_272, this, uh_hse c2.2.2.1 hg]
  rw [nI_0] at hsum hwho
  have hyr : D 274 56 = V.1 := c2.2.1
  have hy : aI (Y w D) false 274 56 = some V.1 := by rw [← nI_56, nw_at (by omega), hyr]
  unfold fX8_count ctA
  rw [if_pos eO_272]
  simp only [eF_272_8, eF_272_0, eF_272_2, eF_272_11, eF_272_13, eF_272_18, Option.bind_some, hsum, hwho, huse, hy, c1.1, c2.1, c3.1, c5.1, c6.1]
  repeat' split
  all_goals rfl
end R7
