/-! ===== a call on both sides ===== -/
section SP
variable {w : mW} {D : mD} {c : Nat}
theorem IN.up (h : IN w D c) : IN w D (c + 1) := by
  obtain ⟨tx, V, A, K, bd, L, hC, hR, hG, hs⟩ := h
  exact ⟨_, _, _, _, _, _, hC, hR, hG.up, hs⟩
theorem s_write {x : Int32} (h : IN w D c) (hc : c ≤ 2047) : ∃ x0 w1 D1 w2 D2, fX7_write (Y w D) 1 x = some (x0, Y w1 D1) ∧ fX8_write (Y w1 D1) 272 x = some (x0, Y w2 D2) ∧ w1.1 = w.1 ∧ w2.1 = w.1 ∧ IN w2 D2 (c + 1) := by
  obtain ⟨tx, V, A, K, bd, L, hC, hR, hG, hs⟩ := h
  obtain ⟨D1, a1, a2, a3⟩ := c_write (w := w) (x := x) hC
  obtain ⟨D2, b1, b2, b3⟩ := r_write (w := w) (x := x) (hR.cls a3)
  exact ⟨_, w, D1, w, D2, a1, b1, rfl, rfl, _, _, _, _, _, _, a2.ref b3, b2, ⟨hG.1.wr, hG.up.2⟩, hs⟩
theorem s_wipe (h : IN w D c) (hc : c ≤ 2047) : ∃ x0 w1 D1 w2 D2, fX7_wipe (Y w D) 1 = some (x0, Y w1 D1) ∧ fX8_wipe (Y w1 D1) 272 = some (x0, Y w2 D2) ∧ w1.1 = w.1 ∧ w2.1 = w.1 ∧ IN w2 D2 (c + 1) := by
  obtain ⟨tx, V, A, K, bd, L, hC, hR, hG, hs⟩ := h
  obtain ⟨D1, a1, a2, a3⟩ := c_wipe (w := w) hC
  obtain ⟨D2, b1, b2, b3⟩ := r_wipe (w := w) (hR.cls a3)
  exact ⟨_, w, D1, w, D2, a1, b1, rfl, rfl, _, _, _, _, _, _, a2.ref b3, b2, ⟨gT_nil, hG.up.2⟩, hs⟩
theorem s_fault (h : IN w D c) (hc : c ≤ 2047) : ∃ x0 D2, fX7_fault (Y w D) 1 = some x0 ∧ fX8_fault (Y w D) 272 = some (x0, Y w D2) ∧ IN w D2 (c + 1) := by
  obtain ⟨tx, V, A, K, bd, L, hC, hR, hG, hs⟩ := h
  obtain ⟨D2, b1, b2, b3⟩ := r_fault (w := w) hG.1 hR
  exact ⟨_, D2, c_faultC hC hG.1, b1, _, _, _, _, _, _, hC.ref b3, b2, hG.up, hs⟩
theorem s_valley (h : IN w D c) (hc : c ≤ 2047) : ∃ x0 w1 D1 w2 D2, fX7_valley (Y w D) 1 = some (x0, Y w1 D1) ∧ fX8_valley (Y w1 D1) 272 = some (x0, Y w2 D2) ∧ w1.1 = w.1 ∧ w2.1 = w.1 ∧ IN w2 D2 (c + 1) := by
  obtain ⟨tx, V, A, K, bd, L, hC, hR, hG, hs⟩ := h
  obtain ⟨D1, a1, a2, a3⟩ := c_valley (w := w) hC hG.1
  obtain ⟨D2, b1, b2, b3⟩ := r_valley (w := w) hG.1 (hR.cls a3)
  by_cases ht : (txR tx).1 = none
  · rw [if_pos ht] at a2 b2
    exact ⟨_, w, D1, w, D2, a1, b1, rfl, rfl, _, _, _, _, _, _, a2.ref b3, b2, ⟨hG.1, ⟨(txR_good ht).1, 0, by omega, nI_0.symm⟩, fun i => gV1_e0, fun s U hU => (by cases hU), hG.2.2.2.2⟩, hs⟩
  · rw [if_neg ht] at a2 b2
    exact ⟨_, w, D1, w, D2, a1, b1, rfl, rfl, _, _, _, _, _, _, a2.ref b3, b2, hG.up, hs⟩
theorem s_bed {x : Int32} {v : Int64} (h : IN w D c) (hc : c ≤ 2047) : ∃ x0 w1 D1 w2 D2, fX7_bed (Y w D) 1 x v = some (x0, Y w1 D1) ∧ fX8_bed (Y w1 D1) 272 x v = some (x0, Y w2 D2) ∧ w1.1 = w.1 ∧ w2.1 = w.1 ∧ IN w2 D2 (c + 1) := by
  obtain ⟨tx, V, A, K, bd, L, hC, hR, hG, hs⟩ := h
  obtain ⟨D1, a1, a2, a3⟩ := c_bed (w := w) (x := x) (v := v) hC
  obtain ⟨D2, b1, b2, b3⟩ := r_bed (w := w) (x := x) (v := v) (hR.cls a3)
  exact ⟨_, w, D1, w, D2, a1, b1, rfl, rfl, _, _, _, _, _, _, a2.ref b3, b2, hG.up, hs⟩
theorem s_strand {x y : Int32} (h : IN w D c) (hc : c ≤ 2047) : ∃ x0, fX7_strand (Y w D) 1 x y = some x0 ∧ fX8_strand (Y w D) 272 x y = some x0 := by
  obtain ⟨tx, V, A, K, bd, L, hC, hR, hG, hs⟩ := h
  exact ⟨_, c_strand hC, r_strand hR⟩
theorem s_bends {x : Int32} (h : IN w D c) (hc : c ≤ 2047) : ∃ x0, fX7_bends (Y w D) 1 x = some x0 ∧ fX8_bends (Y w D) 272 x = some x0 := by
  obtain ⟨tx, V, A, K, bd, L, hC, hR, hG, hs⟩ := h
  exact ⟨_, c_bends hC, r_bends hR⟩
theorem s_winter (h : IN w D c) (hc : c ≤ 2047) : ∃ x0 w1 D1 w2 D2, fX7_winter (Y w D) 1 = some (x0, Y w1 D1) ∧ fX8_winter (Y w1 D1) 272 = some (x0, Y w2 D2) ∧ w1.1 = w.1 ∧ w2.1 = w.1 ∧ IN w2 D2 (c + 1) := by
  obtain ⟨tx, V, A, K, bd, L, hC, hR, hG, hs⟩ := h
  obtain ⟨D1, a1, a2, a3⟩ := c_winter (w := w) hC
  obtain ⟨D2, b1, b2, b3⟩ := r_winter (w := w) (hR.cls a3) hG.2.1.1
  exact ⟨_, w, D1, w, D2, a1, b1, rfl, rfl, _, _, _, _, _, _, a2.ref b3, b2, hG.op hG.2.1.wi, hs⟩
theorem s_hang {x y : Int32} (h : IN w D c) (hc : c ≤ 2047) : ∃ x0 w1 D1 w2 D2, fX7_hang (Y w D) 1 x y = some (x0, Y w1 D1) ∧ fX8_hang (Y w1 D1) 272 x y = some (x0, Y w2 D2) ∧ w1.1 = w.1 ∧ w2.1 = w.1 ∧ IN w2 D2 (c + 1) := by
  obtain ⟨tx, V, A, K, bd, L, hC, hR, hG, hs⟩ := h
  obtain ⟨D1, a1, a2, a3⟩ := c_hang (w := w) (x := x) (y := y) hC
  obtain ⟨D2, b1, b2, b3⟩ := r_hang (w := w) (x := x) (y := y) (hR.cls a3) hG.2.1.1
  exact ⟨_, w, D1, w, D2, a1, b1, rfl, rfl, _, _, _, _, _, _, a2.ref b3, b2, hG.op (hG.2.1.ny hG.2.1.1.oHang), hs⟩
theorem s_turn {x : Int32} (h : IN w D c) (hc : c ≤ 2047) : ∃ x0 w1 D1 w2 D2, fX7_turn (Y w D) 1 x = some (x0, Y w1 D1) ∧ fX8_turn (Y w1 D1) 272 x = some (x0, Y w2 D2) ∧ w1.1 = w.1 ∧ w2.1 = w.1 ∧ IN w2 D2 (c + 1) := by
  obtain ⟨tx, V, A, K, bd, L, hC, hR, hG, hs⟩ := h
  obtain ⟨D1, a1, a2, a3⟩ := c_turn (w := w) (x := x) hC
  obtain ⟨D2, b1, b2, b3⟩ := r_turn (w := w) (x := x) (hR.cls a3) hG.2.1.1
  exact ⟨_, w, D1, w, D2, a1, b1, rfl, rfl, _, _, _, _, _, _, a2.ref b3, b2, hG.op (hG.2.1.ny hG.2.1.1.oTurn), hs⟩
theorem s_snip {x : Int32} (h : IN w D c) (hc : c ≤ 2047) : ∃ x0 w1 D1 w2 D2, fX7_snip (Y w D) 1 x = some (x0, Y w1 D1) ∧ fX8_snip (Y w1 D1) 272 x = some (x0, Y w2 D2) ∧ w1.1 = w.1 ∧ w2.1 = w.1 ∧ IN w2 D2 (c + 1) := by
  obtain ⟨tx, V, A, K, bd, L, hC, hR, hG, hs⟩ := h
  obtain ⟨D1, a1, a2, a3⟩ := c_snip (w := w) (x := x) hC
  obtain ⟨D2, b1, b2, b3⟩ := r_snip (w := w) (x := x) (hR.cls a3) hG.2.1.1
  exact ⟨_, w, D1, w, D2, a1, b1, rfl, rfl, _, _, _, _, _, _, a2.ref b3, b2, hG.op (hG.2.1.ny hG.2.1.1.oSnip), hs⟩
theorem s_join {x y : Int32} (h : IN w D c) (hc : c ≤ 2047) : ∃ x0 w1 D1 w2 D2, fX7_join (Y w D) 1 x y = some (x0, Y w1 D1) ∧ fX8_join (Y w1 D1) 272 x y = some (x0, Y w2 D2) ∧ w1.1 = w.1 ∧ w2.1 = w.1 ∧ IN w2 D2 (c + 1) := by
  obtain ⟨tx, V, A, K, bd, L, hC, hR, hG, hs⟩ := h
  obtain ⟨D1, a1, a2, a3⟩ := c_join (w := w) (x := x) (y := y) hC
  obtain ⟨D2, b1, b2, b3⟩ := r_join (w := w) (x := x) (y := y) (hR.cls a3)
  exact ⟨_, w, D1, w, D2, a1, b1, rfl, rfl, _, _, _, _, _, _, a2.ref b3, b2, hG.op (hG.2.1.ny hG.2.1.1.oJoin), hs⟩
theorem s_undo (h : IN w D c) (hc : c ≤ 2047) : ∃ x0 w1 D1 w2 D2, fX7_undo (Y w D) 1 = some (x0, Y w1 D1) ∧ fX8_undo (Y w1 D1) 272 = some (x0, Y w2 D2) ∧ w1.1 = w.1 ∧ w2.1 = w.1 ∧ IN w2 D2 (c + 1) := by
  obtain ⟨tx, V, A, K, bd, L, hC, hR, hG, hs⟩ := h
  obtain ⟨D1, a1, a2, a3⟩ := c_undo (w := w) hC
  obtain ⟨D2, b1, b2, b3⟩ := r_undo (w := w) (hR.cls a3)
  exact ⟨_, w, D1, w, D2, a1, b1, rfl, rfl, _, _, _, _, _, _, a2.ref b3, b2, hG.un, hs⟩
theorem s_later {x y : Int32} (h : IN w D c) (hc : c ≤ 2047) : ∃ x0 w1 D1 w2 D2, fX7_later (Y w D) 1 x y = some (x0, Y w1 D1) ∧ fX8_later (Y w1 D1) 272 x y = some (x0, Y w2 D2) ∧ w1.1 = w.1 ∧ w2.1 = w.1 ∧ IN w2 D2 (c + 1) := by
  obtain ⟨tx, V, A, K, bd, L, hC, hR, hG, hs⟩ := h
  obtain ⟨D1, a1, a2, a3⟩ := c_later (w := w) (x := x) (y := y) hC
  obtain ⟨D2, b1, b2, b3⟩ := r_later (w := w) (x := x) (y := y) (hR.cls a3) hG.2.1.1
  exact ⟨_, w, D1, w, D2, a1, b1, rfl, rfl, _, _, _, _, _, _, a2.ref b3, b2, hG.up, hs⟩
theorem s_lasts {x : Int32} (h : IN w D c) (hc : c ≤ 2047) : ∃ x0 w1 D1 w2 D2, fX7_lasts (Y w D) 1 x = some (x0, Y w1 D1) ∧ fX8_lasts (Y w1 D1) 272 x = some (x0, Y w2 D2) ∧ w1.1 = w.1 ∧ w2.1 = w.1 ∧ IN w2 D2 (c + 1) := by
  obtain ⟨tx, V, A, K, bd, L, hC, hR, hG, hs⟩ := h
  obtain ⟨D1, a1, a2, a3⟩ := c_lasts (w := w) (x := x) hC
  obtain ⟨D2, b1, b2, b3⟩ := r_lasts (w := w) (x := x) (hR.cls a3) hG.2.1.1
  exact ⟨_, w, D1, w, D2, a1, b1, rfl, rfl, _, _, _, _, _, _, a2.ref b3, b2, hG.up, hs⟩
theorem s_overlap {x y : Int32} (h : IN w D c) (hc : c ≤ 2047) : ∃ x0, fX7_overlap (Y w D) 1 x y = some x0 ∧ fX8_overlap (Y w D) 272 x y = some x0 := by
  obtain ⟨tx, V, A, K, bd, L, hC, hR, hG, hs⟩ := h
  exact ⟨_, c_overlap hC, r_overlap hR⟩
theorem s_river {x : Int32} (h : IN w D c) (hc : c ≤ 2047) : ∃ x0 w1 D1 w2 D2, fX7_river (Y w D) 1 x = some (x0, Y w1 D1) ∧ fX8_river (Y w1 D1) 272 x = some (x0, Y w2 D2) ∧ w1.1 = w.1 ∧ w2.1 = w.1 ∧ IN w2 D2 (c + 1) := by
  obtain ⟨tx, V, A, K, bd, L, hC, hR, hG, hs⟩ := h
  obtain ⟨D1, a1, a2, a3⟩ := c_river (w := w) (x := x) hC
  obtain ⟨D2, b1, b2, b3⟩ := r_river (w := w) (x := x) (hR.cls a3)
  exact ⟨_, w, D1, w, D2, a1, b1, rfl, rfl, _, _, _, _, _, _, a2.ref b3, b2, hG.up, hs⟩
theorem s_covered (h : IN w D c) (hc : c ≤ 2047) : ∃ x0 w1 D1, fX7_covered (Y w D) 1 = some (x0, Y w1 D1) ∧ fX8_covered (Y w1 D1) 272 = some x0 ∧ w1.1 = w.1 ∧ IN w1 D1 (c + 1) := by
  obtain ⟨tx, V, A, K, bd, L, hC, hR, hG, hs⟩ := h
  obtain ⟨D1, a1, a2, a3⟩ := c_covered (w := w) hC
  exact ⟨_, w, D1, a1, r_covered (hR.cls a3), rfl, _, _, _, _, _, _, a2, hR.cls a3, hG.up, hs⟩
theorem s_ways (h : IN w D c) (hc : c ≤ 2047) : ∃ x0, fX7_ways (Y w D) 1 = some x0 ∧ fX8_ways (Y w D) 272 = some x0 := by
  obtain ⟨tx, V, A, K, bd, L, hC, hR, hG, hs⟩ := h
  exact ⟨_, c_ways hC, r_ways hR⟩
theorem s_judge {x : Int32} {v : Int64} (h : IN w D c) (hc : c ≤ 2047) : ∃ x0 w1 D1 w2 D2, fX7_judge (Y w D) 1 x v = some (x0, Y w1 D1) ∧ fX8_judge (Y w1 D1) 272 x v = some (x0, Y w2 D2) ∧ w1.1 = w.1 ∧ w2.1 = w.1 ∧ IN w2 D2 (c + 1) := by
  obtain ⟨tx, V, A, K, bd, L, hC, hR, hG, hs⟩ := h
  obtain ⟨D1, a1, a2, a3⟩ := c_judge (w := w) (x := x) (v := v) hC
  obtain ⟨D2, b1, b2, b3⟩ := r_judge (w := w) (x := x) (v := v) (hR.cls a3) hG.2.1.1
  exact ⟨_, w, D1, w, D2, a1, b1, rfl, rfl, _, _, _, _, _, _, a2.ref b3, b2, hG.up, hs⟩
theorem s_lay {x y : Int32} (h : IN w D c) (hc : c ≤ 2047) : ∃ x0 w1 D1 w2 D2, fX7_lay (Y w D) 1 x y = some (x0, Y w1 D1) ∧ fX8_lay (Y w1 D1) 272 x y = some (x0, Y w2 D2) ∧ w1.1 = w.1 ∧ w2.1 = w.1 ∧ IN w2 D2 (c + 1) := by
  obtain ⟨tx, V, A, K, bd, L, hC, hR, hG, hs⟩ := h
  obtain ⟨D1, a1, a2, a3⟩ := c_lay (w := w) (p := x) (y := y) hC
  obtain ⟨D2, b1, b2, b3⟩ := r_lay (w := w) (p := x) (y := y) (hR.cls a3)
  exact ⟨_, w, D1, w, D2, a1, b1, rfl, rfl, _, _, _, _, _, _, a2.ref b3, b2, ⟨hG.up.1, hG.up.2.1, hG.up.2.2.1, hG.up.2.2.2.1, hG.2.2.2.2.lay⟩, hs⟩
theorem s_unlay (h : IN w D c) (hc : c ≤ 2047) : ∃ x0 w1 D1 w2 D2, fX7_unlay (Y w D) 1 = some (x0, Y w1 D1) ∧ fX8_unlay (Y w1 D1) 272 = some (x0, Y w2 D2) ∧ w1.1 = w.1 ∧ w2.1 = w.1 ∧ IN w2 D2 (c + 1) := by
  obtain ⟨tx, V, A, K, bd, L, hC, hR, hG, hs⟩ := h
  obtain ⟨D1, a1, a2, a3⟩ := c_unlay (w := w) hC
  obtain ⟨D2, b1, b2, b3⟩ := r_unlay (w := w) (hR.cls a3)
  exact ⟨_, w, D1, w, D2, a1, b1, rfl, rfl, _, _, _, _, _, _, a2.ref b3, b2, ⟨hG.up.1, hG.up.2.1, hG.up.2.2.1, hG.up.2.2.2.1, gLa_nil⟩, hs⟩
theorem s_which {x : Int32} (h : IN w D c) (hc : c ≤ 2047) : ∃ x0 w1 D1, fX7_which (Y w D) 1 x = some (x0, Y w1 D1) ∧ fX8_which (Y w1 D1) 272 x = some x0 ∧ w1.1 = w.1 ∧ IN w1 D1 (c + 1) := by
  obtain ⟨tx, V, A, K, bd, L, hC, hR, hG, hs⟩ := h
  obtain ⟨D1, a1, a2, a3⟩ := c_which (w := w) (z := x) hG.2.2.2.2 hC
  exact ⟨_, w, D1, a1, r_which (hR.cls a3) hG.2.2.2.2, rfl, _, _, _, _, _, _, a2, hR.cls a3, hG.up, hs⟩
theorem s_share {x u : Int32} (h : IN w D c) (hc : c ≤ 2047) : ∃ x0 w1 D1, fX7_share (Y w D) 1 x u = some (x0, Y w1 D1) ∧ fX8_share (Y w1 D1) 272 x u = some x0 ∧ w1.1 = w.1 ∧ IN w1 D1 (c + 1) := by
  obtain ⟨tx, V, A, K, bd, L, hC, hR, hG, hs⟩ := h
  obtain ⟨D1, a1, a2, a3⟩ := c_share (w := w) (x := x) (u := u) hC
  exact ⟨_, w, D1, a1, r_share (hR.cls a3), rfl, _, _, _, _, _, _, a2, hR.cls a3, hG.up, hs⟩
theorem s_rests {x y z : Int32} (h : IN w D c) (hc : c ≤ 2047) : ∃ x0 w1 D1 w2 D2, fX7_rests (Y w D) 1 x y z = some (x0, Y w1 D1) ∧ fX8_rests (Y w1 D1) 272 x y z = some (x0, Y w2 D2) ∧ w1.1 = w.1 ∧ w2.1 = w.1 ∧ IN w2 D2 (c + 1) := by
  obtain ⟨tx, V, A, K, bd, L, hC, hR, hG, hs⟩ := h
  obtain ⟨D1, a1, a2, a3⟩ := c_rests (w := w) (x := x) (y := y) (z := z) hC
  obtain ⟨D2, b1, b2, b3⟩ := r_rests (w := w) (x := x) (y := y) (z := z) (hR.cls a3) hG.2.1.1
  exact ⟨_, w, D1, w, D2, a1, b1, rfl, rfl, _, _, _, _, _, _, a2.ref b3, b2, hG.up, hs⟩
theorem s_lost {x u : Int32} (h : IN w D c) (hc : c ≤ 2047) : ∃ x0 w1 D1, fX7_lost (Y w D) 1 x u = some (x0, Y w1 D1) ∧ fX8_lost (Y w1 D1) 272 x u = some x0 ∧ w1.1 = w.1 ∧ IN w1 D1 (c + 1) := by
  obtain ⟨tx, V, A, K, bd, L, hC, hR, hG, hs⟩ := h
  obtain ⟨D1, a1, a2, a3⟩ := c_lost (w := w) (x := x) (u := u) hC
  exact ⟨_, w, D1, a1, r_lost (hR.cls a3), rfl, _, _, _, _, _, _, a2, hR.cls a3, hG.up, hs⟩
theorem s_seed {v : Int64} (h : IN w D c) (hc : c ≤ 2047) : ∃ x0 w1 D1 w2 D2, fX7_seed (Y w D) 1 v = some (x0, Y w1 D1) ∧ fX8_seed (Y w1 D1) 272 v = some (x0, Y w2 D2) ∧ w1.1 = w.1 ∧ w2.1 = w.1 ∧ IN w2 D2 (c + 1) := by
  obtain ⟨tx, V, A, K, bd, L, hC, hR, hG, hs⟩ := h
  refine ⟨w.2 1, (w.1, fun q => if q = 1 then v else w.2 q), D, (w.1, fun q => if q = 272 then v else if q = 1 then v else w.2 q), D, c_seed hC, ?_, rfl, rfl, ?_⟩
  · rw [r_seed]
    dsimp only
    rw [if_neg (by decide), hs]
  · exact ⟨_, _, _, _, _, _, hC, hR, hG.up, by dsimp only; rw [if_neg (by decide), if_pos rfl, if_pos rfl]⟩
theorem s_years {x : Int32} (h : IN w D c) (hc : c ≤ 2047) : ∃ x0 w1 D1 w2 D2, fX7_years (Y w D) 1 x = some (x0, Y w1 D1) ∧ fX8_years (Y w1 D1) 272 x = some (x0, Y w2 D2) ∧ w1.1 = w.1 ∧ w2.1 = w.1 ∧ IN w2 D2 (c + 1) := by
  obtain ⟨tx, V, A, K, bd, L, hC, hR, hG, hs⟩ := h
  obtain ⟨w1, D1, a1, a4, a5, a6, a2, a3⟩ := c_years (w := w) sdS_def chc_lt ch_c (m := x) hC
  obtain ⟨w2, D2, b1, b4, b5, b6, b2, b3⟩ := r_years (w := w1) sdS_def chc_lt ch_r (m := x) (hR.cls a3) hG.2.1.1
  have e : w1.2 272 = w.2 1 := by rw [a6 272 (by decide), hs]
  rw [e] at b1 b5
  exact ⟨_, w1, D1, w2, D2, a1, b1, a4, b4.trans a4, _, _, _, _, _, _, a2.ref b3, b2, hG.up, by rw [b6 1 (by decide), a5, b5]⟩
theorem s_keep {x : Int32} (h : IN w D c) (hc : c ≤ 2047) : ∃ x0 w1 D1 w2 D2, fX7_keep (Y w D) 1 x = some (x0, Y w1 D1) ∧ fX8_keep (Y w1 D1) 272 x = some (x0, Y w2 D2) ∧ w1.1 = w.1 ∧ w2.1 = w.1 ∧ IN w2 D2 (c + 1) := by
  obtain ⟨tx, V, A, K, bd, L, hC, hR, hG, hs⟩ := h
  obtain ⟨D1, a1, a2, a3⟩ := c_keep (w := w) (x := x) hC
  obtain ⟨D2, b1, b2, b3⟩ := r_keep (w := w) (x := x) (hR.cls a3)
  exact ⟨_, w, D1, w, D2, a1, b1, rfl, rfl, _, _, _, _, _, _, a2.ref b3, b2, hG.kp, hs⟩
theorem s_again {x : Int32} (h : IN w D c) (hc : c ≤ 2047) : ∃ x0 w1 D1 w2 D2, fX7_again (Y w D) 1 x = some (x0, Y w1 D1) ∧ fX8_again (Y w1 D1) 272 x = some (x0, Y w2 D2) ∧ w1.1 = w.1 ∧ w2.1 = w.1 ∧ IN w2 D2 (c + 1) := by
  obtain ⟨tx, V, A, K, bd, L, hC, hR, hG, hs⟩ := h
  obtain ⟨D1, a1, a2, a3⟩ := c_again (w := w) (x := x) hC (hG.yr (by omega))
  obtain ⟨D2, b1, b2, b3⟩ := r_again (w := w) (x := x) (hR.cls a3)
  refine ⟨_, w, D1, w, D2, a1, b1, rfl, rfl, ?_⟩
  cases hk : slotK K x with
  | none =>
    rw [hk] at a2 b2
    exact ⟨_, _, _, _, _, _, a2.ref b3, b2, hG.up, hs⟩
  | some U =>
    rw [hk] at a2 b2
    obtain ⟨s, hU⟩ := slotK_of hk
    exact ⟨_, _, _, _, _, _, CI.ref a2 b3, b2, ⟨hG.1, (hG.2.2.2.1 s U hU).up, fun i => gV1_e0, hG.up.2.2.2.1, hG.2.2.2.2⟩, hs⟩
theorem s_count {x : Int32} (h : IN w D c) (hc : c ≤ 2047) : ∃ x0, fX7_count (Y w D) 1 x = some x0 ∧ fX8_count (Y w D) 272 x = some x0 := by
  obtain ⟨tx, V, A, K, bd, L, hC, hR, hG, hs⟩ := h
  exact ⟨_, c_count hC, r_count hR hG.2.1.1⟩
end SP
