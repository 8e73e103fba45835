/-! ===== the law's loop ===== -/
theorem ex_bind {α : Type} {t : Option α} {f : α → Option (Int32 × mM)} {v : α} (h : t = some v) (h2 : ∃ Mf, f v = some (1, Mf)) : ∃ Mf, t.bind f = some (1, Mf) := by
  subst h
  exact h2
theorem ex_ite {p : Prop} [Decidable p] {t e : Option (Int32 × mM)} (h1 : p → ∃ Mf, t = some (1, Mf)) (h2 : ¬ p → ∃ Mf, e = some (1, Mf)) : ∃ Mf, (if p then t else e) = some (1, Mf) := by
  by_cases h : p
  · rw [if_pos h]; exact h1 h
  · rw [if_neg h]; exact h2 h
theorem sub_4 (r : Nat) : nI (r + 4) - 4 = nI r := by
  rw [← nI_add, nI_4]
  exact Int32.add_sub_cancel _ _
theorem lt_end {n j : Nat} (hn : n ≤ 2048) (hj : j = n / 4) : nI n - 4 < nI (4 * j) := by
  by_cases h : 4 ≤ n
  · obtain ⟨r, rfl⟩ : ∃ r, n = r + 4 := ⟨n - 4, by omega⟩
    rw [sub_4]
    exact nI_lt (by omega) (by omega)
  · subst hj
    rcases (show n = 0 ∨ n = 1 ∨ n = 2 ∨ n = 3 by omega) with rfl | rfl | rfl | rfl <;> decide +kernel
theorem nlt_end {n j : Nat} (hn : n ≤ 2048) (hj : 4 * j + 4 ≤ n) : ¬ nI n - 4 < nI (4 * j) := by
  obtain ⟨r, rfl⟩ : ∃ r, n = r + 4 := ⟨n - 4, by omega⟩
  rw [sub_4]
  exact nI_nlt (by omega) (by omega)
set_option maxHeartbeats 4000000 in
set_option maxRecDepth 20000 in
theorem law_loop {xs : List Int32} (hx : xs.length ≤ 2048) : ∀ (k j fuel : Nat) (w : mW) (D : mD), w.1 = xs → j + k = xs.length / 4 → k < fuel → IN w D j → ∃ Mf, fL_law_c18 fuel (Y w D) 0 1 272 (nI (4 * j)) = some (1, Mf) := by
  intro k
  induction k with
  | zero =>
    intro j fuel w D hw hk hf hI
    obtain ⟨f, rfl⟩ : ∃ f, fuel = f + 1 := ⟨fuel - 1, by omega⟩
    rw [fL_law_c18.eq_2]
    refine ex_bind Y_scl ?_
    refine ex_ite (fun _ => ⟨_, rfl⟩) (fun h => absurd ?_ h)
    rw [hw]
    exact lt_end hx (by omega)
  | succ k ih =>
    intro j fuel w D hw hk hf hI
    obtain ⟨f, rfl⟩ : ∃ f, fuel = f + 1 := ⟨fuel - 1, by omega⟩
    have hj4 : 4 * j + 4 ≤ xs.length := by omega
    have hj : j ≤ 2047 := by omega
    have go : ∀ (w' : mW) (D' : mD), w'.1 = xs → IN w' D' (j + 1) → ∃ Mf, fL_law_c18 f (Y w' D') 0 1 272 (nI (4 * j) + 4) = some (1, Mf) := fun w' D' h1 h2 => by
      rw [← nI_4, nI_add]
      exact ih (j + 1) f w' D' h1 (by omega) (by omega) h2
    clear ih
    have rd : ∀ (i : Nat), i < 4 → ∀ (w' : mW) (D' : mD), w'.1 = xs → aI (Y w' D') false 0 (nI (4 * j + i)) = some (xs.getD (4 * j + i) 0) := fun i hi w' D' h1 => by
      rw [Y_sci (by rw [h1]; omega) (by rw [h1]; omega), h1]
    have r0 := rd 0 (by decide)
    have r1 := rd 1 (by decide)
    have r2 := rd 2 (by decide)
    have r3 := rd 3 (by decide)
    rw [Nat.add_zero] at r0
    rw [← nI_add, nI_n1] at r1
    rw [← nI_add, nI_2] at r2
    rw [← nI_add, nI_3] at r3
    clear rd
    generalize xs.getD (4 * j) 0 = a0 at r0
    generalize xs.getD (4 * j + 1) 0 = a1 at r1
    generalize xs.getD (4 * j + 2) 0 = a2 at r2
    generalize xs.getD (4 * j + 3) 0 = a3 at r3
    rw [fL_law_c18.eq_2]
    refine ex_bind Y_scl ?_
    refine ex_ite (fun h => absurd h ?_) (fun _ => ?_)
    · rw [hw]
      exact nlt_end hx hj4
    refine ex_bind (r0 w D hw) ?_
    refine ex_ite (fun _ => ?_) (fun _ => ?_)
    · refine ex_bind (r1 w D hw) ?_
      obtain ⟨x0, w1, D1, w2, D2, e1, e2, q1, q2, q3⟩ := s_write (x := a1) hI hj
      refine ex_bind e1 ?_
      refine ex_bind (r1 w1 D1 (q1.trans hw)) ?_
      refine ex_bind e2 ?_
      exact ex_ite (fun _ => go w2 D2 (q2.trans hw) q3) (fun h => absurd rfl h)
    refine ex_ite (fun _ => ?_) (fun _ => ?_)
    · obtain ⟨x0, w1, D1, w2, D2, e1, e2, q1, q2, q3⟩ := s_wipe hI hj
      refine ex_bind e1 ?_
      refine ex_bind e2 ?_
      exact ex_ite (fun _ => go w2 D2 (q2.trans hw) q3) (fun h => absurd rfl h)
    refine ex_ite (fun _ => ?_) (fun _ => ?_)
    · obtain ⟨x0, D2, e1, e2, q3⟩ := s_fault hI hj
      refine ex_bind e1 ?_
      refine ex_bind e2 ?_
      exact ex_ite (fun _ => go w D2 hw q3) (fun h => absurd rfl h)
    refine ex_ite (fun _ => ?_) (fun _ => ?_)
    · obtain ⟨x0, w1, D1, w2, D2, e1, e2, q1, q2, q3⟩ := s_valley hI hj
      refine ex_bind e1 ?_
      refine ex_bind e2 ?_
      exact ex_ite (fun _ => go w2 D2 (q2.trans hw) q3) (fun h => absurd rfl h)
    refine ex_ite (fun _ => ?_) (fun _ => ?_)
    · refine ex_bind (r1 w D hw) ?_
      refine ex_bind (r2 w D hw) ?_
      refine ex_bind (r3 w D hw) ?_
      obtain ⟨x0, w1, D1, w2, D2, e1, e2, q1, q2, q3⟩ := s_bed (x := a1) (v := (((Int32.toInt64 a2) <<< (Int32.toInt64 32 &&& 63)) ||| ((Int32.toInt64 a3) &&& (4294967295 : Int64)))) hI hj
      refine ex_bind e1 ?_
      refine ex_bind (r1 w1 D1 (q1.trans hw)) ?_
      refine ex_bind (r2 w1 D1 (q1.trans hw)) ?_
      refine ex_bind (r3 w1 D1 (q1.trans hw)) ?_
      refine ex_bind e2 ?_
      exact ex_ite (fun _ => go w2 D2 (q2.trans hw) q3) (fun h => absurd rfl h)
    refine ex_ite (fun _ => ?_) (fun _ => ?_)
    · refine ex_bind (r1 w D hw) ?_
      refine ex_bind (r2 w D hw) ?_
      obtain ⟨x0, e1, e2⟩ := s_strand (x := a1) (y := a2) hI hj
      refine ex_bind e1 ?_
      refine ex_bind (r1 w D hw) ?_
      refine ex_bind (r2 w D hw) ?_
      refine ex_bind e2 ?_
      exact ex_ite (fun _ => go w D hw hI.up) (fun h => absurd rfl h)
    refine ex_ite (fun _ => ?_) (fun _ => ?_)
    · refine ex_bind (r1 w D hw) ?_
      obtain ⟨x0, e1, e2⟩ := s_bends (x := a1) hI hj
      refine ex_bind e1 ?_
      refine ex_bind (r1 w D hw) ?_
      refine ex_bind e2 ?_
      exact ex_ite (fun _ => go w D hw hI.up) (fun h => absurd lc_self h)
    refine ex_ite (fun _ => ?_) (fun _ => ?_)
    · obtain ⟨x0, w1, D1, w2, D2, e1, e2, q1, q2, q3⟩ := s_winter hI hj
      refine ex_bind e1 ?_
      refine ex_bind e2 ?_
      exact ex_ite (fun _ => go w2 D2 (q2.trans hw) q3) (fun h => absurd rfl h)
    refine ex_ite (fun _ => ?_) (fun _ => ?_)
    · refine ex_bind (r1 w D hw) ?_
      refine ex_bind (r2 w D hw) ?_
      obtain ⟨x0, w1, D1, w2, D2, e1, e2, q1, q2, q3⟩ := s_hang (x := a1) (y := a2) hI hj
      refine ex_bind e1 ?_
      refine ex_bind (r1 w1 D1 (q1.trans hw)) ?_
      refine ex_bind (r2 w1 D1 (q1.trans hw)) ?_
      refine ex_bind e2 ?_
      exact ex_ite (fun _ => go w2 D2 (q2.trans hw) q3) (fun h => absurd rfl h)
    refine ex_ite (fun _ => ?_) (fun _ => ?_)
    · refine ex_bind (r1 w D hw) ?_
      obtain ⟨x0, w1, D1, w2, D2, e1, e2, q1, q2, q3⟩ := s_turn (x := a1) hI hj
      refine ex_bind e1 ?_
      refine ex_bind (r1 w1 D1 (q1.trans hw)) ?_
      refine ex_bind e2 ?_
      exact ex_ite (fun _ => go w2 D2 (q2.trans hw) q3) (fun h => absurd rfl h)
    refine ex_ite (fun _ => ?_) (fun _ => ?_)
    · refine ex_bind (r1 w D hw) ?_
      obtain ⟨x0, w1, D1, w2, D2, e1, e2, q1, q2, q3⟩ := s_snip (x := a1) hI hj
      refine ex_bind e1 ?_
      refine ex_bind (r1 w1 D1 (q1.trans hw)) ?_
      refine ex_bind e2 ?_
      exact ex_ite (fun _ => go w2 D2 (q2.trans hw) q3) (fun h => absurd rfl h)
    refine ex_ite (fun _ => ?_) (fun _ => ?_)
    · refine ex_bind (r1 w D hw) ?_
      refine ex_bind (r2 w D hw) ?_
      obtain ⟨x0, w1, D1, w2, D2, e1, e2, q1, q2, q3⟩ := s_join (x := a1) (y := a2) hI hj
      refine ex_bind e1 ?_
      refine ex_bind (r1 w1 D1 (q1.trans hw)) ?_
      refine ex_bind (r2 w1 D1 (q1.trans hw)) ?_
      refine ex_bind e2 ?_
      exact ex_ite (fun _ => go w2 D2 (q2.trans hw) q3) (fun h => absurd rfl h)
    refine ex_ite (fun _ => ?_) (fun _ => ?_)
    · obtain ⟨x0, w1, D1, w2, D2, e1, e2, q1, q2, q3⟩ := s_undo hI hj
      refine ex_bind e1 ?_
      refine ex_bind e2 ?_
      exact ex_ite (fun _ => go w2 D2 (q2.trans hw) q3) (fun h => absurd rfl h)
    refine ex_ite (fun _ => ?_) (fun _ => ?_)
    · refine ex_bind (r1 w D hw) ?_
      refine ex_bind (r2 w D hw) ?_
      obtain ⟨x0, w1, D1, w2, D2, e1, e2, q1, q2, q3⟩ := s_later (x := a1) (y := a2) hI hj
      refine ex_bind e1 ?_
      refine ex_bind (r1 w1 D1 (q1.trans hw)) ?_
      refine ex_bind (r2 w1 D1 (q1.trans hw)) ?_
      refine ex_bind e2 ?_
      exact ex_ite (fun _ => go w2 D2 (q2.trans hw) q3) (fun h => absurd rfl h)
    refine ex_ite (fun _ => ?_) (fun _ => ?_)
    · refine ex_bind (r1 w D hw) ?_
      obtain ⟨x0, w1, D1, w2, D2, e1, e2, q1, q2, q3⟩ := s_lasts (x := a1) hI hj
      refine ex_bind e1 ?_
      refine ex_bind (r1 w1 D1 (q1.trans hw)) ?_
      refine ex_bind e2 ?_
      exact ex_ite (fun _ => go w2 D2 (q2.trans hw) q3) (fun h => absurd rfl h)
    refine ex_ite (fun _ => ?_) (fun _ => ?_)
    · refine ex_bind (r1 w D hw) ?_
      refine ex_bind (r2 w D hw) ?_
      obtain ⟨x0, e1, e2⟩ := s_overlap (x := a1) (y := a2) hI hj
      refine ex_bind e1 ?_
      refine ex_bind (r1 w D hw) ?_
      refine ex_bind (r2 w D hw) ?_
      refine ex_bind e2 ?_
      exact ex_ite (fun _ => go w D hw hI.up) (fun h => absurd rfl h)
    refine ex_ite (fun _ => ?_) (fun _ => ?_)
    · refine ex_bind (r1 w D hw) ?_
      obtain ⟨x0, w1, D1, w2, D2, e1, e2, q1, q2, q3⟩ := s_river (x := a1) hI hj
      refine ex_bind e1 ?_
      refine ex_bind (r1 w1 D1 (q1.trans hw)) ?_
      refine ex_bind e2 ?_
      exact ex_ite (fun _ => go w2 D2 (q2.trans hw) q3) (fun h => absurd rfl h)
    refine ex_ite (fun _ => ?_) (fun _ => ?_)
    · obtain ⟨x0, w1, D1, e1, e2, q1, q3⟩ := s_covered hI hj
      refine ex_bind e1 ?_
      refine ex_bind e2 ?_
      exact ex_ite (fun _ => go w1 D1 (q1.trans hw) q3) (fun h => absurd rfl h)
    refine ex_ite (fun _ => ?_) (fun _ => ?_)
    · obtain ⟨x0, e1, e2⟩ := s_ways hI hj
      refine ex_bind e1 ?_
      refine ex_bind e2 ?_
      exact ex_ite (fun _ => go w D hw hI.up) (fun h => absurd rfl h)
    refine ex_ite (fun _ => ?_) (fun _ => ?_)
    · refine ex_bind (r1 w D hw) ?_
      refine ex_bind (r2 w D hw) ?_
      refine ex_bind (r3 w D hw) ?_
      obtain ⟨x0, w1, D1, w2, D2, e1, e2, q1, q2, q3⟩ := s_judge (x := a1) (v := (((Int32.toInt64 a2) <<< (Int32.toInt64 32 &&& 63)) ||| ((Int32.toInt64 a3) &&& (4294967295 : Int64)))) hI hj
      refine ex_bind e1 ?_
      refine ex_bind (r1 w1 D1 (q1.trans hw)) ?_
      refine ex_bind (r2 w1 D1 (q1.trans hw)) ?_
      refine ex_bind (r3 w1 D1 (q1.trans hw)) ?_
      refine ex_bind e2 ?_
      exact ex_ite (fun _ => go w2 D2 (q2.trans hw) q3) (fun h => absurd rfl h)
    refine ex_ite (fun _ => ?_) (fun _ => ?_)
    · refine ex_bind (r1 w D hw) ?_
      refine ex_bind (r2 w D hw) ?_
      obtain ⟨x0, w1, D1, w2, D2, e1, e2, q1, q2, q3⟩ := s_lay (x := a1) (y := a2) hI hj
      refine ex_bind e1 ?_
      refine ex_bind (r1 w1 D1 (q1.trans hw)) ?_
      refine ex_bind (r2 w1 D1 (q1.trans hw)) ?_
      refine ex_bind e2 ?_
      exact ex_ite (fun _ => go w2 D2 (q2.trans hw) q3) (fun h => absurd rfl h)
    refine ex_ite (fun _ => ?_) (fun _ => ?_)
    · obtain ⟨x0, w1, D1, w2, D2, e1, e2, q1, q2, q3⟩ := s_unlay hI hj
      refine ex_bind e1 ?_
      refine ex_bind e2 ?_
      exact ex_ite (fun _ => go w2 D2 (q2.trans hw) q3) (fun h => absurd rfl h)
    refine ex_ite (fun _ => ?_) (fun _ => ?_)
    · refine ex_bind (r1 w D hw) ?_
      obtain ⟨x0, w1, D1, e1, e2, q1, q3⟩ := s_which (x := a1) hI hj
      refine ex_bind e1 ?_
      refine ex_bind (r1 w1 D1 (q1.trans hw)) ?_
      refine ex_bind e2 ?_
      exact ex_ite (fun _ => go w1 D1 (q1.trans hw) q3) (fun h => absurd rfl h)
    refine ex_ite (fun _ => ?_) (fun _ => ?_)
    · refine ex_bind (r1 w D hw) ?_
      refine ex_bind (r2 w D hw) ?_
      refine ex_ite (fun hz => ?_) (fun hz => ?_)
      · obtain ⟨x0, w1, D1, e1, e2, q1, q3⟩ := s_share (x := a1) (u := 0) hI hj
        refine ex_bind e1 ?_
        refine ex_bind (r1 w1 D1 (q1.trans hw)) ?_
        refine ex_bind (r2 w1 D1 (q1.trans hw)) ?_
        refine ex_ite (fun _ => ?_) (fun h => absurd hz h)
        refine ex_bind e2 ?_
        exact ex_ite (fun _ => go w1 D1 (q1.trans hw) q3) (fun h => absurd rfl h)
      · obtain ⟨x0, w1, D1, e1, e2, q1, q3⟩ := s_share (x := a1) (u := 1) hI hj
        refine ex_bind e1 ?_
        refine ex_bind (r1 w1 D1 (q1.trans hw)) ?_
        refine ex_bind (r2 w1 D1 (q1.trans hw)) ?_
        refine ex_ite (fun h => absurd h hz) (fun _ => ?_)
        refine ex_bind e2 ?_
        exact ex_ite (fun _ => go w1 D1 (q1.trans hw) q3) (fun h => absurd rfl h)
    refine ex_ite (fun _ => ?_) (fun _ => ?_)
    · refine ex_bind (r1 w D hw) ?_
      refine ex_bind (r2 w D hw) ?_
      refine ex_bind (r3 w D hw) ?_
      obtain ⟨x0, w1, D1, w2, D2, e1, e2, q1, q2, q3⟩ := s_rests (x := a1) (y := a2) (z := a3) hI hj
      refine ex_bind e1 ?_
      refine ex_bind (r1 w1 D1 (q1.trans hw)) ?_
      refine ex_bind (r2 w1 D1 (q1.trans hw)) ?_
      refine ex_bind (r3 w1 D1 (q1.trans hw)) ?_
      refine ex_bind e2 ?_
      exact ex_ite (fun _ => go w2 D2 (q2.trans hw) q3) (fun h => absurd rfl h)
    refine ex_ite (fun _ => ?_) (fun _ => ?_)
    · refine ex_bind (r1 w D hw) ?_
      refine ex_bind (r2 w D hw) ?_
      refine ex_ite (fun hz => ?_) (fun hz => ?_)
      · obtain ⟨x0, w1, D1, e1, e2, q1, q3⟩ := s_lost (x := a1) (u := 0) hI hj
        refine ex_bind e1 ?_
        refine ex_bind (r1 w1 D1 (q1.trans hw)) ?_
        refine ex_bind (r2 w1 D1 (q1.trans hw)) ?_
        refine ex_ite (fun _ => ?_) (fun h => absurd hz h)
        refine ex_bind e2 ?_
        exact ex_ite (fun _ => go w1 D1 (q1.trans hw) q3) (fun h => absurd rfl h)
      · obtain ⟨x0, w1, D1, e1, e2, q1, q3⟩ := s_lost (x := a1) (u := 1) hI hj
        refine ex_bind e1 ?_
        refine ex_bind (r1 w1 D1 (q1.trans hw)) ?_
        refine ex_bind (r2 w1 D1 (q1.trans hw)) ?_
        refine ex_ite (fun h => absurd h hz) (fun _ => ?_)
        refine ex_bind e2 ?_
        exact ex_ite (fun _ => go w1 D1 (q1.trans hw) q3) (fun h => absurd rfl h)
    refine ex_ite (fun _ => ?_) (fun _ => ?_)
    · refine ex_bind (r1 w D hw) ?_
      refine ex_bind (r2 w D hw) ?_
      obtain ⟨x0, w1, D1, w2, D2, e1, e2, q1, q2, q3⟩ := s_seed (v := (((Int32.toInt64 a1) <<< (Int32.toInt64 32 &&& 63)) ||| ((Int32.toInt64 a2) &&& (4294967295 : Int64)))) hI hj
      refine ex_bind e1 ?_
      refine ex_bind (r1 w1 D1 (q1.trans hw)) ?_
      refine ex_bind (r2 w1 D1 (q1.trans hw)) ?_
      refine ex_bind e2 ?_
      exact ex_ite (fun _ => go w2 D2 (q2.trans hw) q3) (fun h => absurd lc_self h)
    refine ex_ite (fun _ => ?_) (fun _ => ?_)
    · refine ex_bind (r1 w D hw) ?_
      obtain ⟨x0, w1, D1, w2, D2, e1, e2, q1, q2, q3⟩ := s_years (x := a1) hI hj
      refine ex_bind e1 ?_
      refine ex_bind (r1 w1 D1 (q1.trans hw)) ?_
      refine ex_bind e2 ?_
      exact ex_ite (fun _ => go w2 D2 (q2.trans hw) q3) (fun h => absurd rfl h)
    refine ex_ite (fun _ => ?_) (fun _ => ?_)
    · refine ex_bind (r1 w D hw) ?_
      obtain ⟨x0, w1, D1, w2, D2, e1, e2, q1, q2, q3⟩ := s_keep (x := a1) hI hj
      refine ex_bind e1 ?_
      refine ex_bind (r1 w1 D1 (q1.trans hw)) ?_
      refine ex_bind e2 ?_
      exact ex_ite (fun _ => go w2 D2 (q2.trans hw) q3) (fun h => absurd rfl h)
    refine ex_ite (fun _ => ?_) (fun _ => ?_)
    · refine ex_bind (r1 w D hw) ?_
      obtain ⟨x0, w1, D1, w2, D2, e1, e2, q1, q2, q3⟩ := s_again (x := a1) hI hj
      refine ex_bind e1 ?_
      refine ex_bind (r1 w1 D1 (q1.trans hw)) ?_
      refine ex_bind e2 ?_
      exact ex_ite (fun _ => go w2 D2 (q2.trans hw) q3) (fun h => absurd rfl h)
    refine ex_ite (fun _ => ?_) (fun _ => ?_)
    · refine ex_bind (r1 w D hw) ?_
      obtain ⟨x0, e1, e2⟩ := s_count (x := a1) hI hj
      refine ex_bind e1 ?_
      refine ex_bind (r1 w D hw) ?_
      refine ex_bind e2 ?_
      exact ex_ite (fun _ => go w D hw hI.up) (fun h => absurd rfl h)
    exact go w D hw hI.up
theorem law_true (xs : List Int32) (h : xs.length ≤ 2048) : ∃ Mf, fL_law [.inr (.inl (false, xs))] 0 = some (1, Mf) := by
  rw [law_start]
  exact law_loop h (xs.length / 4) 0 FUEL (w00 xs) D00 rfl (by omega) (FU (by omega)) IN_start
