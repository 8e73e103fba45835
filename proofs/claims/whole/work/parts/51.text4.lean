/-! ===== the valley, by the reference ===== -/
theorem psF_good {t : Nat → Nat} {n : Nat} {S' : List tS} : ∀ (k p : Nat) (S : List tS), S.length + k = 6 → psF t n k none p S = (none, S') → gW S → S.length ≤ 4 → gW S' ∧ S'.length ≤ 4 ∧ ((∀ i, (S.getD i d0).2.2.length ≤ 6) → ∀ i, (S'.getD i d0).2.2.length ≤ 6)
  | 0, p, S, hk, h, hg, h4 => by omega
  | k + 1, p, S, hk, h, hg, h4 => by
    by_cases hp : n ≤ p
    · rw [psF, if_pos hp] at h
      have e : S = S' := by cases h; rfl
      subst e
      exact ⟨hg, h4, fun q => q⟩
    · obtain ⟨h83, hS4, c1, c2, c3, hrest⟩ := psF_none (by omega) h
      obtain ⟨a1, a2, a3⟩ := okc_s.mp c1
      obtain ⟨b1, b2, b3⟩ := okc_s.mp c2
      obtain ⟨d1, d2, d3⟩ := okc_s.mp c3
      have f4 : ∀ c, c < 4 → (nI c = 0 ∨ nI c = 1 ∨ nI c = 2 ∨ nI c = 3) := by decide
      have f5 : ∀ c, c < 4 → (nI (c + 1) = 1 ∨ nI (c + 1) = 2 ∨ nI (c + 1) = 3 ∨ nI (c + 1) = 4) := by decide
      have hbl : ∀ (r q : Nat), gB (bnL t q (bnF t n q r)) := by
        intro r
        induction r with
        | zero => intro q; rw [bnF, bnL]; exact gB_nil
        | succ r ih =>
          intro q
          rw [bnF]
          by_cases hc : okc t n q 97 = true
          · obtain ⟨o1, o2, o3⟩ := okc_s.mp hc
            rw [if_pos hc, Nat.add_comm 1, bnL]
            intro x hx
            rcases List.mem_cons.mp hx with e | e
            · rw [e, show t q - 96 = t q - 97 + 1 by omega]
              exact f5 _ (by omega)
            · exact ih (q + 1) x e
          · rw [if_neg hc, bnL]; exact gB_nil
      have hle := bnF_le (t := t) (n := n) 5 (p + 1 + 1 + 1 + 1)
      have hnew : gW (S ++ [(nI (t (p + 1) - 48), nI (t (p + 1 + 1) - 48), nI (t (p + 1 + 1 + 1) - 97 + 1) :: bnL t (p + 1 + 1 + 1 + 1) (bnF t n (p + 1 + 1 + 1 + 1) 5))]) := fun i => by
        rw [getD_push]
        split
        · exact hg i
        · split
          · refine ⟨f4 _ (by omega), f4 _ (by omega), fun x hx => ?_⟩
            rcases List.mem_cons.mp hx with e | e
            · rw [e]; exact f5 _ (by omega)
            · exact hbl 5 _ x e
          · exact ⟨Or.inl rfl, Or.inl rfl, gB_nil⟩
      obtain ⟨r1, r2, r3⟩ := psF_good k _ _ (by rw [List.length_append, List.length_singleton]; omega) hrest hnew (by rw [List.length_append, List.length_singleton]; omega)
      refine ⟨r1, r2, fun q => r3 (fun i => ?_)⟩
      rw [getD_push]
      split
      · exact q i
      · split
        · dsimp only
          rw [List.length_cons, bnL_len]
          omega
        · exact Nat.zero_le _
theorem gW_nil : gW [] := fun i => ⟨Or.inl rfl, Or.inl rfl, gB_nil⟩
theorem txR_good {tx : List Int32} (h : (txR tx).1 = none) : gW (txR tx).2 ∧ (txR tx).2.length ≤ 4 ∧ ∀ i, ((txR tx).2.getD i d0).2.2.length ≤ 6 := by
  unfold txR at h ⊢
  by_cases h0 : tx.length = 0 ∨ ¬ tN tx 0 = 84
  · rw [if_pos h0] at h; cases h
  · rw [if_neg h0] at h ⊢
    have := psF_good (t := tN tx) (n := tx.length) 6 1 [] rfl (Prod.ext h rfl) gW_nil (by decide)
    exact ⟨this.1, this.2.1, this.2.2 (fun i => Nat.zero_le _)⟩
section T4
variable {w : mW} {D : mD} {tx : List Int32} {V : tV} {A : List tV} {K : Nat → Option tV} {bd : List Int32} {L : List (Int32 × Int32)} {S : List tS}
theorem r_valley_c22 : ∀ (k j fuel : Nat) (D : mD), j + k = 57 → k < fuel → (∀ q, q < j → D 274 q = 0) → ∃ D', fX8_valley_c22 fuel (Y w D) 272 (nI j) = fX8_valley_c43 FUEL (Y w D') 272 0 ∧ (∀ q, q < 57 → D' 274 q = 0) ∧ ∀ a, a ≠ 274 → D' a = D a := by
  intro k
  induction k with
  | zero =>
    intro j fuel D hj hf h
    obtain ⟨f, rfl, hf⟩ := fu hf
    rw [fX8_valley_c22.eq_2, ← nI_57, il_t (by omega) (by omega)]
    exact ⟨D, rfl, fun q hq => h q (by omega), fun a _ => rfl⟩
  | succ k ih =>
    intro j fuel D hj hf h
    obtain ⟨f, rfl, hf⟩ := fu hf
    rw [fX8_valley_c22.eq_2, ← nI_57, il_f (by omega) (by omega), eF_272_2, Option.bind_some, nw_st (by omega), Option.bind_some, nI_1]
    obtain ⟨D', g1, g2, g3⟩ := ih (j + 1) f (ud D 274 j 0) (by omega) (by omega) (fun q hq => by
      by_cases hqj : q = j
      · subst hqj; exact ud_s
      · rw [ud_n (by omega)]; exact h q (by omega))
    exact ⟨D', g1, g2, fun a ha => by rw [g3 a ha, ud_r ha]⟩
theorem r_valley_c97 {s : Nat} (hs : s < S.length) {k43 : mM → Nat → Int32 → Option (Int32 × mM)} : ∀ (k j fuel : Nat) (D : mD), j + k = (S.getD s d0).2.2.length → k < fuel → RdD D S → (∀ q, q < j → D 274 (8 + 12 * s + q) = (S.getD s d0).2.2.getD q 0) → ∃ D', fX8_valley_c97 k43 fuel (Y w D) 272 (nI s) (nI j) = k43 (Y w D') 272 (nI (s + 1)) ∧ (∀ q, q < (S.getD s d0).2.2.length → D' 274 (8 + 12 * s + q) = (S.getD s d0).2.2.getD q 0) ∧ (∀ q, ¬ (8 + 12 * s ≤ q ∧ q < 8 + 12 * s + 12) → D' 274 q = D 274 q) ∧ ∀ a, a ≠ 274 → D' a = D a := by
  intro k
  induction k with
  | zero =>
    intro j fuel D hj hf hR h
    obtain ⟨q1, q2, q3⟩ := id hR
    obtain ⟨a1, a2, a3, a4, a5⟩ := q3 s hs
    obtain ⟨f, rfl, hf⟩ := fu hf
    rw [fX8_valley_c97.eq_2, eF_272_4, Option.bind_some, Y_aI kA_276 (by omega), Option.bind_some, a3, il_t (by omega) (by omega), nI_1]
    exact ⟨D, rfl, fun q hq => h q (by omega), fun q _ => rfl, fun a _ => rfl⟩
  | succ k ih =>
    intro j fuel D hj hf hR h
    obtain ⟨q1, q2, q3⟩ := id hR
    obtain ⟨a1, a2, a3, a4, a5⟩ := q3 s hs
    obtain ⟨f, rfl, hf⟩ := fu hf
    have e : (8 : Int32) + 12 * nI s + nI j = nI (8 + 12 * s + j) := by rw [← nI_8, ← nI_12, pk_mul, nI_add, nI_add]
    rw [fX8_valley_c97.eq_2, eF_272_4, Option.bind_some, Y_aI kA_276 (by omega), Option.bind_some, a3, il_f (by omega) (by omega), eF_272_2, Option.bind_some, eF_272_5, Option.bind_some, ← nI_6, pk_mul, nI_add, Y_aI kA_277 (by omega), Option.bind_some, a5 j (by omega), e, nw_st (by omega), Option.bind_some, nI_1]
    obtain ⟨D', g1, g2, g3, g4⟩ := ih (j + 1) f (ud D 274 (8 + 12 * s + j) ((S.getD s d0).2.2.getD j 0)) (by omega) (by omega) (hR.kept (by rw [ud_r (by omega)]) (fun q _ => by rw [ud_r (by omega)]) (fun q _ => by rw [ud_r (by omega)]) (fun q _ => by rw [ud_r (by omega)])) (fun q hq => by
      by_cases hqj : q = j
      · subst hqj; exact ud_s
      · rw [ud_n (by omega)]; exact h q (by omega))
    exact ⟨D', g1, g2, fun q hq => by rw [g3 q hq, ud_n (by omega)], fun a ha => by rw [g4 a ha, ud_r ha]⟩
def EnD (D : mD) (S : List tS) (i : Nat) : Prop := D 274 i = (S.getD i d0).1 ∧ D 273 i = (S.getD i d0).2.1 ∧ D 274 (4 + i) = nI (S.getD i d0).2.2.length ∧ ∀ j, j < (S.getD i d0).2.2.length → D 274 (8 + 12 * i + j) = (S.getD i d0).2.2.getD j 0
theorem r_valley_c43 : ∀ (k s fuel : Nat) (D : mD), s + k = S.length → k < fuel → RdD D S → D 272 0 = nI S.length → D 274 56 = 0 → (∀ i, i < s → EnD D S i) → ∃ D', fX8_valley_c43 fuel (Y w D) 272 (nI s) = some (nI S.length, Y w D') ∧ (∀ i, i < S.length → EnD D' S i) ∧ D' 274 56 = 0 ∧ D' 272 13 = 0 ∧ D' 284 0 = 0 ∧ D' 284 1 = 0 ∧ (∀ k, k ≠ 13 → D' 272 k = D 272 k) ∧ ∀ a, a ≠ 272 → a ≠ 273 → a ≠ 274 → a ≠ 284 → D' a = D a := by
  intro k
  induction k with
  | zero =>
    intro s fuel D hs hf hR h0 hy hE
    have q2 := hR.2.1
    obtain ⟨f, rfl, hf⟩ := fu hf
    have ez : mzb 0 = 0 := rfl
    rw [fX8_valley_c43.eq_2, eF_272_0, Option.bind_some, h0, il_t (by omega) (by omega), eS_272_13, Option.bind_some, eF_272_22, Option.bind_some, ez, ← nI_0, Y_aS kA_284 (by omega), Option.bind_some, eF_272_22, Option.bind_some, ← nI_n1, Y_aS kA_284 (by omega), Option.bind_some, eF_272_0, Option.bind_some, ud_r (by omega), ud_r (by omega), ud_n (by omega), h0, nI_0]
    refine ⟨_, rfl, fun i hi => ?_, by rw [ud_r (by omega), ud_r (by omega), ud_r (by omega)]; exact hy, by rw [ud_r (by omega), ud_r (by omega), ud_s], by rw [ud_n (by omega), ud_s], ud_s, fun k hk => by rw [ud_r (by omega), ud_r (by omega), ud_n (by omega)], fun a h1 h2 h3 h4 => by rw [ud_r h4, ud_r h4, ud_r h1]⟩
    obtain ⟨e1, e2, e3, e4⟩ := hE i (by omega)
    exact ⟨by rw [ud_r (by omega), ud_r (by omega), ud_r (by omega)]; exact e1, by rw [ud_r (by omega), ud_r (by omega), ud_r (by omega)]; exact e2, by rw [ud_r (by omega), ud_r (by omega), ud_r (by omega)]; exact e3, fun j hj => by rw [ud_r (by omega), ud_r (by omega), ud_r (by omega)]; exact e4 j hj⟩
  | succ k ih =>
    intro s fuel D hs hf hR h0 hy hE
    obtain ⟨q1, q2, q3⟩ := id hR
    obtain ⟨a1, a2, a3, a4, a5⟩ := q3 s (by omega)
    obtain ⟨f, rfl, hf⟩ := fu hf
    have hR3 : RdD (ud (ud (ud D 274 s (S.getD s d0).1) 273 s (S.getD s d0).2.1) 274 (4 + s) (nI (S.getD s d0).2.2.length)) S := hR.kept (by rw [ud_r (by omega), ud_r (by omega), ud_r (by omega)]) (fun q _ => by rw [ud_r (by omega), ud_r (by omega), ud_r (by omega)]) (fun q _ => by rw [ud_r (by omega), ud_r (by omega), ud_r (by omega)]) (fun q _ => by rw [ud_r (by omega), ud_r (by omega), ud_r (by omega)])
    have hc := r_valley_c97 (w := w) (s := s) (S := S) (by omega) (k43 := fun M w0 w1 => fX8_valley_c43 f M w0 w1) (S.getD s d0).2.2.length 0 FUEL (ud (ud (ud D 274 s (S.getD s d0).1) 273 s (S.getD s d0).2.1) 274 (4 + s) (nI (S.getD s d0).2.2.length)) (by omega) (FU (by omega)) hR3 (fun q hq => by omega)
    obtain ⟨D1, g1, g2, g3, g4⟩ := hc
    rw [nI_0] at g1
    rw [fX8_valley_c43.eq_2, eF_272_0, Option.bind_some, h0, il_f (by omega) (by omega), eF_272_2, Option.bind_some, eF_272_3, Option.bind_some, ← nI_2, pk_mul, Y_aI kA_275 (by omega), Option.bind_some, a1, nw_st (by omega), Option.bind_some, eF_272_1, Option.bind_some, eF_272_3, Option.bind_some, nI_1, Y_aI kA_275 (by omega), Option.bind_some, ud_r (by omega), a2, Y_aS kA_273 (by omega), Option.bind_some, eF_272_2, Option.bind_some, eF_272_4, Option.bind_some, Y_aI kA_276 (by omega), Option.bind_some, ud_r (by omega), ud_r (by omega), a3, ← nI_4, nI_add, nw_st (by omega), Option.bind_some, g1]
    have fr : ∀ a, a ≠ 273 → a ≠ 274 → D1 a = D a := fun a h1 h2 => by rw [g4 a h2, ud_r h2, ud_r h1, ud_r h2]
    have c274 : ∀ q, q ≠ s → q ≠ 4 + s → ¬ (8 + 12 * s ≤ q ∧ q < 8 + 12 * s + 12) → D1 274 q = D 274 q := fun q h1 h2 h3 => by rw [g3 q h3, ud_n (by omega), ud_r (by omega), ud_n (by omega)]
    have c273 : ∀ q, q ≠ s → D1 273 q = D 273 q := fun q h1 => by rw [g4 273 (by omega), ud_r (by omega), ud_n (by omega), ud_r (by omega)]
    obtain ⟨D', k1, k2, k3, k4, k5, k6, k7, k8⟩ := ih (s + 1) f D1 (by omega) (by omega) (hR.kept (by rw [fr 272 (by omega) (by omega)]) (fun q _ => by rw [fr 275 (by omega) (by omega)]) (fun q _ => by rw [fr 276 (by omega) (by omega)]) (fun q _ => by rw [fr 277 (by omega) (by omega)])) (by rw [fr 272 (by omega) (by omega)]; exact h0) (by rw [c274 56 (by omega) (by omega) (by omega)]; exact hy) (fun i hi => by
      by_cases his : i = s
      · subst his
        exact ⟨by rw [g3 _ (by omega), ud_n (by omega), ud_r (by omega), ud_s], by rw [g4 273 (by omega), ud_r (by omega), ud_s], by rw [g3 _ (by omega), ud_s], g2⟩
      · obtain ⟨e1, e2, e3, e4⟩ := hE i (by omega)
        have := (q3 i (by omega)).2.2.2.1
        exact ⟨by rw [c274 _ (by omega) (by omega) (by omega)]; exact e1, by rw [c273 _ his]; exact e2, by rw [c274 _ (by omega) (by omega) (by omega)]; exact e3, fun j hj => by rw [c274 _ (by omega) (by omega) (by omega)]; exact e4 j hj⟩)
    exact ⟨D', k1, k2, k3, k4, k5, k6, fun k hk => by rw [k7 k hk, fr 272 (by omega) (by omega)], fun a h1 h2 h3 h4 => by rw [k8 a h1 h2 h3 h4, fr a h2 h3]⟩
theorem r_valley (hg : gT tx) (h : RI D tx V A K bd L) : ∃ D', fX8_valley (Y w D) 272 = some ((if (txR tx).1 = none then nI (txR tx).2.length else -3), Y w D') ∧ (if (txR tx).1 = none then RI D' tx (0, (txR tx).2) [] (fun _ => none) bd L else RI D' tx V A K bd L) ∧ ∀ a, a < 272 → D' a = D a := by
  have h48 := h.1.2.1
  obtain ⟨D1, g1, g2, g3⟩ := r_readText (w := w) hg h.1
  have h1 := h.scr g3.fr
  have f0 : ∀ a, a < 272 → D1 a = D a := fun a ha => g3.1 a (by omega) (by omega) (by omega) (by omega)
  unfold fX8_valley
  rw [if_pos eO_272, g1, Option.bind_some]
  dsimp only
  by_cases hn : (txR tx).1 = none
  · obtain ⟨gd1, gd2, gd3⟩ := txR_good hn
    have hR := g2 hn
    rw [if_pos ((faA_9 h48).mpr hn), if_pos hn, eF_272_6, Option.bind_some, hR.1, eS_272_0, Option.bind_some]
    obtain ⟨D2, k1, k2, k3⟩ := r_valley_c22 (w := w) 57 0 FUEL (ud D1 272 0 (nI (txR tx).2.length)) (by omega) (FU (by omega)) (fun q hq => by omega)
    rw [nI_0] at k1
    have hR2 : RdD D2 (txR tx).2 := hR.kept (by rw [k3 272 (by omega), ud_n (by omega)]) (fun q _ => by rw [k3 275 (by omega), ud_r (by omega)]) (fun q _ => by rw [k3 276 (by omega), ud_r (by omega)]) (fun q _ => by rw [k3 277 (by omega), ud_r (by omega)])
    obtain ⟨D3, m1, m2, m3, m4, m5, m6, m7, m8⟩ := r_valley_c43 (w := w) (S := (txR tx).2) (txR tx).2.length 0 FUEL D2 (by omega) (FU (by omega)) hR2 (by rw [k3 272 (by omega), ud_s]) (k2 56 (by omega)) (fun i hi => by omega)
    rw [nI_0] at m1
    rw [k1, m1]
    have fr : ∀ a, a ≠ 272 → a ≠ 273 → a ≠ 274 → a ≠ 284 → D3 a = D1 a := fun a h1 h2 h3 h4 => by rw [m8 a h1 h2 h3 h4, k3 a h3, ud_r h1]
    have f2 : ∀ k, k ≠ 13 → k ≠ 0 → D3 272 k = D1 272 k := fun k h1 h2 => by rw [m7 k h1, k3 272 (by omega), ud_n (by omega)]
    obtain ⟨c1, c2, c3, c4, c5, c6⟩ := id h1
    obtain ⟨q1, q2, nx, q3, q4, q5⟩ := c3
    refine ⟨D3, rfl, ?_, fun a ha => by rw [fr a (by omega) (by omega) (by omega) (by omega), f0 a ha]⟩
    rw [if_pos hn]
    refine ⟨c1.kept (f2 8 (by omega) (by omega)) (fr 278 (by omega) (by omega) (by omega) (by omega)), ⟨by rw [m7 0 (by omega), k3 272 (by omega), ud_s], m3, gd2, fun i hi => ?_⟩, ⟨by rw [m4]; rfl, by simp, nx, q3, by rw [f2 14 (by omega) (by omega)]; exact q4, fun i hi => by simp at hi⟩, fun s hs => ?_, c5.kept (f2 11 (by omega) (by omega)) (fr 279 (by omega) (by omega) (by omega) (by omega)), c6.kept (f2 18 (by omega) (by omega)) (fr 282 (by omega) (by omega) (by omega) (by omega)) (fr 283 (by omega) (by omega) (by omega) (by omega))⟩
    · obtain ⟨e1, e2, e3, e4⟩ := m2 i hi
      have := gd3 i
      rw [Nat.mul_zero, Nat.zero_add, Nat.zero_add, Nat.zero_add]
      exact ⟨e1, e2, e3, by dsimp only; omega, e4⟩
    · refine ⟨?_, fun U hU => by cases hU⟩
      rcases (show s = 0 ∨ s = 1 by omega) with rfl | rfl
      · rw [m5]; rfl
      · rw [m6]; rfl
  · rw [if_neg (fun q => hn ((faA_9 h48).mp q)), if_neg hn]
    refine ⟨D1, rfl, ?_, f0⟩
    rw [if_neg hn]
    exact h1
end T4
