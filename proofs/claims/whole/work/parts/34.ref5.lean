/-! ===== the reference: where strands lie, and more calls ===== -/
section R5
variable {w : mW} {D : mD} {l i : Nat} {tx : List Int32} {V : tV} {A : List tV} {K : Nat → Option tV} {bd : List Int32} {L : List (Int32 × Int32)}
theorem bd_at {k : Nat} (h : k < 12) : aI (Y w D) false 279 (nI k) = some (D 279 k) := Y_aI kA_279 h
theorem b01 (b : Bool) : b2i b = 0 ∨ b2i b = 1 := by cases b <;> simp [b2i]
theorem r_liesAt_c36 (hl : l < 2) (hi : i < 4) {xs ys : List Int32} (hx12 : xs.length ≤ 12) (hy12 : ys.length ≤ 12) (hx : ∀ j, j < xs.length → D 279 j = xs.getD j 0) (hy : ∀ j, j < ys.length → D 274 (57 * l + 8 + 12 * i + j) = ys.getD j 0) {p : Nat} (hp : p < 1000) : ∀ (k j fuel : Nat) (b : Bool), j + k = ys.length → k < fuel → (b = true → p + ys.length ≤ xs.length) → fX8_liesAt_c36 (Y w D) fuel 272 (nI l) (nI i) (nI p) (nI ys.length) (b2i b) (nI j) = some (b2i (b && alF (fun i => xs.getD (p + i) 0 == ys.getD i 0) j k)) := by
  intro k
  induction k with
  | zero =>
    intro j fuel b hj hf hb
    obtain ⟨f, rfl, hf⟩ := fu hf
    rw [fX8_liesAt_c36.eq_2, il_t (by omega) (by omega), if_pos (b01 b)]
    simp [alF]
  | succ k ih =>
    intro j fuel b hj hf hb
    obtain ⟨f, rfl, hf⟩ := fu hf
    rw [fX8_liesAt_c36.eq_2, il_f (by omega) (by omega)]
    cases b with
    | false =>
      rw [if_pos (by rfl), if_pos (b01 false)]
      simp
    | true =>
      have hb := hb rfl
      rw [if_neg nb0, eF_272_12, Option.bind_some, nI_add, bd_at (by omega), Option.bind_some, r_bendAt hl hi (by omega), Option.bind_some, hx _ (by omega), hy _ (by omega), nI_1]
      by_cases he : xs.getD (p + j) 0 = ys.getD j 0
      · rw [if_pos he]
        refine (ih (j + 1) f true (by omega) (by omega) (fun _ => hb)).trans ?_
        simp only [alF, he, beq_self_eq_true, Bool.true_and]
      · rw [if_neg he]
        refine (ih (j + 1) f false (by omega) (by omega) (fun q => by cases q)).trans ?_
        simp only [alF, beq_eq_false_iff_ne.mpr he, Bool.false_and, Bool.and_false]
theorem r_liesAt {p : Nat} (hl : l < 2) (h : NwD (D 274) (D 273) (57 * l) V) (hb : RBd D bd) (hi : i < V.2.length) (hp : p < 1000) : fX8_liesAt (Y w D) 272 (nI l) (nI i) (nI p) = some (b2i (bearsB bd p (V.2.getD i d0).2.2)) := by
  obtain ⟨q1, q2, q3⟩ := id h
  obtain ⟨a1, a2, a3, a4, a5⟩ := q3 i hi
  obtain ⟨b1, b2, b3⟩ := id hb
  unfold fX8_liesAt
  rw [if_pos eO_272, eF_272_2, Option.bind_some, ix4, nw_at (by omega), Option.bind_some, a3, eF_272_11, Option.bind_some, b1, nI_add]
  by_cases hc : p + (V.2.getD i d0).2.2.length ≤ bd.length
  · rw [ilt_f hc (by omega)]
    have := r_liesAt_c36 (w := w) (l := l) (i := i) hl (by omega) b2 a4 b3 a5 hp (V.2.getD i d0).2.2.length 0 FUEL true (by omega) (FU (by omega)) (fun _ => hc)
    rw [nI_0] at this
    refine this.trans ?_
    unfold bearsB
    rw [decide_eq_true hc]
  · rw [ilt_t (by omega) (by omega)]
    have := r_liesAt_c36 (w := w) (l := l) (i := i) hl (by omega) b2 a4 b3 a5 hp (V.2.getD i d0).2.2.length 0 FUEL false (by omega) (FU (by omega)) (fun q => by cases q)
    rw [nI_0] at this
    refine this.trans ?_
    unfold bearsB
    rw [decide_eq_false hc]
theorem r_firstPlace_c2 (hl : l < 2) (h : NwD (D 274) (D 273) (57 * l) V) (hb : RBd D bd) (hi : i < V.2.length) : ∀ (k j fuel : Nat), j + k = bd.length → k < fuel → fX8_firstPlace_c2 (Y w D) fuel 272 (nI l) (nI i) (nI j) = some (fstF bd (V.2.getD i d0).2.2 j k) := by
  have b2 := hb.2.1
  intro k
  induction k with
  | zero =>
    intro j fuel hj hf
    obtain ⟨f, rfl, hf⟩ := fu hf
    rw [fX8_firstPlace_c2.eq_2, eF_272_11, Option.bind_some, hb.1, il_t (by omega) (by omega)]
    rfl
  | succ k ih =>
    intro j fuel hj hf
    obtain ⟨f, rfl, hf⟩ := fu hf
    rw [fX8_firstPlace_c2.eq_2, eF_272_11, Option.bind_some, hb.1, il_f (by omega) (by omega), r_liesAt hl h hb hi (by omega), Option.bind_some, nI_1, ih (j + 1) f (by omega) (by omega), fstF]
    cases hbb : bearsB bd j (V.2.getD i d0).2.2
    · rw [if_pos (by rfl), if_neg (by decide)]
    · rw [if_neg nb0, if_pos rfl]
theorem r_firstPlace (hl : l < 2) (h : NwD (D 274) (D 273) (57 * l) V) (hb : RBd D bd) (hi : i < V.2.length) : fX8_firstPlace (Y w D) 272 (nI l) (nI i) = some (fstP bd (V.2.getD i d0).2.2) := by
  have b2 := hb.2.1
  unfold fX8_firstPlace
  rw [if_pos eO_272, ← nI_0, r_firstPlace_c2 hl h hb hi bd.length 0 FUEL (by omega) (FU (by omega))]
  rfl
theorem zl0 : (0 : Int32) = nI 0 := nI_0.symm
theorem r_there {x : Int32} (h : RVl D V) : fX8_isThere (Y w D) 272 0 x = some (b2i (hasI V.2 x)) := by
  have := r_isThere (w := w) (l := 0) (x := x) (by omega) h.1 h.2
  rw [nI_0] at this
  exact this
theorem r_strand {x y : Int32} (h : RI D tx V A K bd L) : fX8_strand (Y w D) 272 x y = some (sdA V.2 bd x y) := by
  obtain ⟨c1, c2, c3, c4, c5, c6⟩ := id h
  obtain ⟨q1, q2, q3⟩ := id c2.2
  unfold fX8_strand sdA
  rw [if_pos eO_272, r_there c2, Option.bind_some]
  cases hb : hasI V.2 x with
  | false => rw [if_pos rfl, if_pos (by rfl)]
  | true =>
    obtain ⟨i, hi, rfl, ht⟩ := hasI_spec hb
    obtain ⟨a1, a2, a3, a4, a5⟩ := q3 i hi
    have hg : gt V.2 (nI i) = V.2.getD i d0 := by unfold gt; rw [nI_clamp (by omega)]
    have hfp := r_firstPlace (w := w) (l := 0) (by omega) c2.2 c5 hi
    rw [nI_0] at hfp
    rw [Nat.mul_zero, Nat.zero_add] at a1
    rw [Nat.mul_zero, Nat.zero_add] at a3
    rw [if_neg nb0, if_neg ntf, show (4 : Int32) + nI i = nI (4 + i) from by rw [← nI_4, nI_add]]
    simp only [eF_272_2, eF_272_1, Option.bind_some, nw_at (show i < 114 by omega), nw_at (show 4 + i < 114 by omega), kd_at (show i < 4 by omega), hfp, a1, a2, a3, hg]
    repeat' split
    all_goals rfl
theorem r_bends_c18 (h : NwD (D 274) (D 273) (57 * 0) V) (hi : i < V.2.length) : ∀ (k j fuel : Nat) (a : Int64), j + k = (V.2.getD i d0).2.2.length → k < fuel → fX8_bends_c18 (Y w D) fuel 272 (nI i) a (nI j) = some (figF (V.2.getD i d0).2.2 j k a) := by
  obtain ⟨q1, q2, q3⟩ := id h
  obtain ⟨a1, a2, a3, a4, a5⟩ := q3 i hi
  rw [Nat.mul_zero, Nat.zero_add] at a3
  intro k
  induction k with
  | zero =>
    intro j fuel a hj hf
    obtain ⟨f, rfl, hf⟩ := fu hf
    rw [fX8_bends_c18.eq_2, eF_272_2, Option.bind_some, show (4 : Int32) + nI i = nI (4 + i) from by rw [← nI_4, nI_add], nw_at (by omega), Option.bind_some, a3, il_t (by omega) (by omega)]
    rfl
  | succ k ih =>
    intro j fuel a hj hf
    obtain ⟨f, rfl, hf⟩ := fu hf
    have hba := r_bendAt (w := w) (D := D) (l := 0) (i := i) (j := j) (by omega) (by omega) (by omega)
    rw [nI_0] at hba
    rw [fX8_bends_c18.eq_2, eF_272_2, Option.bind_some, show (4 : Int32) + nI i = nI (4 + i) from by rw [← nI_4, nI_add], nw_at (by omega), Option.bind_some, a3, il_f (by omega) (by omega), hba, Option.bind_some, a5 j (by omega), nI_1, ih (j + 1) f _ (by omega) (by omega)]
    rfl
theorem r_bends {x : Int32} (h : RI D tx V A K bd L) : fX8_bends (Y w D) 272 x = some (bnA V.2 x) := by
  obtain ⟨c1, c2, c3, c4, c5, c6⟩ := id h
  have q2 := c2.2.2.1
  unfold fX8_bends bnA
  rw [if_pos eO_272, r_there c2, Option.bind_some]
  cases hb : hasI V.2 x with
  | false => rw [if_pos rfl, if_pos (by rfl)]
  | true =>
    obtain ⟨i, hi, rfl, ht⟩ := hasI_spec hb
    have hg : gt V.2 (nI i) = V.2.getD i d0 := by unfold gt; rw [nI_clamp (by omega)]
    have a4 := (c2.2.2.2 i hi).2.2.2.1
    have := r_bends_c18 (w := w) c2.2 hi (V.2.getD i d0).2.2.length 0 FUEL 0 (by omega) (FU (by omega))
    rw [nI_0] at this
    rw [if_neg nb0, if_neg ntf, this, hg]
    rfl
theorem r_overlap {x y : Int32} (h : RI D tx V A K bd L) : fX8_overlap (Y w D) 272 x y = some (ovA V.2 x y) := by
  obtain ⟨c1, c2, c3, c4, c5, c6⟩ := id h
  have q2 := c2.2.2.1
  unfold fX8_overlap ovA
  rw [if_pos eO_272, r_there c2, Option.bind_some]
  cases hb : hasI V.2 x with
  | false => rw [if_pos (Or.inl rfl), if_pos (by rfl)]
  | true =>
    rw [if_neg nb0, r_there c2, Option.bind_some]
    cases hb2 : hasI V.2 y with
    | false => rw [if_pos (Or.inr rfl), if_pos (by rfl)]
    | true =>
      obtain ⟨i, hi, rfl, ht⟩ := hasI_spec hb
      obtain ⟨j, hj, rfl, ht2⟩ := hasI_spec hb2
      have hg : gt V.2 (nI i) = V.2.getD i d0 := by unfold gt; rw [nI_clamp (by omega)]
      have hg2 : gt V.2 (nI j) = V.2.getD j d0 := by unfold gt; rw [nI_clamp (by omega)]
      have ho := r_overlapOf (w := w) (l := 0) (by omega) c2.2 hi hj
      rw [nI_0] at ho
      rw [if_neg nb0, if_neg ntff]
      by_cases hij : nI i = nI j
      · rw [if_pos hij, if_pos hij]
      · rw [if_neg hij, if_neg hij, ho, Option.bind_some, hg, hg2]
/-! acts -/
theorem rw_at2 {k : Nat} (h : k < 798) : aI (Y w D) false 280 (nI k) = some (D 280 k) := Y_aI kA_280 h
theorem rw_st2 {k : Nat} {v : Int32} (h : k < 798) : aS (Y w D) false 280 (nI k) v = some (Y w (ud D 280 k v)) := Y_aS kA_280 h
theorem r_keepAct_c2 {nx n : Nat} (hnx : nx < 14) (hn : n ≤ 14) : ∀ (k j fuel : Nat) (D : mD), j + k = 57 → k < fuel → D 272 14 = nI nx → D 272 13 = nI n → ∃ D', fX8_keepAct_c2 fuel (Y w D) 272 (nI j) = some (Y w D') ∧ D' 272 14 = nI ((nx + 1) % 14) ∧ D' 272 13 = nI (if n = 14 then 14 else n + 1) ∧ (∀ q, j ≤ q → q < 57 → D' 280 (57 * nx + q) = D 274 q) ∧ (∀ q, (q < 57 * nx + j ∨ 57 * nx + 57 ≤ q) → D' 280 q = D 280 q) ∧ (∀ q, q ≠ 13 → q ≠ 14 → D' 272 q = D 272 q) ∧ (∀ a, a ≠ 272 → a ≠ 280 → D' a = D a) := by
  intro k
  induction k with
  | zero =>
    intro j fuel D hj hf h1 h2
    obtain ⟨f, rfl, hf⟩ := fu hf
    rw [fX8_keepAct_c2.eq_2, ← nI_57, il_t (by omega) (by omega), eF_272_14, Option.bind_some, h1, nI_1, rem14 (by omega), eS_272_14, Option.bind_some, eF_272_13, Option.bind_some, ud_n (by omega), h2]
    by_cases h14 : n = 14
    · subst h14
      rw [← nI_14, il_t (by omega) (by omega), eS_272_13, Option.bind_some]
      exact ⟨_, rfl, by rw [ud_n (by omega), ud_s], by rw [ud_s, if_pos rfl], fun q h1 h2 => by omega, fun q _ => by rw [ud_r (by omega), ud_r (by omega)], fun q h1 h2 => by rw [ud_n (by omega), ud_n (by omega)], fun a h1 h2 => by rw [ud_r h1, ud_r h1]⟩
    · rw [← nI_14, il_f (by omega) (by omega), Option.bind_some, nI_1, eS_272_13, Option.bind_some]
      exact ⟨_, rfl, by rw [ud_n (by omega), ud_s], by rw [ud_s, if_neg h14], fun q h1 h2 => by omega, fun q _ => by rw [ud_r (by omega), ud_r (by omega)], fun q h1 h2 => by rw [ud_n (by omega), ud_n (by omega)], fun a h1 h2 => by rw [ud_r h1, ud_r h1]⟩
  | succ k ih =>
    intro j fuel D hj hf h1 h2
    obtain ⟨f, rfl, hf⟩ := fu hf
    rw [fX8_keepAct_c2.eq_2, ← nI_57, il_f (by omega) (by omega), eF_272_15, Option.bind_some, eF_272_14, Option.bind_some, h1, eF_272_2, Option.bind_some, nw_at (by omega), Option.bind_some, pk_mul, nI_add, rw_st2 (by omega), Option.bind_some, nI_1]
    obtain ⟨D', g1, g2, g3, g4, g5, g6, g7⟩ := ih (j + 1) f (ud D 280 (57 * nx + j) (D 274 j)) (by omega) (by omega) (by rw [ud_r (by omega)]; exact h1) (by rw [ud_r (by omega)]; exact h2)
    refine ⟨D', g1, g2, g3, fun q h1 h2 => ?_, fun q hq => by rw [g5 q (by omega), ud_n (by omega)], fun q h1 h2 => by rw [g6 q h1 h2, ud_r (by omega)], fun a h1 h2 => by rw [g7 a h1 h2, ud_r h2]⟩
    by_cases hqj : q = j
    · subst hqj
      rw [g5 _ (by omega), ud_s]
    · rw [g4 q (by omega) h2, ud_r (by omega)]
theorem r_keepAct (h : RI D tx V A K bd L) : ∃ D', fX8_keepAct (Y w D) 272 = some (Y w D') ∧ RI D' tx V (pushA A V) K bd L ∧ (∀ a, a < 272 → D' a = D a) ∧ D' 274 = D 274 ∧ D' 273 = D 273 := by
  obtain ⟨c1, c2, c3, c4, c5, c6⟩ := id h
  obtain ⟨q1, q2, nx, q3, q4, q5⟩ := id c3
  unfold fX8_keepAct
  rw [if_pos eO_272, ← nI_0]
  obtain ⟨D', g1, g2, g3, g4, g5, g6, g7⟩ := r_keepAct_c2 (w := w) q3 q2 57 0 FUEL D (by omega) (FU (by omega)) q4 q1
  have f3 := g7 273 (by omega) (by omega)
  refine ⟨D', g1, ⟨c1.kept (g6 8 (by omega) (by omega)) (g7 278 (by omega) (by omega)), c2.kept (g6 0 (by omega) (by omega)) f3 (fun k _ => by rw [g7 274 (by omega) (by omega)]), ?_, c4.kept (g7 284 (by omega) (by omega)) f3 (g7 285 (by omega) (by omega)), c5.kept (g6 11 (by omega) (by omega)) (g7 279 (by omega) (by omega)), c6.kept (g6 18 (by omega) (by omega)) (g7 282 (by omega) (by omega)) (g7 283 (by omega) (by omega))⟩, fun a ha => g7 a (by omega) (by omega), g7 274 (by omega) (by omega), f3⟩
  have hnew : NwD (D' 280) (D' 273) (57 * nx) V := c2.2.kept (fun k hk => by rw [g4 k (by omega) hk, Nat.mul_zero, Nat.zero_add]) (fun i _ => by rw [f3])
  have hm : ∀ b : Nat, b % 14 < 14 := fun b => Nat.mod_lt b (by omega)
  have hold : ∀ p U, p < 14 → p ≠ nx → NwD (D 280) (D 273) (57 * p) U → NwD (D' 280) (D' 273) (57 * p) U := fun p U hp hne hU => hU.kept (fun k hk => g5 _ (by omega)) (fun i _ => by rw [f3])
  by_cases hl : A.length = 14
  · have hpl : (pushA A V).length = 14 := by simp [pushA, hl]
    refine ⟨by rw [g3, hpl, if_pos hl], by omega, (nx + 1) % 14, hm _, g2, fun i hi => ?_⟩
    rw [hpl] at hi
    have e : pushA A V = A.tail ++ [V] := by unfold pushA; rw [if_pos hl]
    rw [hpl, e, getD_pushV, List.length_tail, hl]
    by_cases hi3 : i < 13
    · rw [if_pos (by omega), getD_tailV]
      obtain ⟨p1, p2⟩ := q5 (i + 1) (by omega)
      rw [hl] at p2
      refine ⟨p1, ?_⟩
      rw [show ((nx + 1) % 14 + 14 - 14 + i) % 14 = (nx + 14 - 14 + (i + 1)) % 14 by omega]
      exact hold _ _ (hm _) (by omega) p2
    · have hi4 : i = 13 := by omega
      subst hi4
      rw [if_neg (by omega), if_pos (by omega), show ((nx + 1) % 14 + 14 - 14 + 13) % 14 = nx by omega]
      exact ⟨rfl, hnew⟩
  · have hpl : (pushA A V).length = A.length + 1 := by simp [pushA, hl]
    refine ⟨by rw [g3, hpl, if_neg hl], by omega, (nx + 1) % 14, hm _, g2, fun i hi => ?_⟩
    rw [hpl] at hi
    have e : pushA A V = A ++ [V] := by unfold pushA; rw [if_neg hl]
    rw [hpl, e, getD_pushV]
    by_cases hi3 : i < A.length
    · rw [if_pos hi3]
      obtain ⟨p1, p2⟩ := q5 i hi3
      refine ⟨p1, ?_⟩
      rw [show ((nx + 1) % 14 + 14 - (A.length + 1) + i) % 14 = (nx + 14 - A.length + i) % 14 by omega]
      exact hold _ _ (hm _) (by omega) p2
    · have hi4 : i = A.length := by omega
      subst hi4
      rw [if_neg hi3, if_pos rfl, show ((nx + 1) % 14 + 14 - (A.length + 1) + A.length) % 14 = nx by omega]
      exact ⟨rfl, hnew⟩
/-- the level 0 changed, as many strands as before -/
theorem RI.lv0 {D' : mD} {V' : tV} (h : RI D tx V A K bd L) (hl : V'.2.length = V.2.length) (hf : LvF 0 D D') (hV : NwD (D' 274) (D' 273) (57 * 0) V') : RI D' tx V' A K bd L := by
  obtain ⟨c1, c2, c3, c4, c5, c6⟩ := id h
  have f : ∀ a, a ≠ 274 → D' a = D a := hf.1
  refine ⟨c1.kept (by rw [f 272 (by omega)]) (f 278 (by omega)), ⟨by rw [f 272 (by omega), hl]; exact c2.1, hV⟩, ?_, ?_, c5.kept (by rw [f 272 (by omega)]) (f 279 (by omega)), c6.kept (by rw [f 272 (by omega)]) (f 282 (by omega)) (f 283 (by omega))⟩
  · rw [hl]; exact c3.kept (by rw [f 272 (by omega)]) (by rw [f 272 (by omega)]) (f 273 (by omega)) (f 280 (by omega))
  · rw [hl]; exact c4.kept (f 284 (by omega)) (f 273 (by omega)) (f 285 (by omega))
end R5
