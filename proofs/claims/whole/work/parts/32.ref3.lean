/-! ===== the reference: turned, joined, where it lies ===== -/
theorem getD_app_r {xs ys : List Int32} {k c : Nat} (h : ¬ k < xs.length) : (xs ++ ys.drop c).getD k 0 = ys.getD (k - xs.length + c) 0 := by
  rw [List.getD_eq_getElem?_getD, List.getElem?_append_right (by omega), List.getElem?_drop, ← List.getD_eq_getElem?_getD, Nat.add_comm]
section R3
variable {w : mW} {D : mD} {l i : Nat} {V : tV}
theorem r_turnOn_c31 {B N : Nat} (hB : B + N ≤ 114) (hN : N ≤ 12) {xs : List Int32} (hx : xs.length = N) : ∀ (k i fuel : Nat) (D : mD), i + k = N / 2 → k < fuel → (∀ j, j < N → D 274 (B + j) = if j < i ∨ N ≤ j + i then xs.getD (N - 1 - j) 0 else xs.getD j 0) → ∃ D', fX8_turnOn_c31 fuel (Y w D) 272 (nI B) (nI N) (nI i) = some (Y w D') ∧ (∀ j, j < N → D' 274 (B + j) = xs.reverse.getD j 0) ∧ (∀ a, a ≠ 274 → D' a = D a) ∧ (∀ k, ¬ (B ≤ k ∧ k < B + N) → D' 274 k = D 274 k) := by
  intro k
  induction k with
  | zero =>
    intro i fuel D hj hf h1
    obtain ⟨f, rfl, hf⟩ := fu hf
    rw [fX8_turnOn_c31.eq_2, ← nI_2, pk_div (by omega) (by omega) (by omega), il_t (by omega) (by omega)]
    refine ⟨D, rfl, fun j hj2 => ?_, fun a _ => rfl, fun k _ => rfl⟩
    rw [h1 j hj2]
    have e : xs.reverse.getD j 0 = xs.getD (N - 1 - j) 0 := by
      rw [← hx] at hj2 ⊢
      simp [List.getD_eq_getElem?_getD, List.getElem?_reverse hj2]
    rw [e]
    by_cases hc : j < i ∨ N ≤ j + i
    · rw [if_pos hc]
    · rw [if_neg hc]
      congr 1
      omega
  | succ k ih =>
    intro i fuel D hj hf h1
    obtain ⟨f, rfl, hf⟩ := fu hf
    have e1 : nI B + nI N - 1 - nI i = nI (B + N - 1 - i) := by
      obtain ⟨c, hc⟩ : ∃ c, N = c + 1 := ⟨N - 1, by omega⟩
      rw [hc, nI_add, ← Nat.add_assoc, nI_pred, pk_sub (by omega)]
      rfl
    rw [fX8_turnOn_c31.eq_2, ← nI_2, pk_div (by omega) (by omega) (by omega), il_f (by omega) (by omega)]
    simp only [eF_272_2, Option.bind_some, nI_add B i, nw_at (show B + i < 114 by omega)]
    rw [e1]
    simp only [nw_at (show B + N - 1 - i < 114 by omega), nw_st (show B + i < 114 by omega), nw_st (show B + N - 1 - i < 114 by omega), eF_272_2, Option.bind_some, nI_1]
    obtain ⟨D', g1, g2, g3, g4⟩ := ih (i + 1) f (ud (ud D 274 (B + i) (D 274 (B + N - 1 - i))) 274 (B + N - 1 - i) (D 274 (B + i))) (by omega) (by omega) (fun j hj2 => by
      by_cases hji : j = N - 1 - i
      · subst hji
        rw [show B + (N - 1 - i) = B + N - 1 - i by omega, ud_s, if_pos (by omega), h1 i (by omega), if_neg (by omega)]
        congr 1
        omega
      · rw [ud_n (by omega)]
        by_cases hji2 : j = i
        · subst hji2
          rw [ud_s, if_pos (by omega), show B + N - 1 - j = B + (N - 1 - j) by omega, h1 _ (by omega), if_neg (by omega)]
        · rw [ud_n (by omega), h1 j hj2]
          by_cases hc : j < i ∨ N ≤ j + i
          · rw [if_pos hc, if_pos (by omega)]
          · rw [if_neg hc, if_neg (by omega)])
    exact ⟨D', g1, g2, fun a ha => by rw [g3 a ha, ud_r ha, ud_r ha], fun k hk => by rw [g4 k hk, ud_n (by omega), ud_n (by omega)]⟩
theorem r_turnOn (hl : l < 2) (h : NwD (D 274) (D 273) (57 * l) V) (hi : i < V.2.length) : ∃ D', fX8_turnOn (Y w D) 272 (nI l) (nI i) = some (Y w D') ∧ NwD (D' 274) (D' 273) (57 * l) (V.1, V.2.set i ((V.2.getD i d0).1, (V.2.getD i d0).2.1, (V.2.getD i d0).2.2.reverse)) ∧ LvF l D D' ∧ (∀ j, j < (V.2.getD i d0).2.2.length → D' 274 (57 * l + 8 + 12 * i + j) = (V.2.getD i d0).2.2.reverse.getD j 0) := by
  obtain ⟨q1, q2, q3⟩ := id h
  obtain ⟨a1, a2, a3, a4, a5⟩ := q3 i hi
  unfold fX8_turnOn
  rw [if_pos eO_272, eF_272_2, Option.bind_some, ix4, nw_at (by omega), Option.bind_some, a3, ix8b, ← nI_0]
  obtain ⟨D', g1, g2, g3, g4⟩ := r_turnOn_c31 (w := w) (B := 57 * l + 8 + 12 * i) (N := (V.2.getD i d0).2.2.length) (by omega) a4 rfl ((V.2.getD i d0).2.2.length / 2) 0 FUEL D (by omega) (FU (by omega)) (fun j hj => by rw [if_neg (by omega)]; exact a5 j hj)
  refine ⟨D', g1, ?_, ⟨g3, fun k hk => g4 k (by omega)⟩, g2⟩
  rw [g3 273 (by omega)]
  exact h.upd hi (fun k h1 h2 h3 h4 => g4 _ (by omega)) (by rw [g4 _ (by omega)]; exact a1) rfl (by rw [g4 _ (by omega), a3]; simp) (by show (List.reverse _).length ≤ 12; rw [List.length_reverse]; exact a4) (fun j hj => g2 j (by simpa using hj))
/-! overlap -/
theorem r_overlapOf_c57 (hl : l < 2) {o q c : Nat} {xs ys : List Int32} (ho : o < 4) (hq : q < 4) (hx12 : xs.length ≤ 12) (hy12 : ys.length ≤ 12) (hx : ∀ j, j < xs.length → D 274 (57 * l + 8 + 12 * o + j) = xs.getD j 0) (hy : ∀ j, j < ys.length → D 274 (57 * l + 8 + 12 * q + j) = ys.getD j 0) (hc1 : c ≤ xs.length) (hc2 : c ≤ ys.length) {k46 : Nat → Int32 → Int32 → Int32 → Int32 → Int32 → Option Int32} : ∀ (k j fuel : Nat) (b : Bool), j + k = c → k < fuel → fX8_overlapOf_c57 (Y w D) k46 fuel 272 (nI l) (nI o) (nI q) (nI xs.length) (nI c) (b2i b) (nI j) = (if (b && alF (fun i => xs.getD (xs.length - c + i) 0 == ys.getD i 0) j k) = true then some (nI c) else k46 272 (nI l) (nI o) (nI q) (nI xs.length) (nI c + (-1))) := by
  intro k
  induction k with
  | zero =>
    intro j fuel b hj hf
    obtain ⟨f, rfl, hf⟩ := fu hf
    rw [fX8_overlapOf_c57.eq_2, il_t (by omega) (by omega)]
    cases b
    · rw [if_pos (by rfl), if_neg (by simp)]
    · rw [if_neg nb0, if_pos (by rfl)]
  | succ k ih =>
    intro j fuel b hj hf
    obtain ⟨f, rfl, hf⟩ := fu hf
    rw [fX8_overlapOf_c57.eq_2, il_f (by omega) (by omega), nI_1]
    cases b with
    | false =>
      rw [if_pos (by rfl)]
      refine (ih (j + 1) f false (by omega) (by omega)).trans ?_
      rw [if_neg (by simp), if_neg (by simp)]
    | true =>
      rw [if_neg nb0, pk_sub hc1, nI_add, r_bendAt hl ho (by omega), Option.bind_some, r_bendAt hl hq (by omega), Option.bind_some, hx _ (by omega), hy _ (by omega)]
      by_cases he : xs.getD (xs.length - c + j) 0 = ys.getD j 0
      · rw [if_pos he]
        refine (ih (j + 1) f true (by omega) (by omega)).trans ?_
        simp only [alF, he, beq_self_eq_true, Bool.true_and]
      · rw [if_neg he]
        refine (ih (j + 1) f false (by omega) (by omega)).trans ?_
        rw [if_neg (by simp), if_neg]
        simp only [alF, beq_eq_false_iff_ne.mpr he, Bool.false_and, Bool.and_false]
        decide
theorem r_overlapOf_c46 (hl : l < 2) {o q : Nat} {xs ys : List Int32} (ho : o < 4) (hq : q < 4) (hx12 : xs.length ≤ 12) (hy12 : ys.length ≤ 12) (hx : ∀ j, j < xs.length → D 274 (57 * l + 8 + 12 * o + j) = xs.getD j 0) (hy : ∀ j, j < ys.length → D 274 (57 * l + 8 + 12 * q + j) = ys.getD j 0) : ∀ (k fuel : Nat), k ≤ xs.length → k ≤ ys.length → k < fuel → fX8_overlapOf_c46 (Y w D) fuel 272 (nI l) (nI o) (nI q) (nI xs.length) (nI k) = some (nI (ovlF xs ys k)) := by
  intro k
  induction k with
  | zero =>
    intro fuel h1 h2 hf
    obtain ⟨f, rfl, hf⟩ := fu hf
    rw [fX8_overlapOf_c46.eq_2, if_pos (by rw [nI_0]; exact Int32.le_refl 0), ← nI_0]
    rfl
  | succ k ih =>
    intro fuel h1 h2 hf
    obtain ⟨f, rfl, hf⟩ := fu hf
    rw [fX8_overlapOf_c46.eq_2, if_neg (nI_nle (by omega) (by omega)), show (1 : Int32) = b2i true from rfl, ← nI_0, r_overlapOf_c57 hl ho hq hx12 hy12 hx hy h1 h2 (k + 1) 0 FUEL true (by omega) (FU (by omega)), Bool.true_and, pk_m1, ih f (by omega) (by omega) (by omega), ovlF]
    unfold endsB
    split <;> rfl
theorem NwD.bends (h : NwD (D 274) (D 273) (57 * l) V) (hi : i < V.2.length) : ∀ j, j < (V.2.getD i d0).2.2.length → D 274 (57 * l + 8 + 12 * i + j) = (V.2.getD i d0).2.2.getD j 0 := (h.2.2 i hi).2.2.2.2
theorem r_overlapOf {o q : Nat} (hl : l < 2) (h : NwD (D 274) (D 273) (57 * l) V) (ho : o < V.2.length) (hq : q < V.2.length) : fX8_overlapOf (Y w D) 272 (nI l) (nI o) (nI q) = some (nI (ovl (V.2.getD o d0).2.2 (V.2.getD q d0).2.2)) := by
  obtain ⟨q1, q2, q3⟩ := id h
  obtain ⟨a1, a2, a3, a4, a5⟩ := q3 o ho
  obtain ⟨b1, b2, b3, b4, b5⟩ := q3 q hq
  unfold fX8_overlapOf
  simp only [if_pos eO_272, eF_272_2, Option.bind_some, ix4, nw_at (show 57 * l + 4 + o < 114 by omega), nw_at (show 57 * l + 4 + q < 114 by omega), a3, b3]
  unfold ovl
  by_cases hc : (V.2.getD q d0).2.2.length ≤ (V.2.getD o d0).2.2.length
  · rw [il_t hc (by omega), r_overlapOf_c46 hl (by omega) (by omega) a4 b4 a5 b5 _ _ hc (Nat.le_refl _) (FU (by omega)), show min (V.2.getD o d0).2.2.length (V.2.getD q d0).2.2.length = (V.2.getD q d0).2.2.length by omega]
  · rw [il_f (by omega) (by omega), r_overlapOf_c46 hl (by omega) (by omega) a4 b4 a5 b5 _ _ (Nat.le_refl _) (by omega) (FU (by omega)), show min (V.2.getD o d0).2.2.length (V.2.getD q d0).2.2.length = (V.2.getD o d0).2.2.length by omega]
theorem r_joinedMany {o q : Nat} (hl : l < 2) (h : NwD (D 274) (D 273) (57 * l) V) (ho : o < V.2.length) (hq : q < V.2.length) : fX8_joinedMany (Y w D) 272 (nI l) (nI o) (nI q) = some (nI (joinL (V.2.getD o d0).2.2 (V.2.getD q d0).2.2).length) := by
  obtain ⟨q1, q2, q3⟩ := id h
  obtain ⟨a1, a2, a3, a4, a5⟩ := q3 o ho
  obtain ⟨b1, b2, b3, b4, b5⟩ := q3 q hq
  have hov := ovl_le (V.2.getD o d0).2.2 (V.2.getD q d0).2.2
  unfold fX8_joinedMany
  simp only [if_pos eO_272, eF_272_2, Option.bind_some, ix4, nw_at (show 57 * l + 4 + o < 114 by omega), nw_at (show 57 * l + 4 + q < 114 by omega), a3, b3, r_overlapOf hl h ho hq, nI_add]
  rw [pk_sub (by omega), joinL_len]
theorem r_isOneHouse {o q : Nat} (hl : l < 2) (h : NwD (D 274) (D 273) (57 * l) V) (ho : o < V.2.length) (hq : q < V.2.length) : fX8_isOneHouse (Y w D) 272 (nI l) (nI o) (nI q) = some (b2i (decide ((V.2.getD o d0).1 = (V.2.getD q d0).1))) := by
  obtain ⟨q1, q2, q3⟩ := id h
  unfold fX8_isOneHouse
  simp only [if_pos eO_272, eF_272_2, Option.bind_some, ix0, nw_at (show 57 * l + o < 114 by omega), nw_at (show 57 * l + q < 114 by omega), (q3 o ho).1, (q3 q hq).1]
  by_cases hh : (V.2.getD o d0).1 = (V.2.getD q d0).1
  · rw [if_pos hh, decide_eq_true hh]; rfl
  · rw [if_neg hh, decide_eq_false hh]; rfl
def cjB (ss : List tS) (x y : Int32) : Bool := hasI ss x && hasI ss y && !decide (x = y) && decide ((gt ss x).1 = (gt ss y).1) && decide ((joinL (gt ss x).2.2 (gt ss y).2.2).length ≤ 12)
theorem r_canJoin {x y : Int32} (hl : l < 2) (hn : D 272 0 = nI V.2.length) (h : NwD (D 274) (D 273) (57 * l) V) : fX8_canJoin (Y w D) 272 (nI l) x y = some (b2i (cjB V.2 x y)) := by
  obtain ⟨q1, q2, q3⟩ := id h
  unfold fX8_canJoin cjB
  rw [if_pos eO_272, r_isThere hl hn h, Option.bind_some]
  cases hb : hasI V.2 x with
  | false => rw [if_pos (by rfl)]; rfl
  | true =>
    rw [if_neg nb0, r_isThere hl hn h, Option.bind_some]
    cases hb2 : hasI V.2 y with
    | false => rw [if_pos (by rfl)]; rfl
    | true =>
      obtain ⟨o, ho, rfl, ht⟩ := hasI_spec hb
      obtain ⟨q, hq, rfl, ht2⟩ := hasI_spec hb2
      have hg : gt V.2 (nI o) = V.2.getD o d0 := by unfold gt; rw [nI_clamp (by omega)]
      have hg2 : gt V.2 (nI q) = V.2.getD q d0 := by unfold gt; rw [nI_clamp (by omega)]
      rw [if_neg nb0, hg, hg2]
      by_cases hoq : nI o = nI q
      · rw [if_pos hoq, decide_eq_true hoq]; rfl
      · rw [if_neg hoq, decide_eq_false hoq, r_isOneHouse hl h ho hq, Option.bind_some]
        by_cases hh : (V.2.getD o d0).1 = (V.2.getD q d0).1
        · have hov := ovl_le (V.2.getD o d0).2.2 (V.2.getD q d0).2.2
          have hjl := joinL_len (V.2.getD o d0).2.2 (V.2.getD q d0).2.2
          have a4 := (q3 o ho).2.2.2.1
          have b4 := (q3 q hq).2.2.2.1
          rw [decide_eq_true hh, if_neg nb0, r_joinedMany hl h ho hq, Option.bind_some, ← nI_12]
          by_cases hc : (joinL (V.2.getD o d0).2.2 (V.2.getD q d0).2.2).length ≤ 12
          · rw [ilt_f hc (by omega), decide_eq_true hc]; rfl
          · rw [ilt_t (by omega) (by omega), decide_eq_false hc]; rfl
        · rw [decide_eq_false hh, if_pos (by rfl)]; rfl
theorem ixj {o n k c : Nat} (h : c ≤ k) : 57 * nI l + 8 + 12 * nI o + nI n + nI k - nI c = nI (57 * l + 8 + 12 * o + n + (k - c)) := by
  rw [ix8, nI_add, pk_sub (by omega)]
  congr 1
  omega
theorem r_joinOn_c43 (hl : l < 2) {o q c : Nat} {xs ys : List Int32} (ho : o < 4) (hq : q < 4) (hne : o ≠ q) (hcy : c ≤ ys.length) (hcx : c ≤ xs.length) (h12 : xs.length + (ys.length - c) ≤ 12) (hy12 : ys.length ≤ 12) : ∀ (k j fuel : Nat) (D : mD), j + k = ys.length → c ≤ j → k < fuel → (∀ i, i < ys.length → D 274 (57 * l + 8 + 12 * q + i) = ys.getD i 0) → (∀ i, i < xs.length → D 274 (57 * l + 8 + 12 * o + i) = xs.getD i 0) → (∀ i, c ≤ i → i < j → D 274 (57 * l + 8 + 12 * o + xs.length + (i - c)) = ys.getD i 0) → ∃ D', fX8_joinOn_c43 fuel (Y w D) 272 (nI l) (nI o) (nI q) (nI c) (nI xs.length) (nI ys.length) (nI j) = some (Y w D') ∧ (∀ i, i < xs.length → D' 274 (57 * l + 8 + 12 * o + i) = xs.getD i 0) ∧ (∀ i, c ≤ i → i < ys.length → D' 274 (57 * l + 8 + 12 * o + xs.length + (i - c)) = ys.getD i 0) ∧ D' 274 (57 * l + 4 + o) = nI (xs.length + ys.length - c) ∧ D' 274 (57 * l + 4 + q) = 0 ∧ (∀ a, a ≠ 274 → D' a = D a) ∧ (∀ k, ¬ (57 * l + 8 + 12 * o ≤ k ∧ k < 57 * l + 8 + 12 * o + 12) → k ≠ 57 * l + 4 + o → k ≠ 57 * l + 4 + q → D' 274 k = D 274 k) := by
  intro k
  induction k with
  | zero =>
    intro j fuel D hj hcj hf h1 h2 h3
    obtain ⟨f, rfl, hf⟩ := fu hf
    rw [fX8_joinOn_c43.eq_2, il_t (by omega) (by omega), eF_272_2, Option.bind_some, ix4, ix4, nI_add, pk_sub (by omega), nw_st (by omega), Option.bind_some, eF_272_2, Option.bind_some, nw_st (by omega), Option.bind_some]
    refine ⟨_, rfl, fun i hi => ?_, fun i hi1 hi2 => ?_, ?_, ?_, fun a ha => by rw [ud_r ha, ud_r ha], fun k hk1 hk2 hk3 => by rw [ud_n (by omega), ud_n (by omega)]⟩
    · rw [ud_n (by omega), ud_n (by omega)]; exact h2 i hi
    · rw [ud_n (by omega), ud_n (by omega)]; exact h3 i hi1 (by omega)
    · rw [ud_n (by omega), ud_s]
    · rw [ud_s]
  | succ k ih =>
    intro j fuel D hj hcj hf h1 h2 h3
    obtain ⟨f, rfl, hf⟩ := fu hf
    rw [fX8_joinOn_c43.eq_2, il_f (by omega) (by omega), eF_272_2, Option.bind_some, r_bendAt hl hq (by omega), Option.bind_some, ixj hcj, nw_st (by omega), Option.bind_some, nI_1]
    obtain ⟨D', g1, g2, g3, g4, g5, g6, g7⟩ := ih (j + 1) f (ud D 274 (57 * l + 8 + 12 * o + xs.length + (j - c)) (D 274 (57 * l + 8 + 12 * q + j))) (by omega) (by omega) (by omega) (fun i hi => by rw [ud_n (by omega)]; exact h1 i hi) (fun i hi => by rw [ud_n (by omega)]; exact h2 i hi) (fun i hi1 hi2 => by
      by_cases hij : i = j
      · subst hij
        rw [ud_s, h1 i (by omega)]
      · rw [ud_n (by omega)]
        exact h3 i hi1 (by omega))
    exact ⟨D', g1, g2, g3, g4, g5, fun a ha => by rw [g6 a ha, ud_r ha], fun k hk1 hk2 hk3 => by rw [g7 k hk1 hk2 hk3, ud_n (by omega)]⟩
theorem r_joinOn {o q : Nat} (hl : l < 2) (h : NwD (D 274) (D 273) (57 * l) V) (ho : o < V.2.length) (hq : q < V.2.length) (hne : o ≠ q) (h12 : (joinL (V.2.getD o d0).2.2 (V.2.getD q d0).2.2).length ≤ 12) : ∃ D', fX8_joinOn (Y w D) 272 (nI l) (nI o) (nI q) = some (Y w D') ∧ NwD (D' 274) (D' 273) (57 * l) (V.1, (V.2.set o ((V.2.getD o d0).1, (V.2.getD o d0).2.1, joinL (V.2.getD o d0).2.2 (V.2.getD q d0).2.2)).set q ((V.2.getD q d0).1, (V.2.getD q d0).2.1, [])) ∧ LvF l D D' := by
  obtain ⟨q1, q2, q3⟩ := id h
  obtain ⟨a1, a2, a3, a4, a5⟩ := q3 o ho
  obtain ⟨b1, b2, b3, b4, b5⟩ := q3 q hq
  have hov := ovl_le (V.2.getD o d0).2.2 (V.2.getD q d0).2.2
  have hjl := joinL_len (V.2.getD o d0).2.2 (V.2.getD q d0).2.2
  unfold fX8_joinOn
  simp only [if_pos eO_272, eF_272_2, Option.bind_some, ix4, nw_at (show 57 * l + 4 + o < 114 by omega), nw_at (show 57 * l + 4 + q < 114 by omega), a3, b3, r_overlapOf hl h ho hq]
  obtain ⟨D', g1, g2, g3, g4, g5, g6, g7⟩ := r_joinOn_c43 (w := w) (l := l) (o := o) (q := q) (c := ovl (V.2.getD o d0).2.2 (V.2.getD q d0).2.2) hl (by omega) (by omega) hne hov.2 hov.1 (by omega) b4 ((V.2.getD q d0).2.2.length - ovl (V.2.getD o d0).2.2 (V.2.getD q d0).2.2) (ovl (V.2.getD o d0).2.2 (V.2.getD q d0).2.2) FUEL D (by omega) (Nat.le_refl _) (FU (by omega)) b5 a5 (fun i h1 h2 => by omega)
  refine ⟨D', g1, ?_, ⟨g6, fun k hk => g7 k (by omega) (by omega) (by omega)⟩⟩
  rw [g6 273 (by omega)]
  refine ⟨by rw [g7 _ (by omega) (by omega) (by omega)]; exact q1, by simpa using q2, fun j hj => ?_⟩
  have hj' : j < V.2.length := by simpa using hj
  dsimp only
  rw [getD_set (by simpa using hq), getD_set ho]
  by_cases hjq : j = q
  · subst hjq
    rw [if_pos rfl]
    exact ⟨by rw [g7 _ (by omega) (by omega) (by omega)]; exact b1, b2, g5, by simp, fun k hk => by simp at hk⟩
  · rw [if_neg hjq]
    by_cases hjo : j = o
    · subst hjo
      rw [if_pos rfl]
      refine ⟨by rw [g7 _ (by omega) (by omega) (by omega)]; exact a1, a2, by rw [g4, hjl], h12, fun k hk => ?_⟩
      have hk' : k < (joinL (V.2.getD j d0).2.2 (V.2.getD q d0).2.2).length := hk
      by_cases hkx : k < (V.2.getD j d0).2.2.length
      · rw [g2 k hkx]
        show _ = (joinL _ _).getD k 0
        unfold joinL
        rw [getD_app hkx]
      · have := g3 (k - (V.2.getD j d0).2.2.length + ovl (V.2.getD j d0).2.2 (V.2.getD q d0).2.2) (by omega) (by omega)
        rw [show 57 * l + 8 + 12 * j + (V.2.getD j d0).2.2.length + (k - (V.2.getD j d0).2.2.length + ovl (V.2.getD j d0).2.2 (V.2.getD q d0).2.2 - ovl (V.2.getD j d0).2.2 (V.2.getD q d0).2.2) = 57 * l + 8 + 12 * j + k by omega] at this
        rw [this]
        show _ = (joinL _ _).getD k 0
        unfold joinL
        rw [getD_app_r hkx]
    · rw [if_neg hjo]
      obtain ⟨p1, p2, p3, p4, p5⟩ := q3 j hj'
      exact ⟨by rw [g7 _ (by omega) (by omega) (by omega)]; exact p1, p2, by rw [g7 _ (by omega) (by omega) (by omega)]; exact p3, p4, fun k hk => by rw [g7 _ (by omega) (by omega) (by omega)]; exact p5 k hk⟩
end R3
