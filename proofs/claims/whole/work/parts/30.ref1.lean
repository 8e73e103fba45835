/-! ===== the reference: a level of its numbers as a valley ===== -/
theorem nI_57 : nI 57 = 57 := by decide +kernel
theorem nI_8 : nI 8 = 8 := by decide +kernel
theorem nI_56 : nI 56 = 56 := by decide +kernel
theorem nI_61 : nI 61 = 61 := by decide +kernel
theorem nI_11 : nI 11 = 11 := by decide +kernel
theorem l64_lt {x y : Int32} : (Int32.toInt64 x < Int32.toInt64 y) ↔ x < y := by
  rw [Int64.lt_iff_toInt_lt, Int32.lt_iff_toInt_lt, Int32.toInt_toInt64, Int32.toInt_toInt64]
theorem cmp_lt {x y : Int64} : lg_cmp x y < 0 ↔ x < y := by
  have h := lg_cmp_ge x y
  constructor
  · intro q
    refine Int64.not_le.mp fun r => ?_
    exact absurd q (Int32.not_lt.mpr (h.mpr r))
  · intro q
    refine Int32.not_le.mp fun r => ?_
    exact absurd (h.mp r) (Int64.not_le.mpr q)
theorem cmp_gt {x y : Int64} : 0 < lg_cmp x y ↔ y < x := by
  unfold lg_cmp
  by_cases h1 : x > y
  · rw [if_pos h1]; exact ⟨fun _ => h1, fun _ => by decide⟩
  · rw [if_neg h1]
    by_cases h2 : x = y
    · rw [if_pos h2]; exact ⟨fun q => absurd q (by decide), fun q => absurd q h1⟩
    · rw [if_neg h2]; exact ⟨fun q => absurd q (by decide), fun q => absurd q h1⟩
theorem r_inL {M : mM} {x lo hi : Int64} : fX8_in M x lo hi = some (b2i (decide (¬ x < lo ∧ ¬ hi < x))) := by
  unfold fX8_in
  by_cases h1 : x < lo
  · rw [if_pos (cmp_lt.mpr h1)]
    simp [h1, b2i]
  · rw [if_neg (fun q => h1 (cmp_lt.mp q))]
    by_cases h2 : hi < x
    · rw [if_pos (cmp_gt.mpr h2)]
      simp [h2, b2i]
    · rw [if_neg (fun q => h2 (cmp_gt.mp q))]
      simp [h1, h2, b2i]
theorem r_in {M : mM} {x lo hi : Int32} : fX8_in M (Int32.toInt64 x) (Int32.toInt64 lo) (Int32.toInt64 hi) = some (b2i (decide (¬ x < lo ∧ ¬ hi < x))) := by
  rw [r_inL]
  simp only [l64_lt]
/-- a level: year, houses, how many, bends; the kinds apart -/
def NwD (f kd : Nat → Int32) (o : Nat) (V : tV) : Prop := f (o + 56) = V.1 ∧ V.2.length ≤ 4 ∧ ∀ i, i < V.2.length → f (o + i) = (V.2.getD i d0).1 ∧ kd i = (V.2.getD i d0).2.1 ∧ f (o + 4 + i) = nI (V.2.getD i d0).2.2.length ∧ (V.2.getD i d0).2.2.length ≤ 12 ∧ ∀ j, j < (V.2.getD i d0).2.2.length → f (o + 8 + 12 * i + j) = (V.2.getD i d0).2.2.getD j 0
theorem NwD.kept {f f' kd kd' : Nat → Int32} {o o' : Nat} {V : tV} (h : NwD f kd o V) (h1 : ∀ k, k < 57 → f' (o' + k) = f (o + k)) (h2 : ∀ i, i < 4 → kd' i = kd i) : NwD f' kd' o' V := by
  obtain ⟨q1, q2, q3⟩ := h
  refine ⟨by rw [h1 56 (by omega)]; exact q1, q2, fun i hi => ?_⟩
  obtain ⟨a1, a2, a3, a4, a5⟩ := q3 i hi
  exact ⟨by rw [h1 i (by omega)]; exact a1, by rw [h2 i (by omega)]; exact a2, by rw [Nat.add_assoc, h1 (4 + i) (by omega), ← Nat.add_assoc]; exact a3, a4, fun j hj => by rw [show o' + 8 + 12 * i + j = o' + (8 + 12 * i + j) by omega, h1 _ (by omega), show o + (8 + 12 * i + j) = o + 8 + 12 * i + j by omega]; exact a5 j hj⟩
/-- one strand changed -/
theorem NwD.upd {f f' kd : Nat → Int32} {o i : Nat} {V : tV} {t : tS} (h : NwD f kd o V) (hi : i < V.2.length) (hf : ∀ k, k ≠ i → k ≠ 4 + i → ¬ (8 + 12 * i ≤ k ∧ k < 8 + 12 * i + 12) → k < 57 → f' (o + k) = f (o + k)) (h1 : f' (o + i) = t.1) (h2 : t.2.1 = (V.2.getD i d0).2.1) (h3 : f' (o + 4 + i) = nI t.2.2.length) (h4 : t.2.2.length ≤ 12) (h5 : ∀ j, j < t.2.2.length → f' (o + 8 + 12 * i + j) = t.2.2.getD j 0) : NwD f' kd o (V.1, V.2.set i t) := by
  obtain ⟨q1, q2, q3⟩ := h
  refine ⟨by rw [hf 56 (by omega) (by omega) (by omega) (by omega)]; exact q1, by simpa using q2, fun j hj => ?_⟩
  have hj' : j < V.2.length := by simpa using hj
  dsimp only
  rw [getD_set hi]
  by_cases hji : j = i
  · subst hji
    rw [if_pos rfl]
    exact ⟨h1, by rw [h2]; exact (q3 j hi).2.1, h3, h4, h5⟩
  · rw [if_neg hji]
    obtain ⟨a1, a2, a3, a4, a5⟩ := q3 j hj'
    exact ⟨by rw [hf j hji (by omega) (by omega) (by omega)]; exact a1, a2, by rw [Nat.add_assoc, hf (4 + j) (by omega) (by omega) (by omega) (by omega), ← Nat.add_assoc]; exact a3, a4, fun k hk => by rw [show o + 8 + 12 * j + k = o + (8 + 12 * j + k) by omega, hf _ (by omega) (by omega) (by omega) (by omega), show o + (8 + 12 * j + k) = o + 8 + 12 * j + k by omega]; exact a5 k hk⟩
section R1
variable {w : mW} {D : mD} {l i : Nat} {V : tV}
theorem nw_at {k : Nat} (h : k < 114) : aI (Y w D) false 274 (nI k) = some (D 274 k) := Y_aI kA_274 h
theorem nw_st {k : Nat} {v : Int32} (h : k < 114) : aS (Y w D) false 274 (nI k) v = some (Y w (ud D 274 k v)) := Y_aS kA_274 h
theorem kd_at {k : Nat} (h : k < 4) : aI (Y w D) false 273 (nI k) = some (D 273 k) := Y_aI kA_273 h
theorem ix4 {i : Nat} : 57 * nI l + 4 + nI i = nI (57 * l + 4 + i) := by rw [← nI_57, ← nI_4, pk_mul, nI_add, nI_add]
theorem ix8 {i j : Nat} : 57 * nI l + 8 + 12 * nI i + nI j = nI (57 * l + 8 + 12 * i + j) := by rw [← nI_57, ← nI_8, ← nI_12, pk_mul, nI_add, pk_mul, nI_add, nI_add]
theorem ix8b {i : Nat} : 57 * nI l + 8 + 12 * nI i = nI (57 * l + 8 + 12 * i) := by rw [← nI_57, ← nI_8, ← nI_12, pk_mul, nI_add, pk_mul, nI_add]
theorem ix0 {i : Nat} : 57 * nI l + nI i = nI (57 * l + i) := by rw [← nI_57, pk_mul, nI_add]
theorem ixy : 57 * nI l + 56 = nI (57 * l + 56) := by rw [← nI_57, ← nI_56, pk_mul, nI_add]
theorem r_isThere {x : Int32} (hl : l < 2) (hn : D 272 0 = nI V.2.length) (h : NwD (D 274) (D 273) (57 * l) V) : fX8_isThere (Y w D) 272 (nI l) x = some (b2i (hasI V.2 x)) := by
  obtain ⟨q1, q2, q3⟩ := id h
  unfold fX8_isThere
  rw [if_pos eO_272, eF_272_0, Option.bind_some, hn, show (0 : Int64) = Int32.toInt64 0 from by decide, r_in, Option.bind_some]
  by_cases hx : x < 0
  · rw [if_pos (by rw [b2i_0]; simp [hx])]
    simp [hasI, hx, b2i]
  · obtain ⟨j, hj, rfl⟩ := nI_of hx
    rw [hasI_nI hj]
    by_cases hjl : j < V.2.length
    · obtain ⟨c, hc⟩ : ∃ c, V.2.length = c + 1 := ⟨V.2.length - 1, by omega⟩
      obtain ⟨a1, a2, a3, a4, a5⟩ := q3 j hjl
      rw [hc, nI_pred, if_neg (by rw [b2i_0]; simp [hx, nI_nlt (show j ≤ c by omega) (show c < 2 ^ 31 by omega)]), eF_272_2, Option.bind_some, ix4, nw_at (by omega), Option.bind_some, a3]
      by_cases h0 : (V.2.getD j d0).2.2.length = 0
      · have : there V.2 j = false := by
          cases hb : there V.2 j with
          | false => rfl
          | true => exact absurd h0 (there_ne.mp hb)
        rw [this, h0, if_pos (by rw [nI_0]; exact Int32.le_refl 0)]
        rfl
      · rw [there_ne.mpr h0, if_neg (nI_nle (by omega) (by omega))]
        rfl
    · rw [there_out (by omega), if_pos]
      · rfl
      · rw [b2i_0]
        have : nI V.2.length - 1 < nI j := by
          rcases Nat.eq_zero_or_pos V.2.length with h0 | h0
          · rw [h0, nI_0]
            exact Int32.lt_of_lt_of_le (show (0 : Int32) - 1 < 0 by decide) (Int32.not_lt.mp hx)
          · obtain ⟨c, hc⟩ : ∃ c, V.2.length = c + 1 := ⟨V.2.length - 1, by omega⟩
            rw [hc, nI_pred]
            exact nI_lt (by omega) hj
        simp [this]
theorem r_bendAt {j : Nat} (hl : l < 2) (hi : i < 4) (hj : j < 12) : fX8_bendAt (Y w D) 272 (nI l) (nI i) (nI j) = some (D 274 (57 * l + 8 + 12 * i + j)) := by
  unfold fX8_bendAt
  rw [if_pos eO_272, eF_272_2, Option.bind_some, ix8, nw_at (by omega), Option.bind_some]
/-- what a level's doing may change -/
def LvF (l : Nat) (D D' : mD) : Prop := (∀ a, a ≠ 274 → D' a = D a) ∧ ∀ k, ¬ (57 * l ≤ k ∧ k < 57 * l + 57) → D' 274 k = D 274 k
theorem LvF.rf : LvF l D D := ⟨fun _ _ => rfl, fun _ _ => rfl⟩
theorem LvF.tr {D1 D2 : mD} (h1 : LvF l D D1) (h2 : LvF l D1 D2) : LvF l D D2 := ⟨fun a ha => by rw [h2.1 a ha, h1.1 a ha], fun k hk => by rw [h2.2 k hk, h1.2 k hk]⟩
theorem LvF.ud {k : Nat} {v : Int32} (hk : 57 * l ≤ k ∧ k < 57 * l + 57) : LvF l D (ud D 274 k v) := ⟨fun a ha => ud_r ha, fun j hj => ud_n (by omega)⟩
theorem r_ll0 {c : Nat} (hl : l < 2) (hi : i < 4) (hc : D 274 (57 * l + 4 + i) = nI c) (hc2 : c ≤ 12) : fX8_loseLast (Y w D) 272 (nI l) (nI i) = some (Y w (ud D 274 (57 * l + 4 + i) (nI (c - 1)))) := by
  unfold fX8_loseLast
  simp only [if_pos eO_272, eF_272_2, Option.bind_some, ix4, nw_at (show 57 * l + 4 + i < 114 by omega), nw_st (show 57 * l + 4 + i < 114 by omega), hc]
  by_cases h0 : c = 0
  · subst h0
    rw [if_pos (by decide)]
    rfl
  · obtain ⟨b, rfl⟩ : ∃ b, c = b + 1 := ⟨c - 1, by omega⟩
    rw [if_neg (nI_nle (by omega) (by omega)), nI_pred]
    rfl
theorem r_loseLast (hl : l < 2) (h : NwD (D 274) (D 273) (57 * l) V) (hi : i < V.2.length) : ∃ D', fX8_loseLast (Y w D) 272 (nI l) (nI i) = some (Y w D') ∧ NwD (D' 274) (D' 273) (57 * l) (V.1, V.2.set i ((V.2.getD i d0).1, (V.2.getD i d0).2.1, (V.2.getD i d0).2.2.dropLast)) ∧ LvF l D D' ∧ (∀ k, k ≠ 57 * l + 4 + i → D' 274 k = D 274 k) := by
  obtain ⟨q1, q2, q3⟩ := id h
  obtain ⟨a1, a2, a3, a4, a5⟩ := q3 i hi
  rw [r_ll0 hl (by omega) a3 a4]
  refine ⟨_, rfl, ?_, LvF.ud (by omega), fun k hk => ud_n (by omega)⟩
  rw [ud_r (a := 274) (a' := 273) (by omega)]
  refine h.upd hi (fun k h1 h2 h3 h4 => ud_n (by omega)) (by rw [ud_n (by omega)]; exact a1) rfl (by rw [ud_s]; simp) (by show (List.dropLast _).length ≤ 12; rw [List.length_dropLast]; omega) (fun j hj => ?_)
  have hj2 : j < (V.2.getD i d0).2.2.length - 1 := by simpa using hj
  rw [ud_n (by omega), a5 j (by omega)]
  generalize (V.2.getD i d0).2.2 = xs at hj2
  show xs.getD j 0 = xs.dropLast.getD j 0
  rw [List.getD_eq_getElem?_getD, List.getD_eq_getElem?_getD, List.getElem?_dropLast, if_pos hj2]
theorem r_loseFirst_c16 (hl : l < 2) {i : Nat} (hi : i < 4) {f0 : Nat → Int32} : ∀ (k j fuel : Nat) (D : mD), j + k = 11 → k < fuel → (∀ q, q < j → D 274 (57 * l + 8 + 12 * i + q) = f0 (57 * l + 8 + 12 * i + q + 1)) → (∀ q, (q < 57 * l + 8 + 12 * i ∨ 57 * l + 8 + 12 * i + j ≤ q) → D 274 q = f0 q) → ∃ D1, fX8_loseFirst_c16 fuel (Y w D) 272 (nI l) (nI i) (nI (57 * l + 8 + 12 * i)) (nI j) = ((fX8_loseLast (Y w D1) 272 (nI l) (nI i)).bind fun M3 => some M3) ∧ (∀ q, q < 11 → D1 274 (57 * l + 8 + 12 * i + q) = f0 (57 * l + 8 + 12 * i + q + 1)) ∧ (∀ q, (q < 57 * l + 8 + 12 * i ∨ 57 * l + 8 + 12 * i + 11 ≤ q) → D1 274 q = f0 q) ∧ LvF l D D1 := by
  intro k
  induction k with
  | zero =>
    intro j fuel D hj hf h1 h2
    obtain ⟨f, rfl, hf⟩ := fu hf
    have hj2 : j = 11 := by omega
    subst hj2
    rw [fX8_loseFirst_c16.eq_2, ← nI_11, il_t (by omega) (by omega)]
    exact ⟨D, rfl, h1, h2, LvF.rf⟩
  | succ k ih =>
    intro j fuel D hj hf h1 h2
    obtain ⟨f, rfl, hf⟩ := fu hf
    rw [fX8_loseFirst_c16.eq_2, ← nI_11, il_f (by omega) (by omega), eF_272_2, Option.bind_some, Option.bind_some, nI_add, nI_1, nw_at (by omega), Option.bind_some, nw_st (by omega), Option.bind_some, nI_1]
    obtain ⟨D', g1, g2, g3, g4⟩ := ih (j + 1) f (ud D 274 (57 * l + 8 + 12 * i + j) (D 274 (57 * l + 8 + 12 * i + j + 1))) (by omega) (by omega) (fun q hq => by
      by_cases hqj : q = j
      · subst hqj
        rw [ud_s, h2 _ (by omega)]
      · rw [ud_n (by omega)]
        exact h1 q (by omega)) (fun q hq => by
      rw [ud_n (by omega)]
      exact h2 q (by omega))
    exact ⟨D', g1, g2, g3, (LvF.ud (by omega)).tr g4⟩
theorem r_loseFirst (hl : l < 2) (h : NwD (D 274) (D 273) (57 * l) V) (hi : i < V.2.length) : ∃ D', fX8_loseFirst (Y w D) 272 (nI l) (nI i) = some (Y w D') ∧ NwD (D' 274) (D' 273) (57 * l) (V.1, V.2.set i ((V.2.getD i d0).1, (V.2.getD i d0).2.1, (V.2.getD i d0).2.2.tail)) ∧ LvF l D D' := by
  obtain ⟨q1, q2, q3⟩ := id h
  obtain ⟨a1, a2, a3, a4, a5⟩ := q3 i hi
  unfold fX8_loseFirst
  rw [if_pos eO_272, ix8b, ← nI_0]
  obtain ⟨D1, g1, g2, g3, g4⟩ := r_loseFirst_c16 (w := w) (l := l) (i := i) (f0 := D 274) hl (by omega) 11 0 FUEL D (by omega) (FU (by omega)) (fun q hq => by omega) (fun q _ => rfl)
  rw [g1, r_ll0 hl (by omega) (by rw [g3 _ (by omega)]; exact a3) a4, Option.bind_some]
  refine ⟨_, rfl, ?_, g4.tr (LvF.ud (by omega))⟩
  rw [ud_r (a := 274) (a' := 273) (by omega), g4.1 273 (by omega)]
  refine h.upd hi (fun k h1 h2 h3 h4 => by rw [ud_n (by omega), g3 _ (by omega)]) (by rw [ud_n (by omega), g3 _ (by omega)]; exact a1) rfl (by rw [ud_s]; simp) (by show (List.tail _).length ≤ 12; rw [List.length_tail]; omega) (fun j hj => ?_)
  have hj2 : j < (V.2.getD i d0).2.2.length - 1 := by simpa using hj
  rw [ud_n (by omega), g2 j (by omega), show 57 * l + 8 + 12 * i + j + 1 = 57 * l + 8 + 12 * i + (j + 1) by omega, a5 (j + 1) (by omega)]
  generalize (V.2.getD i d0).2.2 = xs at hj2
  show xs.getD (j + 1) 0 = xs.tail.getD j 0
  cases xs with
  | nil => rfl
  | cons a xs => simp
/-! who is in a house -/
def inB (ss : List tS) (h : Int32) (j : Nat) : Bool := there ss j && decide ((ss.getD j d0).1 = h)
def inhF (ss : List tS) (h : Int32) : Nat → Nat → Int32 → Int32
  | _, 0, a => a
  | j, k + 1, a => inhF ss h (j + 1) k (if inB ss h j = true then a ||| (1 <<< (nI j &&& 31)) else a ||| 0)
theorem r_inHouse_c5 {x : Int32} (hl : l < 2) (hn : D 272 0 = nI V.2.length) (h : NwD (D 274) (D 273) (57 * l) V) : ∀ (k j fuel : Nat) (a : Int32), j + k = V.2.length → k < fuel → fX8_inHouse_c5 (Y w D) fuel 272 (nI l) x a (nI j) = some (inhF V.2 x j k a) := by
  obtain ⟨q1, q2, q3⟩ := id h
  intro k
  induction k with
  | zero =>
    intro j fuel a hj hf
    obtain ⟨f, rfl, hf⟩ := fu hf
    rw [fX8_inHouse_c5.eq_2, eF_272_0, Option.bind_some, hn, il_t (by omega) (by omega)]
    rfl
  | succ k ih =>
    intro j fuel a hj hf
    obtain ⟨f, rfl, hf⟩ := fu hf
    obtain ⟨a1, a2, a3, a4, a5⟩ := q3 j (by omega)
    rw [fX8_inHouse_c5.eq_2, eF_272_0, Option.bind_some, hn, il_f (by omega) (by omega), r_isThere hl hn h, Option.bind_some, hasI_nI (by omega), nI_1, eF_272_2, Option.bind_some, ix0, nw_at (by omega), Option.bind_some, a1, ih (j + 1) f _ (by omega) (by omega), ih (j + 1) f _ (by omega) (by omega)]
    cases hb : there V.2 j
    · simp [inhF, inB, hb, b2i]
    · by_cases hh : (V.2.getD j d0).1 = x
      · have e : inB V.2 x j = true := by unfold inB; rw [hb, decide_eq_true hh]; rfl
        rw [if_neg nb0, if_pos hh, inhF, if_pos e]
      · have e : inB V.2 x j = false := by unfold inB; rw [hb, decide_eq_false hh]; rfl
        rw [if_neg nb0, if_neg hh, inhF, if_neg (by rw [e]; decide)]
theorem inh_w4 {ss : List tS} {x : Int32} (h : ss.length ≤ 4) : inhF ss x 0 ss.length 0 = w4 (inB ss x 0) (inB ss x 1) (inB ss x 2) (inB ss x 3) := by
  have ho : ∀ j, ss.length ≤ j → inB ss x j = false := fun j hj => by unfold inB; rw [there_out hj]; rfl
  rcases (show ss.length = 0 ∨ ss.length = 1 ∨ ss.length = 2 ∨ ss.length = 3 ∨ ss.length = 4 by omega) with h | h | h | h | h
  · rw [h, ho 0 (by omega), ho 1 (by omega), ho 2 (by omega), ho 3 (by omega)]
    simp only [inhF]
    decide
  · rw [h, ho 1 (by omega), ho 2 (by omega), ho 3 (by omega)]
    simp only [inhF]
    cases inB ss x 0 <;> decide
  · rw [h, ho 2 (by omega), ho 3 (by omega)]
    simp only [inhF]
    cases inB ss x 0 <;> cases inB ss x 1 <;> decide
  · rw [h, ho 3 (by omega)]
    simp only [inhF]
    cases inB ss x 0 <;> cases inB ss x 1 <;> cases inB ss x 2 <;> decide
  · rw [h]
    simp only [inhF]
    cases inB ss x 0 <;> cases inB ss x 1 <;> cases inB ss x 2 <;> cases inB ss x 3 <;> decide
theorem cnt_inB {ss : List tS} {x : Int32} (h : ss.length ≤ 4) : cnt ss x = (inB ss x 0).toNat + (inB ss x 1).toNat + (inB ss x 2).toNat + (inB ss x 3).toNat := by
  have ho : ∀ j, ss.length ≤ j → inB ss x j = false := fun j hj => by unfold inB; rw [there_out hj]; rfl
  have hi : ∀ j a, (if there ss j = true ∧ (ss.getD j d0).1 = x then a + 1 else a) = a + (inB ss x j).toNat := by
    intro j a
    unfold inB
    by_cases h1 : there ss j = true
    · by_cases h2 : (ss.getD j d0).1 = x
      · rw [if_pos ⟨h1, h2⟩, h1, decide_eq_true h2]; rfl
      · rw [if_neg (fun q => h2 q.2), h1, decide_eq_false h2]; rfl
    · have h1' : there ss j = false := by simpa using h1
      rw [if_neg (fun q => h1 q.1), h1']; rfl
  unfold cnt
  rcases (show ss.length = 0 ∨ ss.length = 1 ∨ ss.length = 2 ∨ ss.length = 3 ∨ ss.length = 4 by omega) with h | h | h | h | h
  · rw [h, ho 0 (by omega), ho 1 (by omega), ho 2 (by omega), ho 3 (by omega)]
    rfl
  · rw [h, ho 1 (by omega), ho 2 (by omega), ho 3 (by omega), cntF, hi, cntF]
    simp only [Nat.zero_add, Bool.toNat_false]
    omega
  · rw [h, ho 2 (by omega), ho 3 (by omega), cntF, hi, cntF, hi, cntF]
    simp only [Nat.zero_add, Nat.reduceAdd, Bool.toNat_false]
    omega
  · rw [h, ho 3 (by omega), cntF, hi, cntF, hi, cntF, hi, cntF]
    simp only [Nat.zero_add, Nat.reduceAdd, Bool.toNat_false]
    omega
  · rw [h, cntF, hi, cntF, hi, cntF, hi, cntF, hi, cntF]
    simp only [Nat.zero_add, Nat.reduceAdd]
def onF (x : Int32) : Nat → Nat → Int32 → Int32
  | _, 0, a => a
  | j, k + 1, a => onF x (j + 1) k (a + ((x >>> (nI j &&& 31)) &&& 1))
theorem r_ones_c4 {M : mM} {x : Int32} : ∀ (k j fuel : Nat) (a : Int32), j + k = 12 → k < fuel → fX8_ones_c4 M fuel x a (nI j) = some (onF x j k a) := by
  intro k
  induction k with
  | zero =>
    intro j fuel a hj hf
    obtain ⟨f, rfl, hf⟩ := fu hf
    rw [fX8_ones_c4.eq_2, ← nI_12, il_t (by omega) (by omega)]
    rfl
  | succ k ih =>
    intro j fuel a hj hf
    obtain ⟨f, rfl, hf⟩ := fu hf
    rw [fX8_ones_c4.eq_2, ← nI_12, il_f (by omega) (by omega), nI_1, ih (j + 1) f _ (by omega) (by omega)]
    rfl
theorem r_ones {M : mM} {x : Int32} : fX8_ones M x = some (onF x 0 12 0) := by
  unfold fX8_ones
  have := r_ones_c4 (M := M) (x := x) 12 0 FUEL 0 (by omega) (FU (by omega))
  rw [nI_0] at this
  exact this
theorem on_w4 : ∀ b0 b1 b2 b3 : Bool, onF (w4 b0 b1 b2 b3) 0 12 0 = nI (b0.toNat + b1.toNat + b2.toNat + b3.toNat) := by decide +kernel
theorem on_diff : ∀ a0 a1 a2 a3 b0 b1 b2 b3 : Bool, (b0 = true → a0 = true) → (b1 = true → a1 = true) → (b2 = true → a2 = true) → (b3 = true → a3 = true) → onF (w4 a0 a1 a2 a3 &&& (w4 b0 b1 b2 b3 ^^^ (-1))) 0 12 0 = nI (a0.toNat + a1.toNat + a2.toNat + a3.toNat - (b0.toNat + b1.toNat + b2.toNat + b3.toNat)) := by decide +kernel
theorem has_w4 (M : mM) (b0 b1 b2 b3 : Bool) : fX8_has M (w4 b0 b1 b2 b3) (nI 0) = some (b2i b0) ∧ fX8_has M (w4 b0 b1 b2 b3) (nI 1) = some (b2i b1) ∧ fX8_has M (w4 b0 b1 b2 b3) (nI 2) = some (b2i b2) ∧ fX8_has M (w4 b0 b1 b2 b3) (nI 3) = some (b2i b3) := by
  unfold fX8_has
  revert b0 b1 b2 b3
  decide +kernel
theorem r_inHouse {x : Int32} (hl : l < 2) (hn : D 272 0 = nI V.2.length) (h : NwD (D 274) (D 273) (57 * l) V) : fX8_inHouse (Y w D) 272 (nI l) x = some (w4 (inB V.2 x 0) (inB V.2 x 1) (inB V.2 x 2) (inB V.2 x 3)) := by
  have q2 := h.2.1
  unfold fX8_inHouse
  rw [if_pos eO_272]
  have := r_inHouse_c5 (w := w) (x := x) hl hn h V.2.length 0 FUEL 0 (by omega) (FU (by omega))
  rw [nI_0] at this
  rw [this, inh_w4 q2]
end R1
