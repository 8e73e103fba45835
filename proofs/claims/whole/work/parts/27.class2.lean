/-! ===== more calls of the class ===== -/
theorem nb0 : ¬ b2i true = 0 := by decide
theorem ntf : ¬ (true = false) := by decide
theorem ntff : ¬ (true = false ∨ true = false) := by decide
section C2
variable {w : mW} {D : mD} {tx : List Int32} {V : tV} {A : List tV} {K : Nat → Option tV} {bd : List Int32} {L : List (Int32 × Int32)}
def gt (ss : List tS) (x : Int32) : tS := ss.getD x.toNatClampNeg d0
def sdA (ss : List tS) (bd : List Int32) (x k : Int32) : Int32 :=
  if hasI ss x = false then -1
  else if k = 0 then (gt ss x).1
  else if k = 1 then (gt ss x).2.1
  else if k = 2 then nI (gt ss x).2.2.length
  else if k = 3 then fstP bd (gt ss x).2.2
  else -2
theorem c_strand {x y : Int32} (h : CI D tx V A K bd L) : fX7_strand (Y w D) 1 x y = some (sdA V.2 bd x y) := by
  obtain ⟨c1, c2, c3, c4, c5, c6⟩ := id h
  unfold fX7_strand sdA
  rw [if_pos eO_1, eF_1_1, Option.bind_some, l_has isVl_4 c2, Option.bind_some]
  cases hb : hasI V.2 x with
  | false => rw [if_pos rfl, if_pos (by rfl)]
  | true =>
    obtain ⟨i, hi, rfl, ht⟩ := hasI_spec hb
    have q3 := c2.2.2.1
    have hs := vl_s isVl_4 (i := i) (by omega)
    obtain ⟨s1, s2, s3, s4⟩ := c2.2.2.2 i hi
    have hg : gt V.2 (nI i) = V.2.getD i d0 := by unfold gt; rw [nI_clamp (by omega)]
    rw [if_neg nb0, if_neg ntf]
    simp only [Option.bind_some, vl_a isVl_4, vl_q isVl_4 (show i < 4 by omega), st_h hs, st_k hs, st_r hs, eF_1_6, rw_sz (st_rw hs), l_firstPlaceOf isRw_bed (st_rw hs) c5.1 s3 c5.2 s4, s1, s2, s3.1, hg]
    by_cases k0 : y = 0
    · rw [if_pos k0, if_pos k0]
    · rw [if_neg k0, if_neg k0]
      by_cases k1 : y = 1
      · rw [if_pos k1, if_pos k1]
      · rw [if_neg k1, if_neg k1]
        by_cases k2 : y = 2
        · rw [if_pos k2, if_pos k2]
        · rw [if_neg k2, if_neg k2]
          by_cases k3 : y = 3
          · rw [if_pos k3, if_pos k3]
          · rw [if_neg k3, if_neg k3]
def bnA (ss : List tS) (x : Int32) : Int64 := if hasI ss x = false then -1 else figL (gt ss x).2.2
theorem c_bends {x : Int32} (h : CI D tx V A K bd L) : fX7_bends (Y w D) 1 x = some (bnA V.2 x) := by
  obtain ⟨c1, c2, c3, c4, c5, c6⟩ := id h
  unfold fX7_bends bnA
  rw [if_pos eO_1, eF_1_1, Option.bind_some, l_has isVl_4 c2, Option.bind_some]
  cases hb : hasI V.2 x with
  | false => rw [if_pos rfl, if_pos (by rfl)]
  | true =>
    obtain ⟨i, hi, rfl, ht⟩ := hasI_spec hb
    have q3 := c2.2.2.1
    have hs := vl_s isVl_4 (i := i) (by omega)
    obtain ⟨s1, s2, s3, s4⟩ := c2.2.2.2 i hi
    have hg : gt V.2 (nI i) = V.2.getD i d0 := by unfold gt; rw [nI_clamp (by omega)]
    rw [if_neg nb0, if_neg ntf, Option.bind_some, vl_a isVl_4, Option.bind_some, vl_q isVl_4 (by omega), Option.bind_some, st_r hs, Option.bind_some, l_figures (st_rw hs) s3 s4, Option.bind_some, hg]
def ovA (ss : List tS) (x y : Int32) : Int32 := if hasI ss x = false ∨ hasI ss y = false then -1 else if x = y then -2 else nI (ovl (gt ss x).2.2 (gt ss y).2.2)
theorem c_overlap {x y : Int32} (h : CI D tx V A K bd L) : fX7_overlap (Y w D) 1 x y = some (ovA V.2 x y) := by
  obtain ⟨c1, c2, c3, c4, c5, c6⟩ := id h
  unfold fX7_overlap ovA
  rw [if_pos eO_1, eF_1_1, Option.bind_some, l_has isVl_4 c2, Option.bind_some]
  cases hb : hasI V.2 x with
  | false => rw [if_pos (Or.inl rfl), if_pos (by rfl)]
  | true =>
    rw [if_neg nb0, Option.bind_some, l_has isVl_4 c2, Option.bind_some]
    cases hb2 : hasI V.2 y with
    | false => rw [if_pos (Or.inr rfl), if_pos (by rfl)]
    | true =>
      obtain ⟨i, hi, rfl, ht⟩ := hasI_spec hb
      obtain ⟨j, hj, rfl, ht2⟩ := hasI_spec hb2
      have q3 := c2.2.2.1
      have hs := vl_s isVl_4 (i := i) (by omega)
      have hs2 := vl_s isVl_4 (i := j) (by omega)
      obtain ⟨s1, s2, s3, s4⟩ := c2.2.2.2 i hi
      obtain ⟨p1, p2, p3, p4⟩ := c2.2.2.2 j hj
      have hg : gt V.2 (nI i) = V.2.getD i d0 := by unfold gt; rw [nI_clamp (by omega)]
      have hg2 : gt V.2 (nI j) = V.2.getD j d0 := by unfold gt; rw [nI_clamp (by omega)]
      rw [if_neg nb0, if_neg ntff]
      by_cases hij : nI i = nI j
      · rw [if_pos hij, if_pos hij]
      · rw [if_neg hij, if_neg hij]
        simp only [Option.bind_some, vl_a isVl_4, vl_q isVl_4 (show i < 4 by omega), vl_q isVl_4 (show j < 4 by omega), st_r hs, st_r hs2, l_overlapWith (st_rw hs) (st_rw hs2) s3 p3 s4 p4, hg, hg2]
def ctA (tx : List Int32) (V : tV) (A : List tV) (bd : List Int32) (L : List (Int32 × Int32)) (x : Int32) : Int32 :=
  if x = 0 then nI tx.length
  else if x = 1 then nI V.2.length
  else if x = 2 then who V.2
  else if x = 3 then nI (sumF V.2 0 V.2.length 0)
  else if x = 4 then V.1
  else if x = 5 then nI bd.length
  else if x = 6 then hseF V.2 0 V.2.length 0
  else if x = 7 then nI A.length
  else if x = 8 then nI L.length
  else -2
theorem c_count {x : Int32} (h : CI D tx V A K bd L) : fX7_count (Y w D) 1 x = some (ctA tx V A bd L x) := by
  obtain ⟨c1, c2, ⟨fi, c3⟩, c4, c5, c6⟩ := id h
  have hsum := l_bsum (w := w) (i := 0) isVl_4 c2 (Nat.zero_le _)
  rw [nI_0, Nat.sub_zero] at hsum
  unfold fX7_count ctA
  rw [if_pos eO_1, eF_1_0, Option.bind_some, eF_2_1, Option.bind_some, c1.1, eF_1_1, Option.bind_some, vl_t isVl_4, Option.bind_some, c2.1, Option.bind_some, l_who isVl_4 c2, Option.bind_some, Option.bind_some, hsum, Option.bind_some, Option.bind_some, vl_y isVl_4, Option.bind_some, c2.2.1, eF_1_6, Option.bind_some, eF_263_1, Option.bind_some, c5.1.1, Option.bind_some, l_hse isVl_4 c2, Option.bind_some, eF_1_3, Option.bind_some, eF_32_2, Option.bind_some, c3.2.2.1, eF_1_5, Option.bind_some, eF_260_2, Option.bind_some, c6.1]
  repeat' split
  all_goals rfl
/-! winters to come -/
def winN : Nat → List tS → List tS
  | 0, ss => ss
  | n + 1, ss => winN n (win ss)
def ltA (ss : List tS) (x y : Int32) : Int32 := if hasI ss x = false then -1 else if y < 0 ∨ ¬ y ≤ 20 then -2 else nI ((winN y.toNatClampNeg ss).getD x.toNatClampNeg d0).2.2.length
theorem c_later_c39 {i N : Nat} (hN : N < 1000) : ∀ (k j fuel : Nat) (D : mD) (U : tV), j + k = N → k < fuel → i < U.2.length → CI D tx V A K bd L → VlD D 18 U → ∃ D', fX7_later_c39 fuel (Y w D) 1 (nI i) (nI N) (nI j) = some (nI ((winN k U.2).getD i d0).2.2.length, Y w D') ∧ CI D' tx V A K bd L ∧ ∀ a, 272 ≤ a → D' a = D a := by
  intro k
  induction k with
  | zero =>
    intro j fuel D U hj hf hi h hU
    obtain ⟨f, rfl, hf⟩ := fu hf
    have q3 := hU.2.2.1
    have hs := vl_s isVl_18 (i := i) (by omega)
    rw [fX7_later_c39.eq_2, il_t (by omega) (by omega), eF_1_2, Option.bind_some, vl_a isVl_18, Option.bind_some, vl_q isVl_18 (by omega), Option.bind_some, st_r hs, Option.bind_some, rw_sz (st_rw hs), Option.bind_some, (hU.2.2.2 i hi).2.2.1.1]
    exact ⟨D, rfl, h, fun a _ => rfl⟩
  | succ k ih =>
    intro j fuel D U hj hf hi h hU
    obtain ⟨f, rfl, hf⟩ := fu hf
    obtain ⟨D1, k1, k2, k3⟩ := l_passWinter (w := w) isVl_18 hU
    rw [fX7_later_c39.eq_2, il_f (by omega) (by omega), eF_1_2, Option.bind_some, k1, Option.bind_some, nI_1]
    obtain ⟨D', g1, g2, g3⟩ := ih (j + 1) f D1 _ (by omega) (by omega) (by dsimp only; rw [win_len]; exact hi) (h.scr (fun a ha => k3 a (by omega))) k2
    exact ⟨D', g1, g2, fun a ha => by rw [g3 a ha, k3 a (by omega)]⟩
theorem nI_20 : nI 20 = 20 := by decide +kernel
theorem c_later {x y : Int32} (h : CI D tx V A K bd L) : ∃ D', fX7_later (Y w D) 1 x y = some (ltA V.2 x y, Y w D') ∧ CI D' tx V A K bd L ∧ ∀ a, 272 ≤ a → D' a = D a := by
  obtain ⟨c1, c2, c3, c4, c5, c6⟩ := id h
  unfold fX7_later ltA
  rw [if_pos eO_1, eF_1_1, Option.bind_some, l_has isVl_4 c2, Option.bind_some]
  cases hb : hasI V.2 x with
  | false =>
    rw [if_pos rfl, if_pos (by rfl)]
    exact ⟨D, rfl, h, fun a _ => rfl⟩
  | true =>
    obtain ⟨i, hi, rfl, ht⟩ := hasI_spec hb
    rw [if_neg nb0, if_neg ntf]
    by_cases hy : y < 0
    · rw [if_pos hy, if_pos (Or.inl hy)]
      exact ⟨D, rfl, h, fun a _ => rfl⟩
    · rw [if_neg hy]
      by_cases hy2 : y ≤ 20
      · obtain ⟨j, hj, rfl⟩ := nI_of hy
        have hj2 : j ≤ 20 := by rw [← nI_20] at hy2; exact (nI_leI hj (by omega)).mp hy2
        have q3 := c2.2.2.1
        obtain ⟨D1, g1, g2, g3, g4⟩ := c_trial (w := w) h
        rw [if_pos hy2, if_neg (by rintro (q | q); exact hy q; exact q hy2), eF_1_2, Option.bind_some, Option.bind_some, g1, Option.bind_some, nI_clamp hj, nI_clamp (by omega)]
        obtain ⟨D', k1, k2, k3⟩ := c_later_c39 (w := w) (i := i) (N := j) (by omega) j 0 FUEL D1 V (by omega) (FU (by omega)) hi g3 g2
        rw [nI_0] at k1
        exact ⟨D', k1, k2, fun a ha => by rw [k3 a ha, g4 a (by omega)]⟩
      · rw [if_neg hy2, if_pos (Or.inr hy2)]
        exact ⟨D, rfl, h, fun a _ => rfl⟩
def lasF (i : Nat) : Nat → Nat → List tS → Int32
  | _, 0, _ => -9
  | j, k + 1, ss => if there (win ss) i = true then lasF i (j + 1) k (win ss) else nI j
def lsA (ss : List tS) (x : Int32) : Int32 := if hasI ss x = false then -1 else lasF x.toNatClampNeg 1 20 ss
theorem c_lasts_c26 {i : Nat} : ∀ (k j fuel : Nat) (D : mD) (U : tV), j + k = 21 → k < fuel → i < U.2.length → CI D tx V A K bd L → VlD D 18 U → ∃ D', fX7_lasts_c26 fuel (Y w D) 1 (nI i) (nI j) = some (lasF i j k U.2, Y w D') ∧ CI D' tx V A K bd L ∧ ∀ a, 272 ≤ a → D' a = D a := by
  intro k
  induction k with
  | zero =>
    intro j fuel D U hj hf hi h hU
    obtain ⟨f, rfl, hf⟩ := fu hf
    rw [fX7_lasts_c26.eq_2, ← nI_20, ilt_t (by omega) (by omega)]
    exact ⟨D, rfl, h, fun a _ => rfl⟩
  | succ k ih =>
    intro j fuel D U hj hf hi h hU
    have q3 := hU.2.2.1
    obtain ⟨f, rfl, hf⟩ := fu hf
    obtain ⟨D1, k1, k2, k3⟩ := l_passWinter (w := w) isVl_18 hU
    rw [fX7_lasts_c26.eq_2, ← nI_20, ilt_f (by omega) (by omega), eF_1_2, Option.bind_some, k1, Option.bind_some]
    dsimp only
    rw [eF_1_2, Option.bind_some, l_has isVl_18 k2, Option.bind_some, hasI_nI (by omega), nI_1]
    have h1 := h.scr (D' := D1) (fun a ha => k3 a (by omega))
    cases hb : there (win U.2) i with
    | false =>
      rw [if_pos (by rfl), lasF, hb]
      exact ⟨D1, rfl, h1, fun a ha => k3 a (by omega)⟩
    | true =>
      rw [if_neg (by decide), lasF, hb]
      obtain ⟨D', g1, g2, g3⟩ := ih (j + 1) f D1 _ (by omega) (by omega) (by dsimp only; rw [win_len]; exact hi) h1 k2
      exact ⟨D', g1, g2, fun a ha => by rw [g3 a ha, k3 a (by omega)]⟩
theorem nI_n1 : nI 1 = 1 := by decide +kernel
theorem c_lasts {x : Int32} (h : CI D tx V A K bd L) : ∃ D', fX7_lasts (Y w D) 1 x = some (lsA V.2 x, Y w D') ∧ CI D' tx V A K bd L ∧ ∀ a, 272 ≤ a → D' a = D a := by
  obtain ⟨c1, c2, c3, c4, c5, c6⟩ := id h
  unfold fX7_lasts lsA
  rw [if_pos eO_1, eF_1_1, Option.bind_some, l_has isVl_4 c2, Option.bind_some]
  cases hb : hasI V.2 x with
  | false =>
    rw [if_pos rfl, if_pos (by rfl)]
    exact ⟨D, rfl, h, fun a _ => rfl⟩
  | true =>
    obtain ⟨i, hi, rfl, ht⟩ := hasI_spec hb
    have q3 := c2.2.2.1
    obtain ⟨D1, g1, g2, g3, g4⟩ := c_trial (w := w) h
    rw [if_neg nb0, if_neg ntf, eF_1_2, Option.bind_some, Option.bind_some, g1, Option.bind_some, nI_clamp (by omega), ← nI_n1]
    obtain ⟨D', k1, k2, k3⟩ := c_lasts_c26 (w := w) (i := i) 20 1 FUEL D1 V (by omega) (FU (by omega)) hi g3 g2
    exact ⟨D', k1, k2, fun a ha => by rw [k3 a ha, g4 a (by omega)]⟩
theorem c_seed {x : Int64} (h : CI D tx V A K bd L) : fX7_seed (Y w D) 1 x = some (w.2 1, Y (w.1, fun q => if q = 1 then x else w.2 q) D) := by
  unfold fX7_seed
  rw [if_pos eO_1, eF_1_12, Option.bind_some, Y_sL (by decide +kernel), Option.bind_some]
/-! the bed, told as figures -/
def rokF : Nat → Int64 → Bool
  | 0, v => decide (lg_cmp v 0 = 0)
  | k + 1, v => !decide (lg_cmp (v - v / (10 : Int64) * (10 : Int64)) 1 < 0) && decide (lg_cmp (v - v / (10 : Int64) * (10 : Int64)) 4 ≤ 0) && rokF k (v / (10 : Int64))
theorem l_rowOfBends_c5 {M : mM} {N : Nat} (hN : N < 1000) : ∀ (k j fuel : Nat) (v : Int64), j + k = N → k < fuel → fX7_isRowOfBends_c5 M fuel (nI N) v (nI j) = some (b2i (rokF k v)) := by
  intro k
  induction k with
  | zero =>
    intro j fuel v hj hf
    obtain ⟨f, rfl, hf⟩ := fu hf
    rw [fX7_isRowOfBends_c5.eq_2, il_t (by omega) (by omega)]
    by_cases h : lg_cmp v 0 = 0
    · rw [if_pos h]; simp [rokF, h, b2i]
    · rw [if_neg h]; simp [rokF, h, b2i]
  | succ k ih =>
    intro j fuel v hj hf
    obtain ⟨f, rfl, hf⟩ := fu hf
    rw [fX7_isRowOfBends_c5.eq_2, il_f (by omega) (by omega), nI_1, ih (j + 1) f _ (by omega) (by omega)]
    by_cases h1 : lg_cmp (v - v / (10 : Int64) * (10 : Int64)) 1 < 0
    · rw [if_pos h1]; simp [rokF, h1, b2i]
    · rw [if_neg h1]
      by_cases h2 : lg_cmp (v - v / (10 : Int64) * (10 : Int64)) 4 ≤ 0
      · rw [if_pos h2]; simp [rokF, h1, h2]
      · rw [if_neg h2]; simp [rokF, h1, h2, b2i]
def bdA (bd : List Int32) (x : Int32) (v : Int64) : Int32 × List Int32 := if x < 0 ∨ 12 < x ∨ rokF x.toNatClampNeg v = false then (-2, bd) else (nI bd.length, digL x.toNatClampNeg v)
theorem c_bed {x : Int32} {v : Int64} (h : CI D tx V A K bd L) : ∃ D', fX7_bed (Y w D) 1 x v = some ((bdA bd x v).1, Y w D') ∧ CI D' tx V A K (bdA bd x v).2 L ∧ ∀ a, 272 ≤ a → D' a = D a := by
  obtain ⟨c1, c2, ⟨fi, c3⟩, c4, c5, c6⟩ := id h
  unfold fX7_bed
  rw [if_pos eO_1]
  by_cases hx : x < 0
  · have e : bdA bd x v = (-2, bd) := by unfold bdA; rw [if_pos (Or.inl hx)]
    rw [if_pos hx, e]
    exact ⟨D, rfl, h, fun a _ => rfl⟩
  · rw [if_neg hx]
    by_cases hx2 : 12 < x
    · have e : bdA bd x v = (-2, bd) := by unfold bdA; rw [if_pos (Or.inr (Or.inl hx2))]
      rw [if_pos hx2, e]
      exact ⟨D, rfl, h, fun a _ => rfl⟩
    · obtain ⟨j, hj, rfl⟩ := nI_of hx
      have hj2 : j ≤ 12 := by
        rw [← nI_12, nI_ltI (by omega) hj] at hx2
        omega
      rw [if_neg hx2]
      unfold fX7_isRowOfBends
      rw [← nI_0, l_rowOfBends_c5 (by omega) j 0 FUEL v (by omega) (FU (by omega)), Option.bind_some, nI_0]
      cases hb : rokF j v with
      | false =>
        have e : bdA bd (nI j) v = (-2, bd) := by unfold bdA; rw [nI_clamp hj, if_pos (Or.inr (Or.inr hb))]
        rw [if_pos (by rfl), e]
        exact ⟨D, rfl, h, fun a _ => rfl⟩
      | true =>
        have e : bdA bd (nI j) v = (nI bd.length, digL j v) := by
          unfold bdA
          rw [nI_clamp hj, if_neg]
          rintro (q | q | q)
          · exact hx q
          · exact hx2 q
          · rw [hb] at q; cases q
        rw [if_neg (by decide), eF_1_6, Option.bind_some, eF_263_1, Option.bind_some, Option.bind_some, c5.1.1, e]
        obtain ⟨D', k1, k2, k3⟩ := l_setFigures (w := w) (D := D) (N := j) (v := v) isRw_bed hj2
        rw [k1, Option.bind_some]
        exact ⟨D', rfl, ⟨c1.kept (k3 2 (by omega) (by omega)) (k3 3 (by omega) (by omega)), c2.kept (fun a ha hb => k3 a (by omega) (by omega)), ⟨fi, c3.kept (fun a ha hb => k3 a (by omega) (by omega))⟩, c4.kept (fun a ha hb => k3 a (by omega) (by omega)), ⟨k2, by rw [digL_len]; exact hj2⟩, c6.kept (fun a ha hb => k3 a (by omega) (by omega))⟩, fun a ha => k3 a (by omega) (by omega)⟩
end C2
