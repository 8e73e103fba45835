/-! ===== which strand it was, by where it lay ===== -/
def pl (L : List (Int32 × Int32)) (j : Nat) : Nat := (L.getD j (0, 0)).1.toNatClampNeg
def gLa (L : List (Int32 × Int32)) : Prop := ∀ j, j < L.length → (L.getD j (0, 0)).1 = nI (pl L j) ∧ pl L j < 12 ∧ ((L.getD j (0, 0)).2 = 0 ∨ (L.getD j (0, 0)).2 = 1)
def lq1 (bd : List Int32) (L : List (Int32 × Int32)) (xs : List Int32) (j : Nat) : Bool := decide (b2i (bearsB bd (pl L j) xs) = (L.getD j (0, 0)).2)
def lQ (bd : List Int32) (L : List (Int32 × Int32)) (xs : List Int32) : Bool := alF (lq1 bd L xs) 0 L.length
def mny (F : Nat) : Nat := if F < 10 then 1 else if F < 100 then 2 else 3
def wQ (bd : List Int32) (L : List (Int32 × Int32)) (F : Nat) : Bool := lQ bd L (digL (mny F) (lN F))
def obF : Nat → Nat → Bool
  | 0, _ => true
  | n + 1, F => if F = 0 then true else (decide (1 ≤ F % 10) && decide (F % 10 ≤ 4)) && obF n (F / 10)
def fg (l c : Nat) : Nat := if l = 1 then c % 4 + 1 else if l = 2 then 10 * (c / 4 % 4 + 1) + (c % 4 + 1) else 100 * (c / 16 % 4 + 1) + 10 * (c / 4 % 4 + 1) + (c % 4 + 1)
def LF : List Nat := (List.range' 1 444).filter (obF 3)
theorem LF_eq : LF = (List.range' 0 4).map (fg 1) ++ ((List.range' 0 16).map (fg 2) ++ (List.range' 0 64).map (fg 3)) := by decide +kernel
def gsL (l c : Nat) : List Int32 := (List.range l).map (fun i => nI (c / 4 ^ (l - 1 - i) % 4 + 1))
theorem gs_all : ∀ c : Fin 64, (c.val < 4 → digL (mny (fg 1 c.val)) (lN (fg 1 c.val)) = gsL 1 c.val ∧ Int64.toInt32 (figL (gsL 1 c.val)) = nI (fg 1 c.val)) ∧ (c.val < 16 → digL (mny (fg 2 c.val)) (lN (fg 2 c.val)) = gsL 2 c.val ∧ Int64.toInt32 (figL (gsL 2 c.val)) = nI (fg 2 c.val)) ∧ (digL (mny (fg 3 c.val)) (lN (fg 3 c.val)) = gsL 3 c.val ∧ Int64.toInt32 (figL (gsL 3 c.val)) = nI (fg 3 c.val)) := by decide +kernel
theorem gs_at {l c : Nat} (hl : 1 ≤ l ∧ l ≤ 3) (hc : c < 4 ^ l) : digL (mny (fg l c)) (lN (fg l c)) = gsL l c ∧ Int64.toInt32 (figL (gsL l c)) = nI (fg l c) := by
  rcases (show l = 1 ∨ l = 2 ∨ l = 3 by omega) with rfl | rfl | rfl
  · exact (gs_all ⟨c, by omega⟩).1 (by omega)
  · exact (gs_all ⟨c, by omega⟩).2.1 (by omega)
  · exact (gs_all ⟨c, by omega⟩).2.2
def whA (bd : List Int32) (L : List (Int32 × Int32)) (x : Int32) : Int32 := if x = 0 then nI (LF.filter (wQ bd L)).length else if x = 1 then (match LF.find? (wQ bd L) with | some F => nI F | none => -9) else -2
theorem figof : ∀ l : Fin 5, ∀ c : Fin 256, ∀ i : Fin 4, c.val < 4 ^ l.val → i.val < l.val → ((nI c.val >>> ((2 * ((nI l.val - 1) - nI i.val)) &&& 31)) &&& 3) = nI (c.val / 4 ^ (l.val - 1 - i.val) % 4) := by decide +kernel
theorem c_figureOf {M : mM} {l c i : Nat} (hl : l ≤ 4) (hc : c < 4 ^ l) (hi : i < l) : fX7_figureOf M (nI c) (nI l) (nI i) = some (nI (c / 4 ^ (l - 1 - i) % 4)) := by
  have h4 : 4 ^ l ≤ 4 ^ 4 := Nat.pow_le_pow_right (by omega) hl
  unfold fX7_figureOf
  exact congrArg some (figof ⟨l, by omega⟩ ⟨c, by omega⟩ ⟨i, by omega⟩ hc hi)
section WH
variable {w : mW} {D : mD} {i : Nat} {tx : List Int32} {V : tV} {A : List tV} {K : Nat → Option tV} {bd : List Int32} {L : List (Int32 × Int32)}
theorem c_guessRow_c9 {l c : Nat} (hl : l ≤ 3) (hc : c < 4 ^ l) : ∀ (k j fuel : Nat) (D : mD), j + k = l → k < fuel → RowD D 267 ((List.range j).map (fun i => nI (c / 4 ^ (l - 1 - i) % 4 + 1))) → ∃ D', fX7_guessRow_c9 fuel (Y w D) 1 (nI c) (nI l) (nI j) = some (Y w D') ∧ RowD D' 267 (gsL l c) ∧ ∀ a, a ≠ 267 → a ≠ 268 → D' a = D a := by
  intro k
  induction k with
  | zero =>
    intro j fuel D hj hf h
    obtain ⟨f, rfl, hf⟩ := fu hf
    have : j = l := by omega
    subst this
    rw [fX7_guessRow_c9.eq_2, il_t (by omega) (by omega)]
    exact ⟨D, rfl, h, fun a _ _ => rfl⟩
  | succ k ih =>
    intro j fuel D hj hf h
    obtain ⟨f, rfl, hf⟩ := fu hf
    obtain ⟨D1, g1, g2, g3⟩ := l_add (w := w) (x := nI (c / 4 ^ (l - 1 - j) % 4 + 1)) isRw_gue h (by rw [List.length_map, List.length_range]; omega)
    rw [fX7_guessRow_c9.eq_2, il_f (by omega) (by omega), eF_1_8, Option.bind_some, c_figureOf (by omega) hc (by omega), Option.bind_some, nI_1, g1, Option.bind_some, nI_1]
    have e : (List.range j).map (fun i => nI (c / 4 ^ (l - 1 - i) % 4 + 1)) ++ [nI (c / 4 ^ (l - 1 - j) % 4 + 1)] = (List.range (j + 1)).map (fun i => nI (c / 4 ^ (l - 1 - i) % 4 + 1)) := by
      rw [List.range_succ, List.map_append]
      rfl
    rw [e] at g2
    obtain ⟨D', k1, k2, k3⟩ := ih (j + 1) f D1 (by omega) (by omega) g2
    exact ⟨D', k1, k2, fun a h1 h2 => by rw [k3 a h1 h2, g3 a h1 h2]⟩
theorem c_guessRow {l c : Nat} (hl : l ≤ 3) (hc : c < 4 ^ l) : ∃ D', fX7_guessRow (Y w D) 1 (nI c) (nI l) = some (Y w D') ∧ RowD D' 267 (gsL l c) ∧ ∀ a, a ≠ 267 → a ≠ 268 → D' a = D a := by
  obtain ⟨D1, g1, g2, g3⟩ := l_clear (w := w) (D := D) isRw_gue
  obtain ⟨D', k1, k2, k3⟩ := c_guessRow_c9 (w := w) hl hc l 0 FUEL D1 (by omega) (FU (by omega)) g2
  unfold fX7_guessRow
  rw [nI_0] at k1
  rw [if_pos eO_1, eF_1_8, Option.bind_some, g1, Option.bind_some, k1]
  exact ⟨D', rfl, k2, fun a h1 h2 => by rw [k3 a h1 h2, g3 a h1]⟩
theorem c_isSo_c2 {xs : List Int32} (hb : RowD D 263 bd ∧ bd.length ≤ 12) (hx : RowD D 267 xs) (hx2 : xs.length ≤ 12) (hL : LaD D L) (hg : gLa L) : ∀ (k j fuel : Nat), j + k = L.length → k < fuel → fX1_isSo_c2 (Y w D) fuel 260 267 263 (nI j) = some (b2i (alF (lq1 bd L xs) j k)) := by
  obtain ⟨l1, l2, l3⟩ := hL
  intro k
  induction k with
  | zero =>
    intro j fuel hj hf
    obtain ⟨f, rfl, hf⟩ := fu hf
    rw [fX1_isSo_c2.eq_2, eF_260_2, Option.bind_some, l1, il_t (by omega) (by omega)]
    rfl
  | succ k ih =>
    intro j fuel hj hf
    obtain ⟨f, rfl, hf⟩ := fu hf
    obtain ⟨g1, g2, g3⟩ := hg j (by omega)
    rw [fX1_isSo_c2.eq_2, eF_260_2, Option.bind_some, l1, il_f (by omega) (by omega), eF_260_0, Option.bind_some, Y_aI kA_261 (by omega), Option.bind_some, (l3 j (by omega)).1, g1, l_bearsAt isRw_bed isRw_gue hb.1 hx hb.2 hx2 (by omega), Option.bind_some, eF_260_1, Option.bind_some, Y_aI kA_262 (by omega), Option.bind_some, (l3 j (by omega)).2, nI_1, ih (j + 1) f (by omega) (by omega), alF, lq1]
    by_cases hc : b2i (bearsB bd (pl L j) xs) = (L.getD j (0, 0)).2
    · rw [if_pos hc, decide_eq_true hc, Bool.true_and]
    · rw [if_neg hc, decide_eq_false hc, Bool.false_and]
      rfl
theorem gs_len {l c : Nat} : (gsL l c).length = l := by simp [gsL]
/-- one row guessed -/
theorem c_guess {l c : Nat} (hl : 1 ≤ l ∧ l ≤ 3) (hc : c < 4 ^ l) (h : CI D tx V A K bd L) (hg : gLa L) : ∃ D', fX7_guessRow (Y w D) 1 (nI c) (nI l) = some (Y w D') ∧ RowD D' 267 (gsL l c) ∧ fX1_isSo (Y w D') 260 267 263 = some (b2i (wQ bd L (fg l c))) ∧ CI D' tx V A K bd L ∧ ∀ a, 272 ≤ a → D' a = D a := by
  obtain ⟨D', g1, g2, g3⟩ := c_guessRow (w := w) (D := D) hl.2 hc
  have h' : CI D' tx V A K bd L := h.scr (fun a ha => g3 a (by omega) (by omega))
  obtain ⟨c1, c2, c3, c4, c5, c6⟩ := id h'
  have l2 := c6.2.1
  refine ⟨D', g1, g2, ?_, h', fun a ha => g3 a (by omega) (by omega)⟩
  have := c_isSo_c2 (w := w) c5 g2 (by rw [gs_len]; omega) c6 hg L.length 0 FUEL (by omega) (FU (by omega))
  unfold fX1_isSo
  rw [nI_0] at this
  rw [if_pos eO_260, this, wQ, (gs_at hl hc).1]
  rfl
theorem sh4 : ∀ l : Fin 4, (1 <<< ((2 * nI l.val) &&& 31) : Int32) = nI (4 ^ l.val) := by decide +kernel
theorem c_which_c24 {l : Nat} {z : Int32} (hz : z = 0 ∨ z = 1) (hl : 1 ≤ l ∧ l ≤ 3) (hg : gLa L) {k16 : mM → Nat → Int32 → Int32 → Int32 → Option (Int32 × mM)} : ∀ (k c fuel a : Nat) (D : mD), c + k = 4 ^ l → k < fuel → CI D tx V A K bd L → ∃ D', fX7_which_c24 k16 fuel (Y w D) 1 z (nI a) (nI l) (nI c) = (if z = 0 then k16 (Y w D') 1 z (nI (a + (((List.range' c k).map (fg l)).filter (wQ bd L)).length)) (nI (l + 1)) else (match ((List.range' c k).map (fg l)).find? (wQ bd L) with | some F => some (nI F, Y w D') | none => k16 (Y w D') 1 z (nI a) (nI (l + 1)))) ∧ CI D' tx V A K bd L ∧ ∀ a, 272 ≤ a → D' a = D a := by
  have h4 : 4 ^ l ≤ 4 ^ 3 := Nat.pow_le_pow_right (by omega) hl.2
  have hsh : (1 <<< ((2 * nI l) &&& 31) : Int32) = nI (4 ^ l) := sh4 ⟨l, by omega⟩
  intro k
  induction k with
  | zero =>
    intro c fuel a D hc hf h
    obtain ⟨f, rfl, hf⟩ := fu hf
    refine ⟨D, ?_, h, fun a _ => rfl⟩
    rw [fX7_which_c24.eq_2, hsh, il_t (by omega) (by omega), nI_1]
    rcases hz with rfl | rfl
    · rw [if_pos rfl]; rfl
    · rw [if_neg (by decide)]; rfl
  | succ k ih =>
    intro c fuel a D hc hf h
    obtain ⟨f, rfl, hf⟩ := fu hf
    obtain ⟨D1, g1, g2, g3, g4, g5⟩ := c_guess (w := w) (c := c) hl (by omega) h hg
    have hfl := l_figures (w := w) isRw_gue g2 (by rw [gs_len]; omega)
    have hfg := (gs_at hl (show c < 4 ^ l by omega)).2
    rw [fX7_which_c24.eq_2, hsh, il_f (by omega) (by omega), g1, Option.bind_some, eF_1_5, Option.bind_some, eF_1_8, Option.bind_some, eF_1_6, Option.bind_some, g3, Option.bind_some, Option.bind_some, hfl, Option.bind_some, hfg, nI_1, nI_1, List.range'_succ, List.map_cons]
    cases hb : wQ bd L (fg l c) with
    | false =>
      obtain ⟨D', k1, k2, k3⟩ := ih (c + 1) f a D1 (by omega) (by omega) g4
      rw [if_pos (by rfl), k1, List.filter_cons_of_neg (by rw [hb]; exact nft), List.find?_cons_of_neg (by rw [hb]; exact nft)]
      exact ⟨D', rfl, k2, fun a ha => by rw [k3 a ha, g5 a ha]⟩
    | true =>
      rw [if_neg nb0, List.filter_cons_of_pos hb, List.find?_cons_of_pos hb]
      rcases hz with rfl | rfl
      · obtain ⟨D', k1, k2, k3⟩ := ih (c + 1) f (a + 1) D1 (by omega) (by omega) g4
        rw [if_neg (by decide), k1, if_pos rfl, List.length_cons]
        refine ⟨D', ?_, k2, fun a ha => by rw [k3 a ha, g5 a ha]⟩
        rw [if_pos rfl, Nat.add_assoc, Nat.add_comm 1]
      · rw [if_pos rfl]
        refine ⟨D1, ?_, g4, g5⟩
        rw [if_neg (by decide)]
theorem c_which_c16 {z : Int32} (hz : z = 0 ∨ z = 1) (hg : gLa L) (h : CI D tx V A K bd L) : ∃ D', fX7_which_c16 FUEL (Y w D) 1 z 0 1 = some (whA bd L z, Y w D') ∧ CI D' tx V A K bd L ∧ ∀ a, 272 ≤ a → D' a = D a := by
  rw [show FUEL = 999996 + 1 + 1 + 1 + 1 from rfl, fX7_which_c16.eq_2, if_neg (by decide)]
  obtain ⟨D1, g1, g2, g3⟩ := c_which_c24 (w := w) hz (l := 1) (by omega) hg (k16 := fun M w0 w1 w2 w3 => fX7_which_c16 (999996 + 1 + 1 + 1) M w0 w1 w2 w3) 4 0 FUEL 0 D (by omega) (FU (by omega)) h
  obtain ⟨D2, k1, k2, k3⟩ := c_which_c24 (w := w) hz (l := 2) (by omega) hg (k16 := fun M w0 w1 w2 w3 => fX7_which_c16 (999996 + 1 + 1) M w0 w1 w2 w3) 16 0 FUEL (0 + (((List.range' 0 4).map (fg 1)).filter (wQ bd L)).length) D1 (by omega) (FU (by omega)) g2
  obtain ⟨D2', k1', k2', k3'⟩ := c_which_c24 (w := w) hz (l := 2) (by omega) hg (k16 := fun M w0 w1 w2 w3 => fX7_which_c16 (999996 + 1 + 1) M w0 w1 w2 w3) 16 0 FUEL 0 D1 (by omega) (FU (by omega)) g2
  obtain ⟨D3, m1, m2, m3⟩ := c_which_c24 (w := w) hz (l := 3) (by omega) hg (k16 := fun M w0 w1 w2 w3 => fX7_which_c16 (999996 + 1) M w0 w1 w2 w3) 64 0 FUEL (0 + (((List.range' 0 4).map (fg 1)).filter (wQ bd L)).length + (((List.range' 0 16).map (fg 2)).filter (wQ bd L)).length) D2 (by omega) (FU (by omega)) k2
  obtain ⟨D3', m1', m2', m3'⟩ := c_which_c24 (w := w) hz (l := 3) (by omega) hg (k16 := fun M w0 w1 w2 w3 => fX7_which_c16 (999996 + 1) M w0 w1 w2 w3) 64 0 FUEL 0 D2' (by omega) (FU (by omega)) k2'
  rw [nI_0, nI_n1] at g1
  rw [nI_0] at k1 m1
  rw [nI_0] at k1' m1'
  unfold whA
  rcases hz with rfl | rfl
  · rw [if_pos rfl] at g1 k1 m1 ⊢
    rw [g1]
    show ∃ D', fX7_which_c16 (999996 + 1 + 1 + 1) (Y w D1) 1 0 (nI (0 + (((List.range' 0 4).map (fg 1)).filter (wQ bd L)).length)) (nI (1 + 1)) = _ ∧ _
    rw [fX7_which_c16.eq_2, if_neg (by decide), k1]
    show ∃ D', fX7_which_c16 (999996 + 1 + 1) (Y w D2) 1 0 (nI (0 + (((List.range' 0 4).map (fg 1)).filter (wQ bd L)).length + (((List.range' 0 16).map (fg 2)).filter (wQ bd L)).length)) (nI (2 + 1)) = _ ∧ _
    rw [fX7_which_c16.eq_2, if_neg (by decide), m1]
    show ∃ D', fX7_which_c16 (999996 + 1) (Y w D3) 1 0 (nI (0 + (((List.range' 0 4).map (fg 1)).filter (wQ bd L)).length + (((List.range' 0 16).map (fg 2)).filter (wQ bd L)).length + (((List.range' 0 64).map (fg 3)).filter (wQ bd L)).length)) (nI (3 + 1)) = _ ∧ _
    rw [fX7_which_c16.eq_2, if_pos (by decide), if_pos rfl, LF_eq, List.filter_append, List.filter_append, List.length_append, List.length_append]
    refine ⟨D3, ?_, m2, fun a ha => by rw [m3 a ha, k3 a ha, g3 a ha]⟩
    rw [Nat.zero_add, Nat.add_assoc]
  · have n10 : ¬ (1 : Int32) = 0 := by decide
    rw [if_neg n10] at g1 k1' m1' ⊢
    rw [if_pos rfl, LF_eq, List.find?_append, List.find?_append, g1]
    cases h1 : ((List.range' 0 4).map (fg 1)).find? (wQ bd L) with
    | some F => exact ⟨D1, rfl, g2, g3⟩
    | none =>
      show ∃ D', fX7_which_c16 (999996 + 1 + 1 + 1) (Y w D1) 1 1 0 (nI (1 + 1)) = _ ∧ _
      rw [fX7_which_c16.eq_2, if_neg (by decide), k1']
      cases h2 : ((List.range' 0 16).map (fg 2)).find? (wQ bd L) with
      | some F => exact ⟨D2', rfl, k2', fun a ha => by rw [k3' a ha, g3 a ha]⟩
      | none =>
        show ∃ D', fX7_which_c16 (999996 + 1 + 1) (Y w D2') 1 1 0 (nI (2 + 1)) = _ ∧ _
        rw [fX7_which_c16.eq_2, if_neg (by decide), m1']
        cases h3 : ((List.range' 0 64).map (fg 3)).find? (wQ bd L) with
        | some F => exact ⟨D3', rfl, m2', fun a ha => by rw [m3' a ha, k3' a ha, g3 a ha]⟩
        | none =>
          show ∃ D', fX7_which_c16 (999996 + 1) (Y w D3') 1 1 0 (nI (3 + 1)) = _ ∧ _
          rw [fX7_which_c16.eq_2, if_pos (by decide), if_neg n10]
          exact ⟨D3', rfl, m2', fun a ha => by rw [m3' a ha, k3' a ha, g3 a ha]⟩
theorem c_which {z : Int32} (hg : gLa L) (h : CI D tx V A K bd L) : ∃ D', fX7_which (Y w D) 1 z = some (whA bd L z, Y w D') ∧ CI D' tx V A K bd L ∧ ∀ a, 272 ≤ a → D' a = D a := by
  unfold fX7_which
  rw [if_pos eO_1]
  by_cases h0 : z = 0
  · subst h0
    rw [if_pos rfl]
    exact c_which_c16 (Or.inl rfl) hg h
  · rw [if_neg h0]
    by_cases h1 : z = 1
    · subst h1
      rw [if_pos rfl]
      exact c_which_c16 (Or.inr rfl) hg h
    · rw [if_neg h1, whA, if_neg h0, if_neg h1]
      exact ⟨D, rfl, h, fun a _ => rfl⟩
/-! the reference -/
theorem alD_F {P : Nat → Bool} : ∀ (k j : Nat), alF P j (k + 1) = (alF P j k && P (j + k))
  | 0, j => by rw [alF, alF, alF, Bool.and_true, Bool.true_and, Nat.add_zero]
  | k + 1, j => by rw [alF, alD_F k (j + 1), alF, Bool.and_assoc, show j + 1 + k = j + (k + 1) by omega]
theorem r_fitsAt_c25 {F n p : Nat} (hn : n ≤ 3) (hF : F < 1000) (hb : RBd D bd) (hp : p < 12) : ∀ (k fuel : Nat) (c : Bool), k ≤ n → k < fuel → (c = true → p + n ≤ bd.length) → fX8_fitsAt_c25 (Y w D) fuel 272 (nI p) (b2i c) (nI (F / 10 ^ (n - k))) (nI k - 1) = some (b2i (c && alF (fun i => bd.getD (p + i) 0 == (digL n (lN F)).getD i 0) 0 k)) := by
  obtain ⟨b1, b2, b3⟩ := id hb
  intro k
  induction k with
  | zero =>
    intro fuel c hk hf hc
    obtain ⟨f, rfl, hf⟩ := fu hf
    rw [fX8_fitsAt_c25.eq_2, if_pos (by decide), if_pos b2i_01, alF, Bool.and_true]
  | succ k ih =>
    intro fuel c hk hf hc
    obtain ⟨f, rfl, hf⟩ := fu hf
    rw [fX8_fitsAt_c25.eq_2, nI_pred, if_neg (nI_pos (by omega))]
    cases c with
    | false => rw [if_pos (by rfl), if_pos b2i_01, Bool.false_and]
    | true =>
      have hc2 := hc rfl
      have hd : F / 10 ^ (n - (k + 1)) ≤ F := Nat.div_le_self _ _
      have e1 : nI (F / 10 ^ (n - (k + 1))) - nI (F / 10 ^ (n - (k + 1))) / 10 * 10 = nI (F / 10 ^ (n - (k + 1)) % 10) := by rw [← nI_10, pk_rem (by omega) (by omega) (by omega)]
      have e2 : nI (F / 10 ^ (n - (k + 1))) / 10 = nI (F / 10 ^ (n - k)) := by
        rw [← nI_10, pk_div (by omega) (by omega) (by omega), Nat.div_div_eq_div_mul, ← Nat.pow_succ, show (n - (k + 1)).succ = n - k by omega]
      have e3 : (digL n (lN F)).getD k 0 = nI (F / 10 ^ (n - (k + 1)) % 10) := by
        rw [dig_get n F (by omega) k (by omega), show n - 1 - k = n - (k + 1) by omega]
      have i1 := ih f true (by omega) (by omega) (fun _ => hc2)
      have i2 := ih f false (by omega) (by omega) (fun q => by cases q)
      have t1 : b2i true = 1 := rfl
      have t0 : b2i false = 0 := rfl
      rw [t1] at i1
      rw [t0, Bool.false_and, t0] at i2
      rw [if_neg nb0, eF_272_12, Option.bind_some, nI_add, Y_aI kA_279 (by omega), Option.bind_some, b3 _ (by omega), e1, e2, show nI k + (-1) = nI k - 1 from by rw [Int32.sub_eq_add_neg], i1, i2, Bool.true_and, Bool.true_and, alD_F, Nat.zero_add, e3]
      by_cases he : bd.getD (p + k) 0 = nI (F / 10 ^ (n - (k + 1)) % 10)
      · rw [if_pos he, he, beq_self_eq_true, Bool.and_true]
      · rw [if_neg he, beq_eq_false_iff_ne.mpr he, Bool.and_false]
        rfl
theorem r_fitsAt {F n p : Nat} (hn : n ≤ 3) (hF : F < 1000) (hb : RBd D bd) (hp : p < 12) : fX8_fitsAt (Y w D) 272 (nI F) (nI n) (nI p) = some (b2i (bearsB bd p (digL n (lN F)))) := by
  obtain ⟨b1, b2, b3⟩ := id hb
  unfold fX8_fitsAt bearsB
  rw [if_pos eO_272, eF_272_11, Option.bind_some, b1, nI_add, digL_len]
  by_cases hc : p + n ≤ bd.length
  · have := r_fitsAt_c25 (w := w) hn hF hb hp n FUEL true (Nat.le_refl n) (FU (by omega)) (fun _ => hc)
    rw [Nat.sub_self, Nat.pow_zero, Nat.div_one] at this
    rw [ilt_f hc (by omega), decide_eq_true hc]
    exact this
  · have := r_fitsAt_c25 (w := w) hn hF hb hp n FUEL false (Nat.le_refl n) (FU (by omega)) (fun q => by cases q)
    rw [Nat.sub_self, Nat.pow_zero, Nat.div_one] at this
    rw [ilt_t (by omega) (by omega), decide_eq_false hc]
    exact this
theorem r_mayBeLaid_c5 {F n : Nat} (hn : n ≤ 3) (hF : F < 1000) (hb : RBd D bd) (hL : RLa D L) (hg : gLa L) : ∀ (k j fuel : Nat) (c : Bool), j + k = L.length → k < fuel → fX8_mayBeLaid_c5 (Y w D) fuel 272 (nI F) (nI n) (b2i c) (nI j) = some (b2i (c && alF (lq1 bd L (digL n (lN F))) j k)) := by
  obtain ⟨l1, l2, l3⟩ := hL
  intro k
  induction k with
  | zero =>
    intro j fuel c hj hf
    obtain ⟨f, rfl, hf⟩ := fu hf
    rw [fX8_mayBeLaid_c5.eq_2, eF_272_18, Option.bind_some, l1, il_t (by omega) (by omega), if_pos b2i_01, alF, Bool.and_true]
  | succ k ih =>
    intro j fuel c hj hf
    obtain ⟨f, rfl, hf⟩ := fu hf
    obtain ⟨g1, g2, g3⟩ := hg j (by omega)
    have i1 := ih (j + 1) f true (by omega) (by omega)
    have i2 := ih (j + 1) f false (by omega) (by omega)
    rw [fX8_mayBeLaid_c5.eq_2, eF_272_18, Option.bind_some, l1, il_f (by omega) (by omega), nI_1]
    have t1 : b2i true = 1 := rfl
    have t0 : b2i false = 0 := rfl
    rw [t1, Bool.true_and] at i1
    rw [t0, Bool.false_and, t0] at i2
    cases c with
    | false => rw [if_pos (by rfl), i2, Bool.false_and]; rfl
    | true =>
      rw [if_neg nb0, eF_272_19, Option.bind_some, Y_aI kA_282 (by omega), Option.bind_some, (l3 j (by omega)).1, g1, r_fitsAt hn hF hb g2, Option.bind_some, eF_272_20, Option.bind_some, Y_aI kA_283 (by omega), Option.bind_some, (l3 j (by omega)).2, i1, i2, Bool.true_and, alF, lq1]
      cases hbb : bearsB bd (pl L j) (digL n (lN F)) with
      | false =>
        rcases g3 with q | q
        · rw [q, if_neg (by decide), if_pos (by rfl), decide_eq_true (by rfl), Bool.true_and]
        · rw [q, if_pos rfl, if_neg (by decide), decide_eq_false (by decide), Bool.false_and]; rfl
      | true =>
        rcases g3 with q | q
        · rw [q, if_neg (by decide), if_neg nb0, decide_eq_false (by decide), Bool.false_and]; rfl
        · rw [q, if_pos rfl, if_pos (by rfl), decide_eq_true (by rfl), Bool.true_and]
theorem r_mayBeLaid {F n : Nat} (hn : n ≤ 3) (hF : F < 1000) (hb : RBd D bd) (hL : RLa D L) (hg : gLa L) : fX8_mayBeLaid (Y w D) 272 (nI F) (nI n) = some (b2i (lQ bd L (digL n (lN F)))) := by
  have l2 := hL.2.1
  have := r_mayBeLaid_c5 (w := w) hn hF hb hL hg L.length 0 FUEL true (by omega) (FU (by omega))
  rw [nI_0] at this
  unfold fX8_mayBeLaid
  rw [if_pos eO_272]
  exact this
theorem r_areBends_c4 {M : mM} : ∀ (n F fuel : Nat) (c : Bool), F < 10 ^ n → F < 2 ^ 31 → n < fuel → fX8_areBends_c4 M fuel (b2i c) (nI F) = some (b2i (c && obF n F)) := by
  intro n
  induction n with
  | zero =>
    intro F fuel c hF _ hf
    obtain ⟨f, rfl, hf⟩ := fu hf
    have : F = 0 := by rw [Nat.pow_zero] at hF; omega
    subst this
    rw [fX8_areBends_c4.eq_2, if_pos (by rw [nI_0]; exact Int32.le_refl 0), if_pos b2i_01, obF, Bool.and_true]
  | succ n ih =>
    intro F fuel c hF h31 hf
    obtain ⟨f, rfl, hf⟩ := fu hf
    rw [Nat.pow_succ] at hF
    have hd : F / 10 ≤ F := Nat.div_le_self _ _
    have hm : F % 10 < 10 := Nat.mod_lt _ (by omega)
    by_cases h0 : F = 0
    · subst h0
      rw [fX8_areBends_c4.eq_2, if_pos (by rw [nI_0]; exact Int32.le_refl 0), if_pos b2i_01, obF, if_pos rfl, Bool.and_true]
    · have e1 : nI F - nI F / 10 * 10 = nI (F % 10) := by rw [← nI_10, pk_rem (by omega) (by omega) (by omega)]
      have e2 : nI F / 10 = nI (F / 10) := by rw [← nI_10, pk_div (by omega) (by omega) (by omega)]
      have i1 := ih (F / 10) f true (by omega) (by omega) (by omega)
      have i2 := ih (F / 10) f false (by omega) (by omega) (by omega)
      have t1 : b2i true = 1 := rfl
      have t0 : b2i false = 0 := rfl
      rw [t1, Bool.true_and] at i1
      rw [t0, Bool.false_and, t0] at i2
      rw [fX8_areBends_c4.eq_2, if_neg (nI_nle (by omega) (by omega)), e1, e2, i1, i2, d64 (lo := 1) (hi := 4) (by decide) (by decide), Option.bind_some, obF, if_neg h0]
      cases c with
      | false => rw [if_pos (by rfl), Bool.false_and]; rfl
      | true =>
        rw [if_neg nb0, Bool.true_and]
        by_cases hx : 1 ≤ F % 10 ∧ F % 10 ≤ 4
        · rw [decide_eq_true hx.1, decide_eq_true hx.2, Bool.true_and, if_neg]
          · rfl
          · rw [b2i_0, decide_eq_false_iff_not]
            intro q
            refine q ⟨?_, ?_⟩
            · rw [← nI_n1]; exact nI_nlt hx.1 (by omega)
            · rw [← nI_4]; exact nI_nlt hx.2 (by omega)
        · rw [if_pos]
          · have : (decide (1 ≤ F % 10) && decide (F % 10 ≤ 4)) = false := by
              rw [Bool.and_eq_false_iff, decide_eq_false_iff_not, decide_eq_false_iff_not]
              omega
            rw [this, Bool.false_and]; rfl
          · rw [b2i_0, decide_eq_false_iff_not]
            rintro ⟨q1, q2⟩
            rw [← nI_n1, nI_ltI (by omega) (by omega)] at q1
            rw [← nI_4, nI_ltI (by omega) (by omega)] at q2
            omega
theorem r_areBends {M : mM} {F : Nat} (hF : F < 1000) : fX8_areBends M (nI F) = some (b2i (obF 3 F)) := r_areBends_c4 3 F FUEL true (by omega) (by omega) (FU (by omega))
def wP (bd : List Int32) (L : List (Int32 × Int32)) (F : Nat) : Bool := obF 3 F && wQ bd L F
theorem r_which_st {z d : Int32} {F f a : Nat} (h1 : 1 ≤ F) (hF : F < 445) (hb : RBd D bd) (hL : RLa D L) (hg : gLa L) : fX8_which_c21 (Y w D) (f + 1) 272 z (nI a) d (nI F) = (if wP bd L F = true then (if nI a = 0 then fX8_which_c21 (Y w D) f 272 z (nI (a + 1)) (nI F) (nI (F + 1)) else fX8_which_c21 (Y w D) f 272 z (nI (a + 1)) d (nI (F + 1))) else fX8_which_c21 (Y w D) f 272 z (nI a) d (nI (F + 1))) := by
  have hab := r_areBends (M := Y w D) (F := F) (by omega)
  have hml : ∀ n, n ≤ 3 → fX8_mayBeLaid (Y w D) 272 (nI F) (nI n) = some (b2i (lQ bd L (digL n (lN F)))) := fun n hn => r_mayBeLaid hn (by omega) hb hL hg
  have hm1 := hml 1 (by omega)
  have hm2 := hml 2 (by omega)
  have hm3 := hml 3 (by omega)
  rw [nI_n1] at hm1
  rw [nI_2] at hm2
  rw [nI_3] at hm3
  rw [fX8_which_c21.eq_2, show (445 : Int32) = nI 445 from by decide, il_f (by omega) (by omega), ← nI_10, ← nI_100, hab, hm1, hm2, hm3, nI_1, nI_1]
  simp only [Option.bind_some]
  have key : ∀ {α : Type} (x y : Bool) (t e : α), (if b2i x = 0 then e else if b2i y = 0 then e else t) = (if (x && y) = true then t else e) := by
    intro α x y t e
    cases x <;> cases y <;> rfl
  rw [key, key, key]
  unfold wP wQ mny
  by_cases c1 : F < 10
  · rw [il_f c1 (by omega), if_pos c1]
  · rw [il_t (by omega) (by omega), if_neg c1]
    by_cases c2 : F < 100
    · rw [il_f c2 (by omega), if_pos c2]
    · rw [il_t (by omega) (by omega), if_neg c2]
theorem r_which_c21 {z : Int32} (hb : RBd D bd) (hL : RLa D L) (hg : gLa L) : ∀ (k F fuel a : Nat) (d : Int32), F + k = 445 → 1 ≤ F → k < fuel → a < F → fX8_which_c21 (Y w D) fuel 272 z (nI a) d (nI F) = some (if z = 0 then nI (a + ((List.range' F k).filter (wP bd L)).length) else if a = 0 then (match (List.range' F k).find? (wP bd L) with | some G => nI G | none => d) else d) := by
  intro k
  induction k with
  | zero =>
    intro F fuel a d hF h1 hf ha
    obtain ⟨f, rfl, hf⟩ := fu hf
    rw [fX8_which_c21.eq_2, show (445 : Int32) = nI 445 from by decide, il_t (by omega) (by omega)]
    by_cases hz : z = 0
    · rw [if_pos hz, if_pos hz]; rfl
    · rw [if_neg hz, if_neg hz]
      by_cases h0 : a = 0
      · rw [if_pos h0]; rfl
      · rw [if_neg h0]
  | succ k ih =>
    intro F fuel a d hF h1 hf ha
    obtain ⟨f, rfl, hf⟩ := fu hf
    rw [r_which_st h1 (by omega) hb hL hg, List.range'_succ]
    cases hp : wP bd L F with
    | false => rw [if_neg nft, ih (F + 1) f a d (by omega) (by omega) (by omega) (by omega), List.filter_cons_of_neg (by rw [hp]; exact nft), List.find?_cons_of_neg (by rw [hp]; exact nft)]
    | true =>
      rw [if_pos (c := true = true) rfl, List.filter_cons_of_pos hp, List.find?_cons_of_pos hp, List.length_cons]
      by_cases h0 : a = 0
      · subst h0
        rw [if_pos nI_0, ih (F + 1) f (0 + 1) (nI F) (by omega) (by omega) (by omega) (by omega), if_pos (c := (0 : Nat) = 0) rfl, if_neg (c := 0 + 1 = 0) (by omega), Nat.add_comm (0 + 1), Nat.zero_add, Nat.zero_add]
      · rw [if_neg (ne_l nI_0 h0 (by omega) (by omega)), ih (F + 1) f (a + 1) d (by omega) (by omega) (by omega) (by omega), if_neg h0, if_neg (c := a + 1 = 0) (by omega), Nat.add_assoc, Nat.add_comm 1]
theorem r_which {z : Int32} (h : RI D tx V A K bd L) (hg : gLa L) : fX8_which (Y w D) 272 z = some (whA bd L z) := by
  have := r_which_c21 (w := w) (z := z) h.2.2.2.2.1 h.2.2.2.2.2 hg 444 1 FUEL 0 (-9) (by omega) (by omega) (FU (by omega)) (by omega)
  rw [nI_0, nI_n1, if_pos (c := (0 : Nat) = 0) rfl, Nat.zero_add] at this
  have e1 : (List.range' 1 444).filter (wP bd L) = LF.filter (wQ bd L) := by
    unfold LF
    rw [List.filter_filter]
    refine List.filter_congr (fun F _ => ?_)
    unfold wP
    rw [Bool.and_comm]
  have e2 : (List.range' 1 444).find? (wP bd L) = LF.find? (wQ bd L) := by
    unfold LF
    rw [List.find?_filter]
    congr 1
    funext F
    unfold wP
    cases obF 3 F <;> cases wQ bd L F <;> rfl
  rw [e1, e2] at this
  unfold fX8_which
  rw [if_pos eO_272, d64 (lo := 0) (hi := 1) (by decide) (by decide), Option.bind_some, whA]
  by_cases h0 : z = 0
  · rw [if_pos h0] at this ⊢
    rw [if_neg, this]
    rw [b2i_0, decide_eq_false_iff_not, h0]
    decide
  · rw [if_neg h0] at this ⊢
    by_cases h1 : z = 1
    · rw [if_pos h1, if_neg, this]
      rw [b2i_0, decide_eq_false_iff_not, h1]
      decide
    · rw [if_neg h1, if_pos]
      rw [b2i_0, decide_eq_false_iff_not]
      rintro ⟨q1, q2⟩
      rcases in01.mp ⟨q1, Int32.not_lt.mp q2⟩ with q | q
      · exact h0 q
      · exact h1 q
end WH
