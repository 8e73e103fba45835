/-! ===== what is covered ===== -/
def cov1 (ss : List tS) (bd : List Int32) (i : Nat) : Int32 := if there ss i = true then undP bd (ss.getD i d0).2.2 else 0
def cvF (ss : List tS) (bd : List Int32) (b : Nat → Bool) : Nat → Nat → Int32 → Int32
  | _, 0, a => a
  | j, k + 1, a => cvF ss bd b (j + 1) k (a ||| (if b j = true then cov1 ss bd j else 0))
def cvr (ss : List tS) (bd : List Int32) (b : Nat → Bool) : Int32 := cvF ss bd b 0 4 0
theorem cov1_out {ss : List tS} {bd : List Int32} {j : Nat} (h : ss.length ≤ j) : cov1 ss bd j = 0 := by
  unfold cov1
  rw [there_out h, if_neg (by decide)]
theorem cvF_out {ss : List tS} {bd : List Int32} {b : Nat → Bool} : ∀ (k j : Nat) (a : Int32), ss.length ≤ j → cvF ss bd b j k a = a
  | 0, _, _, _ => rfl
  | k + 1, j, a, h => by
    have e : (if b j = true then cov1 ss bd j else 0) = 0 := by
      rw [cov1_out h]
      split <;> rfl
    rw [cvF, e, Int32.or_zero, cvF_out k (j + 1) a (by omega)]
theorem cvF_app {ss : List tS} {bd : List Int32} {b : Nat → Bool} : ∀ (k m j : Nat) (a : Int32), cvF ss bd b j (k + m) a = cvF ss bd b (j + k) m (cvF ss bd b j k a)
  | 0, m, j, a => by rw [Nat.zero_add]; rfl
  | k + 1, m, j, a => by
    rw [show k + 1 + m = (k + m) + 1 by omega, cvF, cvF_app k m (j + 1), cvF, show j + 1 + k = j + (k + 1) by omega]
theorem cvr_len {ss : List tS} {bd : List Int32} {b : Nat → Bool} (h : ss.length ≤ 4) : cvF ss bd b 0 ss.length 0 = cvr ss bd b := by
  have := cvF_app (ss := ss) (bd := bd) (b := b) ss.length (4 - ss.length) 0 0
  rw [show ss.length + (4 - ss.length) = 4 by omega, cvF_out (4 - ss.length) (0 + ss.length) _ (by omega)] at this
  exact this.symm
theorem bits0 {p : Nat} : bitsI 0 p = 0 := by
  unfold bitsI
  rw [show ((1 : Int32) <<< (nI 0 &&& 31)) - 1 = 0 from by decide, Int32.zero_shiftLeft]
theorem undF_nil {xs : List Int32} : ∀ (k j : Nat) (a : Int32), undF xs [] j k a = a
  | 0, _, _ => rfl
  | k + 1, j, a => by
    rw [undF, List.length_nil, bits0, Int32.or_zero, undF_nil k]
    split <;> rfl
theorem undF_or {xs ys : List Int32} : ∀ (k j : Nat) (a : Int32), undF xs ys j k a = a ||| undF xs ys j k 0
  | 0, _, a => by rw [undF, undF, Int32.or_zero]
  | k + 1, j, a => by
    rw [undF, undF_or k (j + 1), undF, undF_or k (j + 1) (if bearsB xs j ys = true then 0 ||| bitsI ys.length j else 0), ← Int32.or_assoc]
    congr 1
    split
    · rw [Int32.zero_or]
    · rw [Int32.or_zero]
section CV
variable {w : mW} {D : mD} {i : Nat} {tx : List Int32} {V : tV} {A : List tV} {K : Nat → Option tV} {bd : List Int32} {L : List (Int32 × Int32)}
/-! the class -/
def CvD (D : mD) (ss : List tS) (bd : List Int32) : Prop := ∀ i, i < 4 → D 269 i = cov1 ss bd i
theorem c_findCovers_c2 : ∀ (k j fuel : Nat) (D : mD), j + k = 4 → k < fuel → CI D tx V A K bd L → (∀ i, i < j → D 269 i = cov1 V.2 bd i) → ∃ D', fX7_findCovers_c2 fuel (Y w D) 1 (nI j) = some (Y w D') ∧ CvD D' V.2 bd ∧ ∀ a, a ≠ 269 → D' a = D a := by
  intro k
  induction k with
  | zero =>
    intro j fuel D hj hf h h1
    obtain ⟨f, rfl, hf⟩ := fu hf
    rw [fX7_findCovers_c2.eq_2, ← nI_4, il_t (by omega) (by omega)]
    exact ⟨D, rfl, fun i hi => h1 i (by omega), fun a _ => rfl⟩
  | succ k ih =>
    intro j fuel D hj hf h h1
    obtain ⟨f, rfl, hf⟩ := fu hf
    obtain ⟨c1, c2, c3, c4, c5, c6⟩ := id h
    have step : ∀ v : Int32, v = cov1 V.2 bd j → ∃ D', fX7_findCovers_c2 f (Y w (ud D 269 j v)) 1 (nI (j + 1)) = some (Y w D') ∧ CvD D' V.2 bd ∧ ∀ a, a ≠ 269 → D' a = D a := by
      intro v hv
      obtain ⟨D', g1, g2, g3⟩ := ih (j + 1) f (ud D 269 j v) (by omega) (by omega) (h.scr (fun a ha => ud_r (by omega))) (fun i hi => by
        by_cases hij : i = j
        · subst hij; rw [ud_s, hv]
        · rw [ud_n (by omega)]; exact h1 i (by omega))
      exact ⟨D', g1, g2, fun a ha => by rw [g3 a ha, ud_r ha]⟩
    rw [fX7_findCovers_c2.eq_2, ← nI_4, il_f (by omega) (by omega), eF_1_9, Option.bind_some, eF_1_1, Option.bind_some, l_has isVl_4 c2, Option.bind_some, hasI_nI (by omega)]
    cases hb : there V.2 j with
    | false =>
      rw [if_pos (by rfl), Y_aS kA_269 (by omega), Option.bind_some, nI_1]
      exact step 0 (by unfold cov1; rw [hb, if_neg (by decide)])
    | true =>
      have hi := there_lt hb
      have hs := vl_s isVl_4 (i := j) (by omega)
      obtain ⟨s1, s2, s3, s4⟩ := c2.2.2.2 j hi
      rw [if_neg nb0, eF_1_6, Option.bind_some, Option.bind_some, vl_a isVl_4, Option.bind_some, vl_q isVl_4 (by omega), Option.bind_some, st_r hs, Option.bind_some, l_placesUnder isRw_bed (st_rw hs) c5.1 s3 c5.2 s4, Option.bind_some, Y_aS kA_269 (by omega), Option.bind_some, nI_1]
      exact step _ (by unfold cov1; rw [hb, if_pos rfl])
theorem c_findCovers (h : CI D tx V A K bd L) : ∃ D', fX7_findCovers (Y w D) 1 = some (Y w D') ∧ CvD D' V.2 bd ∧ CI D' tx V A K bd L ∧ ∀ a, a ≠ 269 → D' a = D a := by
  unfold fX7_findCovers
  obtain ⟨D', g1, g2, g3⟩ := c_findCovers_c2 (w := w) 4 0 FUEL D (by omega) (FU (by omega)) h (fun i hi => by omega)
  rw [nI_0] at g1
  rw [if_pos eO_1, g1]
  exact ⟨D', rfl, g2, h.scr (fun a ha => g3 a (by omega)), g3⟩
theorem c_covered_c8 {ss : List tS} (hc : CvD D ss bd) : ∀ (k j fuel : Nat) (a : Int32), j + k = 4 → k < fuel → fX7_covered_c8 fuel (Y w D) 1 a (nI j) = some (cvF ss bd (fun _ => true) j k a, Y w D) := by
  intro k
  induction k with
  | zero =>
    intro j fuel a hj hf
    obtain ⟨f, rfl, hf⟩ := fu hf
    rw [fX7_covered_c8.eq_2, ← nI_4, il_t (by omega) (by omega)]
    rfl
  | succ k ih =>
    intro j fuel a hj hf
    obtain ⟨f, rfl, hf⟩ := fu hf
    rw [fX7_covered_c8.eq_2, ← nI_4, il_f (by omega) (by omega), eF_1_9, Option.bind_some, Y_aI kA_269 (by omega), Option.bind_some, hc j (by omega), nI_1, ih (j + 1) f _ (by omega) (by omega), cvF, if_pos rfl]
theorem c_covered (h : CI D tx V A K bd L) : ∃ D', fX7_covered (Y w D) 1 = some (cvr V.2 bd (fun _ => true), Y w D') ∧ CI D' tx V A K bd L ∧ ∀ a, 272 ≤ a → D' a = D a := by
  obtain ⟨D', g1, g2, g3, g4⟩ := c_findCovers (w := w) h
  unfold fX7_covered
  have := c_covered_c8 (w := w) g2 4 0 FUEL 0 (by omega) (FU (by omega))
  rw [nI_0] at this
  rw [if_pos eO_1, g1, Option.bind_some, this]
  exact ⟨D', rfl, g3, fun a ha => g4 a (by omega)⟩
/-! masks -/
theorem nI_w4 : ∀ m, m < 16 → nI m = w4 (m.testBit 0) (m.testBit 1) (m.testBit 2) (m.testBit 3) := by decide +kernel
theorem bit_w4 : ∀ b0 b1 b2 b3 : Bool, ∀ j, j < 4 → ((w4 b0 b1 b2 b3 >>> (nI j &&& 31)) &&& 1) = b2i (if j = 0 then b0 else if j = 1 then b1 else if j = 2 then b2 else b3) := by decide +kernel
theorem b4 {b : Nat → Bool} {j : Nat} (h : j < 4) : (if j = 0 then b 0 else if j = 1 then b 1 else if j = 2 then b 2 else b 3) = b j := by
  rcases (show j = 0 ∨ j = 1 ∨ j = 2 ∨ j = 3 by omega) with rfl | rfl | rfl | rfl <;> rfl
theorem bit_b {b : Nat → Bool} {j : Nat} (h : j < 4) : ((w4 (b 0) (b 1) (b 2) (b 3) >>> (nI j &&& 31)) &&& 1) = b2i (b j) := by
  rw [bit_w4 _ _ _ _ j h, b4 h]
theorem b2i_1 {b : Bool} : (b2i b = 1) ↔ b = true := by cases b <;> simp [b2i]
theorem r_coverOf_c15 {b : Nat → Bool} {s : Nat} (hs : s < V.2.length) (h : NwD (D 274) (D 273) (57 * 0) V) (hb : RBd D bd) {k4 : Nat → Int32 → Int32 → Int32 → Option Int32} : ∀ (k p fuel : Nat) (a : Int32), p + k = bd.length → k < fuel → fX8_coverOf_c15 (Y w D) k4 fuel 272 (w4 (b 0) (b 1) (b 2) (b 3)) a (nI s) (nI p) = k4 272 (w4 (b 0) (b 1) (b 2) (b 3)) (if b s = true then undF bd (V.2.getD s d0).2.2 p k a else a) (nI (s + 1)) := by
  have q2 := h.2.1
  obtain ⟨a1, a2, a3, a4, a5⟩ := h.2.2 s hs
  rw [Nat.mul_zero, Nat.zero_add] at a3
  have b2 := hb.2.1
  intro k
  induction k with
  | zero =>
    intro p fuel a hj hf
    obtain ⟨f, rfl, hf⟩ := fu hf
    rw [fX8_coverOf_c15.eq_2, eF_272_11, Option.bind_some, hb.1, il_t (by omega) (by omega), nI_1, undF]
    split <;> rfl
  | succ k ih =>
    intro p fuel a hj hf
    obtain ⟨f, rfl, hf⟩ := fu hf
    rw [fX8_coverOf_c15.eq_2, eF_272_11, Option.bind_some, hb.1, il_f (by omega) (by omega), r_has (b := b) (by omega), Option.bind_some]
    cases hbs : b s with
    | false => rw [if_pos (by rfl), if_neg (by decide), nI_1]
    | true =>
      have hla := r_liesAt (w := w) (l := 0) (p := p) (by omega) h hb hs (by omega)
      rw [nI_0] at hla
      rw [if_neg nb0, hla, Option.bind_some, show (4 : Int32) + nI s = nI (4 + s) from by rw [← nI_4, nI_add], eF_272_2, Option.bind_some, nw_at (by omega), Option.bind_some, a3, nI_1, ih (p + 1) f _ (by omega) (by omega), ih (p + 1) f _ (by omega) (by omega), hbs, if_pos rfl, if_pos rfl, if_pos rfl, undF, Int32.or_zero]
      cases hbb : bearsB bd p (V.2.getD s d0).2.2
      · rw [if_pos (by rfl), if_neg (by decide)]
      · rw [if_neg nb0, if_pos rfl]
        rfl
theorem cov_step {ss : List tS} {j : Nat} {a : Int32} : undF bd (ss.getD j d0).2.2 0 bd.length a = a ||| cov1 ss bd j := by
  unfold cov1
  cases hb : there ss j with
  | false =>
    have e : (ss.getD j d0).2.2 = [] := by
      have := hb
      unfold there at this
      simpa using this
    rw [e, undF_nil, if_neg (by decide), Int32.or_zero]
  | true => rw [if_pos rfl, undF_or]; rfl
theorem r_coverOf_c4 {b : Nat → Bool} (hn : D 272 0 = nI V.2.length) (h : NwD (D 274) (D 273) (57 * 0) V) (hb : RBd D bd) : ∀ (k j fuel : Nat) (a : Int32), j + k = V.2.length → k < fuel → fX8_coverOf_c4 (Y w D) fuel 272 (w4 (b 0) (b 1) (b 2) (b 3)) a (nI j) = some (cvF V.2 bd b j k a) := by
  have q2 := h.2.1
  have b2 := hb.2.1
  intro k
  induction k with
  | zero =>
    intro j fuel a hj hf
    obtain ⟨f, rfl, hf⟩ := fu hf
    rw [fX8_coverOf_c4.eq_2, eF_272_0, Option.bind_some, hn, il_t (by omega) (by omega)]
    rfl
  | succ k ih =>
    intro j fuel a hj hf
    obtain ⟨f, rfl, hf⟩ := fu hf
    have hc := r_coverOf_c15 (w := w) (b := b) (s := j) (by omega) h hb (k4 := fun w0 w1 w2 w3 => fX8_coverOf_c4 (Y w D) f w0 w1 w2 w3) bd.length 0 FUEL a (by omega) (FU (by omega))
    rw [nI_0] at hc
    rw [fX8_coverOf_c4.eq_2, eF_272_0, Option.bind_some, hn, il_f (by omega) (by omega), hc, ih (j + 1) f _ (by omega) (by omega), cvF]
    congr 2
    split
    · exact cov_step
    · rw [Int32.or_zero]
theorem r_coverOf {b : Nat → Bool} (h : RI D tx V A K bd L) : fX8_coverOf (Y w D) 272 (w4 (b 0) (b 1) (b 2) (b 3)) = some (cvr V.2 bd b) := by
  have q2 := h.2.1.2.2.1
  unfold fX8_coverOf
  have := r_coverOf_c4 (w := w) (b := b) h.2.1.1 h.2.1.2 h.2.2.2.2.1 V.2.length 0 FUEL 0 (by omega) (FU (by omega))
  rw [nI_0] at this
  rw [if_pos eO_272, this, cvr_len q2]
theorem r_covered (h : RI D tx V A K bd L) : fX8_covered (Y w D) 272 = some (cvr V.2 bd (fun _ => true)) := by
  unfold fX8_covered
  have := r_coverOf (w := w) (b := fun _ => true) h
  rw [show w4 true true true true = 15 from by decide] at this
  rw [if_pos eO_272, this, Option.bind_some]
theorem c_coveredBy_c4 {ss : List tS} {b : Nat → Bool} (hc : CvD D ss bd) : ∀ (k j fuel : Nat) (a : Int32), j + k = 4 → k < fuel → fX7_coveredBy_c4 (Y w D) fuel 1 (w4 (b 0) (b 1) (b 2) (b 3)) a (nI j) = some (cvF ss bd b j k a) := by
  intro k
  induction k with
  | zero =>
    intro j fuel a hj hf
    obtain ⟨f, rfl, hf⟩ := fu hf
    rw [fX7_coveredBy_c4.eq_2, ← nI_4, il_t (by omega) (by omega)]
    rfl
  | succ k ih =>
    intro j fuel a hj hf
    obtain ⟨f, rfl, hf⟩ := fu hf
    rw [fX7_coveredBy_c4.eq_2, ← nI_4, il_f (by omega) (by omega), bit_b (by omega), eF_1_9, Option.bind_some, Y_aI kA_269 (by omega), Option.bind_some, hc j (by omega), nI_1, ih (j + 1) f _ (by omega) (by omega), ih (j + 1) f _ (by omega) (by omega), cvF]
    cases hb : b j
    · rw [if_neg (by decide), if_neg (by decide)]
    · rw [if_pos (by rfl), if_pos rfl]
theorem c_coveredBy {ss : List tS} {b : Nat → Bool} (hc : CvD D ss bd) : fX7_coveredBy (Y w D) 1 (w4 (b 0) (b 1) (b 2) (b 3)) = some (cvr ss bd b) := by
  unfold fX7_coveredBy
  have := c_coveredBy_c4 (w := w) (b := b) hc 4 0 FUEL 0 (by omega) (FU (by omega))
  rw [nI_0] at this
  rw [if_pos eO_1, this]
  rfl
end CV
