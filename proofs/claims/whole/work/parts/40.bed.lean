/-! ===== the bed told as figures: the reference ===== -/
theorem lg10 : (10 : Int64) = lN 10 := by decide
theorem lrem_neg {v : Int64} (h : v < 0) : v - v / (10 : Int64) * (10 : Int64) < 1 := by
  have h1 : v.toInt < 0 := by
    have := Int64.lt_iff_toInt_lt.mp h
    simpa using this
  have h2 : -9223372036854775808 ≤ v.toInt := Int64.le_toInt v
  have hd : v.toInt.tdiv 10 = -((-v.toInt) / 10) := by
    have e := Int.neg_tdiv (a := -v.toInt) (b := 10)
    rw [Int.neg_neg] at e
    rw [e, Int.tdiv_eq_ediv_of_nonneg (by omega)]
  have e1 : (v / (10 : Int64)).toInt = -((-v.toInt) / 10) := by
    rw [Int64.toInt_div, show (10 : Int64).toInt = 10 from rfl, hd]
    apply Int.bmod_eq_of_le <;> omega
  have e2 : (v / (10 : Int64) * (10 : Int64)).toInt = -((-v.toInt) / 10) * 10 := by
    rw [Int64.toInt_mul, e1, show (10 : Int64).toInt = 10 from rfl]
    apply Int.bmod_eq_of_le <;> omega
  rw [Int64.lt_iff_toInt_lt, Int64.toInt_sub, e2, show (1 : Int64).toInt = 1 from rfl]
  rw [Int.bmod_eq_of_le (by omega) (by omega)]
  omega
def rokN : Nat → Nat → Bool
  | 0, N => decide (N = 0)
  | k + 1, N => decide (1 ≤ N % 10) && decide (N % 10 ≤ 4) && rokN k (N / 10)
theorem lcmp0 {a b : Int64} : lg_cmp a b = 0 ↔ a = b := by
  unfold lg_cmp
  by_cases h1 : b < a
  · rw [if_pos h1]
    refine ⟨fun q => absurd q (by decide), fun q => ?_⟩
    subst q
    exact absurd h1 Int64.lt_irrefl
  · rw [if_neg h1]
    by_cases h2 : a = b
    · rw [if_pos h2]; exact ⟨fun _ => h2, fun _ => rfl⟩
    · rw [if_neg h2]
      exact ⟨fun q => absurd q (by decide), fun q => absurd q h2⟩
theorem lcmple {a b : Int64} : lg_cmp a b ≤ 0 ↔ ¬ b < a := by
  rw [← cmp_gt, Int32.not_lt]
theorem rok_nat : ∀ (k N : Nat), N < 2 ^ 63 → rokF k (lN N) = rokN k N
  | 0, N, h => by
    rw [rokF, rokN]
    refine decide_eq_decide.mpr (lcmp0.trans ?_)
    rw [show (0 : Int64) = lN 0 from by decide]
    exact pk_lEQ h (by omega)
  | k + 1, N, h => by
    have hm : N % 10 < 10 := Nat.mod_lt N (by omega)
    have hd : N / 10 ≤ N := Nat.div_le_self N 10
    rw [rokF, rokN, lg10, pk_lRem h (by omega) (by omega), pk_lDiv h (by omega) (by omega), rok_nat k (N / 10) (by omega)]
    have e1 : decide (lg_cmp (lN (N % 10)) 1 < 0) = !decide (1 ≤ N % 10) := by
      rw [← decide_not]
      refine decide_eq_decide.mpr (cmp_lt.trans ?_)
      rw [show (1 : Int64) = lN 1 from by decide, pk_lLT (by omega) (by omega)]
      omega
    have e2 : decide (lg_cmp (lN (N % 10)) 4 ≤ 0) = decide (N % 10 ≤ 4) := by
      refine decide_eq_decide.mpr (lcmple.trans ?_)
      rw [show (4 : Int64) = lN 4 from by decide, pk_lLT (by omega) (by omega)]
      omega
    rw [e1, e2, Bool.not_not]
theorem rok_neg {v : Int64} (h : v < 0) : ∀ k, rokF k v = false
  | 0 => by
    rw [rokF, decide_eq_false_iff_not, lcmp0]
    intro q
    subst q
    exact absurd h (by decide)
  | k + 1 => by
    rw [rokF, decide_eq_true (cmp_lt.mpr (lrem_neg h))]
    rfl
theorem rok_spec : ∀ (k N : Nat), rokN k N = true ↔ (N < 10 ^ k ∧ ∀ i, i < k → 1 ≤ N / 10 ^ i % 10 ∧ N / 10 ^ i % 10 ≤ 4)
  | 0, N => by
    rw [rokN, decide_eq_true_eq, Nat.pow_zero]
    exact ⟨fun q => ⟨by omega, fun i hi => by omega⟩, fun q => by omega⟩
  | k + 1, N => by
    rw [rokN, Bool.and_eq_true, Bool.and_eq_true, decide_eq_true_eq, decide_eq_true_eq, rok_spec k (N / 10), Nat.pow_succ]
    constructor
    · rintro ⟨⟨h1, h2⟩, h3, h4⟩
      refine ⟨by omega, fun i hi => ?_⟩
      cases i with
      | zero => rw [Nat.pow_zero, Nat.div_one]; exact ⟨h1, h2⟩
      | succ i =>
        have := h4 i (by omega)
        rw [Nat.div_div_eq_div_mul, Nat.mul_comm 10, ← Nat.pow_succ] at this
        exact this
    · rintro ⟨h3, h4⟩
      have h0 := h4 0 (by omega)
      rw [Nat.pow_zero, Nat.div_one] at h0
      refine ⟨h0, by omega, fun i hi => ?_⟩
      have := h4 (i + 1) (by omega)
      rw [Nat.pow_succ, Nat.mul_comm, ← Nat.div_div_eq_div_mul] at this
      exact this
theorem dig_get : ∀ (k N : Nat), N < 2 ^ 63 → ∀ j, j < k → (digL k (lN N)).getD j 0 = nI (N / 10 ^ (k - 1 - j) % 10)
  | 0, _, _, j, h => by omega
  | k + 1, N, hN, j, h => by
    have hd : N / 10 ≤ N := Nat.div_le_self N 10
    rw [digL, lg10, pk_lRem hN (by omega) (by omega), pk_lDiv hN (by omega) (by omega), lN_i, getD_pushI (by rw [digL_len]; omega), digL_len]
    by_cases hj : j < k
    · rw [if_pos hj, dig_get k (N / 10) (by omega) j hj, Nat.div_div_eq_div_mul, Nat.mul_comm 10, ← Nat.pow_succ, show (k - 1 - j).succ = k + 1 - 1 - j by omega]
    · rw [if_neg hj, show k + 1 - 1 - j = 0 by omega, Nat.pow_zero, Nat.div_one]
section BE
variable {w : mW} {D : mD} {i : Nat} {tx : List Int32} {V : tV} {A : List tV} {K : Nat → Option tV} {bd : List Int32} {L : List (Int32 × Int32)}
theorem r_tenTo_c4 {M : mM} {n : Nat} (hn : n < 1000) : ∀ (k j fuel a : Nat), j + k = n → k < fuel → fX8_tenTo_c4 M fuel (nI n) (lN a) (nI j) = some (lN (a * 10 ^ k)) := by
  intro k
  induction k with
  | zero =>
    intro j fuel a hj hf
    obtain ⟨f, rfl, hf⟩ := fu hf
    rw [fX8_tenTo_c4.eq_2, il_t (by omega) (by omega), Nat.pow_zero, Nat.mul_one]
  | succ k ih =>
    intro j fuel a hj hf
    obtain ⟨f, rfl, hf⟩ := fu hf
    rw [fX8_tenTo_c4.eq_2, il_f (by omega) (by omega), nI_1, lg10, lN_mul, ih (j + 1) f _ (by omega) (by omega), Nat.pow_succ, Nat.mul_assoc, Nat.mul_comm 10 (10 ^ k)]
theorem r_tenTo {M : mM} {n : Nat} (hn : n < 1000) : fX8_tenTo M (nI n) = some (lN (10 ^ n)) := by
  have := r_tenTo_c4 (M := M) hn n 0 FUEL 1 (by omega) (FU (by omega))
  rw [Nat.one_mul, nI_0] at this
  exact this
theorem ten_le {i n : Nat} (h : i ≤ n) (hn : n ≤ 12) : 0 < 10 ^ i ∧ 10 ^ i ≤ 10 ^ 12 := ⟨Nat.pow_pos (by omega), Nat.pow_le_pow_right (by omega) (by omega)⟩
theorem r_digit {N i n : Nat} (hN : N < 2 ^ 63) (h : i ≤ n) (hn : n ≤ 12) : (lN N / lN (10 ^ i)) - (lN N / lN (10 ^ i)) / (10 : Int64) * (10 : Int64) = lN (N / 10 ^ i % 10) := by
  obtain ⟨h1, h2⟩ := ten_le h hn
  have hd : N / 10 ^ i ≤ N := Nat.div_le_self N _
  rw [pk_lDiv hN h1 (by omega), lg10, pk_lRem (by omega) (by omega) (by omega)]
theorem ten_ne {i n : Nat} (h : i ≤ n) (hn : n ≤ 12) : ¬ lN (10 ^ i) = 0 := by
  obtain ⟨h1, h2⟩ := ten_le h hn
  rw [show (0 : Int64) = lN 0 from by decide, pk_lEQ (by omega) (by omega)]
  omega
theorem r_bed_c86 {n N : Nat} {x : Int32} (hn : n ≤ 12) (hN : N < 2 ^ 63) : ∀ (k j fuel : Nat) (D : mD), j + k = n → k < fuel → ∃ D', fX8_bed_c86 fuel (Y w D) 272 (nI n) (lN N) x (nI j) = some (x, Y w D') ∧ (∀ q, j ≤ q → q < n → D' 279 q = nI (N / 10 ^ (n - 1 - q) % 10)) ∧ (∀ q, q < j → D' 279 q = D 279 q) ∧ (∀ a, a ≠ 279 → D' a = D a) := by
  intro k
  induction k with
  | zero =>
    intro j fuel D hj hf
    obtain ⟨f, rfl, hf⟩ := fu hf
    rw [fX8_bed_c86.eq_2, il_t (by omega) (by omega)]
    exact ⟨D, rfl, fun q h1 h2 => by omega, fun q _ => rfl, fun a _ => rfl⟩
  | succ k ih =>
    intro j fuel D hj hf
    obtain ⟨f, rfl, hf⟩ := fu hf
    have e : nI n - 1 - nI j = nI (n - 1 - j) := by rw [← nI_n1, pk_sub (by omega), pk_sub (by omega)]
    rw [fX8_bed_c86.eq_2, il_f (by omega) (by omega), eF_272_12, Option.bind_some, e, r_tenTo (by omega), Option.bind_some, if_neg (ten_ne (n := n) (by omega) hn), r_digit (n := n) hN (by omega) hn, lN_i, Y_aS kA_279 (by omega), Option.bind_some, nI_1]
    obtain ⟨D', g1, g2, g3, g4⟩ := ih (j + 1) f (ud D 279 j (nI (N / 10 ^ (n - 1 - j) % 10))) (by omega) (by omega)
    refine ⟨D', g1, fun q h1 h2 => ?_, fun q hq => by rw [g3 q (by omega), ud_n (by omega)], fun a ha => by rw [g4 a ha, ud_r ha]⟩
    by_cases hqj : q = j
    · subst hqj
      rw [g3 _ (by omega), ud_s]
    · exact g2 q (by omega) h2
def dokF (N n : Nat) : Nat → Nat → Bool
  | _, 0 => true
  | j, k + 1 => (decide (1 ≤ N / 10 ^ (n - 1 - j) % 10) && decide (N / 10 ^ (n - 1 - j) % 10 ≤ 4)) && dokF N n (j + 1) k
theorem dok_spec {N n : Nat} : ∀ (k j : Nat), j + k = n → (dokF N n j k = true ↔ ∀ i, i < k → 1 ≤ N / 10 ^ i % 10 ∧ N / 10 ^ i % 10 ≤ 4)
  | 0, j, _ => ⟨fun _ i hi => by omega, fun _ => rfl⟩
  | k + 1, j, h => by
    rw [dokF, Bool.and_eq_true, Bool.and_eq_true, decide_eq_true_eq, decide_eq_true_eq, dok_spec k (j + 1) (by omega), show n - 1 - j = k by omega]
    constructor
    · rintro ⟨h1, h2⟩ i hi
      by_cases hik : i = k
      · subst hik; exact h1
      · exact h2 i (by omega)
    · intro h1
      exact ⟨h1 k (by omega), fun i hi => h1 i (by omega)⟩
theorem r_bed_c32 {n N : Nat} (hn : n ≤ 12) (hN : N < 2 ^ 63) : ∀ (k j fuel : Nat), j + k = n → k < fuel → dokF N n j k = true → fX8_bed_c32 fuel (Y w D) 272 (nI n) (lN N) (nI j) = fX8_bed_c86 FUEL (Y w (ud D 272 11 (nI n))) 272 (nI n) (lN N) (D 272 11) 0 := by
  intro k
  induction k with
  | zero =>
    intro j fuel hj hf hd
    obtain ⟨f, rfl, hf⟩ := fu hf
    rw [fX8_bed_c32.eq_2, il_t (by omega) (by omega), eF_272_11, Option.bind_some, eS_272_11, Option.bind_some]
  | succ k ih =>
    intro j fuel hj hf hd
    obtain ⟨f, rfl, hf⟩ := fu hf
    have e : nI n - 1 - nI j = nI (n - 1 - j) := by rw [← nI_n1, pk_sub (by omega), pk_sub (by omega)]
    rw [dokF, Bool.and_eq_true, Bool.and_eq_true, decide_eq_true_eq, decide_eq_true_eq] at hd
    rw [fX8_bed_c32.eq_2, il_f (by omega) (by omega), e, r_tenTo (by omega), Option.bind_some, if_neg (ten_ne (n := n) (by omega) hn), r_digit (n := n) hN (by omega) hn, r_inL, Option.bind_some, if_neg, nI_1, ih (j + 1) f (by omega) (by omega) hd.2]
    rw [b2i_0, decide_eq_false_iff_not]
    intro q
    refine q ⟨?_, ?_⟩
    · rw [show (1 : Int64) = lN 1 from by decide, pk_lLT (by omega) (by omega)]; omega
    · rw [show (4 : Int64) = lN 4 from by decide, pk_lLT (by omega) (by omega)]; omega
theorem r_bed_c32f {n N : Nat} (hn : n ≤ 12) (hN : N < 2 ^ 63) : ∀ (k j fuel : Nat), j + k = n → k < fuel → dokF N n j k = false → fX8_bed_c32 fuel (Y w D) 272 (nI n) (lN N) (nI j) = some (-2, Y w D) := by
  intro k
  induction k with
  | zero =>
    intro j fuel hj hf hd
    cases hd
  | succ k ih =>
    intro j fuel hj hf hd
    obtain ⟨f, rfl, hf⟩ := fu hf
    have e : nI n - 1 - nI j = nI (n - 1 - j) := by rw [← nI_n1, pk_sub (by omega), pk_sub (by omega)]
    rw [fX8_bed_c32.eq_2, il_f (by omega) (by omega), e, r_tenTo (by omega), Option.bind_some, if_neg (ten_ne (n := n) (by omega) hn), r_digit (n := n) hN (by omega) hn, r_inL, Option.bind_some]
    have hm : N / 10 ^ (n - 1 - j) % 10 < 10 := Nat.mod_lt _ (by omega)
    by_cases hx : 1 ≤ N / 10 ^ (n - 1 - j) % 10 ∧ N / 10 ^ (n - 1 - j) % 10 ≤ 4
    · rw [dokF, decide_eq_true hx.1, decide_eq_true hx.2] at hd
      rw [if_neg, nI_1, ih (j + 1) f (by omega) (by omega) hd]
      rw [b2i_0, decide_eq_false_iff_not]
      intro q
      refine q ⟨?_, ?_⟩
      · rw [show (1 : Int64) = lN 1 from by decide, pk_lLT (by omega) (by omega)]; omega
      · rw [show (4 : Int64) = lN 4 from by decide, pk_lLT (by omega) (by omega)]; omega
    · rw [if_pos]
      rw [b2i_0, decide_eq_false_iff_not, show (1 : Int64) = lN 1 from by decide, pk_lLT (by omega) (by omega), show (4 : Int64) = lN 4 from by decide, pk_lLT (by omega) (by omega)]
      omega
theorem r_bed {x : Int32} {v : Int64} (h : RI D tx V A K bd L) : ∃ D', fX8_bed (Y w D) 272 x v = some ((bdA bd x v).1, Y w D') ∧ RI D' tx V A K (bdA bd x v).2 L ∧ ∀ a, a < 272 → D' a = D a := by
  obtain ⟨c1, c2, c3, c4, c5, c6⟩ := id h
  unfold fX8_bed
  rw [if_pos eO_272, d64 (lo := 0) (hi := 12) (by decide) (by decide), Option.bind_some]
  by_cases hx : x < 0 ∨ 12 < x
  · have e : bdA bd x v = (-2, bd) := by
      unfold bdA
      rw [if_pos]
      rcases hx with q | q
      · exact Or.inl q
      · exact Or.inr (Or.inl q)
    rw [if_pos, e]
    · exact ⟨D, rfl, h, fun a _ => rfl⟩
    · rw [b2i_0, decide_eq_false_iff_not]
      rintro ⟨p1, p2⟩
      rcases hx with q | q
      · exact p1 q
      · exact p2 q
  · have hx1 : ¬ x < 0 := fun q => hx (Or.inl q)
    have hx2 : ¬ 12 < x := fun q => hx (Or.inr q)
    obtain ⟨n, hn, rfl⟩ := nI_of hx1
    have hn2 : n ≤ 12 := by
      rw [← nI_12, nI_ltI (by omega) hn] at hx2
      omega
    obtain ⟨t1, t2⟩ := ten_le (i := n) (Nat.le_refl n) hn2
    rw [if_neg (by rw [b2i_0, decide_eq_false_iff_not]; exact fun q => q ⟨hx1, hx2⟩), r_tenTo (by omega), Option.bind_some, r_inL, Option.bind_some]
    have hsub : lN (10 ^ n) - (1 : Int64) = lN (10 ^ n - 1) := by rw [show (1 : Int64) = lN 1 from by decide, lN_sub (by omega)]
    by_cases hv : v < 0
    · have e : bdA bd (nI n) v = (-2, bd) := by
        unfold bdA
        rw [nI_clamp hn, if_pos (Or.inr (Or.inr (rok_neg hv n)))]
      rw [if_pos, e]
      · exact ⟨D, rfl, h, fun a _ => rfl⟩
      · rw [b2i_0, decide_eq_false_iff_not]
        exact fun q => q.1 hv
    · obtain ⟨N, hN, rfl⟩ := pk_lOf hv
      rw [hsub]
      by_cases hlt : N < 10 ^ n
      · rw [if_neg (by rw [b2i_0, decide_eq_false_iff_not, pk_lLT (by omega) hN]; exact fun q => q ⟨hv, by omega⟩)]
        cases hd : dokF N n 0 n with
        | false =>
          have e : bdA bd (nI n) (lN N) = (-2, bd) := by
            unfold bdA
            rw [nI_clamp hn, rok_nat n N hN, if_pos]
            refine Or.inr (Or.inr ?_)
            cases hr : rokN n N with
            | false => rfl
            | true =>
              rw [(dok_spec n 0 (by omega)).mpr ((rok_spec n N).mp hr).2] at hd
              cases hd
          have := r_bed_c32f (w := w) (D := D) hn2 hN n 0 FUEL (by omega) (FU (by omega)) hd
          rw [nI_0] at this
          rw [this, e]
          exact ⟨D, rfl, h, fun a _ => rfl⟩
        | true =>
          have hr : rokN n N = true := (rok_spec n N).mpr ⟨hlt, (dok_spec n 0 (by omega)).mp hd⟩
          have e : bdA bd (nI n) (lN N) = (nI bd.length, digL n (lN N)) := by
            unfold bdA
            rw [nI_clamp hn, rok_nat n N hN, hr, if_neg]
            rintro (q | q | q)
            · exact hx1 q
            · exact hx2 q
            · cases q
          have := r_bed_c32 (w := w) (D := D) hn2 hN n 0 FUEL (by omega) (FU (by omega)) hd
          rw [nI_0] at this
          obtain ⟨D', g1, g2, g3, g4⟩ := r_bed_c86 (w := w) (x := D 272 11) hn2 hN n 0 FUEL (ud D 272 11 (nI n)) (by omega) (FU (by omega))
          rw [nI_0] at g1
          rw [this, g1, e, c5.1]
          have f1 : ∀ a, a ≠ 279 → a ≠ 272 → D' a = D a := fun a h1 h2 => by rw [g4 a h1, ud_r h2]
          have f2 : ∀ k, k ≠ 11 → D' 272 k = D 272 k := fun k h1 => by rw [g4 272 (by omega), ud_n (by omega)]
          refine ⟨D', rfl, ⟨c1.kept (f2 8 (by omega)) (f1 278 (by omega) (by omega)), c2.kept (f2 0 (by omega)) (f1 273 (by omega) (by omega)) (fun k _ => by rw [f1 274 (by omega) (by omega)]), c3.kept (f2 13 (by omega)) (f2 14 (by omega)) (f1 273 (by omega) (by omega)) (f1 280 (by omega) (by omega)), c4.kept (f1 284 (by omega) (by omega)) (f1 273 (by omega) (by omega)) (f1 285 (by omega) (by omega)), ⟨?_, ?_, fun j hj => ?_⟩, c6.kept (f2 18 (by omega)) (f1 282 (by omega) (by omega)) (f1 283 (by omega) (by omega))⟩, fun a ha => f1 a (by omega) (by omega)⟩
          · rw [g4 272 (by omega), ud_s]
            dsimp only
            rw [digL_len]
          · dsimp only
            rw [digL_len]
            exact hn2
          · dsimp only at hj ⊢
            rw [digL_len] at hj
            rw [g2 j (by omega) hj, dig_get n N hN j hj]
      · have e : bdA bd (nI n) (lN N) = (-2, bd) := by
          unfold bdA
          rw [nI_clamp hn, rok_nat n N hN, if_pos]
          refine Or.inr (Or.inr ?_)
          cases hr : rokN n N with
          | false => rfl
          | true => exact absurd ((rok_spec n N).mp hr).1 hlt
        rw [if_pos, e]
        · exact ⟨D, rfl, h, fun a _ => rfl⟩
        · rw [b2i_0, decide_eq_false_iff_not, pk_lLT (by omega) hN]
          omega
end BE
