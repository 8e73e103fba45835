/-! ===== judge, years ===== -/
def jgF (bd : List Int32) (N : Nat) : Nat → Nat → List tS → Int32
  | _, 0, _ => -9
  | k, r + 1, ss => if (jdT bd ss (N / 1000 ^ r % 1000 / 100) (N / 1000 ^ r % 1000 / 10 % 10) (N / 1000 ^ r % 1000 % 10)).1 = true then jgF bd N (k + 1) r (jdT bd ss (N / 1000 ^ r % 1000 / 100) (N / 1000 ^ r % 1000 / 10 % 10) (N / 1000 ^ r % 1000 % 10)).2 else nI k
def jgA (bd : List Int32) (ss : List tS) (x : Int32) (v : Int64) : Int32 := if x < 1 ∨ ¬ x ≤ 4 then -2 else if v < 0 ∨ ¬ v < lN (1000 ^ x.toNatClampNeg) then -2 else jgF bd v.toInt.toNat 0 x.toNatClampNeg ss
theorem lg1000 : (1000 : Int64) = lN 1000 := by decide
theorem lg1 : (1 : Int64) = lN 1 := by decide
theorem tho_le {r n : Nat} (h : r ≤ n) (hn : n ≤ 4) : 0 < 1000 ^ r ∧ 1000 ^ r ≤ 1000 ^ 4 := ⟨Nat.pow_pos (by omega), Nat.pow_le_pow_right (by omega) (by omega)⟩
section JY
variable {w : mW} {D : mD} {i : Nat} {tx : List Int32} {V U : tV} {A : List tV} {K : Nat → Option tV} {bd : List Int32} {L : List (Int32 × Int32)}
theorem c_judge_c72 {n N : Nat} (hn : n ≤ 4) (hN : N < 2 ^ 63) : ∀ (r k fuel : Nat) (D : mD) (U : tV), k + r = n → r < fuel → CI D tx V A K bd L → VlD D 18 U → ∃ D', fX7_judge_c72 fuel (Y w D) 1 (nI n) (lN (1000 ^ r)) (lN (N % 1000 ^ r)) (nI k) = some (jgF bd N k r U.2, Y w D') ∧ CI D' tx V A K bd L ∧ ∀ a, 272 ≤ a → D' a = D a := by
  intro r
  induction r with
  | zero =>
    intro k fuel D U hk hf h hU
    obtain ⟨f, rfl, hf⟩ := fu hf
    rw [fX7_judge_c72.eq_2, il_t (by omega) (by omega)]
    exact ⟨D, rfl, h, fun a _ => rfl⟩
  | succ r ih =>
    intro k fuel D U hk hf h hU
    obtain ⟨f, rfl, hf⟩ := fu hf
    obtain ⟨p1, p2⟩ := tho_le (r := r) (n := n) (by omega) hn
    obtain ⟨p3, p4⟩ := tho_le (r := r + 1) (n := n) (by omega) hn
    have hx : (if (1 : Int64) < lN (1000 ^ (r + 1)) / (1000 : Int64) then lN (1000 ^ (r + 1)) / (1000 : Int64) else (1 : Int64)) = lN (1000 ^ r) := by
      rw [lg1000, pk_lDiv (by omega) (by omega) (by omega), Nat.pow_succ, Nat.mul_div_cancel _ (by omega), lg1]
      by_cases h1 : 1 < 1000 ^ r
      · rw [if_pos ((pk_lLT (by omega) (by omega)).mpr h1)]
      · rw [if_neg (fun q => h1 ((pk_lLT (by omega) (by omega)).mp q)), show 1000 ^ r = 1 by omega]
    have hne : ¬ lN (1000 ^ r) = 0 := by
      rw [show (0 : Int64) = lN 0 from by decide, pk_lEQ (by omega) (by omega)]
      omega
    have hm : N % 1000 ^ (r + 1) < 1000 ^ (r + 1) := Nat.mod_lt _ p3
    have e1 : Int64.toInt32 (lN (N % 1000 ^ (r + 1)) / lN (1000 ^ r)) = nI (N / 1000 ^ r % 1000) := by
      rw [pk_lDiv (by omega) p1 (by omega), lN_i, Nat.pow_succ, Nat.mod_mul_right_div_self]
    have e2 : lN (N % 1000 ^ (r + 1)) - lN (N % 1000 ^ (r + 1)) / lN (1000 ^ r) * lN (1000 ^ r) = lN (N % 1000 ^ r) := by
      rw [pk_lRem (by omega) p1 (by omega), Nat.mod_mod_of_dvd N (by rw [Nat.pow_succ]; exact Nat.dvd_mul_right _ _)]
    have hd : N / 1000 ^ r % 1000 < 1000 := Nat.mod_lt _ (by omega)
    obtain ⟨D1, g1, g2, g3, g4⟩ := c_canBe (w := w) hd h hU
    rw [fX7_judge_c72.eq_2, il_f (by omega) (by omega), hx, Option.bind_some, if_neg hne, e1, g1, Option.bind_some]
    dsimp only
    rw [if_neg hne, e2, nI_1, jgF]
    cases hb : (jdT bd U.2 (N / 1000 ^ r % 1000 / 100) (N / 1000 ^ r % 1000 / 10 % 10) (N / 1000 ^ r % 1000 % 10)).1 with
    | false =>
      rw [if_pos (by rfl), if_neg (by decide)]
      exact ⟨D1, rfl, g2, g4⟩
    | true =>
      rw [if_neg nb0, if_pos rfl]
      obtain ⟨y, hy⟩ := g3 hb
      obtain ⟨D', k1, k2, k3⟩ := ih (k + 1) f D1 _ (by omega) (by omega) g2 hy
      exact ⟨D', k1, k2, fun a ha => by rw [k3 a ha, g4 a ha]⟩
theorem c_judge_c19 {n : Nat} {v : Int64} (hn : n ≤ 4) (h : CI D tx V A K bd L) : ∀ (r k fuel : Nat), k + r = n → r < fuel → ∃ D', fX7_judge_c19 fuel (Y w D) 1 (nI n) v (lN (1000 ^ k)) (nI k) = some ((if v < 0 ∨ ¬ v < lN (1000 ^ n) then -2 else jgF bd v.toInt.toNat 0 n V.2), Y w D') ∧ CI D' tx V A K bd L ∧ ∀ a, 272 ≤ a → D' a = D a := by
  intro r
  induction r with
  | zero =>
    intro k fuel hk hf
    obtain ⟨f, rfl, hf⟩ := fu hf
    have hkn : k = n := by omega
    subst hkn
    rw [fX7_judge_c19.eq_2, il_t (by omega) (by omega)]
    by_cases h1 : v < 0
    · rw [if_pos (cmp_lt.mpr h1), if_pos (Or.inl h1)]
      exact ⟨D, rfl, h, fun a _ => rfl⟩
    · rw [if_neg (fun q => h1 (cmp_lt.mp q))]
      by_cases h2 : v < lN (1000 ^ k)
      · obtain ⟨N, hN, rfl⟩ := pk_lOf h1
        obtain ⟨p1, p2⟩ := tho_le (Nat.le_refl k) hn
        have hN2 : N < 1000 ^ k := (pk_lLT hN (by omega)).mp h2
        obtain ⟨D1, g1, g2, g3, g4⟩ := c_trial (w := w) h
        have hnat : (lN N).toInt.toNat = N := by rw [pk_lT hN]; rfl
        obtain ⟨D', k1, k2, k3⟩ := c_judge_c72 (w := w) hn hN k 0 FUEL D1 V (by omega) (FU (by omega)) g3 g2
        rw [Nat.mod_eq_of_lt hN2, nI_0] at k1
        rw [if_pos (cmp_lt.mpr h2), eF_1_2, Option.bind_some, eF_1_1, Option.bind_some, g1, Option.bind_some, k1, hnat, if_neg]
        · exact ⟨D', rfl, k2, fun a ha => by rw [k3 a ha, g4 a (by omega)]⟩
        · rintro (q | q)
          · exact h1 q
          · exact q h2
      · rw [if_neg (fun q => h2 (cmp_lt.mp q)), if_pos (Or.inr h2)]
        exact ⟨D, rfl, h, fun a _ => rfl⟩
  | succ r ih =>
    intro k fuel hk hf
    obtain ⟨f, rfl, hf⟩ := fu hf
    rw [fX7_judge_c19.eq_2, il_f (by omega) (by omega), lg1000, lN_mul, ← Nat.pow_succ, nI_1]
    exact ih (k + 1) f (by omega) (by omega)
theorem lt_1 {x : Int32} (h : ¬ x < 1) : ¬ x < 0 := fun q => h (Int32.lt_trans q (by decide))
theorem c_judge {x : Int32} {v : Int64} (h : CI D tx V A K bd L) : ∃ D', fX7_judge (Y w D) 1 x v = some (jgA bd V.2 x v, Y w D') ∧ CI D' tx V A K bd L ∧ ∀ a, 272 ≤ a → D' a = D a := by
  unfold fX7_judge jgA
  rw [if_pos eO_1]
  by_cases h1 : x < 1
  · rw [if_pos h1, if_pos (Or.inl h1)]
    exact ⟨D, rfl, h, fun a _ => rfl⟩
  · rw [if_neg h1]
    by_cases h2 : x ≤ 4
    · obtain ⟨n, hn, rfl⟩ := nI_of (lt_1 h1)
      have hn2 : n ≤ 4 := (nI_leI hn (by omega)).mp (by rw [nI_4]; exact h2)
      have := c_judge_c19 (w := w) (v := v) hn2 h n 0 FUEL (by omega) (FU (by omega))
      rw [Nat.pow_zero, nI_0] at this
      rw [if_pos h2, nI_clamp hn, if_neg (by rintro (q | q); exact h1 q; exact q h2)]
      exact this
    · rw [if_neg h2, if_pos (Or.inr h2)]
      exact ⟨D, rfl, h, fun a _ => rfl⟩
/-! the reference -/
theorem r_thou {M : mM} {r : Nat} (hr : r ≤ 4) : fX8_thousandTo M (nI r) = some (lN (1000 ^ r)) := by
  unfold fX8_thousandTo
  rw [← nI_3, pk_mul, r_tenTo (by omega), Option.bind_some, Nat.pow_mul]
theorem RBd.lv1 {D' : mD} (h : RBd D bd) (f : LvF 1 D D') : RBd D' bd := h.kept (by rw [f.1 272 (by omega)]) (f.1 279 (by omega))
theorem r_judge_c36 {n N : Nat} (hn : n ≤ 4) (hN : N < 2 ^ 63) : ∀ (r k fuel : Nat) (D : mD) (U : tV), k + r = n → r < fuel → D 272 0 = nI U.2.length → NwD (D 274) (D 273) (57 * 1) U → gW U.2 → RBd D bd → ∃ D', fX8_judge_c36 fuel (Y w D) 272 (nI n) (lN N) (nI k) = some (jgF bd N k r U.2, Y w D') ∧ LvF 1 D D' := by
  intro r
  induction r with
  | zero =>
    intro k fuel D U hk hf h0 hU hg hb
    obtain ⟨f, rfl, hf⟩ := fu hf
    rw [fX8_judge_c36.eq_2, il_t (by omega) (by omega)]
    exact ⟨D, rfl, LvF.rf⟩
  | succ r ih =>
    intro k fuel D U hk hf h0 hU hg hb
    obtain ⟨f, rfl, hf⟩ := fu hf
    obtain ⟨p1, p2⟩ := tho_le (r := r) (n := n) (by omega) hn
    have hne : ¬ lN (1000 ^ r) = 0 := by
      rw [show (0 : Int64) = lN 0 from by decide, pk_lEQ (by omega) (by omega)]
      omega
    have e : nI n - 1 - nI k = nI r := by rw [← nI_n1, pk_sub (by omega), pk_sub (by omega), show n - 1 - k = r by omega]
    have hd2 : N / 1000 ^ r ≤ N := Nat.div_le_self _ _
    have e1 : Int64.toInt32 (lN N / lN (1000 ^ r) - lN N / lN (1000 ^ r) / (1000 : Int64) * (1000 : Int64)) = nI (N / 1000 ^ r % 1000) := by
      rw [pk_lDiv hN p1 (by omega), lg1000, pk_lRem (by omega) (by omega) (by omega), lN_i]
    have hd : N / 1000 ^ r % 1000 < 1000 := Nat.mod_lt _ (by omega)
    rw [fX8_judge_c36.eq_2, il_f (by omega) (by omega), e, r_thou (by omega), Option.bind_some, if_neg hne, e1, Option.bind_some, jgF]
    generalize N / 1000 ^ r % 1000 = d at hd
    have m1 : d / 10 % 10 < 10 := Nat.mod_lt _ (by omega)
    have m2 : d % 10 < 10 := Nat.mod_lt _ (by omega)
    have f1 : nI d / 100 = nI (d / 100) := by rw [← nI_100, pk_div (by omega) (by omega) (by omega)]
    have f2 : nI d / 10 - nI d / 10 / 10 * 10 = nI (d / 10 % 10) := by rw [← nI_10, pk_div (a := d) (by omega) (by omega) (by omega), pk_rem (by omega) (by omega) (by omega)]
    have f3 : nI d - nI d / 10 * 10 = nI (d % 10) := by rw [← nI_10, pk_rem (by omega) (by omega) (by omega)]
    obtain ⟨D1, g1, g2, g3⟩ := r_try (w := w) (hh := d / 100) (a := d / 10 % 10) (b := d % 10) (by omega) m1 m2 h0 hU hg hb
    rw [f1, f2, f3, g1, Option.bind_some, nI_1]
    dsimp only
    cases hbb : (jdT bd U.2 (d / 100) (d / 10 % 10) (d % 10)).1 with
    | false =>
      rw [if_pos (by rfl), if_neg (by decide)]
      exact ⟨D1, rfl, g2⟩
    | true =>
      rw [if_neg nb0, if_pos rfl]
      obtain ⟨y, hy⟩ := g3 hbb
      obtain ⟨D', k1, k2⟩ := ih (k + 1) f D1 _ (by omega) (by omega) (by dsimp only; rw [jd_len, g2.1 272 (by omega)]; exact h0) hy (jd_good hg) (hb.lv1 g2)
      exact ⟨D', k1, g2.tr k2⟩
theorem lt_41 {x : Int32} : (4 : Int32) < x ↔ ¬ x ≤ 4 := Int32.not_le.symm
theorem r_judge {x : Int32} {v : Int64} (h : RI D tx V A K bd L) (hg : gW V.2) : ∃ D', fX8_judge (Y w D) 272 x v = some (jgA bd V.2 x v, Y w D') ∧ RI D' tx V A K bd L ∧ ∀ a, a < 272 → D' a = D a := by
  unfold fX8_judge jgA
  rw [if_pos eO_272, d64 (lo := 1) (hi := 4) (by decide) (by decide), Option.bind_some]
  by_cases hx : x < 1 ∨ ¬ x ≤ 4
  · rw [if_pos hx, if_pos]
    · exact ⟨D, rfl, h, fun a _ => rfl⟩
    · rw [b2i_0, decide_eq_false_iff_not]
      rintro ⟨p1, p2⟩
      rcases hx with q | q
      · exact p1 q
      · exact p2 (lt_41.mpr q)
  · have h1 : ¬ x < 1 := fun q => hx (Or.inl q)
    have h2 : ¬ 4 < x := fun q => hx (Or.inr (lt_41.mp q))
    obtain ⟨n, hn, rfl⟩ := nI_of (lt_1 h1)
    have hn2 : n ≤ 4 := (nI_leI hn (by omega)).mp (by rw [nI_4]; exact Int32.not_lt.mp h2)
    obtain ⟨p1, p2⟩ := tho_le (Nat.le_refl n) hn2
    have hsub : lN (1000 ^ n) - (1 : Int64) = lN (1000 ^ n - 1) := by rw [lg1, lN_sub (by omega)]
    rw [if_neg hx, nI_clamp hn, if_neg (by rw [b2i_0, decide_eq_false_iff_not]; exact fun q => q ⟨h1, h2⟩), r_thou hn2, Option.bind_some, r_inL, Option.bind_some, hsub]
    by_cases hv : v < 0
    · rw [if_pos (Or.inl hv), if_pos]
      · exact ⟨D, rfl, h, fun a _ => rfl⟩
      · rw [b2i_0, decide_eq_false_iff_not]
        exact fun q => q.1 hv
    · obtain ⟨N, hN, rfl⟩ := pk_lOf hv
      by_cases hlt : N < 1000 ^ n
      · have hnat : (lN N).toInt.toNat = N := by rw [pk_lT hN]; rfl
        obtain ⟨D1, g1, g2, g3⟩ := r_layTrial (w := w) h.2.1.2
        obtain ⟨D', k1, k2⟩ := r_judge_c36 (w := w) hn2 hN n 0 FUEL D1 V (by omega) (FU (by omega)) (by rw [g3.1 272 (by omega)]; exact h.2.1.1) g2 hg (h.2.2.2.2.1.lv1 g3)
        rw [nI_0] at k1
        rw [if_neg (by rw [b2i_0, decide_eq_false_iff_not, pk_lLT (by omega) hN]; exact fun q => q ⟨hv, by omega⟩), g1, Option.bind_some, k1, hnat, if_neg]
        · exact ⟨D', rfl, h.scr (RFr.lv1 (g3.tr k2)), fun a ha => (g3.tr k2).1 a (by omega)⟩
        · rintro (q | q)
          · exact hv q
          · exact q ((pk_lLT hN (by omega)).mpr hlt)
      · rw [if_pos (c := lN N < 0 ∨ ¬ lN N < lN (1000 ^ n)) (Or.inr (fun q => hlt ((pk_lLT hN (by omega)).mp q))), if_pos]
        · exact ⟨D, rfl, h, fun a _ => rfl⟩
        · rw [b2i_0, decide_eq_false_iff_not, pk_lLT (by omega) hN]
          omega
/-! ===== years by a seed ===== -/
def sdS (x : Int64) : Int64 := x * (6364136223846793005 : Int64) + (1442695040888963407 : Int64)
theorem sdS_def (x : Int64) : x * (6364136223846793005 : Int64) + (1442695040888963407 : Int64) = sdS x := rfl
def chc (x : Int64) : Nat := x.toUInt64.toNat / 2 ^ 33 % 32
def yst (c : Nat) (ss : List tS) : List tS := if c < 16 then (hgA ss (nI (c / 4)) (nI (c % 4))).2 else if c < 20 then (tnA ss (nI (c - 16))).2 else if c < 23 then (jnA ss (nI (c - 20)) (nI (c - 19))).2 else win ss
def yrG (S : Int64 → Int64) (C : Int64 → Nat) : Nat → Int64 → List tS → Int32 → Int32 × Int64
  | 0, x, _, a => (a, x)
  | k + 1, x, ss, a => yrG S C k (S x) (yst (C (S x)) ss) (a + nI (sumF (yst (C (S x)) ss) 0 (yst (C (S x)) ss).length 0))
def yrA (S : Int64 → Int64) (C : Int64 → Nat) (ss : List tS) (x : Int64) (m : Int32) : Int32 × Int64 := if m < 1 ∨ ¬ m ≤ 30 then (-2, x) else yrG S C m.toNatClampNeg x ss 0
theorem yst_len {c : Nat} {ss : List tS} : (yst c ss).length = ss.length := by
  unfold yst
  repeat' split
  · exact hg_len
  · exact tn_len
  · exact jn_len
  · exact win_len ss
theorem yst_good {c : Nat} {ss : List tS} (g : gW ss) : gW (yst c ss) := by
  unfold yst
  repeat' split
  · exact g.oHang
  · exact g.oTurn
  · exact g.oJoin
  · exact g.oWin
theorem sh33 (x : Int64) : (x.toUInt64 >>> ((Int32.toInt64 33).toUInt64 &&& Int64.toUInt64 63)).toInt64 = lN (x.toUInt64.toNat / 2 ^ 33) := by
  rw [show ((Int32.toInt64 33).toUInt64 &&& Int64.toUInt64 63) = 33 from by decide]
  apply Int64.toBitVec_inj.mp
  have e : (x.toUInt64 >>> (33 : UInt64)).toNat = x.toUInt64.toNat / 2 ^ 33 := by
    rw [UInt64.toNat_shiftRight, Nat.shiftRight_eq_div_pow]
    rfl
  rw [← e]
  show (x.toUInt64 >>> (33 : UInt64)).toBitVec = BitVec.ofNat 64 (x.toUInt64 >>> (33 : UInt64)).toNat
  apply BitVec.eq_of_toNat_eq
  rw [BitVec.toNat_ofNat]
  exact (Nat.mod_eq_of_lt (UInt64.toNat_lt _)).symm
theorem z31 (x : Int64) : x.toUInt64.toNat / 2 ^ 33 < 2 ^ 31 := by
  have := UInt64.toNat_lt x.toUInt64
  omega
theorem ch_c (x : Int64) : Int64.toInt32 (x.toUInt64 >>> ((Int32.toInt64 33).toUInt64 &&& Int64.toUInt64 63)).toInt64 &&& 31 = nI (chc x) := by
  have := z31 x
  rw [sh33, lN_i, pk_andN (by omega) 5 (by decide)]
  rfl
theorem ch_r (x : Int64) : Int64.toInt32 ((x.toUInt64 >>> ((Int32.toInt64 33).toUInt64 &&& Int64.toUInt64 63)).toInt64 - (x.toUInt64 >>> ((Int32.toInt64 33).toUInt64 &&& Int64.toUInt64 63)).toInt64 / (32 : Int64) * (32 : Int64)) = nI (chc x) := by
  have := z31 x
  rw [sh33, show (32 : Int64) = lN 32 from by decide, pk_lRem (by omega) (by omega) (by omega), lN_i]
  rfl
theorem chc_lt (x : Int64) : chc x < 32 := Nat.mod_lt _ (by omega)
theorem nI_19 : nI 19 = 19 := by decide +kernel
theorem nI_23 : nI 23 = 23 := by decide +kernel
theorem nI_15 : nI 15 = 15 := by decide +kernel
theorem nI_22 : nI 22 = 22 := by decide +kernel
theorem c_byChance {c : Nat} (hc : c < 32) (hU : VlD D 18 U) : ∃ D' y, fX7_doByChance (Y w D) 1 (nI c) = some (Y w D') ∧ VlD D' 18 (y, yst c U.2) ∧ ∀ a, (a < 18 ∨ 32 ≤ a) → D' a = D a := by
  unfold fX7_doByChance
  rw [if_pos eO_1, ← nI_16, ← nI_20, ← nI_23, ← nI_19, ← nI_4]
  simp only [eF_1_2, Option.bind_some]
  by_cases h1 : c < 16
  · have e : yst c U.2 = (hgA U.2 (nI (c / 4)) (nI (c % 4))).2 := by unfold yst; rw [if_pos h1]
    obtain ⟨D', k1, k2, k3⟩ := l_hangIn (w := w) (x := nI (c / 4)) (y := nI (c % 4)) isVl_18 hU
    rw [il_f (by omega) (by omega), pk_div (by omega) (by omega) (by omega), show nI c - nI (c / 4) * nI 4 = nI (c % 4) from by rw [← pk_div (by omega) (by omega) (by omega), pk_rem (by omega) (by omega) (by omega)], k1, Option.bind_some, e]
    exact ⟨D', _, rfl, k2, k3⟩
  · rw [il_t (by omega) (by omega)]
    by_cases h2 : c < 20
    · have e : yst c U.2 = (tnA U.2 (nI (c - 16))).2 := by unfold yst; rw [if_neg h1, if_pos h2]
      obtain ⟨D', k1, k2, k3⟩ := l_turnAbout (w := w) (x := nI (c - 16)) isVl_18 hU
      rw [il_f (by omega) (by omega), pk_sub (by omega), k1, Option.bind_some, e]
      exact ⟨D', _, rfl, k2, k3⟩
    · rw [il_t (by omega) (by omega)]
      by_cases h3 : c < 23
      · have e : yst c U.2 = (jnA U.2 (nI (c - 20)) (nI (c - 19))).2 := by unfold yst; rw [if_neg h1, if_neg h2, if_pos h3]
        obtain ⟨D', k1, k2, k3⟩ := l_joinTo (w := w) (x := nI (c - 20)) (y := nI (c - 19)) isVl_18 hU
        rw [il_f (by omega) (by omega), pk_sub (by omega), pk_sub (by omega), k1, Option.bind_some, e]
        exact ⟨D', _, rfl, k2, k3⟩
      · have e : yst c U.2 = win U.2 := by unfold yst; rw [if_neg h1, if_neg h2, if_neg h3]
        obtain ⟨D', k1, k2, k3⟩ := l_passWinter (w := w) isVl_18 hU
        rw [il_t (by omega) (by omega), k1, Option.bind_some, e]
        exact ⟨D', _, rfl, k2, k3⟩
theorem eL_1 {v : Int64} : sV (Y w D) 1 7 12 (.long v) = some (Y (w.1, fun q => if q = 1 then v else w.2 q) D) := Y_sL (by decide +kernel)
theorem eL_272 {v : Int64} : sV (Y w D) 272 8 21 (.long v) = some (Y (w.1, fun q => if q = 272 then v else w.2 q) D) := Y_sL (by decide +kernel)
theorem c_years_c29 {S : Int64 → Int64} {C : Int64 → Nat} (hS : ∀ x : Int64, x * (6364136223846793005 : Int64) + (1442695040888963407 : Int64) = S x) (hC2 : ∀ x, C x < 32) (hC : ∀ x : Int64, Int64.toInt32 (x.toUInt64 >>> ((Int32.toInt64 33).toUInt64 &&& Int64.toUInt64 63)).toInt64 &&& 31 = nI (C x)) {N : Nat} (hN : N < 1000) : ∀ (k j fuel : Nat) (w : mW) (D : mD) (U : tV) (a : Int32), j + k = N → k < fuel → CI D tx V A K bd L → VlD D 18 U → ∃ w' D', fX7_years_c29 fuel (Y w D) 1 (nI N) a (nI j) = some ((yrG S C k (w.2 1) U.2 a).1, Y w' D') ∧ w'.1 = w.1 ∧ w'.2 1 = (yrG S C k (w.2 1) U.2 a).2 ∧ (∀ q, q ≠ 1 → w'.2 q = w.2 q) ∧ CI D' tx V A K bd L ∧ ∀ a, 272 ≤ a → D' a = D a := by
  intro k
  induction k with
  | zero =>
    intro j fuel w D U a hj hf h hU
    obtain ⟨f, rfl, hf⟩ := fu hf
    rw [fX7_years_c29.eq_2, il_t (by omega) (by omega)]
    exact ⟨w, D, rfl, rfl, rfl, fun q _ => rfl, h, fun a _ => rfl⟩
  | succ k ih =>
    intro j fuel w D U a hj hf h hU
    obtain ⟨f, rfl, hf⟩ := fu hf
    rw [fX7_years_c29.eq_2, il_f (by omega) (by omega), eF_1_12, Option.bind_some, hS, eL_1, Option.bind_some, eF_1_12, Option.bind_some, yrG]
    dsimp only
    rw [if_pos rfl, hC]
    obtain ⟨D1, y, g1, g2, g3⟩ := c_byChance (w := (w.1, fun q => if q = 1 then S (w.2 1) else w.2 q)) (hC2 (S (w.2 1))) hU
    have hs := l_bsum (w := (w.1, fun q => if q = 1 then S (w.2 1) else w.2 q)) (i := 0) isVl_18 g2 (Nat.zero_le _)
    rw [nI_0, Nat.sub_zero] at hs
    rw [g1, Option.bind_some, eF_1_2, Option.bind_some, hs, Option.bind_some, nI_1]
    obtain ⟨w', D', k1, k2, k3, k4, k5, k6⟩ := ih (j + 1) f (w.1, fun q => if q = 1 then S (w.2 1) else w.2 q) D1 _ (a + nI (sumF (yst (C (S (w.2 1))) U.2) 0 (yst (C (S (w.2 1))) U.2).length 0)) (by omega) (by omega) (h.scr (fun a ha => g3 a (by omega))) g2
    dsimp only at k1 k2 k3 k4
    rw [if_pos rfl] at k1 k3
    exact ⟨w', D', k1, k2, k3, fun q hq => by rw [k4 q hq, if_neg hq], k5, fun a ha => by rw [k6 a ha, g3 a (by omega)]⟩
theorem nI_30 : nI 30 = 30 := by decide +kernel
theorem c_years {S : Int64 → Int64} {C : Int64 → Nat} (hS : ∀ x : Int64, x * (6364136223846793005 : Int64) + (1442695040888963407 : Int64) = S x) (hC2 : ∀ x, C x < 32) (hC : ∀ x : Int64, Int64.toInt32 (x.toUInt64 >>> ((Int32.toInt64 33).toUInt64 &&& Int64.toUInt64 63)).toInt64 &&& 31 = nI (C x)) {m : Int32} (h : CI D tx V A K bd L) : ∃ w' D', fX7_years (Y w D) 1 m = some ((yrA S C V.2 (w.2 1) m).1, Y w' D') ∧ w'.1 = w.1 ∧ w'.2 1 = (yrA S C V.2 (w.2 1) m).2 ∧ (∀ q, q ≠ 1 → w'.2 q = w.2 q) ∧ CI D' tx V A K bd L ∧ ∀ a, 272 ≤ a → D' a = D a := by
  unfold fX7_years yrA
  rw [if_pos eO_1]
  by_cases h1 : m < 1
  · rw [if_pos h1, if_pos (Or.inl h1)]
    exact ⟨w, D, rfl, rfl, rfl, fun q _ => rfl, h, fun a _ => rfl⟩
  · rw [if_neg h1]
    by_cases h2 : m ≤ 30
    · obtain ⟨n, hn, rfl⟩ := nI_of (lt_1 h1)
      have hn2 : n ≤ 30 := (nI_leI hn (by omega)).mp (by rw [nI_30]; exact h2)
      obtain ⟨D1, g1, g2, g3, g4⟩ := c_trial (w := w) h
      obtain ⟨w', D', k1, k2, k3, k4, k5, k6⟩ := c_years_c29 hS hC2 hC (N := n) (by omega) n 0 FUEL w D1 V 0 (by omega) (FU (by omega)) g3 g2
      rw [nI_0] at k1
      rw [if_pos h2, eF_1_2, Option.bind_some, eF_1_1, Option.bind_some, g1, Option.bind_some, nI_clamp hn, if_neg (by rintro (q | q); exact h1 q; exact q h2)]
      exact ⟨w', D', k1, k2, k3, k4, k5, fun a ha => by rw [k6 a ha, g4 a (by omega)]⟩
    · rw [if_neg h2, if_pos (Or.inr h2)]
      exact ⟨w, D, rfl, rfl, rfl, fun q _ => rfl, h, fun a _ => rfl⟩
/-! the reference -/
theorem r_years_c23 {S : Int64 → Int64} {C : Int64 → Nat} (hS : ∀ x : Int64, x * (6364136223846793005 : Int64) + (1442695040888963407 : Int64) = S x) (hC2 : ∀ x, C x < 32) (hC : ∀ x : Int64, Int64.toInt32 ((x.toUInt64 >>> ((Int32.toInt64 33).toUInt64 &&& Int64.toUInt64 63)).toInt64 - (x.toUInt64 >>> ((Int32.toInt64 33).toUInt64 &&& Int64.toUInt64 63)).toInt64 / (32 : Int64) * (32 : Int64)) = nI (C x)) {N : Nat} (hN : N < 1000) : ∀ (k j fuel : Nat) (w : mW) (D : mD) (U : tV) (a : Int32), j + k = N → k < fuel → D 272 0 = nI U.2.length → NwD (D 274) (D 273) (57 * 1) U → gW U.2 → ∃ w' D', fX8_years_c23 fuel (Y w D) 272 (nI N) a (nI j) = some ((yrG S C k (w.2 272) U.2 a).1, Y w' D') ∧ w'.1 = w.1 ∧ w'.2 272 = (yrG S C k (w.2 272) U.2 a).2 ∧ (∀ q, q ≠ 272 → w'.2 q = w.2 q) ∧ LvF 1 D D' := by
  intro k
  induction k with
  | zero =>
    intro j fuel w D U a hj hf hn h hg
    obtain ⟨f, rfl, hf⟩ := fu hf
    rw [fX8_years_c23.eq_2, il_t (by omega) (by omega)]
    exact ⟨w, D, rfl, rfl, rfl, fun q _ => rfl, LvF.rf⟩
  | succ k ih =>
    intro j fuel w D U a hj hf hn h hg
    obtain ⟨f, rfl, hf⟩ := fu hf
    rw [fX8_years_c23.eq_2, il_f (by omega) (by omega), eF_272_21, Option.bind_some, hS, eL_272, Option.bind_some, eF_272_21, Option.bind_some, yrG]
    dsimp only
    rw [if_pos rfl, hC, Option.bind_some]
    have hc := hC2 (S (w.2 272))
    have step : ∀ (D1 : mD) (y : Int32), NwD (D1 274) (D1 273) (57 * 1) (y, yst (C (S (w.2 272))) U.2) → LvF 1 D D1 → ∃ w' D', ((fX8_bendsOfAll (Y (w.1, fun q => if q = 272 then S (w.2 272) else w.2 q) D1) 272 1).bind fun x12 => fX8_years_c23 f (Y (w.1, fun q => if q = 272 then S (w.2 272) else w.2 q) D1) 272 (nI N) (a + x12) (nI j + 1)) = some ((yrG S C k (S (w.2 272)) (yst (C (S (w.2 272))) U.2) (a + nI (sumF (yst (C (S (w.2 272))) U.2) 0 (yst (C (S (w.2 272))) U.2).length 0))).1, Y w' D') ∧ w'.1 = w.1 ∧ w'.2 272 = (yrG S C k (S (w.2 272)) (yst (C (S (w.2 272))) U.2) (a + nI (sumF (yst (C (S (w.2 272))) U.2) 0 (yst (C (S (w.2 272))) U.2).length 0))).2 ∧ (∀ q, q ≠ 272 → w'.2 q = w.2 q) ∧ LvF 1 D D' := by
      intro D1 y h1 h2
      have hn1 : D1 272 0 = nI (yst (C (S (w.2 272))) U.2).length := by rw [yst_len, h2.1 272 (by omega)]; exact hn
      have hs := r_bendsOfAll (w := (w.1, fun q => if q = 272 then S (w.2 272) else w.2 q)) (V := (y, yst (C (S (w.2 272))) U.2)) (l := 1) (by omega) hn1 h1
      rw [nI_n1] at hs
      rw [hs, Option.bind_some, nI_1]
      obtain ⟨w', D', k1, k2, k3, k4, k5⟩ := ih (j + 1) f (w.1, fun q => if q = 272 then S (w.2 272) else w.2 q) D1 (y, yst (C (S (w.2 272))) U.2) (a + nI (sumF (yst (C (S (w.2 272))) U.2) 0 (yst (C (S (w.2 272))) U.2).length 0)) (by omega) (by omega) hn1 h1 (yst_good hg)
      dsimp only at k1 k2 k3 k4
      rw [if_pos rfl] at k1 k3
      exact ⟨w', D', k1, k2, k3, fun q hq => by rw [k4 q hq, if_neg hq], h2.tr k5⟩
    generalize hcc : C (S (w.2 272)) = c at *
    rw [← nI_22, ← nI_19, ← nI_15]
    by_cases h1 : c < 16
    · have e : yst c U.2 = (hgA U.2 (nI (c / 4)) (nI (c % 4))).2 := by unfold yst; rw [if_pos h1]
      obtain ⟨D1, g1, g2, g3⟩ := r_try1 (w := (w.1, fun q => if q = 272 then S (w.2 272) else w.2 q)) (x := nI (c / 4)) (y := nI (c % 4)) hn h
      rw [← e] at g2
      rw [il_t (by omega) (by omega), il_t (by omega) (by omega), il_t (by omega) (by omega), ← nI_4, pk_div (by omega) (by omega) (by omega), show nI c - nI (c / 4) * nI 4 = nI (c % 4) from by rw [← pk_div (by omega) (by omega) (by omega), pk_rem (by omega) (by omega) (by omega)], g1, Option.bind_some]
      exact step D1 _ g2 g3
    · by_cases h2 : c < 20
      · have e : yst c U.2 = (tnA U.2 (nI (c - 16))).2 := by unfold yst; rw [if_neg h1, if_pos h2]
        obtain ⟨D1, g1, g2, g3⟩ := r_try2 (w := (w.1, fun q => if q = 272 then S (w.2 272) else w.2 q)) (y := nI (c - 16)) hn h hg
        rw [← e] at g2
        rw [il_t (by omega) (by omega), il_t (by omega) (by omega), il_f (by omega) (by omega), ← nI_16, pk_sub (by omega), g1, Option.bind_some]
        exact step D1 _ g2 g3
      · by_cases h3 : c < 23
        · have e : yst c U.2 = (jnA U.2 (nI (c - 20)) (nI (c - 19))).2 := by unfold yst; rw [if_neg h1, if_neg h2, if_pos h3]
          obtain ⟨D1, g1, g2, g3⟩ := r_try4 (w := (w.1, fun q => if q = 272 then S (w.2 272) else w.2 q)) (x := nI (c - 20)) (y := nI (c - 19)) hn h
          rw [← e] at g2
          rw [il_t (by omega) (by omega), il_f (by omega) (by omega), ← nI_20, pk_sub (by omega), pk_sub (by omega), g1, Option.bind_some]
          exact step D1 _ g2 g3
        · have e : yst c U.2 = win U.2 := by unfold yst; rw [if_neg h1, if_neg h2, if_neg h3]
          obtain ⟨D1, g1, g2, g3⟩ := r_passOn (w := (w.1, fun q => if q = 272 then S (w.2 272) else w.2 q)) (l := 1) (by omega) hn h hg.oKd
          rw [← e] at g2
          rw [nI_n1] at g1
          rw [il_f (by omega) (by omega), g1, Option.bind_some]
          exact step D1 _ g2 g3
theorem lt_30 {x : Int32} : (30 : Int32) < x ↔ ¬ x ≤ 30 := Int32.not_le.symm
theorem r_years {S : Int64 → Int64} {C : Int64 → Nat} (hS : ∀ x : Int64, x * (6364136223846793005 : Int64) + (1442695040888963407 : Int64) = S x) (hC2 : ∀ x, C x < 32) (hC : ∀ x : Int64, Int64.toInt32 ((x.toUInt64 >>> ((Int32.toInt64 33).toUInt64 &&& Int64.toUInt64 63)).toInt64 - (x.toUInt64 >>> ((Int32.toInt64 33).toUInt64 &&& Int64.toUInt64 63)).toInt64 / (32 : Int64) * (32 : Int64)) = nI (C x)) {m : Int32} (h : RI D tx V A K bd L) (hg : gW V.2) : ∃ w' D', fX8_years (Y w D) 272 m = some ((yrA S C V.2 (w.2 272) m).1, Y w' D') ∧ w'.1 = w.1 ∧ w'.2 272 = (yrA S C V.2 (w.2 272) m).2 ∧ (∀ q, q ≠ 272 → w'.2 q = w.2 q) ∧ RI D' tx V A K bd L ∧ ∀ a, a < 272 → D' a = D a := by
  unfold fX8_years yrA
  rw [if_pos eO_272, d64 (lo := 1) (hi := 30) (by decide) (by decide), Option.bind_some]
  by_cases hx : m < 1 ∨ ¬ m ≤ 30
  · rw [if_pos hx, if_pos]
    · exact ⟨w, D, rfl, rfl, rfl, fun q _ => rfl, h, fun a _ => rfl⟩
    · rw [b2i_0, decide_eq_false_iff_not]
      rintro ⟨p1, p2⟩
      rcases hx with q | q
      · exact p1 q
      · exact p2 (lt_30.mpr q)
  · have h1 : ¬ m < 1 := fun q => hx (Or.inl q)
    have h2 : ¬ 30 < m := fun q => hx (Or.inr (lt_30.mp q))
    obtain ⟨n, hn, rfl⟩ := nI_of (lt_1 h1)
    have hn2 : n ≤ 30 := (nI_leI hn (by omega)).mp (by rw [nI_30]; exact Int32.not_lt.mp h2)
    obtain ⟨D1, g1, g2, g3⟩ := r_layTrial (w := w) h.2.1.2
    obtain ⟨w', D', k1, k2, k3, k4, k5⟩ := r_years_c23 hS hC2 hC (N := n) (by omega) n 0 FUEL w D1 V 0 (by omega) (FU (by omega)) (by rw [g3.1 272 (by omega)]; exact h.2.1.1) g2 hg
    rw [nI_0] at k1
    rw [if_neg hx, if_neg (by rw [b2i_0, decide_eq_false_iff_not]; exact fun q => q ⟨h1, h2⟩), g1, Option.bind_some, nI_clamp hn]
    exact ⟨w', D', k1, k2, k3, k4, h.scr (RFr.lv1 (g3.tr k5)), fun a ha => (g3.tr k5).1 a (by omega)⟩
end JY
