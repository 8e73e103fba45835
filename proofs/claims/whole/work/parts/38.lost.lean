/-! ===== common divisors, and what is lost by chance ===== -/
section LO
variable {w : mW} {D : mD} {i : Nat} {tx : List Int32} {V : tV} {A : List tV} {K : Nat → Option tV} {bd : List Int32} {L : List (Int32 × Int32)}
theorem gcd_step (a b : Nat) : Nat.gcd b (a % b) = Nat.gcd a b := by
  rw [Nat.gcd_comm b (a % b), ← Nat.gcd_rec, Nat.gcd_comm]
theorem r_common_c13 {M : mM} : ∀ (fuel a b : Nat), a < 2 ^ 31 → b < 2 ^ 31 → b < fuel → fX8_common_c13 M fuel (nI a) (nI b) = some (nI (Nat.gcd a b)) := by
  intro fuel
  induction fuel with
  | zero => intro a b _ _ h; omega
  | succ f ih =>
    intro a b ha hb hf
    rw [fX8_common_c13.eq_2]
    by_cases h0 : b = 0
    · subst h0
      rw [if_pos nI_0, Nat.gcd_zero_right]
    · have hm : a % b < b := Nat.mod_lt a (by omega)
      rw [if_neg (nI_ne0 (by omega) hb), if_neg (nI_ne0 (by omega) hb), pk_rem ha (by omega) hb, ih b (a % b) hb (by omega) (by omega), gcd_step]
theorem r_common {M : mM} {a b : Nat} (ha : a < 2 ^ 31) (hb : b < 1000000) : fX8_common M (nI a) (nI b) = some (nI (Nat.gcd a b)) := by
  unfold fX8_common
  rw [if_pos (Int32.not_lt.mp (nI_pos ha)), r_common_c13 FUEL a b ha (by omega) (FU hb)]
theorem nI_64 : nI 64 = 64 := by decide +kernel
theorem c_comm0 {M : mM} {f a i : Nat} : fX7_commonDivisor_c7 M (f + 1) (nI a) (nI 0) (nI i) = some (nI (Nat.gcd a 0)) := by
  rw [fX7_commonDivisor_c7.eq_2, if_pos (c := nI 0 = 0) nI_0, Nat.gcd_zero_right]
  split <;> rfl
theorem c_comm {M : mM} : ∀ (s a b i fuel : Nat), a < 2 ^ 31 → b < 2 ^ 31 → b < 2 ^ s → i + 2 * s < 64 → 2 * s < fuel → fX7_commonDivisor_c7 M fuel (nI a) (nI b) (nI i) = some (nI (Nat.gcd a b)) := by
  intro s
  induction s with
  | zero =>
    intro a b i fuel ha hb hs hi hf
    obtain ⟨f, rfl, hf⟩ := fu hf
    have : b = 0 := by simp at hs; omega
    subst this
    exact c_comm0
  | succ s ih =>
    intro a b i fuel ha hb hs hi hf
    obtain ⟨f, rfl, hf⟩ := fu hf
    by_cases h0 : b = 0
    · subst h0
      exact c_comm0
    · have hm : a % b < b := Nat.mod_lt a (by omega)
      rw [fX7_commonDivisor_c7.eq_2, ← nI_64, il_f (by omega) (by omega), if_neg (nI_ne0 (by omega) hb), if_neg (nI_ne0 (by omega) hb), pk_rem ha (by omega) hb, nI_1, ← gcd_step]
      obtain ⟨f, rfl, hf⟩ := fu (show 2 * s < f by omega)
      generalize a % b = r at hm
      by_cases h1 : r = 0
      · subst h1
        exact c_comm0
      · have hm2 : b % r < r := Nat.mod_lt b (by omega)
        have hd : r * (b / r) + b % r = b := Nat.div_add_mod b r
        have hq : 1 ≤ b / r := (Nat.one_le_div_iff (by omega)).mpr (by omega)
        have hq2 : r ≤ r * (b / r) := Nat.le_mul_of_pos_right r (by omega)
        have hp : 2 ^ (s + 1) = 2 * 2 ^ s := by rw [Nat.pow_succ]; omega
        rw [fX7_commonDivisor_c7.eq_2, ← nI_64, il_f (by omega) (by omega), if_neg (nI_ne0 (by omega) (by omega)), if_neg (nI_ne0 (by omega) (by omega)), pk_rem (by omega) (by omega) (by omega), nI_1, ih r (b % r) (i + 1 + 1) f (by omega) (by omega) (by omega) (by omega) (by omega), gcd_step]
def pfA (a b : Nat) (u : Int32) : Int32 := if u = 0 then nI (b / Nat.gcd a b) else nI (a / Nat.gcd a b)
theorem c_part {M : mM} {a b : Nat} {u : Int32} (ha : a < 2 ^ 31) (hb : b < 2 ^ 20) (h0 : 0 < b) : fX7_partOfFraction M (nI a) (nI b) u = some (pfA a b u) := by
  have hc := c_comm (M := M) 20 a b 0 FUEL ha (by omega) hb (by omega) (FU (by omega))
  rw [nI_0] at hc
  have hg0 : 0 < Nat.gcd a b := Nat.gcd_pos_of_pos_right a h0
  have hg1 : Nat.gcd a b ≤ b := Nat.gcd_le_right a h0
  unfold fX7_partOfFraction fX7_commonDivisor pfA
  have hl : ¬ nI (Nat.gcd a b) < 1 := by rw [← nI_n1]; exact nI_nlt (by omega) (by omega)
  rw [hc, Option.bind_some, if_neg hl, if_neg (nI_ne0 hg0 (by omega)), if_neg (nI_ne0 hg0 (by omega)), pk_div (by omega) hg0 (by omega), pk_div (by omega) hg0 (by omega)]
  split <;> rfl
/-! weights -/
def on4 (b : Nat → Bool) : Nat := (b 0).toNat + (b 1).toNat + (b 2).toNat + (b 3).toNat
def sbB (m : Nat) (t0 t1 t2 t3 : Bool) : Bool := decide ((nI m &&& (w4 t0 t1 t2 t3 ^^^ (-1))) = 0)
def ch1 (a X : Nat) (t b : Bool) : Nat := if t = true then (if b = true then a * (10 - X) else a * X) else a
def chN (m : Nat) (t0 t1 t2 t3 : Bool) (X : Nat) : Nat := ch1 (ch1 (ch1 (ch1 1 X t0 (m.testBit 0)) X t1 (m.testBit 1)) X t2 (m.testBit 2)) X t3 (m.testBit 3)
def pwN (m : Nat) (t0 t1 t2 t3 : Bool) (X : Nat) : Nat := (10 - X) ^ ((m.testBit 0).toNat + (m.testBit 1).toNat + (m.testBit 2).toNat + (m.testBit 3).toNat) * X ^ (t0.toNat + t1.toNat + t2.toNat + t3.toNat - ((m.testBit 0).toNat + (m.testBit 1).toNat + (m.testBit 2).toNat + (m.testBit 3).toNat))
def smF (P : Nat → Bool) (t0 t1 t2 t3 : Bool) (X : Nat) : Nat → Nat → Nat → Nat
  | _, 0, a => a
  | m, k + 1, a => smF P t0 t1 t2 t3 X (m + 1) k (if sbB m t0 t1 t2 t3 = true then (if P m = true then a + chN m t0 t1 t2 t3 X else a) else a)
theorem ch_pw : ∀ t0 t1 t2 t3 : Bool, ∀ m : Fin 16, ∀ X : Fin 11, sbB m.val t0 t1 t2 t3 = true → chN m.val t0 t1 t2 t3 X.val = pwN m.val t0 t1 t2 t3 X.val := by decide +kernel
theorem sm_all : ∀ t0 t1 t2 t3 : Bool, ∀ X : Fin 11, smF (fun _ => true) t0 t1 t2 t3 X.val 0 16 0 = 10 ^ (t0.toNat + t1.toNat + t2.toNat + t3.toNat) := by decide +kernel
theorem ch_le : ∀ t0 t1 t2 t3 : Bool, ∀ m : Fin 16, ∀ X : Fin 11, chN m.val t0 t1 t2 t3 X.val ≤ 10000 := by decide +kernel
theorem smF_le {P : Nat → Bool} {t0 t1 t2 t3 : Bool} {X : Nat} (hX : X ≤ 10) : ∀ (k m a : Nat), m + k ≤ 16 → smF P t0 t1 t2 t3 X m k a ≤ a + 10000 * k
  | 0, _, a, _ => by rw [smF]; omega
  | k + 1, m, a, h => by
    have h1 := smF_le (P := P) (t0 := t0) (t1 := t1) (t2 := t2) (t3 := t3) hX k (m + 1) (if sbB m t0 t1 t2 t3 = true then (if P m = true then a + chN m t0 t1 t2 t3 X else a) else a) (by omega)
    have h2 : chN m t0 t1 t2 t3 X ≤ 10000 := ch_le t0 t1 t2 t3 ⟨m, by omega⟩ ⟨X, by omega⟩
    rw [smF]
    refine Nat.le_trans h1 ?_
    split
    · split <;> omega
    · omega
theorem r_power_c4 {M : mM} {v n : Nat} (hn : n < 1000) : ∀ (k j fuel a : Nat), j + k = n → k < fuel → fX8_power_c4 M fuel (nI v) (nI n) (nI a) (nI j) = some (nI (a * v ^ k)) := by
  intro k
  induction k with
  | zero =>
    intro j fuel a hj hf
    obtain ⟨f, rfl, hf⟩ := fu hf
    rw [fX8_power_c4.eq_2, il_t (by omega) (by omega), Nat.pow_zero, Nat.mul_one]
  | succ k ih =>
    intro j fuel a hj hf
    obtain ⟨f, rfl, hf⟩ := fu hf
    rw [fX8_power_c4.eq_2, il_f (by omega) (by omega), pk_mul, nI_1, ih (j + 1) f _ (by omega) (by omega), Nat.pow_succ, Nat.mul_assoc, Nat.mul_comm v (v ^ k)]
theorem r_power {M : mM} {v n : Nat} (hn : n < 1000) : fX8_power M (nI v) (nI n) = some (nI (v ^ n)) := by
  have := r_power_c4 (M := M) (v := v) hn n 0 FUEL 1 (by omega) (FU (by omega))
  rw [nI_0, nI_n1, Nat.one_mul] at this
  exact this
theorem c_chanceOf_c5 {M : mM} {b t : Nat → Bool} {X : Nat} (hX : X ≤ 10) (k j fuel : Nat) (a : Nat) (hj : j < 4) : fX7_chanceOf_c5 M (fuel + 1) (w4 (b 0) (b 1) (b 2) (b 3)) (w4 (t 0) (t 1) (t 2) (t 3)) (nI X) (nI a) (nI j) = fX7_chanceOf_c5 M fuel (w4 (b 0) (b 1) (b 2) (b 3)) (w4 (t 0) (t 1) (t 2) (t 3)) (nI X) (nI (ch1 a X (t j) (b j))) (nI (j + 1)) := by
  rw [fX7_chanceOf_c5.eq_2, ← nI_4, il_f (by omega) (by omega), bit_b (by omega), bit_b (by omega), nI_1, show (10 : Int32) = nI 10 from by decide, pk_sub hX, pk_mul, pk_mul]
  unfold ch1
  cases t j <;> cases b j <;> rfl
theorem c_chanceOf {M : mM} {m : Nat} {t : Nat → Bool} {X : Nat} (hm : m < 16) (hX : X ≤ 10) : fX7_chanceOf M (nI m) (w4 (t 0) (t 1) (t 2) (t 3)) (nI X) = some (nI (chN m (t 0) (t 1) (t 2) (t 3) X)) := by
  unfold fX7_chanceOf
  rw [nI_w4 m hm, ← nI_n1, ← nI_0, show FUEL = 999995 + 1 + 1 + 1 + 1 + 1 from rfl]
  rw [c_chanceOf_c5 (b := m.testBit) hX 0 0 _ _ (by omega), c_chanceOf_c5 (b := m.testBit) hX 0 1 _ _ (by omega), c_chanceOf_c5 (b := m.testBit) hX 0 2 _ _ (by omega), c_chanceOf_c5 (b := m.testBit) hX 0 3 _ _ (by omega), fX7_chanceOf_c5.eq_2, ← nI_4, il_t (by omega) (by omega)]
  rfl
theorem nI_16 : nI 16 = 16 := by decide +kernel
def whB (ss : List tS) (bd : List Int32) (m : Nat) : Bool := decide (cvr ss bd m.testBit = (1 <<< (nI bd.length &&& 31)) - 1)
def loA (ss : List tS) (bd : List Int32) (x u : Int32) : Int32 := if x < 0 ∨ ¬ x ≤ 10 then -2 else pfA (smF (whB ss bd) (there ss 0) (there ss 1) (there ss 2) (there ss 3) x.toNatClampNeg 0 16 0) (10 ^ pop ss) u
theorem c_lost_c87 {M : mM} {u : Int32} {c : Nat} (hc : c < 2 ^ 31) : ∀ (k fuel a : Nat), k < fuel → 0 < a → a * 10 ^ k < 2 ^ 20 → fX7_lost_c87 fuel M u (nI c) (nI a) (nI k) = some (pfA c (a * 10 ^ k) u, M) := by
  intro k
  induction k with
  | zero =>
    intro fuel a hf h0 hb
    obtain ⟨f, rfl, hf⟩ := fu hf
    rw [fX7_lost_c87.eq_2, if_pos (by rw [nI_0]; exact Int32.le_refl 0), Nat.pow_zero, Nat.mul_one, c_part hc (by omega) h0, Option.bind_some]
  | succ k ih =>
    intro fuel a hf h0 hb
    obtain ⟨f, rfl, hf⟩ := fu hf
    have e : a * 10 ^ (k + 1) = a * 10 * 10 ^ k := by rw [Nat.pow_succ, Nat.mul_assoc, Nat.mul_comm (10 ^ k) 10]
    have hk : k < 2 ^ 31 - 1 := by
      refine Nat.lt_of_not_le fun q => ?_
      have h1 : 10 ^ (k + 1) ≤ a * 10 ^ (k + 1) := Nat.le_mul_of_pos_left _ h0
      have h2 : k + 1 < 10 ^ (k + 1) := Nat.lt_pow_self (by omega)
      omega
    rw [e] at hb ⊢
    rw [fX7_lost_c87.eq_2, if_neg (nI_nle (by omega) (by omega)), pk_m1, show (10 : Int32) = nI 10 from by decide, pk_mul, ih f (a * 10) (by omega) (by omega) hb]
theorem c_lost_c34 {X : Nat} {u : Int32} (h : CI D tx V A K bd L) (hc : CvD D V.2 bd) (hX : X ≤ 10) : ∀ (k m fuel a : Nat), m + k = 16 → k < fuel → smF (whB V.2 bd) (there V.2 0) (there V.2 1) (there V.2 2) (there V.2 3) X m k a < 2 ^ 31 → fX7_lost_c34 fuel (Y w D) 1 (nI X) u (who V.2) (nI a) 1 (nI m) = some (pfA (smF (whB V.2 bd) (there V.2 0) (there V.2 1) (there V.2 2) (there V.2 3) X m k a) (10 ^ pop V.2) u, Y w D) := by
  obtain ⟨c1, c2, c3, c4, c5, c6⟩ := id h
  have q3 := c2.2.2.1
  have hp := pop_le V.2
  have hp2 : 10 ^ pop V.2 ≤ 10 ^ 4 := Nat.pow_le_pow_right (by omega) hp
  intro k
  induction k with
  | zero =>
    intro m fuel a hm hf hb
    obtain ⟨f, rfl, hf⟩ := fu hf
    have := c_lost_c87 (M := Y w D) (u := u) (c := a) hb (pop V.2) FUEL 1 (FU (by omega)) (by omega) (by omega)
    rw [nI_n1, Nat.one_mul] at this
    rw [fX7_lost_c34.eq_2, ← nI_16, il_t (by omega) (by omega), l_bc q3, Option.bind_some, this]
    rfl
  | succ k ih =>
    intro m fuel a hm hf hb
    obtain ⟨f, rfl, hf⟩ := fu hf
    have hcb := c_coveredBy (w := w) (b := m.testBit) hc
    have hch := c_chanceOf (M := Y w D) (m := m) (t := there V.2) (X := X) (by omega) hX
    rw [← nI_w4 m (by omega)] at hcb
    rw [← who_w4 q3] at hch
    have hwb : fX7_wholeBed (Y w D) 1 = some ((1 <<< (nI bd.length &&& 31)) - 1) := by
      unfold fX7_wholeBed
      rw [if_pos eO_1, eF_1_6, Option.bind_some, eF_263_1, Option.bind_some, c5.1.1]
    rw [smF] at hb ⊢
    rw [fX7_lost_c34.eq_2, ← nI_16, il_f (by omega) (by omega), hcb, Option.bind_some, hwb, Option.bind_some, hch, Option.bind_some, nI_add, nI_1]
    by_cases h1 : sbB m (there V.2 0) (there V.2 1) (there V.2 2) (there V.2 3) = true
    · rw [if_pos h1] at hb ⊢
      have h1' : (nI m &&& (who V.2 ^^^ (-1))) = 0 := by rw [who_w4 q3]; exact of_decide_eq_true h1
      rw [if_pos h1']
      by_cases h2 : whB V.2 bd m = true
      · rw [if_pos h2] at hb ⊢
        rw [if_pos (of_decide_eq_true h2), ih (m + 1) f _ (by omega) (by omega) hb]
      · rw [if_neg h2] at hb ⊢
        rw [if_neg (fun q => h2 (decide_eq_true q)), ih (m + 1) f _ (by omega) (by omega) hb]
    · rw [if_neg h1] at hb ⊢
      rw [if_neg (fun q => h1 (by rw [who_w4 q3] at q; exact decide_eq_true q)), ih (m + 1) f _ (by omega) (by omega) hb]
theorem c_lost {x u : Int32} (h : CI D tx V A K bd L) : ∃ D', fX7_lost (Y w D) 1 x u = some (loA V.2 bd x u, Y w D') ∧ CI D' tx V A K bd L ∧ ∀ a, 272 ≤ a → D' a = D a := by
  unfold fX7_lost loA
  rw [if_pos eO_1]
  by_cases h1 : x < 0
  · rw [if_pos h1, if_pos (Or.inl h1)]
    exact ⟨D, rfl, h, fun a _ => rfl⟩
  · rw [if_neg h1]
    by_cases h2 : x ≤ 10
    · obtain ⟨X, hX, rfl⟩ := nI_of h1
      have hX2 : X ≤ 10 := (nI_leI hX (by omega)).mp (by rw [show nI 10 = 10 from by decide]; exact h2)
      obtain ⟨D', g1, g2, g3, g4⟩ := c_findCovers (w := w) h
      have hle := smF_le (P := whB V.2 bd) (t0 := there V.2 0) (t1 := there V.2 1) (t2 := there V.2 2) (t3 := there V.2 3) hX2 16 0 0 (by omega)
      have := c_lost_c34 (w := w) (u := u) g3 g2 hX2 16 0 FUEL 0 (by omega) (FU (by omega)) (by omega)
      rw [nI_0] at this
      rw [if_pos h2, g1, Option.bind_some, eF_1_1, Option.bind_some, l_who isVl_4 g3.2.1, Option.bind_some, this, nI_clamp hX, if_neg]
      · exact ⟨D', rfl, g3, fun a ha => g4 a (by omega)⟩
      · rintro (q | q)
        · exact h1 q
        · exact q h2
    · rw [if_neg h2, if_pos (Or.inr h2)]
      exact ⟨D, rfl, h, fun a _ => rfl⟩
/-! the reference -/
theorem r_ones4 {M : mM} {b : Nat → Bool} : fX8_ones M (w4 (b 0) (b 1) (b 2) (b 3)) = some (nI ((b 0).toNat + (b 1).toNat + (b 2).toNat + (b 3).toNat)) := by rw [r_ones, on_w4]
theorem sb_le : ∀ t0 t1 t2 t3 : Bool, ∀ m : Fin 16, sbB m.val t0 t1 t2 t3 = true → (m.val.testBit 0).toNat + (m.val.testBit 1).toNat + (m.val.testBit 2).toNat + (m.val.testBit 3).toNat ≤ t0.toNat + t1.toNat + t2.toNat + t3.toNat := by decide +kernel
theorem tn1 (b : Bool) : b.toNat ≤ 1 := by cases b <;> decide
theorem r_lost_c30 {X : Nat} {u : Int32} (h : RI D tx V A K bd L) (hX : X ≤ 10) : ∀ (k m fuel a c : Nat), m + k = 16 → k < fuel → smF (whB V.2 bd) (there V.2 0) (there V.2 1) (there V.2 2) (there V.2 3) X m k a < 2 ^ 31 → smF (fun _ => true) (there V.2 0) (there V.2 1) (there V.2 2) (there V.2 3) X m k c < 1000000 → 0 < smF (fun _ => true) (there V.2 0) (there V.2 1) (there V.2 2) (there V.2 3) X m k c → fX8_lost_c30 (Y w D) fuel 272 (nI X) u (who V.2) (nI a) (nI c) (nI m) = some (pfA (smF (whB V.2 bd) (there V.2 0) (there V.2 1) (there V.2 2) (there V.2 3) X m k a) (smF (fun _ => true) (there V.2 0) (there V.2 1) (there V.2 2) (there V.2 3) X m k c) u) := by
  have q2 := h.2.1.2.2.1
  have c5 := h.2.2.2.2.1
  intro k
  induction k with
  | zero =>
    intro m fuel a c hm hf hb hb2 h0
    obtain ⟨f, rfl, hf⟩ := fu hf
    rw [smF] at hb hb2 h0 ⊢
    rw [smF]
    have hg0 : 0 < Nat.gcd a c := Nat.gcd_pos_of_pos_right a h0
    have hg1 : Nat.gcd a c ≤ c := Nat.gcd_le_right a h0
    rw [fX8_lost_c30.eq_2, ← nI_16, il_t (by omega) (by omega), r_common hb hb2, Option.bind_some, if_neg (nI_ne0 hg0 (by omega)), if_neg (nI_ne0 hg0 (by omega)), pk_div (by omega) hg0 (by omega), pk_div (by omega) hg0 (by omega), pfA]
    split <;> rfl
  | succ k ih =>
    intro m fuel a c hm hf hb hb2 h0
    obtain ⟨f, rfl, hf⟩ := fu hf
    rw [smF] at hb hb2 h0 ⊢
    rw [smF]
    have hcb := r_coverOf (w := w) (b := m.testBit) h
    have ho := r_ones4 (M := Y w D) (b := m.testBit)
    have hw := r_ones4 (M := Y w D) (b := there V.2)
    rw [← nI_w4 m (by omega)] at hcb ho
    rw [← who_w4 q2] at hw
    have t0 := tn1 (m.testBit 0)
    have t1 := tn1 (m.testBit 1)
    have t2 := tn1 (m.testBit 2)
    have t3 := tn1 (m.testBit 3)
    rw [fX8_lost_c30.eq_2, ← nI_16, il_f (by omega) (by omega)]
    by_cases h1 : sbB m (there V.2 0) (there V.2 1) (there V.2 2) (there V.2 3) = true
    · have hle := sb_le _ _ _ _ ⟨m, by omega⟩ h1
      have hpw := ch_pw _ _ _ _ ⟨m, by omega⟩ ⟨X, by omega⟩ h1
      dsimp only at hle hpw
      have h1' : (nI m &&& (who V.2 ^^^ (-1))) = 0 := by rw [who_w4 q2]; exact of_decide_eq_true h1
      have s0 := tn1 (there V.2 0)
      have s1 := tn1 (there V.2 1)
      have s2 := tn1 (there V.2 2)
      have s3 := tn1 (there V.2 3)
      rw [if_pos h1] at hb hb2 h0 ⊢
      rw [if_pos h1]
      rw [if_pos rfl] at hb2 h0 ⊢
      rw [if_pos h1', ho, Option.bind_some, show (10 : Int32) = nI 10 from by decide, pk_sub hX, r_power (by omega), Option.bind_some, hw, Option.bind_some, Option.bind_some, pk_sub hle, r_power (by omega), Option.bind_some, hcb, Option.bind_some, eF_272_11, Option.bind_some, c5.1, pk_mul, nI_1]
      have e : (10 - X) ^ ((m.testBit 0).toNat + (m.testBit 1).toNat + (m.testBit 2).toNat + (m.testBit 3).toNat) * X ^ ((there V.2 0).toNat + (there V.2 1).toNat + (there V.2 2).toNat + (there V.2 3).toNat - ((m.testBit 0).toNat + (m.testBit 1).toNat + (m.testBit 2).toNat + (m.testBit 3).toNat)) = chN m (there V.2 0) (there V.2 1) (there V.2 2) (there V.2 3) X := hpw.symm
      rw [e, nI_add, nI_add]
      by_cases h2 : whB V.2 bd m = true
      · rw [if_pos h2] at hb ⊢
        rw [if_pos (of_decide_eq_true h2), ih (m + 1) f _ _ (by omega) (by omega) hb hb2 h0]
      · rw [if_neg h2] at hb ⊢
        rw [if_neg (fun q => h2 (decide_eq_true q)), Int32.add_zero, ih (m + 1) f _ _ (by omega) (by omega) hb hb2 h0]
    · rw [if_neg h1] at hb hb2 h0 ⊢
      rw [if_neg h1]
      rw [if_neg (fun q => h1 (by rw [who_w4 q2] at q; exact decide_eq_true q)), nI_1, ih (m + 1) f _ _ (by omega) (by omega) hb hb2 h0]
theorem r_lost {x u : Int32} (h : RI D tx V A K bd L) : fX8_lost (Y w D) 272 x u = some (loA V.2 bd x u) := by
  unfold fX8_lost loA
  rw [if_pos eO_272, d64 (lo := 0) (hi := 10) (by decide) (by decide), Option.bind_some]
  by_cases hx : x < 0 ∨ ¬ x ≤ 10
  · rw [if_pos hx, if_pos]
    rw [b2i_0, decide_eq_false_iff_not]
    rintro ⟨p1, p2⟩
    rcases hx with q | q
    · exact p1 q
    · exact p2 (Int32.not_le.mp q)
  · have h1 : ¬ x < 0 := fun q => hx (Or.inl q)
    obtain ⟨X, hX, rfl⟩ := nI_of h1
    have hX2 : X ≤ 10 := by
      refine (nI_leI hX (by omega)).mp ?_
      rw [show nI 10 = 10 from by decide]
      exact Int32.not_lt.mp (fun q => hx (Or.inr (Int32.not_le.mpr q)))
    have hw := r_whoIs (w := w) (l := 0) (by omega) h.2.1.1 h.2.1.2
    rw [nI_0] at hw
    have hp := pop_le V.2
    have hp2 : 10 ^ pop V.2 ≤ 10 ^ 4 := Nat.pow_le_pow_right (by omega) hp
    have hp3 : 0 < 10 ^ pop V.2 := Nat.pow_pos (by omega)
    have hall := sm_all (there V.2 0) (there V.2 1) (there V.2 2) (there V.2 3) ⟨X, by omega⟩
    dsimp only at hall
    have hall' : smF (fun _ => true) (there V.2 0) (there V.2 1) (there V.2 2) (there V.2 3) X 0 16 0 = 10 ^ pop V.2 := hall
    have hle := smF_le (P := whB V.2 bd) (t0 := there V.2 0) (t1 := there V.2 1) (t2 := there V.2 2) (t3 := there V.2 3) hX2 16 0 0 (by omega)
    have := r_lost_c30 (w := w) (u := u) h hX2 16 0 FUEL 0 0 (by omega) (FU (by omega)) (by omega) (by omega) (by omega)
    rw [nI_0, hall'] at this
    rw [if_neg hx, if_neg, hw, Option.bind_some, this, nI_clamp hX]
    rw [b2i_0, decide_eq_false_iff_not]
    intro q
    exact q ⟨h1, fun q2 => hx (Or.inr (Int32.not_le.mpr q2))⟩
end LO
