/-! ===== shares ===== -/
def sN (f : Nat → Nat) : Nat → Nat → Nat
  | _, 0 => 0
  | j, k + 1 => f j + sN f (j + 1) k
theorem sN_add (f g : Nat → Nat) : ∀ (k j : Nat), sN (fun p => f p + g p) j k = sN f j k + sN g j k
  | 0, _ => rfl
  | k + 1, j => by rw [sN, sN, sN, sN_add f g k]; omega
theorem sN_mul (f : Nat → Nat) (c : Nat) : ∀ (k j : Nat), sN (fun p => c * f p) j k = c * sN f j k
  | 0, _ => rfl
  | k + 1, j => by rw [sN, sN, sN_mul f c k, Nat.mul_add]
theorem sN_congr {f g : Nat → Nat} : ∀ (k j : Nat), (∀ p, j ≤ p → p < j + k → f p = g p) → sN f j k = sN g j k
  | 0, _, _ => rfl
  | k + 1, j, h => by rw [sN, sN, h j (by omega) (by omega), sN_congr k (j + 1) (fun p h1 h2 => h p (by omega) (by omega))]
theorem sN_zero : ∀ (k j : Nat), sN (fun _ => 0) j k = 0
  | 0, _ => rfl
  | k + 1, j => by rw [sN, sN_zero k]
theorem sN_swap (f : Nat → Nat → Nat) (p0 K : Nat) : ∀ (k m : Nat), sN (fun m => sN (fun p => f m p) p0 K) m k = sN (fun p => sN (fun m => f m p) m k) p0 K
  | 0, m => by
    rw [sN]
    exact (sN_zero K p0).symm
  | k + 1, m => by
    rw [sN, sN_swap f p0 K k (m + 1), ← sN_add]
    rfl
theorem sN_le {f : Nat → Nat} {c : Nat} (h : ∀ p, f p ≤ c) : ∀ (k j : Nat), sN f j k ≤ c * k
  | 0, _ => by rw [sN]; omega
  | k + 1, j => by
    have h1 := sN_le h k (j + 1)
    have h2 := h j
    rw [sN, Nat.mul_succ]
    omega
theorem sN_app (f : Nat → Nat) : ∀ (k m j : Nat), sN f j (k + m) = sN f j k + sN f (j + k) m
  | 0, m, j => by rw [Nat.zero_add, sN, Nat.zero_add]; rfl
  | k + 1, m, j => by rw [show k + 1 + m = (k + m) + 1 by omega, sN, sN_app f k m, sN, show j + 1 + k = j + (k + 1) by omega]; omega
/-! bits -/
def bt (x : Int32) (p : Nat) : Bool := x.toBitVec.getLsbD p
theorem bt_or (a b : Int32) (p : Nat) : bt (a ||| b) p = (bt a p || bt b p) := by
  unfold bt
  rw [Int32.toBitVec_or, BitVec.getLsbD_or]
theorem bt_0 (p : Nat) : bt 0 p = false := by
  unfold bt
  rw [show (0 : Int32).toBitVec = 0#32 from rfl, BitVec.getLsbD_zero]
theorem and31 : ∀ p, p < 12 → (nI p &&& 31) = nI p ∧ (nI p).toBitVec.smod 32#32 = BitVec.ofNat 32 p := by decide +kernel
theorem bt_bit {x : Int32} {p : Nat} (hp : p < 12) : ((x >>> (nI p &&& 31)) &&& 1) = b2i (bt x p) := by
  obtain ⟨h1, h2⟩ := and31 p hp
  rw [h1]
  apply Int32.toBitVec_inj.mp
  rw [Int32.toBitVec_and, Int32.toBitVec_shiftRight]
  have h3 : (nI p).toBitVec.smod 32 = BitVec.ofNat 32 p := h2
  rw [h3, BitVec.sshiftRight_eq']
  apply BitVec.eq_of_getLsbD_eq
  intro i hi
  rw [BitVec.getLsbD_and, BitVec.getLsbD_sshiftRight, show (1 : Int32).toBitVec = 1#32 from rfl, BitVec.getLsbD_one]
  have hpn : (BitVec.ofNat 32 p).toNat = p := by
    rw [BitVec.toNat_ofNat]
    exact Nat.mod_eq_of_lt (by omega)
  rw [hpn]
  unfold bt
  by_cases hi0 : i = 0
  · subst hi0
    cases hb : x.toBitVec.getLsbD p
    · simp [hb, b2i, show p < 32 by omega]
    · simp [hb, b2i, show p < 32 by omega]
  · cases hb : x.toBitVec.getLsbD p
    · simp [b2i, hi0]
    · simp [b2i, hi0]
theorem bt_bits : ∀ n : Fin 13, ∀ j p : Fin 12, bt (bitsI n.val j.val) p.val = decide (j.val ≤ p.val ∧ p.val < j.val + n.val) := by decide +kernel
theorem und_out {xs ys : List Int32} {p : Nat} (hx : xs.length ≤ 12) (hy : ys.length ≤ 12) (hp : p < 12) (hp2 : xs.length ≤ p) : ∀ (k j : Nat) (a : Int32), j + k = xs.length → bt a p = false → bt (undF xs ys j k a) p = false
  | 0, _, _, _, h => h
  | k + 1, j, a, hj, h => by
    rw [undF]
    refine und_out hx hy hp hp2 k (j + 1) _ (by omega) ?_
    split
    · rename_i hb
      have hl : j + ys.length ≤ xs.length := by
        unfold bearsB at hb
        simp only [Bool.and_eq_true, decide_eq_true_eq] at hb
        exact hb.1
      have := bt_bits ⟨ys.length, by omega⟩ ⟨j, by omega⟩ ⟨p, by omega⟩
      dsimp only at this
      rw [bt_or, h, this, decide_eq_false (by omega)]
      rfl
    · exact h
/-! ones of what is covered -/
theorem b2i_nI (b : Bool) : b2i b = nI b.toNat := by cases b <;> decide
theorem on_sN {x : Int32} : ∀ (k j a : Nat), j + k = 12 → onF x j k (nI a) = nI (a + sN (fun p => (bt x p).toNat) j k)
  | 0, _, _, _ => rfl
  | k + 1, j, a, h => by
    rw [onF, bt_bit (by omega), b2i_nI, nI_add, on_sN k (j + 1) _ (by omega), sN, Nat.add_assoc]
theorem r_onesN {M : mM} {x : Int32} : fX8_ones M x = some (nI (sN (fun p => (bt x p).toNat) 0 12)) := by
  have := on_sN (x := x) 12 0 0 rfl
  rw [nI_0, Nat.zero_add] at this
  rw [r_ones, this]
theorem bt_cvF {ss : List tS} {bd : List Int32} {b : Nat → Bool} {p : Nat} : bt (cvr ss bd b) p = ((((b 0 && bt (cov1 ss bd 0) p) || (b 1 && bt (cov1 ss bd 1) p)) || (b 2 && bt (cov1 ss bd 2) p)) || (b 3 && bt (cov1 ss bd 3) p)) := by
  have e : ∀ j, bt (if b j = true then cov1 ss bd j else 0) p = (b j && bt (cov1 ss bd j) p) := fun j => by
    cases b j
    · rw [if_neg (by decide), bt_0, Bool.false_and]
    · rw [if_pos rfl, Bool.true_and]
  unfold cvr
  rw [cvF, cvF, cvF, cvF, cvF, bt_or, bt_or, bt_or, bt_or, bt_0, Bool.false_or, e, e, e, e]
/-! the sum over sets, place by place -/
def fac (n : Nat) : Nat := if n = 0 then 1 else if n = 1 then 1 else if n = 2 then 2 else if n = 3 then 6 else 24
def onm (m : Nat) : Nat := (m.testBit 0).toNat + (m.testBit 1).toNat + (m.testBit 2).toNat + (m.testBit 3).toNat
def gdB (m s : Nat) (t0 t1 t2 t3 : Bool) : Bool := sbB m t0 t1 t2 t3 && !m.testBit s
def gW1 (m s : Nat) (t0 t1 t2 t3 : Bool) : Nat := if gdB m s t0 t1 t2 t3 = true then fac (onm m) * fac (t0.toNat + t1.toNat + t2.toNat + t3.toNat - 1 - onm m) else 0
def orB (b0 b1 b2 b3 c0 c1 c2 c3 : Bool) : Bool := ((((b0 && c0) || (b1 && c1)) || (b2 && c2)) || (b3 && c3))
def ddN (m s : Nat) (c0 c1 c2 c3 : Bool) : Nat := (orB (m.testBit 0 || decide (s = 0)) (m.testBit 1 || decide (s = 1)) (m.testBit 2 || decide (s = 2)) (m.testBit 3 || decide (s = 3)) c0 c1 c2 c3).toNat - (orB (m.testBit 0) (m.testBit 1) (m.testBit 2) (m.testBit 3) c0 c1 c2 c3).toNat
def twN (s : Nat) (c0 c1 c2 c3 : Bool) : Nat := if (if s = 0 then c0 else if s = 1 then c1 else if s = 2 then c2 else c3) = true then 12 / (c0.toNat + c1.toNat + c2.toNat + c3.toNat) else 0
theorem sh_place : ∀ t0 t1 t2 t3 c0 c1 c2 c3 : Bool, ∀ s : Fin 4, (if s.val = 0 then t0 else if s.val = 1 then t1 else if s.val = 2 then t2 else t3) = true → (c0 = true → t0 = true) → (c1 = true → t1 = true) → (c2 = true → t2 = true) → (c3 = true → t3 = true) → 12 * sN (fun m => gW1 m s.val t0 t1 t2 t3 * ddN m s.val c0 c1 c2 c3) 0 16 = fac (t0.toNat + t1.toNat + t2.toNat + t3.toNat) * twN s.val c0 c1 c2 c3 := by decide +kernel
theorem frac_eq {a b c d : Nat} (h : a * d = c * b) (hb : 0 < b) (hd : 0 < d) : a / Nat.gcd a b = c / Nat.gcd c d ∧ b / Nat.gcd a b = d / Nat.gcd c d := by
  have hg : 0 < Nat.gcd a b := Nat.gcd_pos_of_pos_right a hb
  have hh : 0 < Nat.gcd c d := Nat.gcd_pos_of_pos_right c hd
  have e1 : Nat.gcd a b * d = Nat.gcd c d * b := by
    rw [← Nat.gcd_mul_right, ← Nat.gcd_mul_right, h, Nat.mul_comm b d]
  obtain ⟨b', hb'⟩ := Nat.gcd_dvd_right a b
  obtain ⟨d', hd'⟩ := Nat.gcd_dvd_right c d
  obtain ⟨a', ha'⟩ := Nat.gcd_dvd_left a b
  obtain ⟨c', hc'⟩ := Nat.gcd_dvd_left c d
  generalize Nat.gcd a b = g at *
  generalize Nat.gcd c d = k at *
  subst ha' hb' hc' hd'
  have e2 : b' = d' := by
    have h1 : g * k * d' = g * k * b' := by
      have := e1
      rw [← Nat.mul_assoc, ← Nat.mul_assoc, Nat.mul_comm k g] at this
      exact this
    exact (Nat.eq_of_mul_eq_mul_left (Nat.mul_pos hg hh) h1).symm
  subst e2
  have hb0 : 0 < b' := Nat.pos_of_mul_pos_left hb
  have e3 : a' = c' := by
    have h1 : (g * k * b') * a' = (g * k * b') * c' := by
      have h2 : g * a' * (k * b') = (g * k * b') * a' := by
        rw [Nat.mul_assoc, Nat.mul_assoc, Nat.mul_assoc, Nat.mul_comm a' (k * b'), Nat.mul_assoc]
      have h3 : k * c' * (g * b') = (g * k * b') * c' := by
        rw [Nat.mul_comm g k, Nat.mul_assoc, Nat.mul_assoc, Nat.mul_assoc, Nat.mul_comm c' (g * b'), Nat.mul_assoc]
      rw [← h2, ← h3]
      exact h
    exact Nat.eq_of_mul_eq_mul_left (Nat.mul_pos (Nat.mul_pos hg hh) hb0) h1
  subst e3
  exact ⟨by rw [Nat.mul_div_cancel_left _ hg, Nat.mul_div_cancel_left _ hh], by rw [Nat.mul_div_cancel_left _ hg, Nat.mul_div_cancel_left _ hh]⟩
theorem pfA_eq {a b c d : Nat} {u : Int32} (h : a * d = c * b) (hb : 0 < b) (hd : 0 < d) : pfA a b u = pfA c d u := by
  obtain ⟨h1, h2⟩ := frac_eq h hb hd
  unfold pfA
  rw [h1, h2]
section SH
variable {w : mW} {D : mD} {i : Nat} {tx : List Int32} {V : tV} {A : List tV} {K : Nat → Option tV} {bd : List Int32} {L : List (Int32 × Int32)}
def cB (ss : List tS) (bd : List Int32) (j p : Nat) : Bool := bt (cov1 ss bd j) p
def tw (ss : List tS) (bd : List Int32) (s p : Nat) : Nat := twN s (cB ss bd 0 p) (cB ss bd 1 p) (cB ss bd 2 p) (cB ss bd 3 p)
def shA (ss : List tS) (bd : List Int32) (x u : Int32) : Int32 := if hasI ss x = false then -1 else pfA (sN (tw ss bd x.toNatClampNeg) 0 12) 12 u
theorem c_coversOn_c4 {ss : List tS} {p : Nat} (hp : p < 12) (hc : CvD D ss bd) : ∀ (k j fuel a : Nat), j + k = 4 → k < fuel → fX7_coversOn_c4 (Y w D) fuel 1 (nI p) (nI a) (nI j) = some (nI (a + sN (fun i => (cB ss bd i p).toNat) j k)) := by
  intro k
  induction k with
  | zero =>
    intro j fuel a hj hf
    obtain ⟨f, rfl, hf⟩ := fu hf
    rw [fX7_coversOn_c4.eq_2, ← nI_4, il_t (by omega) (by omega)]
    rfl
  | succ k ih =>
    intro j fuel a hj hf
    obtain ⟨f, rfl, hf⟩ := fu hf
    rw [fX7_coversOn_c4.eq_2, ← nI_4, il_f (by omega) (by omega), eF_1_9, Option.bind_some, Y_aI kA_269 (by omega), Option.bind_some, hc j (by omega), bt_bit hp, b2i_nI, nI_add, nI_1, ih (j + 1) f _ (by omega) (by omega), sN, Nat.add_assoc]
    rfl
theorem c_coversOn {ss : List tS} {p : Nat} (hp : p < 12) (hc : CvD D ss bd) : fX7_coversOn (Y w D) 1 (nI p) = some (nI ((cB ss bd 0 p).toNat + (cB ss bd 1 p).toNat + (cB ss bd 2 p).toNat + (cB ss bd 3 p).toNat)) := by
  unfold fX7_coversOn
  have := c_coversOn_c4 (w := w) hp hc 4 0 FUEL 0 (by omega) (FU (by omega))
  rw [nI_0] at this
  rw [if_pos eO_1, this]
  congr 2
  show 0 + ((cB ss bd 0 p).toNat + ((cB ss bd 1 p).toNat + ((cB ss bd 2 p).toNat + ((cB ss bd 3 p).toNat + 0)))) = _
  omega
theorem tw_le {ss : List tS} {s p : Nat} : tw ss bd s p ≤ 12 := by
  have key : ∀ (c : Prop) [Decidable c] (n : Nat), (if c then 12 / n else 0) ≤ 12 := by
    intro c _ n
    split
    · exact Nat.div_le_self 12 _
    · omega
  exact key _ _
theorem c_share_c22 {s : Nat} {u : Int32} (hs : s < 4) (h : CI D tx V A K bd L) (hc : CvD D V.2 bd) : ∀ (k p fuel a : Nat), p + k = bd.length → k < fuel → a + 12 * k < 10000 → fX7_share_c22 fuel (Y w D) 1 (nI s) u (nI a) (nI p) = some (pfA (a + sN (tw V.2 bd s) p k) 12 u, Y w D) := by
  obtain ⟨c1, c2, c3, c4, c5, c6⟩ := id h
  have c52 := c5.2
  intro k
  induction k with
  | zero =>
    intro p fuel a hp hf ha
    obtain ⟨f, rfl, hf⟩ := fu hf
    rw [fX7_share_c22.eq_2, eF_1_6, Option.bind_some, eF_263_1, Option.bind_some, c5.1.1, il_t (by omega) (by omega), ← nI_12, c_part (by omega) (by omega) (by omega), Option.bind_some]
    rfl
  | succ k ih =>
    intro p fuel a hp hf ha
    obtain ⟨f, rfl, hf⟩ := fu hf
    rw [fX7_share_c22.eq_2, eF_1_6, Option.bind_some, eF_263_1, Option.bind_some, c5.1.1, il_f (by omega) (by omega), eF_1_9, Option.bind_some, Y_aI kA_269 (by omega), Option.bind_some, hc s hs, bt_bit (by omega), c_coversOn (by omega) hc, Option.bind_some, nI_1]
    have hcs : (if s = 0 then cB V.2 bd 0 p else if s = 1 then cB V.2 bd 1 p else if s = 2 then cB V.2 bd 2 p else cB V.2 bd 3 p) = cB V.2 bd s p := b4 (b := fun j => cB V.2 bd j p) hs
    cases hb : bt (cov1 V.2 bd s) p with
    | false =>
      have ht : tw V.2 bd s p = 0 := by
        unfold tw twN
        rw [hcs, show cB V.2 bd s p = false from hb, if_neg (by decide)]
      rw [if_neg (by decide), ih (p + 1) f a (by omega) (by omega) (by omega), sN, ht, Nat.zero_add]
    | true =>
      have ht : tw V.2 bd s p = 12 / ((cB V.2 bd 0 p).toNat + (cB V.2 bd 1 p).toNat + (cB V.2 bd 2 p).toNat + (cB V.2 bd 3 p).toNat) := by
        unfold tw twN
        rw [hcs, show cB V.2 bd s p = true from hb, if_pos rfl]
      have hn : 1 ≤ (cB V.2 bd 0 p).toNat + (cB V.2 bd 1 p).toNat + (cB V.2 bd 2 p).toNat + (cB V.2 bd 3 p).toNat := by
        have hb2 : (cB V.2 bd s p).toNat = 1 := by rw [show cB V.2 bd s p = true from hb]; rfl
        rcases (show s = 0 ∨ s = 1 ∨ s = 2 ∨ s = 3 by omega) with rfl | rfl | rfl | rfl <;> omega
      have t0 := tn1 (cB V.2 bd 0 p)
      have t1 := tn1 (cB V.2 bd 1 p)
      have t2 := tn1 (cB V.2 bd 2 p)
      have t3 := tn1 (cB V.2 bd 3 p)
      have hn4 : (cB V.2 bd 0 p).toNat + (cB V.2 bd 1 p).toNat + (cB V.2 bd 2 p).toNat + (cB V.2 bd 3 p).toNat ≤ 4 := by omega
      generalize (cB V.2 bd 0 p).toNat + (cB V.2 bd 1 p).toNat + (cB V.2 bd 2 p).toNat + (cB V.2 bd 3 p).toNat = n at *
      have hl : ¬ nI n < 1 := by rw [← nI_n1]; exact nI_nlt (by omega) (by omega)
      have hd : 12 / n ≤ 12 := Nat.div_le_self 12 n
      rw [if_pos (by rfl), if_neg hl, if_neg (nI_ne0 (by omega) (by omega)), ← nI_12, pk_div (by omega) (by omega) (by omega), nI_add, ih (p + 1) f _ (by omega) (by omega) (by omega), sN, ht, Nat.add_assoc]
theorem cB_out {ss : List tS} {j p : Nat} (hj : (ss.getD j d0).2.2.length ≤ 12) (hb : bd.length ≤ 12) (hp : p < 12) (hp2 : bd.length ≤ p) : cB ss bd j p = false := by
  unfold cB cov1
  split
  · exact und_out hb hj hp hp2 bd.length 0 0 (by omega) (bt_0 p)
  · exact bt_0 p
theorem tw_out {ss : List tS} {s p : Nat} (hs : s < 4) (hj : (ss.getD s d0).2.2.length ≤ 12) (hb : bd.length ≤ 12) (hp : p < 12) (hp2 : bd.length ≤ p) : tw ss bd s p = 0 := by
  have hcs : (if s = 0 then cB ss bd 0 p else if s = 1 then cB ss bd 1 p else if s = 2 then cB ss bd 2 p else cB ss bd 3 p) = cB ss bd s p := b4 (b := fun j => cB ss bd j p) hs
  unfold tw twN
  rw [hcs, cB_out hj hb hp hp2, if_neg (by decide)]
theorem c_share {x u : Int32} (h : CI D tx V A K bd L) : ∃ D', fX7_share (Y w D) 1 x u = some (shA V.2 bd x u, Y w D') ∧ CI D' tx V A K bd L ∧ ∀ a, 272 ≤ a → D' a = D a := by
  have q3 := h.2.1.2.2.1
  have c52 := h.2.2.2.2.1.2
  unfold fX7_share shA
  rw [if_pos eO_1, eF_1_1, Option.bind_some, l_has isVl_4 h.2.1, Option.bind_some]
  cases hb : hasI V.2 x with
  | false =>
    rw [if_pos rfl, if_pos (by rfl)]
    exact ⟨D, rfl, h, fun a _ => rfl⟩
  | true =>
    obtain ⟨s, hs, rfl, ht⟩ := hasI_spec hb
    obtain ⟨D', g1, g2, g3, g4⟩ := c_findCovers (w := w) h
    have := c_share_c22 (w := w) (s := s) (u := u) (by omega) g3 g2 bd.length 0 FUEL 0 (by omega) (FU (by omega)) (by omega)
    rw [nI_0, Nat.zero_add] at this
    have e : sN (tw V.2 bd s) 0 12 = sN (tw V.2 bd s) 0 bd.length := by
      rw [show 12 = bd.length + (12 - bd.length) by omega, sN_app]
      have hz : sN (tw V.2 bd s) (0 + bd.length) (12 - bd.length) = 0 := by
        rw [sN_congr (g := fun _ => 0) _ _ (fun p h1 h2 => tw_out (by omega) (h.2.1.2.2.2 s hs).2.2.2 c52 (by omega) (by omega)), sN_zero]
      rw [hz]
      rfl
    rw [if_neg nb0, if_neg ntf, g1, Option.bind_some, this, nI_clamp (by omega), e]
    exact ⟨D', rfl, g3, fun a ha => g4 a (by omega)⟩
/-! the reference -/
theorem r_fact {M : mM} {n : Nat} (hn : n ≤ 4) : fX8_factorial M (nI n) = some (nI (fac n)) := by
  unfold fX8_factorial
  rw [show FUEL = 999995 + 1 + 1 + 1 + 1 + 1 from rfl]
  rcases (show n = 0 ∨ n = 1 ∨ n = 2 ∨ n = 3 ∨ n = 4 by omega) with rfl | rfl | rfl | rfl | rfl
  · rw [fX8_factorial_c4.eq_2, if_pos (by decide)]; rfl
  · rw [fX8_factorial_c4.eq_2, if_pos (by decide)]; rfl
  · rw [fX8_factorial_c4.eq_2, if_neg (by decide), fX8_factorial_c4.eq_2, if_pos (by decide)]; rfl
  · rw [fX8_factorial_c4.eq_2, if_neg (by decide), fX8_factorial_c4.eq_2, if_neg (by decide), fX8_factorial_c4.eq_2, if_pos (by decide)]; rfl
  · rw [fX8_factorial_c4.eq_2, if_neg (by decide), fX8_factorial_c4.eq_2, if_neg (by decide), fX8_factorial_c4.eq_2, if_neg (by decide), fX8_factorial_c4.eq_2, if_pos (by decide)]; rfl
theorem or_w4 : ∀ m : Fin 16, ∀ s : Fin 4, (nI m.val ||| (1 <<< (nI s.val &&& 31))) = w4 (m.val.testBit 0 || decide (s.val = 0)) (m.val.testBit 1 || decide (s.val = 1)) (m.val.testBit 2 || decide (s.val = 2)) (m.val.testBit 3 || decide (s.val = 3)) := by decide +kernel
def dd (ss : List tS) (bd : List Int32) (m s p : Nat) : Nat := ddN m s (cB ss bd 0 p) (cB ss bd 1 p) (cB ss bd 2 p) (cB ss bd 3 p)
theorem or_mono : ∀ m : Fin 16, ∀ s : Fin 4, ∀ c0 c1 c2 c3 : Bool, (orB (m.val.testBit 0) (m.val.testBit 1) (m.val.testBit 2) (m.val.testBit 3) c0 c1 c2 c3).toNat ≤ (orB (m.val.testBit 0 || decide (s.val = 0)) (m.val.testBit 1 || decide (s.val = 1)) (m.val.testBit 2 || decide (s.val = 2)) (m.val.testBit 3 || decide (s.val = 3)) c0 c1 c2 c3).toNat := by decide +kernel
theorem sN_sub {f g : Nat → Nat} (h : ∀ p, g p ≤ f p) : ∀ (k j : Nat), sN g j k ≤ sN f j k ∧ sN f j k - sN g j k = sN (fun p => f p - g p) j k
  | 0, _ => ⟨Nat.le_refl _, rfl⟩
  | k + 1, j => by
    obtain ⟨h1, h2⟩ := sN_sub h k (j + 1)
    have h3 := h j
    rw [sN, sN, sN, ← h2]
    omega
theorem sb_lt : ∀ t0 t1 t2 t3 : Bool, ∀ m : Fin 16, ∀ s : Fin 4, (if s.val = 0 then t0 else if s.val = 1 then t1 else if s.val = 2 then t2 else t3) = true → gdB m.val s.val t0 t1 t2 t3 = true → onm m.val + 1 ≤ t0.toNat + t1.toNat + t2.toNat + t3.toNat := by decide +kernel
theorem gW1_le : ∀ t0 t1 t2 t3 : Bool, ∀ m : Fin 16, ∀ s : Fin 4, gW1 m.val s.val t0 t1 t2 t3 ≤ 576 := by decide +kernel
theorem dd_le {ss : List tS} {m s p : Nat} : dd ss bd m s p ≤ 1 := by
  unfold dd ddN
  have := tn1 (orB (m.testBit 0 || decide (s = 0)) (m.testBit 1 || decide (s = 1)) (m.testBit 2 || decide (s = 2)) (m.testBit 3 || decide (s = 3)) (cB ss bd 0 p) (cB ss bd 1 p) (cB ss bd 2 p) (cB ss bd 3 p))
  omega
def sh1 (ss : List tS) (bd : List Int32) (s m : Nat) : Nat := gW1 m s (there ss 0) (there ss 1) (there ss 2) (there ss 3) * sN (dd ss bd m s) 0 12
theorem cv_diff {m s : Nat} (hm : m < 16) (hs : s < 4) (h : RI D tx V A K bd L) : ∃ x y : Int32, fX8_coverOf (Y w D) 272 (nI m ||| (1 <<< (nI s &&& 31))) = some x ∧ fX8_coverOf (Y w D) 272 (nI m) = some y ∧ nI (sN (fun p => (bt x p).toNat) 0 12) - nI (sN (fun p => (bt y p).toNat) 0 12) = nI (sN (dd V.2 bd m s) 0 12) := by
  have h1 := r_coverOf (w := w) (b := fun j => m.testBit j || decide (s = j)) h
  have h2 := r_coverOf (w := w) (b := m.testBit) h
  have hor := or_w4 ⟨m, hm⟩ ⟨s, hs⟩
  dsimp only at hor h1
  rw [← hor] at h1
  rw [← nI_w4 m hm] at h2
  refine ⟨_, _, h1, h2, ?_⟩
  have hmono : ∀ p, (bt (cvr V.2 bd m.testBit) p).toNat ≤ (bt (cvr V.2 bd (fun j => m.testBit j || decide (s = j))) p).toNat := fun p => by
    rw [bt_cvF, bt_cvF]
    exact or_mono ⟨m, hm⟩ ⟨s, hs⟩ _ _ _ _
  obtain ⟨g1, g2⟩ := sN_sub hmono 12 0
  rw [pk_sub g1, g2]
  congr 1
  refine sN_congr 12 0 (fun p _ _ => ?_)
  rw [bt_cvF, bt_cvF]
  rfl
theorem r_share_c29 {s : Nat} {u : Int32} (h : RI D tx V A K bd L) (hs : s < 4) (ht : there V.2 s = true) : ∀ (k m fuel a : Nat), m + k = 16 → k < fuel → a + 6912 * k < 1000000 → fX8_share_c29 (Y w D) fuel 272 (nI s) u (who V.2) (nI (pop V.2)) (nI a) (nI m) = some (pfA (a + sN (sh1 V.2 bd s) m k) (fac (pop V.2)) u) := by
  have q2 := h.2.1.2.2.1
  have hp := pop_le V.2
  have hfac : 0 < fac (pop V.2) ∧ fac (pop V.2) ≤ 24 := by
    rcases (show pop V.2 = 0 ∨ pop V.2 = 1 ∨ pop V.2 = 2 ∨ pop V.2 = 3 ∨ pop V.2 = 4 by omega) with q | q | q | q | q <;> rw [q] <;> decide
  have hts : (if s = 0 then there V.2 0 else if s = 1 then there V.2 1 else if s = 2 then there V.2 2 else there V.2 3) = true := by rw [b4 (b := there V.2) hs]; exact ht
  intro k
  induction k with
  | zero =>
    intro m fuel a hm hf ha
    obtain ⟨f, rfl, hf⟩ := fu hf
    have hg0 : 0 < Nat.gcd a (fac (pop V.2)) := Nat.gcd_pos_of_pos_right a hfac.1
    have hg1 : Nat.gcd a (fac (pop V.2)) ≤ fac (pop V.2) := Nat.gcd_le_right a hfac.1
    rw [fX8_share_c29.eq_2, ← nI_16, il_t (by omega) (by omega), r_fact hp, Option.bind_some, r_common (by omega) (by omega), Option.bind_some, Option.bind_some, if_neg (nI_ne0 hg0 (by omega)), if_neg (nI_ne0 hg0 (by omega)), pk_div (by omega) hg0 (by omega), pk_div (by omega) hg0 (by omega), pfA, sN, Nat.add_zero]
    split <;> rfl
  | succ k ih =>
    intro m fuel a hm hf ha
    obtain ⟨f, rfl, hf⟩ := fu hf
    have hbit := r_has (M := Y w D) (b := m.testBit) hs
    rw [← nI_w4 m (by omega)] at hbit
    rw [fX8_share_c29.eq_2, ← nI_16, il_f (by omega) (by omega), hbit, Option.bind_some, nI_1, sN]
    by_cases h1 : sbB m (there V.2 0) (there V.2 1) (there V.2 2) (there V.2 3) = true
    · have h1' : (nI m &&& (who V.2 ^^^ (-1))) = 0 := by rw [who_w4 q2]; exact of_decide_eq_true h1
      rw [if_pos h1']
      cases hb : m.testBit s with
      | true =>
        have e : sh1 V.2 bd s m = 0 := by
          unfold sh1 gW1 gdB
          rw [hb, Bool.not_true, Bool.and_false, if_neg (by decide), Nat.zero_mul]
        rw [if_neg nb0, ih (m + 1) f a (by omega) (by omega) (by omega), e, Nat.zero_add]
      | false =>
        have hgd : gdB m s (there V.2 0) (there V.2 1) (there V.2 2) (there V.2 3) = true := by
          unfold gdB
          rw [h1, hb]
          rfl
        have hlt : onm m + 1 ≤ pop V.2 := sb_lt _ _ _ _ ⟨m, by omega⟩ ⟨s, hs⟩ hts hgd
        have hgl : gW1 m s (there V.2 0) (there V.2 1) (there V.2 2) (there V.2 3) ≤ 576 := gW1_le _ _ _ _ ⟨m, by omega⟩ ⟨s, hs⟩
        have hdl : sN (dd V.2 bd m s) 0 12 ≤ 1 * 12 := sN_le (fun p => dd_le) 12 0
        have hsl : sh1 V.2 bd s m ≤ 576 * 12 := Nat.mul_le_mul hgl hdl
        have ho : fX8_ones (Y w D) (nI m) = some (nI (onm m)) := by
          have := r_ones4 (M := Y w D) (b := m.testBit)
          rw [← nI_w4 m (by omega)] at this
          exact this
        obtain ⟨x, y, g1, g2, g3⟩ := cv_diff (w := w) (m := m) (s := s) (by omega) hs h
        have e : nI (fac (onm m)) * nI (fac (pop V.2 - 1 - onm m)) * nI (sN (dd V.2 bd m s) 0 12) = nI (sh1 V.2 bd s m) := by
          rw [pk_mul, pk_mul]
          unfold sh1 gW1
          rw [hgd, if_pos rfl]
          rfl
        have hpm : nI (pop V.2) - 1 - nI (onm m) = nI (pop V.2 - 1 - onm m) := by
          rw [← nI_n1, pk_sub (by omega), pk_sub (by omega)]
        rw [if_pos (by rfl), ho, Option.bind_some, r_fact (by omega), Option.bind_some, Option.bind_some, hpm, r_fact (by omega), Option.bind_some, g1, Option.bind_some, r_onesN, Option.bind_some, g2, Option.bind_some, r_onesN, Option.bind_some, g3, e, nI_add, ih (m + 1) f _ (by omega) (by omega) (by omega), Nat.add_assoc]
    · have e : sh1 V.2 bd s m = 0 := by
        unfold sh1 gW1 gdB
        rw [Bool.eq_false_iff.mpr h1, Bool.false_and, if_neg (by decide), Nat.zero_mul]
      rw [if_neg (fun q => h1 (by rw [who_w4 q2] at q; exact decide_eq_true q)), ih (m + 1) f a (by omega) (by omega) (by omega), e, Nat.zero_add]
theorem cB_there {ss : List tS} {j p : Nat} (h : cB ss bd j p = true) : there ss j = true := by
  cases hb : there ss j with
  | true => rfl
  | false =>
    unfold cB cov1 at h
    rw [hb, if_neg (by decide), bt_0] at h
    cases h
theorem sh_eq {ss : List tS} {s : Nat} (hs : s < 4) (ht : there ss s = true) : 12 * sN (sh1 ss bd s) 0 16 = fac (pop ss) * sN (tw ss bd s) 0 12 := by
  have hts : (if s = 0 then there ss 0 else if s = 1 then there ss 1 else if s = 2 then there ss 2 else there ss 3) = true := by rw [b4 (b := there ss) hs]; exact ht
  have e1 : sN (sh1 ss bd s) 0 16 = sN (fun p => sN (fun m => gW1 m s (there ss 0) (there ss 1) (there ss 2) (there ss 3) * dd ss bd m s p) 0 16) 0 12 := by
    rw [← sN_swap]
    refine sN_congr 16 0 (fun m _ _ => ?_)
    unfold sh1
    rw [sN_mul]
  rw [e1, ← sN_mul, ← sN_mul]
  refine sN_congr 12 0 (fun p _ _ => ?_)
  exact sh_place _ _ _ _ _ _ _ _ ⟨s, hs⟩ hts cB_there cB_there cB_there cB_there
theorem r_share {x u : Int32} (h : RI D tx V A K bd L) : fX8_share (Y w D) 272 x u = some (shA V.2 bd x u) := by
  have q2 := h.2.1.2.2.1
  unfold fX8_share shA
  rw [if_pos eO_272, r_there h.2.1, Option.bind_some]
  cases hb : hasI V.2 x with
  | false => rw [if_pos rfl, if_pos (by rfl)]
  | true =>
    obtain ⟨s, hs, rfl, ht⟩ := hasI_spec hb
    have hw := r_whoIs (w := w) (l := 0) (by omega) h.2.1.1 h.2.1.2
    rw [nI_0] at hw
    have ho : fX8_ones (Y w D) (who V.2) = some (nI (pop V.2)) := by
      rw [who_w4 q2]
      exact r_ones4 (b := there V.2)
    have hp := pop_le V.2
    have hfac : 0 < fac (pop V.2) := by
      rcases (show pop V.2 = 0 ∨ pop V.2 = 1 ∨ pop V.2 = 2 ∨ pop V.2 = 3 ∨ pop V.2 = 4 by omega) with q | q | q | q | q <;> rw [q] <;> decide
    have := r_share_c29 (w := w) (s := s) (u := u) h (by omega) ht 16 0 FUEL 0 (by omega) (FU (by omega)) (by omega)
    rw [nI_0, Nat.zero_add] at this
    have he := sh_eq (bd := bd) (s := s) (by omega) ht
    rw [if_neg nb0, if_neg ntf, hw, Option.bind_some, ho, Option.bind_some, this, nI_clamp (by omega)]
    have he2 : sN (sh1 V.2 bd s) 0 16 * 12 = sN (tw V.2 bd s) 0 12 * fac (pop V.2) := by rw [Nat.mul_comm, he, Nat.mul_comm]
    exact congrArg some (pfA_eq he2 hfac (by omega))
end SH
