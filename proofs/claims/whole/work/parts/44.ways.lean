/-! ===== in how many ways all is covered ===== -/
def lnO (ss : List tS) (i : Nat) : Nat := (ss.getD i d0).2.2.length
def ful (bd : List Int32) : Int32 := (1 <<< (nI bd.length &&& 31)) - 1
def Gn (ss : List tS) (bd : List Int32) : Nat → Int32 → Nat
  | 0, a => if a = ful bd then 1 else 0
  | k + 1, a => if there ss (3 - k) = true then sN (fun p => if bearsB bd p (ss.getD (3 - k) d0).2.2 = true then Gn ss bd k (a ||| bitsI (lnO ss (3 - k)) p) else 0) 0 12 else Gn ss bd k a
def Hn (ss : List tS) (bd : List Int32) : Nat → Nat → Int32 → Nat
  | 0, _, a => if a = ful bd then 1 else 0
  | k + 1, l, a => if there ss (3 - k) = true then (if bearsB bd (l % 12) (ss.getD (3 - k) d0).2.2 = true then Hn ss bd k (l / 12) (a ||| bitsI (lnO ss (3 - k)) (l % 12)) else 0) else (if l % 12 = 0 then Hn ss bd k (l / 12) a else 0)
theorem sN_mod (f : Nat → Nat → Nat) : ∀ m, sN (fun l => f (l % 12) (l / 12)) 0 (12 * m) = sN (fun p => sN (fun q => f p q) 0 m) 0 12
  | 0 => by
    rw [Nat.mul_zero, sN]
    exact (sN_zero 12 0).symm
  | m + 1 => by
    have e : sN (fun p => sN (fun q => f p q) 0 (m + 1)) 0 12 = sN (fun p => sN (fun q => f p q) 0 m) 0 12 + sN (fun p => f p m) 0 12 := by
      rw [← sN_add]
      refine sN_congr 12 0 (fun p _ _ => ?_)
      rw [sN_app]
      show _ + (f p (0 + m) + 0) = _
      rw [Nat.zero_add, Nat.add_zero]
    rw [Nat.mul_succ, sN_app, sN_mod f m, e, Nat.zero_add]
    congr 1
    have hsh : ∀ (k j : Nat), j + k ≤ 12 → sN (fun l => f (l % 12) (l / 12)) (12 * m + j) k = sN (fun p => f p m) j k := by
      intro k
      induction k with
      | zero => intro j _; rfl
      | succ k ih =>
        intro j hj
        rw [sN, sN, show 12 * m + j + 1 = 12 * m + (j + 1) by omega, ih (j + 1) (by omega), show (12 * m + j) % 12 = j by omega, show (12 * m + j) / 12 = m by omega]
    exact hsh 12 0 (by omega)
theorem H_G {ss : List tS} {bd : List Int32} : ∀ (k : Nat) (a : Int32), sN (fun l => Hn ss bd k l a) 0 (12 ^ k) = Gn ss bd k a
  | 0, a => by
    show (Hn ss bd 0 0 a) + 0 = _
    rw [Nat.add_zero, Hn, Gn]
  | k + 1, a => by
    have e : sN (fun l => Hn ss bd (k + 1) l a) 0 (12 ^ (k + 1)) = sN (fun p => sN (fun q => if there ss (3 - k) = true then (if bearsB bd p (ss.getD (3 - k) d0).2.2 = true then Hn ss bd k q (a ||| bitsI (lnO ss (3 - k)) p) else 0) else (if p = 0 then Hn ss bd k q a else 0)) 0 (12 ^ k)) 0 12 := by
      rw [Nat.pow_succ, Nat.mul_comm (12 ^ k) 12, ← sN_mod]
      refine sN_congr _ _ (fun l _ _ => ?_)
      rw [Hn]
    rw [e, Gn]
    by_cases ht : there ss (3 - k) = true
    · rw [if_pos ht]
      refine sN_congr 12 0 (fun p _ _ => ?_)
      by_cases hb : bearsB bd p (ss.getD (3 - k) d0).2.2 = true
      · rw [if_pos hb, ← H_G k]
        refine sN_congr _ _ (fun q _ _ => ?_)
        rw [if_pos ht, if_pos hb]
      · rw [if_neg hb]
        refine (sN_congr (g := fun _ => 0) _ _ (fun q _ _ => ?_)).trans (sN_zero _ _)
        rw [if_pos ht, if_neg hb]
    · rw [if_neg ht]
      have e2 : sN (fun p => sN (fun q => if there ss (3 - k) = true then (if bearsB bd p (ss.getD (3 - k) d0).2.2 = true then Hn ss bd k q (a ||| bitsI (lnO ss (3 - k)) p) else 0) else (if p = 0 then Hn ss bd k q a else 0)) 0 (12 ^ k)) 0 12 = sN (fun p => if p = 0 then Gn ss bd k a else 0) 0 12 := by
        refine sN_congr 12 0 (fun p _ _ => ?_)
        by_cases hp : p = 0
        · rw [if_pos hp, ← H_G k]
          refine sN_congr _ _ (fun q _ _ => ?_)
          rw [if_neg ht, if_pos hp]
        · rw [if_neg hp]
          refine (sN_congr (g := fun _ => 0) _ _ (fun q _ _ => ?_)).trans (sN_zero _ _)
          rw [if_neg ht, if_neg hp]
      rw [e2]
      simp [sN]
theorem H_le {ss : List tS} {bd : List Int32} : ∀ (k l : Nat) (a : Int32), Hn ss bd k l a ≤ 1
  | 0, l, a => by rw [Hn]; split <;> omega
  | k + 1, l, a => by
    rw [Hn]
    split
    · split
      · exact H_le k _ _
      · omega
    · split
      · exact H_le k _ _
      · omega
theorem G_le {ss : List tS} {bd : List Int32} : ∀ (k : Nat) (a : Int32), Gn ss bd k a ≤ 12 ^ k
  | 0, a => by rw [Gn]; split <;> omega
  | k + 1, a => by
    rw [Gn, Nat.pow_succ]
    split
    · refine sN_le (fun p => ?_) 12 0
      split
      · exact G_le k _
      · exact Nat.zero_le _
    · have := G_le (ss := ss) (bd := bd) k a
      omega
section WA
variable {w : mW} {D : mD} {i : Nat} {tx : List Int32} {V : tV} {A : List tV} {K : Nat → Option tV} {bd : List Int32} {L : List (Int32 × Int32)}
/-! the reference -/
theorem r_isWay_c7 (h : RI D tx V A K bd L) : ∀ (k l fuel : Nat) (a : Int32), k ≤ 4 → l < 20736 → k < fuel → fX8_isWay_c7 (Y w D) fuel 272 (nI l) a (nI (4 - k)) = some (nI (Hn V.2 bd k l a)) := by
  obtain ⟨c1, c2, c3, c4, c5, c6⟩ := id h
  have q2 := c2.2.2.1
  intro k
  induction k with
  | zero =>
    intro l fuel a hk hl hf
    obtain ⟨f, rfl, hf⟩ := fu hf
    rw [fX8_isWay_c7.eq_2, ← nI_4, il_t (by omega) (by omega), eF_272_11, Option.bind_some, c5.1, Hn]
    by_cases hc : a = ful bd
    · have hc' : a = (1 <<< (nI bd.length &&& 31)) - 1 := hc
      rw [if_pos hc, if_pos hc', nI_n1]
    · have hc' : ¬ a = (1 <<< (nI bd.length &&& 31)) - 1 := hc
      rw [if_neg hc, if_neg hc', nI_0]
  | succ k ih =>
    intro l fuel a hk hl hf
    obtain ⟨f, rfl, hf⟩ := fu hf
    have hm : l % 12 < 12 := Nat.mod_lt _ (by omega)
    have em : nI l - nI l / 12 * 12 = nI (l % 12) := by rw [← nI_12, pk_rem (by omega) (by omega) (by omega)]
    have ed : nI l / 12 = nI (l / 12) := by rw [← nI_12, pk_div (by omega) (by omega) (by omega)]
    have es : 4 - (k + 1) = 3 - k := by omega
    rw [fX8_isWay_c7.eq_2, em, ed, es, ← nI_4, il_f (by omega) (by omega), r_there c2, Option.bind_some, hasI_nI (by omega), Hn, nI_1, show 3 - k + 1 = 4 - k by omega, ih (l / 12) f a (by omega) (by omega) (by omega)]
    cases ht : there V.2 (3 - k) with
    | false =>
      rw [if_pos (by rfl), if_neg nft]
      by_cases h0 : l % 12 = 0
      · rw [h0, if_pos (by rw [nI_0]; exact Int32.le_refl 0), if_pos rfl]
      · rw [if_neg (nI_nle (by omega) (by omega)), if_neg h0, nI_0]
    | true =>
      have hs := there_lt ht
      obtain ⟨a1, a2, a3, a4, a5⟩ := c2.2.2.2 (3 - k) hs
      rw [Nat.mul_zero, Nat.zero_add] at a3
      have hla := r_liesAt (w := w) (l := 0) (p := l % 12) (by omega) c2.2 c5 hs (by omega)
      rw [nI_0] at hla
      rw [if_neg nb0, if_pos rfl, hla, Option.bind_some]
      cases hb : bearsB bd (l % 12) (V.2.getD (3 - k) d0).2.2 with
      | false => rw [if_pos (by rfl), if_neg nft, nI_0]
      | true =>
        rw [if_neg nb0, if_pos rfl, eF_272_2, Option.bind_some, nI_add, nw_at (by omega), Option.bind_some, a3, Option.bind_some, ih (l / 12) f _ (by omega) (by omega) (by omega)]
        rfl
theorem r_ways_c4 (h : RI D tx V A K bd L) : ∀ (k l fuel a : Nat), l + k = 20736 → k < fuel → a ≤ l → fX8_ways_c4 (Y w D) fuel 272 (nI a) (nI l) = some (nI (a + sN (fun l => Hn V.2 bd 4 l 0) l k)) := by
  intro k
  induction k with
  | zero =>
    intro l fuel a hl hf ha
    obtain ⟨f, rfl, hf⟩ := fu hf
    rw [fX8_ways_c4.eq_2, show (20736 : Int32) = nI 20736 from by decide, il_t (by omega) (by omega)]
    rfl
  | succ k ih =>
    intro l fuel a hl hf ha
    obtain ⟨f, rfl, hf⟩ := fu hf
    have hw := r_isWay_c7 (w := w) h 4 l FUEL 0 (by omega) (by omega) (FU (by omega))
    rw [show 4 - 4 = 0 from rfl, nI_0] at hw
    have hw2 : fX8_isWay (Y w D) 272 (nI l) = some (nI (Hn V.2 bd 4 l 0)) := by
      unfold fX8_isWay
      rw [if_pos eO_272, hw]
    have hle := H_le (ss := V.2) (bd := bd) 4 l 0
    rw [fX8_ways_c4.eq_2, show (20736 : Int32) = nI 20736 from by decide, il_f (by omega) (by omega), hw2, Option.bind_some, nI_1, nI_1, Int32.add_zero, ih (l + 1) f _ (by omega) (by omega) (by omega), ih (l + 1) f _ (by omega) (by omega) (by omega), sN]
    by_cases h0 : Hn V.2 bd 4 l 0 = 0
    · rw [h0, if_pos nI_0, Nat.zero_add]
    · have h1 : Hn V.2 bd 4 l 0 = 1 := by omega
      rw [h1, if_neg (by decide), Nat.add_assoc]
theorem r_ways (h : RI D tx V A K bd L) : fX8_ways (Y w D) 272 = some (nI (Gn V.2 bd 4 0)) := by
  unfold fX8_ways
  have := r_ways_c4 (w := w) h 20736 0 FUEL 0 (by omega) (FU (by omega)) (by omega)
  rw [nI_0, Nat.zero_add, show 20736 = 12 ^ 4 from rfl, H_G] at this
  rw [if_pos eO_272, this]
/-! the class -/
def pc (n : Nat) : Nat := sN (fun p => (n.testBit p).toNat) 0 12
theorem bc_all (M : mM) : ∀ a b : Fin 64, fJ6_bitCount_0f7a4 M (nI (64 * a.val + b.val)) = some (nI (pc (64 * a.val + b.val))) := by
  unfold fJ6_bitCount_0f7a4
  decide +kernel
theorem l_bcN {M : mM} {n : Nat} (h : n < 4096) : fJ6_bitCount_0f7a4 M (nI n) = some (nI (pc n)) := by
  have := bc_all M ⟨n / 64, by omega⟩ ⟨n % 64, by omega⟩
  dsimp only at this
  rw [show 64 * (n / 64) + n % 64 = n by omega] at this
  exact this
theorem bitsN : ∀ n : Fin 13, ∀ p : Fin 12, bitsI n.val p.val = nI ((2 ^ n.val - 1) * 2 ^ p.val) ∧ (n.val + p.val ≤ 12 → pc ((2 ^ n.val - 1) * 2 ^ p.val) = n.val) := by decide +kernel
theorem fulN : ∀ m : Fin 13, ((1 <<< (nI m.val &&& 31)) - 1 : Int32) = nI (2 ^ m.val - 1) ∧ pc (2 ^ m.val - 1) = m.val := by decide +kernel
theorem nI_or (a b : Nat) : nI a ||| nI b = nI (a ||| b) := by
  apply Int32.toBitVec_inj.mp
  rw [Int32.toBitVec_or]
  show BitVec.ofNat 32 a ||| BitVec.ofNat 32 b = BitVec.ofNat 32 (a ||| b)
  rw [BitVec.ofNat_or]
theorem sN_mono {f g : Nat → Nat} (h : ∀ p, f p ≤ g p) : ∀ (k j : Nat), sN f j k ≤ sN g j k
  | 0, _ => Nat.le_refl _
  | k + 1, j => by
    have h1 := sN_mono h k (j + 1)
    have h2 := h j
    rw [sN, sN]
    omega
theorem pc_or (a b : Nat) : pc (a ||| b) ≤ pc a + pc b := by
  unfold pc
  rw [← sN_add]
  refine sN_mono (fun p => ?_) 12 0
  rw [Nat.testBit_or]
  cases a.testBit p <;> cases b.testBit p <;> decide
theorem pc_le {a m : Nat} (h : a < 2 ^ m) (hm : m ≤ 12) : pc a ≤ m := by
  unfold pc
  have e : sN (fun p => (a.testBit p).toNat) (0 + m) (12 - m) = 0 := by
    refine (sN_congr (g := fun _ => 0) _ _ (fun q h1 _ => ?_)).trans (sN_zero _ _)
    rw [Nat.testBit_lt_two_pow (Nat.lt_of_lt_of_le h (Nat.pow_le_pow_right (by omega) (by omega)))]
    rfl
  have e2 := sN_app (fun p => (a.testBit p).toNat) m (12 - m) 0
  rw [show m + (12 - m) = 12 by omega, e] at e2
  have := sN_le (f := fun p => (a.testBit p).toNat) (c := 1) (fun p => tn1 _) m 0
  omega
theorem sN_full {f : Nat → Nat} (h : ∀ p, f p ≤ 1) : ∀ (k j : Nat), sN f j k = k → ∀ p, j ≤ p → p < j + k → f p = 1
  | 0, _, _, p, h1, h2 => by omega
  | k + 1, j, hs, p, h1, h2 => by
    rw [sN] at hs
    have h3 := sN_le h k (j + 1)
    have h4 := h j
    by_cases hp : p = j
    · subst hp; omega
    · exact sN_full h k (j + 1) (by omega) p (by omega) (by omega)
theorem pc_full {a m : Nat} (h : a < 2 ^ m) (hm : m ≤ 12) (hp : pc a = m) : a = 2 ^ m - 1 := by
  have e : sN (fun p => (a.testBit p).toNat) (0 + m) (12 - m) = 0 := by
    refine (sN_congr (g := fun _ => 0) _ _ (fun q h1 _ => ?_)).trans (sN_zero _ _)
    rw [Nat.testBit_lt_two_pow (Nat.lt_of_lt_of_le h (Nat.pow_le_pow_right (by omega) (by omega)))]
    rfl
  have e2 := sN_app (fun p => (a.testBit p).toNat) m (12 - m) 0
  rw [show m + (12 - m) = 12 by omega, e, Nat.add_zero] at e2
  have e3 : sN (fun p => (a.testBit p).toNat) 0 m = m := e2.symm.trans hp
  apply Nat.eq_of_testBit_eq
  intro i
  rw [Nat.testBit_two_pow_sub_one]
  by_cases hi : i < m
  · have := sN_full (fun p => tn1 _) m 0 e3 i (by omega) (by omega)
    rw [decide_eq_true hi]
    cases hb : a.testBit i with
    | true => rfl
    | false => rw [hb] at this; cases this
  · rw [decide_eq_false hi]
    exact Nat.testBit_lt_two_pow (Nat.lt_of_lt_of_le h (Nat.pow_le_pow_right (by omega) (by omega)))
theorem ful_iff {a : Nat} (h : a < 2 ^ bd.length) (hm : bd.length ≤ 12) : (nI a = ful bd) ↔ pc a = bd.length := by
  obtain ⟨f1, f2⟩ := fulN ⟨bd.length, by omega⟩
  dsimp only at f1 f2
  have hp : 2 ^ bd.length ≤ 2 ^ 12 := Nat.pow_le_pow_right (by omega) hm
  unfold ful
  rw [f1, nI_eq (by omega) (by omega)]
  constructor
  · intro q; rw [q, f2]
  · intro q; exact pc_full h hm q
theorem bears_le {xs ys : List Int32} {p : Nat} (h : bearsB xs p ys = true) : p + ys.length ≤ xs.length := by
  unfold bearsB at h
  simp only [Bool.and_eq_true, decide_eq_true_eq] at h
  exact h.1
theorem cv_next {ss : List tS} {s p a : Nat} (hm : bd.length ≤ 12) (ht : there ss s = true) (hb : bearsB bd p (ss.getD s d0).2.2 = true) (ha : a < 2 ^ bd.length) : ∃ b, nI a ||| bitsI (lnO ss s) p = nI b ∧ b < 2 ^ bd.length ∧ pc b ≤ pc a + lnO ss s := by
  have hl := bears_le hb
  have h0 := there_ne.mp ht
  have hn : lnO ss s = (ss.getD s d0).2.2.length := rfl
  obtain ⟨b1, b2⟩ := bitsN ⟨lnO ss s, by omega⟩ ⟨p, by omega⟩
  dsimp only at b1 b2
  have hB : (2 ^ lnO ss s - 1) * 2 ^ p < 2 ^ bd.length := by
    have h1 : (2 ^ lnO ss s - 1) * 2 ^ p < 2 ^ lnO ss s * 2 ^ p := Nat.mul_lt_mul_of_pos_right (by have := Nat.pow_pos (n := lnO ss s) (show 0 < 2 by omega); omega) (Nat.pow_pos (by omega))
    rw [← Nat.pow_add] at h1
    exact Nat.lt_of_lt_of_le h1 (Nat.pow_le_pow_right (by omega) (by omega))
  refine ⟨a ||| (2 ^ lnO ss s - 1) * 2 ^ p, by rw [b1, nI_or], Nat.or_lt_two_pow ha hB, ?_⟩
  have := pc_or a ((2 ^ lnO ss s - 1) * 2 ^ p)
  have := b2 (by omega)
  omega
theorem sN_ne {f : Nat → Nat} {k j : Nat} (h : sN f j k ≠ 0) : ∃ p, j ≤ p ∧ p < j + k ∧ f p ≠ 0 := by
  refine Classical.byContradiction fun q => h ?_
  refine (sN_congr (g := fun _ => 0) _ _ (fun p h1 h2 => ?_)).trans (sN_zero _ _)
  exact Classical.byContradiction fun q2 => q ⟨p, h1, h2, q2⟩
theorem G_prune {ss : List tS} (hm : bd.length ≤ 12) : ∀ (k a : Nat), k ≤ 4 → a < 2 ^ bd.length → Gn ss bd k (nI a) ≠ 0 → bd.length ≤ pc a + sN (lnO ss) (4 - k) k
  | 0, a, hk, ha, h => by
    rw [Gn] at h
    by_cases hf : nI a = ful bd
    · rw [(ful_iff ha hm).mp hf]; exact Nat.le_add_right _ _
    · rw [if_neg hf] at h; exact absurd rfl h
  | k + 1, a, hk, ha, h => by
    rw [Gn] at h
    rw [sN, show 4 - (k + 1) = 3 - k by omega, show 3 - k + 1 = 4 - k by omega]
    by_cases ht : there ss (3 - k) = true
    · rw [if_pos ht] at h
      obtain ⟨p, h1, h2, h3⟩ := sN_ne h
      by_cases hb : bearsB bd p (ss.getD (3 - k) d0).2.2 = true
      · rw [if_pos hb] at h3
        obtain ⟨b, e1, e2, e3⟩ := cv_next hm ht hb ha
        rw [e1] at h3
        have := G_prune hm k b (by omega) e2 h3
        omega
      · rw [if_neg hb] at h3; exact absurd rfl h3
    · rw [if_neg ht] at h
      have := G_prune hm k a (by omega) ha h
      omega
theorem sum_sN {ss : List tS} : ∀ (k j a : Nat), sumF ss j k a = a + sN (lnO ss) j k
  | 0, _, _ => rfl
  | k + 1, j, a => by
    rw [sumF, sum_sN k (j + 1), sN]
    unfold lnO
    omega
theorem sum4 {ss : List tS} {s : Nat} (h : ss.length ≤ 4) (hs : s ≤ ss.length) : sumF ss s (ss.length - s) 0 = sN (lnO ss) s (4 - s) := by
  have e := sN_app (lnO ss) (ss.length - s) (4 - ss.length) s
  have hz : sN (lnO ss) (s + (ss.length - s)) (4 - ss.length) = 0 := by
    refine (sN_congr (g := fun _ => 0) _ _ (fun q h1 _ => ?_)).trans (sN_zero _ _)
    unfold lnO
    rw [List.getD_eq_getElem?_getD, List.getElem?_eq_none (by omega)]
    rfl
  rw [show ss.length - s + (4 - ss.length) = 4 - s by omega, hz] at e
  rw [sum_sN, e]
  omega
theorem c_waysFrom_c76 {s : Nat} {a : Int32} {g : Int32 → Nat} {rec : Nat → Nat → Int32 → Int32 → Option Int32} (h : CI D tx V A K bd L) (hs : s < V.2.length) (ht : there V.2 s = true) (hr : ∀ p, p < 12 → bearsB bd p (V.2.getD s d0).2.2 = true → rec 4 263 (nI (s + 1)) (a ||| bitsI (lnO V.2 s) p) = some (nI (g (a ||| bitsI (lnO V.2 s) p)))) : ∀ (k p fuel c : Nat), p + k = 12 → k < fuel → fX7_waysFrom_c76 (Y w D) rec fuel 4 263 (nI s) a (4 + 2 + 3 * s + 1) (nI c) (nI p) = some (nI (c + sN (fun p => if bearsB bd p (V.2.getD s d0).2.2 = true then g (a ||| bitsI (lnO V.2 s) p) else 0) p k)) := by
  obtain ⟨c1, c2, c3, c4, c5, c6⟩ := id h
  have q3 := c2.2.2.1
  have c52 := c5.2
  have h0 := there_ne.mp ht
  have hst := vl_s isVl_4 (i := s) (by omega)
  obtain ⟨s1, s2, s3, s4⟩ := c2.2.2.2 s hs
  intro k
  induction k with
  | zero =>
    intro p fuel c hp hf
    obtain ⟨f, rfl, hf⟩ := fu hf
    rw [fX7_waysFrom_c76.eq_2, rw_sz (st_rw hst), Option.bind_some, eF_263_1, Option.bind_some, s3.1, c5.1.1, nI_add, ilt_t (by omega) (by omega)]
    rfl
  | succ k ih =>
    intro p fuel c hp hf
    obtain ⟨f, rfl, hf⟩ := fu hf
    rw [fX7_waysFrom_c76.eq_2, rw_sz (st_rw hst), Option.bind_some, eF_263_1, Option.bind_some, s3.1, c5.1.1, nI_add]
    by_cases hlt : bd.length < p + (V.2.getD s d0).2.2.length
    · have hz : sN (fun p => if bearsB bd p (V.2.getD s d0).2.2 = true then g (a ||| bitsI (lnO V.2 s) p) else 0) p (k + 1) = 0 := by
        refine (sN_congr (g := fun _ => 0) _ _ (fun q h1 _ => ?_)).trans (sN_zero _ _)
        rw [if_neg]
        intro hb
        have := bears_le hb
        omega
      rw [ilt_t hlt (by omega), hz, Nat.add_zero]
    · rw [ilt_f (by omega) (by omega), l_bearsAt isRw_bed (st_rw hst) c5.1 s3 c5.2 s4 (by omega), Option.bind_some, sN, nI_1]
      cases hb : bearsB bd p (V.2.getD s d0).2.2 with
      | false => rw [if_pos (by rfl), if_neg nft, ih (p + 1) f c (by omega) (by omega), Nat.zero_add]
      | true =>
        have hbits := l_bitsAt (w := w) (st_rw hst) s3 (p := p)
        have hrr := hr p (by omega) hb
        unfold lnO at hrr
        rw [if_neg nb0, if_pos rfl, hbits, Option.bind_some, nI_1, hrr, Option.bind_some, nI_add, ih (p + 1) f _ (by omega) (by omega), Nat.add_assoc]
        rfl
theorem c_waysFrom (h : CI D tx V A K bd L) : ∀ (k dj a : Nat), k ≤ 4 → k < dj → a < 2 ^ bd.length → fX7_waysFrom (Y w D) dj 4 263 (nI (4 - k)) (nI a) = some (nI (Gn V.2 bd k (nI a))) := by
  obtain ⟨c1, c2, c3, c4, c5, c6⟩ := id h
  have q3 := c2.2.2.1
  have c52 := c5.2
  have hp12 : 2 ^ bd.length ≤ 2 ^ 12 := Nat.pow_le_pow_right (by omega) c52
  intro k
  induction k with
  | zero =>
    intro dj a hk hd ha
    obtain ⟨f, rfl, hf⟩ := fu hd
    have hpc := pc_le ha c52
    rw [fX7_waysFrom.eq_2, ← nI_4, ilt_f (by omega) (by omega), l_bcN (by omega), Option.bind_some, eF_263_1, Option.bind_some, c5.1.1, Gn]
    by_cases hf : nI a = ful bd
    · rw [if_pos hf, (ful_iff ha c52).mp hf, if_pos rfl, nI_n1]
    · rw [if_neg hf, if_neg (fun q => hf ((ful_iff ha c52).mpr ((nI_eq (by omega) (by omega)).mp q))), nI_0]
  | succ k ih =>
    intro dj a hk hd ha
    obtain ⟨f, rfl, hf⟩ := fu hd
    have hpc := pc_le ha c52
    have es : 4 - (k + 1) = 3 - k := by omega
    rw [fX7_waysFrom.eq_2, es, ← nI_4, ilt_t (by omega) (by omega), l_has isVl_4 c2, Option.bind_some, hasI_nI (by omega), nI_1, show 3 - k + 1 = 4 - k by omega]
    cases ht : there V.2 (3 - k) with
    | false => rw [if_pos (by rfl), ih f a (by omega) (by omega) ha, Option.bind_some, Gn, ht, if_neg nft]
    | true =>
      have hs := there_lt ht
      have hst := vl_s isVl_4 (i := 3 - k) (by omega)
      have hsum := l_bsum (w := w) (i := 3 - k) isVl_4 c2 (by omega)
      have hs4 := sum4 (ss := V.2) (s := 3 - k) q3 (by omega)
      rw [hs4] at hsum
      have hsle : sN (lnO V.2) (3 - k) (4 - (3 - k)) ≤ 12 * (4 - (3 - k)) := sN_le (fun p => by
        unfold lnO
        by_cases hpl : p < V.2.length
        · exact (c2.2.2.2 p hpl).2.2.2
        · rw [List.getD_eq_getElem?_getD, List.getElem?_eq_none (by omega)]; exact Nat.zero_le _) _ _
      rw [if_neg nb0, eF_263_1, Option.bind_some, l_bcN (by omega), Option.bind_some, hsum, Option.bind_some, c5.1.1, pk_sub hpc]
      by_cases hle : bd.length - pc a ≤ sN (lnO V.2) (3 - k) (4 - (3 - k))
      · rw [il_t hle (by omega), vl_a isVl_4, Option.bind_some, vl_q isVl_4 (by omega), Option.bind_some, st_r hst, Option.bind_some]
        have := c_waysFrom_c76 (w := w) (s := 3 - k) (a := nI a) (g := fun x => Gn V.2 bd k x) (rec := fX7_waysFrom (Y w D) f) h hs ht (fun p hp hb => by
          obtain ⟨b, e1, e2, e3⟩ := cv_next c52 ht hb ha
          rw [e1, show 3 - k + 1 = 4 - k by omega]
          exact ih f b (by omega) (by omega) e2) 12 0 FUEL 0 (by omega) (FU (by omega))
        rw [nI_0, Nat.zero_add] at this
        rw [this, Gn, ht, if_pos rfl]
      · rw [il_f (by omega) (by omega)]
        have hz : Gn V.2 bd (k + 1) (nI a) = 0 := by
          refine Classical.byContradiction fun q => hle ?_
          have := G_prune c52 (k + 1) a hk ha q
          rw [es] at this
          rw [show 4 - (3 - k) = k + 1 by omega]
          omega
        rw [hz, nI_0]
theorem c_ways (h : CI D tx V A K bd L) : fX7_ways (Y w D) 1 = some (nI (Gn V.2 bd 4 0)) := by
  have := c_waysFrom (w := w) h 4 7 0 (by omega) (by omega) (Nat.pow_pos (by omega))
  rw [show 4 - 4 = 0 from rfl, nI_0] at this
  unfold fX7_ways
  rw [if_pos eO_1, eF_1_1, Option.bind_some, eF_1_6, Option.bind_some, this, Option.bind_some]
end WA
