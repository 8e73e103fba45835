/-! ===== the text: how it is read ===== -/
def tN (tx : List Int32) (j : Nat) : Nat := (tx.getD j 0).toNatClampNeg
def gT (tx : List Int32) : Prop := ∀ j, j < tx.length → tx.getD j 0 = nI (tN tx j) ∧ tN tx j < 256
def okc (t : Nat → Nat) (n p c : Nat) : Bool := decide (p < n) && (decide (c ≤ t p) && decide (t p ≤ c + 3))
def nx (t : Nat → Nat) (n : Nat) (e : Option Nat) (p c : Nat) : Nat × Option Nat × Nat := match e with | some q => (0, some q, p) | none => if okc t n p c = true then (t p - c, none, p + 1) else (0, some p, p)
def bnF (t : Nat → Nat) (n : Nat) : Nat → Nat → Nat
  | _, 0 => 0
  | p, r + 1 => if okc t n p 97 = true then 1 + bnF t n (p + 1) r else 0
def bnL (t : Nat → Nat) (p : Nat) : Nat → List Int32
  | 0 => []
  | m + 1 => nI (t p - 96) :: bnL t (p + 1) m
def bnE (t : Nat → Nat) (n : Nat) (e : Option Nat) (p r : Nat) : Nat := match e with | some _ => 0 | none => bnF t n p r
def hd1 (t : Nat → Nat) (n p : Nat) : Nat × Option Nat × Nat := nx t n none (p + 1) 48
def kd1 (t : Nat → Nat) (n p : Nat) : Nat × Option Nat × Nat := nx t n (hd1 t n p).2.1 (hd1 t n p).2.2 48
def bd1 (t : Nat → Nat) (n p : Nat) : Nat × Option Nat × Nat := nx t n (kd1 t n p).2.1 (kd1 t n p).2.2 97
def mn1 (t : Nat → Nat) (n p : Nat) : Nat := bnE t n (bd1 t n p).2.1 (bd1 t n p).2.2 5
def prS (t : Nat → Nat) (n p : Nat) : tS := (nI (hd1 t n p).1, nI (kd1 t n p).1, nI ((bd1 t n p).1 + 1) :: bnL t (bd1 t n p).2.2 (mn1 t n p))
def psF (t : Nat → Nat) (n : Nat) : Nat → Option Nat → Nat → List tS → Option Nat × List tS
  | 0, e, _, S => (e, S)
  | k + 1, e, p, S => match e with | some q => (some q, S) | none => if n ≤ p then (none, S) else if t p = 83 ∧ S.length < 4 then psF t n k (bd1 t n p).2.1 ((bd1 t n p).2.2 + mn1 t n p) (S ++ [prS t n p]) else (some p, S)
def txR (tx : List Int32) : Option Nat × List tS := if tx.length = 0 ∨ ¬ tN tx 0 = 84 then (some 0, []) else psF (tN tx) tx.length 6 none 1 []
def faA (tx : List Int32) : Int32 := rbI (txR tx).1
theorem psF_e {t : Nat → Nat} {n q p : Nat} {S : List tS} : ∀ k, psF t n k (some q) p S = (some q, S)
  | 0 => rfl
  | _ + 1 => rfl
theorem okc_s {t : Nat → Nat} {n p c : Nat} : okc t n p c = true ↔ (p < n ∧ c ≤ t p ∧ t p ≤ c + 3) := by
  unfold okc
  rw [Bool.and_eq_true, Bool.and_eq_true, decide_eq_true_eq, decide_eq_true_eq, decide_eq_true_eq]
theorem bnF_le {t : Nat → Nat} {n : Nat} : ∀ (r p : Nat), bnF t n p r ≤ r
  | 0, _ => Nat.le_refl _
  | r + 1, p => by
    have := bnF_le (t := t) (n := n) r (p + 1)
    rw [bnF]
    split <;> omega
theorem bnL_len {t : Nat → Nat} : ∀ (m p : Nat), (bnL t p m).length = m
  | 0, _ => rfl
  | m + 1, p => by rw [bnL, List.length_cons, bnL_len m]
section TX
variable {w : mW} {D : mD} {tx : List Int32} {V : tV} {A : List tV} {K : Nat → Option tV} {bd : List Int32} {L : List (Int32 × Int32)}
theorem nI_83 : nI 83 = 83 := by decide +kernel
theorem nI_84 : nI 84 = 84 := by decide +kernel
theorem nI_97 : nI 97 = 97 := by decide +kernel
theorem nI_101 : nI 101 = 101 := by decide +kernel
theorem nI_96 : nI 96 = 96 := by decide +kernel
theorem c_isBend {M : mM} {a : Nat} (ha : a < 256) : fX5_isBend M (nI a) = some (b2i (decide (97 ≤ a) && decide (a ≤ 97 + 3))) := by
  unfold fX5_isBend
  rw [← nI_97, ← nI_101]
  by_cases h1 : a < 97
  · rw [ilt_t h1 (by omega), decide_eq_false (by omega)]; rfl
  · rw [ilt_f (by omega) (by omega), decide_eq_true (show 97 ≤ a by omega)]
    by_cases h2 : 101 ≤ a
    · rw [il_t h2 (by omega), decide_eq_false (by omega)]; rfl
    · rw [il_f (by omega) (by omega), decide_eq_true (by omega)]; rfl
theorem c_isFigure {M : mM} {a : Nat} (ha : a < 256) : fX5_isFigure M (nI a) 4 = some (b2i (decide (48 ≤ a) && decide (a ≤ 48 + 3))) := by
  unfold fX5_isFigure
  rw [← nI_4, ← nI_48, nI_add]
  by_cases h1 : a < 48
  · rw [ilt_t h1 (by omega), decide_eq_false (by omega)]; rfl
  · rw [ilt_f (by omega) (by omega), decide_eq_true (show 48 ≤ a by omega)]
    by_cases h2 : 48 + 4 ≤ a
    · rw [il_t h2 (by omega), decide_eq_false (by omega)]; rfl
    · rw [il_f (by omega) (by omega), decide_eq_true (by omega)]; rfl
/-- at the begin of a part -/
theorem sa_b {M : mM} {v a s : Nat} (hv : v = 3 ∨ (5 ≤ v ∧ v ≤ 10)) (ha : a < 256) (hs : s ≤ 4) (hst : v = 3 ∨ v = 10 ∨ ¬ (97 ≤ a ∧ a ≤ 97 + 3)) : fX5_stateAfter M (nI v) (nI a) (nI s) = some (if a = 83 ∧ s < 4 then 1 else -1) := by
  have key : (if nI a = 83 then (if nI v = 4 then some (-1 : Int32) else if (4 : Int32) ≤ nI s then some (-1) else some 1) else some (-1)) = some (if a = 83 ∧ s < 4 then 1 else -1) := by
    by_cases h1 : a = 83
    · rw [h1, if_pos nI_83, if_neg (ne_l nI_4 (by omega) (by omega) (by omega)), ← nI_4]
      by_cases h2 : s < 4
      · rw [il_f h2 (by omega), if_pos ⟨rfl, h2⟩]
      · rw [il_t (by omega) (by omega), if_neg (fun q => h2 q.2)]
    · rw [if_neg (ne_l nI_83 h1 (by omega) (by omega)), if_neg (fun q => h1 q.1)]
  unfold fX5_stateAfter
  rw [if_neg (ne_l nI_0 (by omega) (by omega) (by omega)), if_neg (ne_l nI_n1 (by omega) (by omega) (by omega)), if_neg (ne_l nI_2 (by omega) (by omega) (by omega)), key]
  by_cases h3 : v = 3
  · rw [if_pos (by rw [← nI_4]; exact nI_lt (by omega) (by omega))]
  · rw [if_neg (by rw [← nI_4]; exact nI_nlt (by omega) (by omega))]
    by_cases h10 : v = 10
    · rw [if_pos (by rw [← nI_10]; exact nI_le (by omega) (by omega))]
    · rw [if_neg (by rw [← nI_10]; exact nI_ge (by omega) (by omega)), c_isBend ha, Option.bind_some]
      have hb : (decide (97 ≤ a) && decide (a ≤ 97 + 3)) = false := by
        rw [Bool.and_eq_false_iff, decide_eq_false_iff_not, decide_eq_false_iff_not]
        omega
      rw [hb, if_pos (by rfl)]
theorem sa_1 {M : mM} {a s : Nat} (ha : a < 256) : fX5_stateAfter M (nI 1) (nI a) (nI s) = some (if 48 ≤ a ∧ a ≤ 48 + 3 then 2 else -1) := by
  unfold fX5_stateAfter
  rw [nI_n1, if_neg (by decide), if_pos rfl, c_isFigure ha, Option.bind_some]
  by_cases h : 48 ≤ a ∧ a ≤ 48 + 3
  · rw [decide_eq_true h.1, decide_eq_true h.2, if_neg (by decide), if_pos h]
  · rw [if_neg h, if_pos]
    rw [b2i_0, Bool.and_eq_false_iff, decide_eq_false_iff_not, decide_eq_false_iff_not]
    omega
theorem sa_2 {M : mM} {a s : Nat} (ha : a < 256) : fX5_stateAfter M (nI 2) (nI a) (nI s) = some (if 48 ≤ a ∧ a ≤ 48 + 3 then 4 else -1) := by
  unfold fX5_stateAfter
  rw [nI_2, if_neg (by decide), if_neg (by decide), if_pos rfl, c_isFigure ha, Option.bind_some]
  by_cases h : 48 ≤ a ∧ a ≤ 48 + 3
  · rw [decide_eq_true h.1, decide_eq_true h.2, if_neg (by decide), if_pos h]
  · rw [if_neg h, if_pos]
    rw [b2i_0, Bool.and_eq_false_iff, decide_eq_false_iff_not, decide_eq_false_iff_not]
    omega
theorem sa_v {M : mM} {v a s : Nat} (hv : 4 ≤ v ∧ v < 10) (ha : 97 ≤ a ∧ a ≤ 97 + 3) : fX5_stateAfter M (nI v) (nI a) (nI s) = some (nI (v + 1)) := by
  unfold fX5_stateAfter
  rw [if_neg (ne_l nI_0 (by omega) (by omega) (by omega)), if_neg (ne_l nI_n1 (by omega) (by omega) (by omega)), if_neg (ne_l nI_2 (by omega) (by omega) (by omega)), if_neg (by rw [← nI_4]; exact nI_nlt (by omega) (by omega)), if_neg (by rw [← nI_10]; exact nI_ge (by omega) (by omega)), c_isBend (by omega), Option.bind_some, decide_eq_true ha.1, decide_eq_true ha.2, if_neg (by decide), nI_1]
theorem sa_4 {M : mM} {a s : Nat} (ha : a < 256) (hb : ¬ (97 ≤ a ∧ a ≤ 97 + 3)) : fX5_stateAfter M (nI 4) (nI a) (nI s) = some (-1) := by
  have hb2 : (decide (97 ≤ a) && decide (a ≤ 97 + 3)) = false := by
    rw [Bool.and_eq_false_iff, decide_eq_false_iff_not, decide_eq_false_iff_not]
    omega
  unfold fX5_stateAfter
  rw [c_isBend ha, Option.bind_some, hb2, nI_4, if_neg (by decide), if_neg (by decide), if_neg (by decide), if_neg (by decide), if_neg (by decide), if_pos (by rfl)]
  split
  · rw [if_pos rfl]
  · rfl
/-- one letter read by the class -/
theorem c_ff {v s p f : Nat} (h : TxD D tx) (hg : gT tx) (hp : p < tx.length) {x : Int32} (hx : fX5_stateAfter (Y w D) (nI v) (nI (tN tx p)) (nI s) = some x) : fX5_firstFault_c6 (Y w D) (f + 1) 2 (nI v) (nI s) (nI p) = (if x = -1 then some (nI p) else if x = 1 then fX5_firstFault_c6 (Y w D) f 2 x (nI (s + 1)) (nI (p + 1)) else fX5_firstFault_c6 (Y w D) f 2 x (nI s) (nI (p + 1))) := by
  obtain ⟨t1, t2, t3⟩ := id h
  obtain ⟨g1, g2⟩ := hg p hp
  rw [fX5_firstFault_c6.eq_2, eF_2_1, Option.bind_some, t1, il_f hp (by omega), eF_2_0, Option.bind_some, Y_aI kA_3 (by omega), Option.bind_some, t3 p hp, g1, hx, Option.bind_some, nI_1, nI_1]
theorem c_fe {v s p f : Nat} (h : TxD D tx) (hp : tx.length ≤ p) (hp2 : p < 1000) (hv : v ≤ 10) : fX5_firstFault_c6 (Y w D) (f + 1) 2 (nI v) (nI s) (nI p) = some (if v = 3 ∨ 4 < v then -9 else nI tx.length) := by
  obtain ⟨t1, t2, t3⟩ := id h
  rw [fX5_firstFault_c6.eq_2, eF_2_1, Option.bind_some, t1, il_t hp (by omega), Option.bind_some]
  by_cases h3 : v = 3
  · rw [if_pos (by rw [h3, nI_3]), if_pos (Or.inl h3)]
  · rw [if_neg (ne_l nI_3 h3 (by omega) (by omega))]
    by_cases h4 : 4 < v
    · rw [if_neg (by rw [← nI_4]; exact nI_ge h4 (by omega)), if_pos (Or.inr h4)]
    · rw [if_pos (by rw [← nI_4]; exact nI_le (by omega) (by omega)), if_neg (by omega)]
theorem c_fbends (h : TxD D tx) (hg : gT tx) {s : Nat} : ∀ (r b q fuel : Nat), b + r = 6 → 1 ≤ b → tx.length - q < fuel → ∃ fuel', tx.length - (q + bnF (tN tx) tx.length q r) < fuel' ∧ fX5_firstFault_c6 (Y w D) fuel 2 (nI (4 + b)) (nI s) (nI q) = fX5_firstFault_c6 (Y w D) fuel' 2 (nI (4 + b + bnF (tN tx) tx.length q r)) (nI s) (nI (q + bnF (tN tx) tx.length q r)) ∧ (4 + b + bnF (tN tx) tx.length q r = 10 ∨ ¬ okc (tN tx) tx.length (q + bnF (tN tx) tx.length q r) 97 = true) := by
  intro r
  induction r with
  | zero =>
    intro b q fuel hb h1 hf
    exact ⟨fuel, by rw [bnF]; exact hf, rfl, Or.inl (by rw [bnF]; omega)⟩
  | succ r ih =>
    intro b q fuel hb h1 hf
    rw [bnF]
    by_cases hc : okc (tN tx) tx.length q 97 = true
    · rw [if_pos hc]
      obtain ⟨c1, c2, c3⟩ := okc_s.mp hc
      obtain ⟨f, rfl, hf2⟩ := fu hf
      obtain ⟨fuel', g1, g2, g3⟩ := ih (b + 1) (q + 1) f (by omega) (by omega) (by omega)
      have e1 : q + (1 + bnF (tN tx) tx.length (q + 1) r) = q + 1 + bnF (tN tx) tx.length (q + 1) r := by omega
      have e2 : 4 + b + (1 + bnF (tN tx) tx.length (q + 1) r) = 4 + (b + 1) + bnF (tN tx) tx.length (q + 1) r := by omega
      rw [e1, e2]
      refine ⟨fuel', g1, ?_, g3⟩
      rw [c_ff h hg c1 (sa_v (by omega) ⟨c2, c3⟩), if_neg (fun q2 => nI_pos (n := 4 + b + 1) (by omega) (by rw [q2]; decide)), if_neg (ne_l nI_n1 (by omega) (by omega) (by omega)), show 4 + b + 1 = 4 + (b + 1) by omega, g2]
    · rw [if_neg hc]
      exact ⟨fuel, hf, rfl, Or.inr hc⟩
theorem c_fpart (h : TxD D tx) (hg : gT tx) : ∀ (k v p fuel : Nat) (S : List tS), S.length + k = 6 → S.length ≤ 4 → (v = 3 ∨ (5 ≤ v ∧ v ≤ 10)) → (v = 3 ∨ v = 10 ∨ ¬ okc (tN tx) tx.length p 97 = true) → p ≤ tx.length → tx.length - p < fuel → fX5_firstFault_c6 (Y w D) fuel 2 (nI v) (nI S.length) (nI p) = some (rbI (psF (tN tx) tx.length k none p S).1) := by
  have t2 := h.2.1
  intro k
  induction k with
  | zero => intro v p fuel S hk h4; omega
  | succ k ih =>
    intro v p fuel S hk h4 hv hst hp hf
    obtain ⟨f, rfl, hf2⟩ := fu hf
    rw [psF]
    by_cases hpn : tx.length ≤ p
    · rw [if_pos hpn, c_fe h hpn (by omega) (by omega), if_pos (by omega)]
      rfl
    · rw [if_neg hpn]
      have g0 := hg p (by omega)
      rw [c_ff h hg (by omega) (sa_b hv g0.2 h4 (by
        rcases hst with q | q | q
        · exact Or.inl q
        · exact Or.inr (Or.inl q)
        · refine Or.inr (Or.inr (fun q2 => q (okc_s.mpr ⟨by omega, q2.1, q2.2⟩)))))]
      by_cases hS : tN tx p = 83 ∧ S.length < 4
      · rw [if_pos hS, if_pos hS, if_neg (by decide), if_pos rfl, ← nI_n1]
        obtain ⟨f, rfl, hf3⟩ := fu (show 0 < f by omega)
        by_cases c1 : okc (tN tx) tx.length (p + 1) 48 = true
        · have eh : hd1 (tN tx) tx.length p = (tN tx (p + 1) - 48, none, p + 1 + 1) := by
            unfold hd1 nx
            dsimp only
            rw [if_pos c1]
          obtain ⟨a1, a2, a3⟩ := okc_s.mp c1
          have g1 := hg (p + 1) a1
          rw [c_ff (x := 2) h hg a1 (by rw [sa_1 g1.2, if_pos ⟨a2, a3⟩]), if_neg (by decide), if_neg (by decide), ← nI_2]
          obtain ⟨f, rfl, hf4⟩ := fu (show 0 < f by omega)
          by_cases c2 : okc (tN tx) tx.length (p + 1 + 1) 48 = true
          · have ek : kd1 (tN tx) tx.length p = (tN tx (p + 1 + 1) - 48, none, p + 1 + 1 + 1) := by
              unfold kd1
              rw [eh]
              unfold nx
              dsimp only
              rw [if_pos c2]
            obtain ⟨b1, b2, b3⟩ := okc_s.mp c2
            have g2 := hg (p + 1 + 1) b1
            rw [c_ff (x := 4) h hg b1 (by rw [sa_2 g2.2, if_pos ⟨b2, b3⟩]), if_neg (by decide), if_neg (by decide), ← nI_4]
            obtain ⟨f, rfl, hf5⟩ := fu (show 0 < f by omega)
            by_cases c3 : okc (tN tx) tx.length (p + 1 + 1 + 1) 97 = true
            · have eb : bd1 (tN tx) tx.length p = (tN tx (p + 1 + 1 + 1) - 97, none, p + 1 + 1 + 1 + 1) := by
                unfold bd1
                rw [ek]
                unfold nx
                dsimp only
                rw [if_pos c3]
              have em : mn1 (tN tx) tx.length p = bnF (tN tx) tx.length (p + 1 + 1 + 1 + 1) 5 := by
                unfold mn1
                rw [eb]
                rfl
              obtain ⟨d1, d2, d3⟩ := okc_s.mp c3
              have hle := bnF_le (t := tN tx) (n := tx.length) 5 (p + 1 + 1 + 1 + 1)
              rw [c_ff h hg d1 (sa_v (v := 4) (by omega) ⟨d2, d3⟩), if_neg (by decide), if_neg (by decide), eb, em]
              obtain ⟨fuel', m1, m2, m3⟩ := c_fbends (w := w) h hg (s := S.length + 1) 5 1 (p + 1 + 1 + 1 + 1) f (by omega) (by omega) (by omega)
              have hq : p + 1 + 1 + 1 + 1 + bnF (tN tx) tx.length (p + 1 + 1 + 1 + 1) 5 ≤ tx.length := by
                have key : ∀ (r q : Nat), q ≤ tx.length → q + bnF (tN tx) tx.length q r ≤ tx.length := by
                  intro r
                  induction r with
                  | zero => intro q hq; rw [bnF]; omega
                  | succ r ihr =>
                    intro q hq
                    rw [bnF]
                    by_cases hc : okc (tN tx) tx.length q 97 = true
                    · have := (okc_s.mp hc).1
                      have := ihr (q + 1) (by omega)
                      rw [if_pos hc]; omega
                    · rw [if_neg hc]; omega
                exact key 5 _ (by omega)
              rw [show 4 + 1 = 4 + 1 from rfl, m2]
              have := ih (4 + 1 + bnF (tN tx) tx.length (p + 1 + 1 + 1 + 1) 5) (p + 1 + 1 + 1 + 1 + bnF (tN tx) tx.length (p + 1 + 1 + 1 + 1) 5) fuel' (S ++ [prS (tN tx) tx.length p]) (by rw [List.length_append, List.length_singleton]; omega) (by rw [List.length_append, List.length_singleton]; omega) (Or.inr ⟨by omega, by omega⟩) (by
                rcases m3 with q | q
                · exact Or.inr (Or.inl q)
                · exact Or.inr (Or.inr q)) hq m1
              rw [List.length_append, List.length_singleton] at this
              exact this
            · have eb : bd1 (tN tx) tx.length p = (0, some (p + 1 + 1 + 1), p + 1 + 1 + 1) := by
                unfold bd1
                rw [ek]
                unfold nx
                dsimp only
                rw [if_neg c3]
              rw [eb, psF_e]
              by_cases hl : p + 1 + 1 + 1 < tx.length
              · have g3 := hg (p + 1 + 1 + 1) hl
                rw [c_ff h hg hl (sa_4 g3.2 (fun q => c3 (okc_s.mpr ⟨hl, q.1, q.2⟩))), if_pos rfl]
                rfl
              · rw [c_fe h (by omega) (by omega) (by omega), if_neg (by omega), show tx.length = p + 1 + 1 + 1 by omega]
                rfl
          · have ek : kd1 (tN tx) tx.length p = (0, some (p + 1 + 1), p + 1 + 1) := by
              unfold kd1
              rw [eh]
              unfold nx
              dsimp only
              rw [if_neg c2]
            have eb : bd1 (tN tx) tx.length p = (0, some (p + 1 + 1), p + 1 + 1) := by
              unfold bd1
              rw [ek]
              rfl
            rw [eb, psF_e]
            by_cases hl : p + 1 + 1 < tx.length
            · have g3 := hg (p + 1 + 1) hl
              rw [c_ff (x := -1) h hg hl (by rw [sa_2 g3.2, if_neg (fun q => c2 (okc_s.mpr ⟨hl, q.1, q.2⟩))]), if_pos rfl]
              rfl
            · rw [c_fe h (by omega) (by omega) (by omega), if_neg (by omega), show tx.length = p + 1 + 1 by omega]
              rfl
        · have eh : hd1 (tN tx) tx.length p = (0, some (p + 1), p + 1) := by
            unfold hd1 nx
            dsimp only
            rw [if_neg c1]
          have ek : kd1 (tN tx) tx.length p = (0, some (p + 1), p + 1) := by
            unfold kd1
            rw [eh]
            rfl
          have eb : bd1 (tN tx) tx.length p = (0, some (p + 1), p + 1) := by
            unfold bd1
            rw [ek]
            rfl
          rw [eb, psF_e]
          by_cases hl : p + 1 < tx.length
          · have g3 := hg (p + 1) hl
            rw [c_ff (x := -1) h hg hl (by rw [sa_1 g3.2, if_neg (fun q => c1 (okc_s.mpr ⟨hl, q.1, q.2⟩))]), if_pos rfl]
            rfl
          · rw [c_fe h (by omega) (by omega) (by omega), if_neg (by omega), show tx.length = p + 1 by omega]
            rfl
      · rw [if_neg hS, if_neg hS, if_pos rfl]
        rfl
theorem c_fault (h : CI D tx V A K bd L) (hg : gT tx) : fX5_firstFault (Y w D) 2 = some (faA tx) := by
  have hT := h.1
  have t2 := hT.2.1
  unfold fX5_firstFault faA txR
  rw [if_pos eO_2, ← nI_0, show FUEL = 999999 + 1 from rfl]
  by_cases h0 : tx.length = 0
  · rw [if_pos (Or.inl h0), c_fe hT (by omega) (by omega) (by omega), if_neg (by omega), h0]
    rfl
  · have g0 := hg 0 (by omega)
    have hsa : fX5_stateAfter (Y w D) (nI 0) (nI (tN tx 0)) (nI 0) = some (if tN tx 0 = 84 then 3 else -1) := by
      unfold fX5_stateAfter
      rw [if_pos nI_0]
      by_cases h84 : tN tx 0 = 84
      · rw [if_pos (by rw [h84, nI_84]), if_pos h84]
      · rw [if_neg (ne_l nI_84 h84 (by omega) (by omega)), if_neg h84]
    rw [c_ff hT hg (by omega) hsa]
    by_cases h84 : tN tx 0 = 84
    · rw [if_pos h84, if_neg (by decide), if_neg (by decide), if_neg (by omega), ← nI_3]
      have := c_fpart (w := w) hT hg 6 3 1 999999 [] rfl (by decide) (Or.inl rfl) (Or.inl rfl) (by omega) (by omega)
      exact this
    · rw [if_neg h84, if_pos rfl, if_pos (Or.inr h84)]
      rfl
theorem c_faultC (h : CI D tx V A K bd L) (hg : gT tx) : fX7_fault (Y w D) 1 = some (faA tx) := by
  unfold fX7_fault
  rw [if_pos eO_1, eF_1_0, Option.bind_some, c_fault h hg, Option.bind_some]
end TX
