/-! ===== the text told to the valley ===== -/
theorem nx_le {t : Nat → Nat} {n p c : Nat} {e : Option Nat} (h1 : e = none → p ≤ n) (h2 : ∀ q, e = some q → q ≤ n) : (∀ q, (nx t n e p c).2.1 = some q → q ≤ n) ∧ ((nx t n e p c).2.1 = none → (nx t n e p c).2.2 ≤ n) := by
  cases e with
  | some q => exact ⟨fun r hr => by cases hr; exact h2 q rfl, fun hr => by cases hr⟩
  | none =>
    unfold nx
    dsimp only
    by_cases hc : okc t n p c = true
    · rw [if_pos hc]
      have := (okc_s.mp hc).1
      exact ⟨(fun r hr => by cases hr), fun _ => (show p + 1 ≤ n by omega)⟩
    · rw [if_neg hc]
      exact ⟨fun r hr => by cases hr; exact h1 rfl, fun hr => by cases hr⟩
theorem bd1_le {t : Nat → Nat} {n p : Nat} (hp : p < n) : (∀ q, (bd1 t n p).2.1 = some q → q ≤ n) ∧ ((bd1 t n p).2.1 = none → (bd1 t n p).2.2 ≤ n) := by
  have a := nx_le (t := t) (n := n) (p := p + 1) (c := 48) (e := none) (fun _ => by omega) (fun q hq => by cases hq)
  have b := nx_le (t := t) (n := n) (p := (hd1 t n p).2.2) (c := 48) (e := (hd1 t n p).2.1) a.2 a.1
  exact nx_le (t := t) (n := n) (p := (kd1 t n p).2.2) (c := 97) (e := (kd1 t n p).2.1) b.2 b.1
theorem psF_le {t : Nat → Nat} {n : Nat} : ∀ (k : Nat) (e : Option Nat) (p : Nat) (S : List tS), (∀ q, e = some q → q ≤ n) → ∀ q, (psF t n k e p S).1 = some q → q ≤ n
  | 0, e, _, _, h, q, hq => h q hq
  | k + 1, some r, _, _, h, q, hq => by cases hq; exact h r rfl
  | k + 1, none, p, S, h, q, hq => by
    rw [psF] at hq
    by_cases h1 : n ≤ p
    · rw [if_pos h1] at hq; cases hq
    · rw [if_neg h1] at hq
      by_cases h2 : t p = 83 ∧ S.length < 4
      · rw [if_pos h2] at hq
        exact psF_le k _ _ _ (bd1_le (by omega)).1 q hq
      · rw [if_neg h2] at hq
        cases hq
        omega
theorem txR_le {tx : List Int32} {q : Nat} (h : (txR tx).1 = some q) : q ≤ tx.length := by
  unfold txR at h
  by_cases h0 : tx.length = 0 ∨ ¬ tN tx 0 = 84
  · rw [if_pos h0] at h; cases h; omega
  · rw [if_neg h0] at h
    exact psF_le 6 none 1 [] (fun q hq => by cases hq) q h
theorem faA_9 {tx : List Int32} (h48 : tx.length ≤ 48) : faA tx = -9 ↔ (txR tx).1 = none := by
  unfold faA
  cases h : (txR tx).1 with
  | none => exact ⟨fun _ => rfl, fun _ => rfl⟩
  | some q =>
    have := txR_le h
    refine ⟨fun e => ?_, fun e => by cases e⟩
    have e2 : nI q = -9 := e
    exact absurd (show nI q < 0 by rw [e2]; decide) (nI_pos (by omega))
section T2
variable {w : mW} {D : mD} {tx : List Int32} {V : tV} {A : List tV} {K : Nat → Option tV} {bd : List Int32} {L : List (Int32 × Int32)}
theorem c_t_at {i : Nat} (h : TxD D tx) (hg : gT tx) (hi : i < tx.length) : aI (Y w D) false 3 (nI i) = some (nI (tN tx i)) := by
  obtain ⟨t1, t2, t3⟩ := id h
  rw [Y_aI kA_3 (by omega), t3 i hi, (hg i hi).1]
theorem c_t_bend {i f : Nat} (h : TxD D tx) (hg : gT tx) (hc : okc (tN tx) tx.length i 97 = true) : fX5_tellTo_c6 (f + 1) (Y w D) 2 4 (nI i) = ((fX6_bendLast (Y w D) 4 (nI (tN tx i - 97 + 1))).bind fun M => fX5_tellTo_c6 f M 2 4 (nI (i + 1))) := by
  obtain ⟨t1, t2, t3⟩ := id h
  obtain ⟨c1, c2, c3⟩ := okc_s.mp hc
  obtain ⟨g1, g2⟩ := hg i c1
  rw [fX5_tellTo_c6.eq_2]
  simp only [eF_2_1, eF_2_0, Option.bind_some, c_t_at h hg c1, c_isBend g2]
  rw [t1, il_f c1 (by omega), decide_eq_true c2, decide_eq_true c3, if_neg (by decide), ← nI_97, pk_sub c2, nI_1, nI_1]
theorem c_t_skip {i f : Nat} (h : TxD D tx) (hg : gT tx) (h1 : i < tx.length) (h2 : tN tx i < 83) : fX5_tellTo_c6 (f + 1) (Y w D) 2 4 (nI i) = fX5_tellTo_c6 f (Y w D) 2 4 (nI (i + 1)) := by
  obtain ⟨t1, t2, t3⟩ := id h
  obtain ⟨g1, g2⟩ := hg i h1
  rw [fX5_tellTo_c6.eq_2]
  simp only [eF_2_1, eF_2_0, Option.bind_some, c_t_at h hg h1, c_isBend g2]
  rw [t1, il_f h1 (by omega), decide_eq_false (show ¬ 97 ≤ tN tx i by omega), Bool.false_and, if_pos (by rfl), if_neg (ne_l nI_83 (by omega) (by omega) (by omega)), nI_1]
theorem c_t_S {i f : Nat} (h : TxD D tx) (hg : gT tx) (h1 : i + 2 < tx.length) (h2 : tN tx i = 83) (h3 : 48 ≤ tN tx (i + 1)) (h4 : 48 ≤ tN tx (i + 1 + 1)) : fX5_tellTo_c6 (f + 1) (Y w D) 2 4 (nI i) = ((fX6_begin (Y w D) 4 (nI (tN tx (i + 1) - 48)) (nI (tN tx (i + 1 + 1) - 48))).bind fun M => fX5_tellTo_c6 f M 2 4 (nI (i + 1))) := by
  obtain ⟨t1, t2, t3⟩ := id h
  obtain ⟨g1, g2⟩ := hg i (by omega)
  have e2 : nI i + 2 = nI (i + 1 + 1) := by rw [← nI_2, nI_add]
  rw [fX5_tellTo_c6.eq_2, e2, nI_1]
  simp only [eF_2_1, eF_2_0, Option.bind_some, c_t_at h hg (show i < tx.length by omega), c_t_at h hg (show i + 1 < tx.length by omega), c_t_at h hg (show i + 1 + 1 < tx.length by omega), c_isBend g2]
  rw [t1, il_f (by omega) (by omega), il_f (by omega) (by omega), h2, decide_eq_false (show ¬ 97 ≤ 83 by omega), Bool.false_and, if_pos (by rfl), if_pos nI_83, ← nI_48, pk_sub h3, pk_sub h4]
theorem set_last {S : List tS} {a b : tS} : (S ++ [a]).set ((S ++ [a]).length - 1) b = S ++ [b] := by
  rw [List.length_append, List.length_singleton, Nat.add_sub_cancel, List.set_append, if_neg (by omega), Nat.sub_self]
  rfl
theorem get_last {S : List tS} {a : tS} : (S ++ [a]).getD ((S ++ [a]).length - 1) d0 = a := by
  rw [List.length_append, List.length_singleton, Nat.add_sub_cancel, getD_push, if_neg (by omega), if_pos rfl]
theorem c_addLast {S : List tS} {h k x : Int32} {bs : List Int32} (hV : VlD D 4 (0, S ++ [(h, k, bs)])) (hb : bs.length < 12) : ∃ D', fX6_bendLast (Y w D) 4 x = some (Y w D') ∧ VlD D' 4 (0, S ++ [(h, k, bs ++ [x])]) ∧ ∀ a, (a < 4 ∨ 18 ≤ a) → D' a = D a := by
  obtain ⟨D', g1, g2, g3⟩ := l_bendLast (w := w) (x := x) isVl_4 hV (by dsimp only; rw [List.length_append, List.length_singleton]; omega) (by dsimp only; rw [get_last]; exact hb)
  dsimp only at g2
  rw [get_last, set_last] at g2
  exact ⟨D', g1, g2, g3⟩
theorem c_tbends (hg : gT tx) {S : List tS} {h k : Int32} : ∀ (r q fuel : Nat) (D : mD) (bs : List Int32), bs.length + r ≤ 12 → tx.length - q < fuel → TxD D tx → VlD D 4 (0, S ++ [(h, k, bs)]) → ∃ fuel' D', tx.length - (q + bnF (tN tx) tx.length q r) < fuel' ∧ fX5_tellTo_c6 fuel (Y w D) 2 4 (nI q) = fX5_tellTo_c6 fuel' (Y w D') 2 4 (nI (q + bnF (tN tx) tx.length q r)) ∧ VlD D' 4 (0, S ++ [(h, k, bs ++ bnL (tN tx) q (bnF (tN tx) tx.length q r))]) ∧ TxD D' tx ∧ ∀ a, (a < 4 ∨ 18 ≤ a) → D' a = D a := by
  intro r
  induction r with
  | zero =>
    intro q fuel D bs hb hf hT hV
    refine ⟨fuel, D, by rw [bnF]; exact hf, rfl, ?_, hT, fun a _ => rfl⟩
    rw [bnF, bnL, List.append_nil]
    exact hV
  | succ r ih =>
    intro q fuel D bs hb hf hT hV
    rw [bnF]
    by_cases hc : okc (tN tx) tx.length q 97 = true
    · rw [if_pos hc]
      obtain ⟨c1, c2, c3⟩ := okc_s.mp hc
      obtain ⟨f, rfl, hf2⟩ := fu hf
      obtain ⟨D1, g1, g2, g3⟩ := c_addLast (w := w) (x := nI (tN tx q - 97 + 1)) hV (by omega)
      have hT1 : TxD D1 tx := hT.kept (g3 2 (by omega)) (g3 3 (by omega))
      obtain ⟨fuel', D', k1, k2, k3, k4, k5⟩ := ih (q + 1) f D1 (bs ++ [nI (tN tx q - 97 + 1)]) (by rw [List.length_append, List.length_singleton]; omega) (by omega) hT1 g2
      have e1 : q + (1 + bnF (tN tx) tx.length (q + 1) r) = q + 1 + bnF (tN tx) tx.length (q + 1) r := by omega
      rw [e1]
      refine ⟨fuel', D', k1, ?_, ?_, k4, fun a ha => by rw [k5 a ha, g3 a ha]⟩
      · rw [c_t_bend hT hg hc, g1, Option.bind_some, k2]
      · rw [Nat.add_comm 1, bnL]
        rw [List.append_assoc, show tN tx q - 97 + 1 = tN tx q - 96 by omega] at k3
        exact k3
    · rw [if_neg hc]
      refine ⟨fuel, D, hf, rfl, ?_, hT, fun a _ => rfl⟩
      rw [bnL, List.append_nil]
      exact hV
theorem bnF_n {t : Nat → Nat} {n : Nat} : ∀ (r q : Nat), q ≤ n → q + bnF t n q r ≤ n
  | 0, q, hq => by rw [bnF]; omega
  | r + 1, q, hq => by
    rw [bnF]
    by_cases hc : okc t n q 97 = true
    · have := (okc_s.mp hc).1
      have := bnF_n (t := t) (n := n) r (q + 1) (by omega)
      rw [if_pos hc]; omega
    · rw [if_neg hc]; omega
theorem psF_none {t : Nat → Nat} {n k p : Nat} {S S' : List tS} (hp : p < n) (h : psF t n (k + 1) none p S = (none, S')) : t p = 83 ∧ S.length < 4 ∧ okc t n (p + 1) 48 = true ∧ okc t n (p + 1 + 1) 48 = true ∧ okc t n (p + 1 + 1 + 1) 97 = true ∧ psF t n k none (p + 1 + 1 + 1 + 1 + bnF t n (p + 1 + 1 + 1 + 1) 5) (S ++ [(nI (t (p + 1) - 48), nI (t (p + 1 + 1) - 48), nI (t (p + 1 + 1 + 1) - 97 + 1) :: bnL t (p + 1 + 1 + 1 + 1) (bnF t n (p + 1 + 1 + 1 + 1) 5))]) = (none, S') := by
  rw [psF, if_neg (by omega)] at h
  by_cases hS : t p = 83 ∧ S.length < 4
  · rw [if_pos hS] at h
    by_cases c1 : okc t n (p + 1) 48 = true
    · have eh : hd1 t n p = (t (p + 1) - 48, none, p + 1 + 1) := by
        unfold hd1 nx
        dsimp only
        rw [if_pos c1]
      by_cases c2 : okc t n (p + 1 + 1) 48 = true
      · have ek : kd1 t n p = (t (p + 1 + 1) - 48, none, p + 1 + 1 + 1) := by
          unfold kd1
          rw [eh]
          unfold nx
          dsimp only
          rw [if_pos c2]
        by_cases c3 : okc t n (p + 1 + 1 + 1) 97 = true
        · have eb : bd1 t n p = (t (p + 1 + 1 + 1) - 97, none, p + 1 + 1 + 1 + 1) := by
            unfold bd1
            rw [ek]
            unfold nx
            dsimp only
            rw [if_pos c3]
          have em : mn1 t n p = bnF t n (p + 1 + 1 + 1 + 1) 5 := by
            unfold mn1
            rw [eb]
            rfl
          unfold prS at h
          rw [em, eb, eh, ek] at h
          exact ⟨hS.1, hS.2, c1, c2, c3, h⟩
        · have eb : bd1 t n p = (0, some (p + 1 + 1 + 1), p + 1 + 1 + 1) := by
            unfold bd1
            rw [ek]
            unfold nx
            dsimp only
            rw [if_neg c3]
          rw [eb, psF_e] at h
          cases h
      · have ek : kd1 t n p = (0, some (p + 1 + 1), p + 1 + 1) := by
          unfold kd1
          rw [eh]
          unfold nx
          dsimp only
          rw [if_neg c2]
        have eb : bd1 t n p = (0, some (p + 1 + 1), p + 1 + 1) := by
          unfold bd1
          rw [ek]
          rfl
        rw [eb, psF_e] at h
        cases h
    · have eh : hd1 t n p = (0, some (p + 1), p + 1) := by
        unfold hd1 nx
        dsimp only
        rw [if_neg c1]
      have ek : kd1 t n p = (0, some (p + 1), p + 1) := by
        unfold kd1
        rw [eh]
        rfl
      have eb : bd1 t n p = (0, some (p + 1), p + 1) := by
        unfold bd1
        rw [ek]
        rfl
      rw [eb, psF_e] at h
      cases h
  · rw [if_neg hS] at h
    cases h
theorem c_tpart (hg : gT tx) (h48 : tx.length ≤ 48) {S' : List tS} : ∀ (k p fuel : Nat) (D : mD) (S : List tS), S.length + k = 6 → S.length ≤ 4 → p ≤ tx.length → tx.length - p < fuel → TxD D tx → VlD D 4 (0, S) → psF (tN tx) tx.length k none p S = (none, S') → ∃ D', fX5_tellTo_c6 fuel (Y w D) 2 4 (nI p) = some (Y w D') ∧ VlD D' 4 (0, S') ∧ ∀ a, (a < 4 ∨ 18 ≤ a) → D' a = D a := by
  intro k
  induction k with
  | zero => intro p fuel D S hk h4; omega
  | succ k ih =>
    intro p fuel D S hk h4 hp hf hT hV hps
    obtain ⟨f, rfl, hf2⟩ := fu hf
    by_cases hpn : tx.length ≤ p
    · rw [psF, if_pos hpn] at hps
      have e : S = S' := by cases hps; rfl
      subst e
      rw [fX5_tellTo_c6.eq_2, eF_2_1, Option.bind_some, hT.1, il_t hpn (by omega)]
      exact ⟨D, rfl, hV, fun a _ => rfl⟩
    · obtain ⟨h83, hS4, c1, c2, c3, hrest⟩ := psF_none (by omega) hps
      obtain ⟨a1, a2, a3⟩ := okc_s.mp c1
      obtain ⟨b1, b2, b3⟩ := okc_s.mp c2
      obtain ⟨d1, d2, d3⟩ := okc_s.mp c3
      obtain ⟨D1, g1, g2, g3⟩ := l_begin (w := w) (x := nI (tN tx (p + 1) - 48)) (y := nI (tN tx (p + 1 + 1) - 48)) isVl_4 hV hS4
      have hT1 : TxD D1 tx := hT.kept (g3 2 (by omega)) (g3 3 (by omega))
      obtain ⟨D2, m1, m2, m3⟩ := c_addLast (w := w) (x := nI (tN tx (p + 1 + 1 + 1) - 97 + 1)) g2 (by decide)
      have hT2 : TxD D2 tx := hT1.kept (m3 2 (by omega)) (m3 3 (by omega))
      rw [c_t_S hT hg (by omega) h83 a2 b2, g1, Option.bind_some]
      obtain ⟨f, rfl, hf3⟩ := fu (show 0 < f by omega)
      rw [c_t_skip hT1 hg a1 (by omega)]
      obtain ⟨f, rfl, hf4⟩ := fu (show 0 < f by omega)
      rw [c_t_skip hT1 hg b1 (by omega)]
      obtain ⟨f, rfl, hf5⟩ := fu (show 0 < f by omega)
      rw [c_t_bend hT1 hg c3, m1, Option.bind_some]
      obtain ⟨fuel', D3, k1, k2, k3, k4, k5⟩ := c_tbends (w := w) hg (S := S) (h := nI (tN tx (p + 1) - 48)) (k := nI (tN tx (p + 1 + 1) - 48)) 5 (p + 1 + 1 + 1 + 1) f D2 ([] ++ [nI (tN tx (p + 1 + 1 + 1) - 97 + 1)]) (by simp) (by omega) hT2 m2
      rw [k2]
      have hle := bnF_n (t := tN tx) (n := tx.length) 5 (p + 1 + 1 + 1 + 1) (by omega)
      obtain ⟨D', n1, n2, n3⟩ := ih (p + 1 + 1 + 1 + 1 + bnF (tN tx) tx.length (p + 1 + 1 + 1 + 1) 5) fuel' D3 (S ++ [(nI (tN tx (p + 1) - 48), nI (tN tx (p + 1 + 1) - 48), nI (tN tx (p + 1 + 1 + 1) - 97 + 1) :: bnL (tN tx) (p + 1 + 1 + 1 + 1) (bnF (tN tx) tx.length (p + 1 + 1 + 1 + 1) 5))]) (by rw [List.length_append, List.length_singleton]; omega) (by rw [List.length_append, List.length_singleton]; omega) hle k1 k4 k3 hrest
      exact ⟨D', n1, n2, fun a ha => by rw [n3 a ha, k5 a ha, m3 a ha, g3 a ha]⟩
theorem c_valley (h : CI D tx V A K bd L) (hg : gT tx) : ∃ D', fX7_valley (Y w D) 1 = some ((if (txR tx).1 = none then nI (txR tx).2.length else -3), Y w D') ∧ (if (txR tx).1 = none then CI D' tx (0, (txR tx).2) [] (fun _ => none) bd L else CI D' tx V A K bd L) ∧ ∀ a, 272 ≤ a → D' a = D a := by
  obtain ⟨c1, c2, c3, c4, c5, c6⟩ := id h
  have h48 := c1.2.1
  unfold fX7_valley
  rw [if_pos eO_1, eF_1_0, Option.bind_some, c_fault h hg, Option.bind_some, Option.bind_some]
  by_cases hn : (txR tx).1 = none
  · rw [if_pos ((faA_9 h48).mpr hn), if_pos hn, eF_1_1, Option.bind_some]
    obtain ⟨D1, g1, g2, g3⟩ := l_vclear (w := w) (D := D) isVl_4
    have hT1 : TxD D1 tx := c1.kept (g3 2 (by omega)) (g3 3 (by omega))
    have hps : psF (tN tx) tx.length 6 none 1 [] = (none, (txR tx).2) ∧ 1 ≤ tx.length := by
      unfold txR at hn ⊢
      by_cases h0 : tx.length = 0 ∨ ¬ tN tx 0 = 84
      · rw [if_pos h0] at hn; cases hn
      · rw [if_neg h0] at hn ⊢
        exact ⟨Prod.ext hn rfl, by omega⟩
    obtain ⟨D2, k1, k2, k3⟩ := c_tpart (w := w) hg h48 6 1 FUEL D1 [] rfl (by decide) hps.2 (FU (by omega)) hT1 g2 hps.1
    rw [nI_n1] at k1
    have htell : fX5_tellTo (Y w D) 2 4 = some (Y w D2) := by
      unfold fX5_tellTo
      rw [if_pos eO_2, g1, Option.bind_some, k1]
    have f2 : ∀ a, (a < 4 ∨ 18 ≤ a) → D2 a = D a := fun a ha => by rw [k3 a ha, g3 a (by omega)]
    obtain ⟨D3, m1, m2, m3⟩ := l_aclear (w := w) (D := D2)
    obtain ⟨D4, n1, n2, n3⟩ := l_kclear (w := w) (D := D3)
    have f4 : ∀ a, (a < 4 ∨ 18 ≤ a) → a ≠ 32 → a ≠ 230 → D4 a = D a := fun a h1 h2 h3 => by rw [n3 a h3, m3 a h2, f2 a h1]
    have hV4 : VlD D4 4 (0, (txR tx).2) := k2.kept (fun a ha hb => by rw [n3 a (by omega), m3 a (by omega)])
    rw [htell, Option.bind_some, eF_1_3, Option.bind_some, m1, Option.bind_some, eF_1_4, Option.bind_some, n1, Option.bind_some, eF_1_1, Option.bind_some, vl_t isVl_4, Option.bind_some, hV4.1]
    refine ⟨D4, rfl, ?_, fun a ha => f4 a (by omega) (by omega) (by omega)⟩
    rw [if_pos hn]
    exact ⟨c1.kept (f4 2 (by omega) (by omega) (by omega)) (f4 3 (by omega) (by omega) (by omega)), hV4, ⟨0, m2.kept (fun a ha hb => n3 a (by omega))⟩, n2, ⟨c5.1.kept (f4 263 (by omega) (by omega) (by omega)) (f4 264 (by omega) (by omega) (by omega)), c5.2⟩, c6.kept (fun a ha hb => f4 a (by omega) (by omega) (by omega))⟩
  · rw [if_neg (fun q => hn ((faA_9 h48).mp q)), if_neg hn]
    refine ⟨D, rfl, ?_, fun a _ => rfl⟩
    rw [if_neg hn]
    exact h
end T2
