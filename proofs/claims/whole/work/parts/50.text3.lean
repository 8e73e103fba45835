/-! ===== the text, read by the reference ===== -/
def RdD (D : mD) (S : List tS) : Prop := D 272 6 = nI S.length ∧ S.length ≤ 4 ∧ ∀ i, i < S.length → D 275 (2 * i) = (S.getD i d0).1 ∧ D 275 (2 * i + 1) = (S.getD i d0).2.1 ∧ D 276 i = nI (S.getD i d0).2.2.length ∧ (S.getD i d0).2.2.length ≤ 6 ∧ ∀ j, j < (S.getD i d0).2.2.length → D 277 (6 * i + j) = (S.getD i d0).2.2.getD j 0
def RdF (D D' : mD) : Prop := (∀ a, a ≠ 272 → a ≠ 275 → a ≠ 276 → a ≠ 277 → D' a = D a) ∧ ∀ k, k ≠ 6 → k ≠ 9 → k ≠ 10 → D' 272 k = D 272 k
theorem RdF.rf {D : mD} : RdF D D := ⟨fun _ _ _ _ _ => rfl, fun _ _ _ _ => rfl⟩
theorem RdF.tr {D D1 D2 : mD} (h1 : RdF D D1) (h2 : RdF D1 D2) : RdF D D2 := ⟨fun a x y z u => (h2.1 a x y z u).trans (h1.1 a x y z u), fun k x y z => (h2.2 k x y z).trans (h1.2 k x y z)⟩
theorem RdF.fr {D D' : mD} (h : RdF D D') : RFr D D' := ⟨fun a ha => h.1 a (by omega) (by omega) (by omega) (by omega), fun k h1 h2 h3 _ => h.2 k h1 h2 h3, h.1 273 (by omega) (by omega) (by omega) (by omega), fun k _ => by rw [h.1 274 (by omega) (by omega) (by omega) (by omega)], h.1 278 (by omega) (by omega) (by omega) (by omega), h.1 279 (by omega) (by omega) (by omega) (by omega), h.1 280 (by omega) (by omega) (by omega) (by omega), h.1 282 (by omega) (by omega) (by omega) (by omega), h.1 283 (by omega) (by omega) (by omega) (by omega), h.1 284 (by omega) (by omega) (by omega) (by omega), h.1 285 (by omega) (by omega) (by omega) (by omega)⟩
theorem rbI_9 {e : Option Nat} (h : ∀ q, e = some q → q ≤ 48) : rbI e = -9 ↔ e = none := by
  cases e with
  | none => exact ⟨fun _ => rfl, fun _ => rfl⟩
  | some q =>
    have hq := h q rfl
    refine ⟨fun e => ?_, fun e => by cases e⟩
    have e2 : nI q = -9 := e
    exact absurd (show nI q < 0 by rw [e2]; decide) (nI_pos (by omega))
section T3
variable {w : mW} {D : mD} {tx : List Int32} {V : tV} {A : List tV} {K : Nat → Option tV} {bd : List Int32} {L : List (Int32 × Int32)}
theorem RTx.rd {D' : mD} (h : RTx D tx) (f : RdF D D') : RTx D' tx := h.kept (f.2 8 (by omega) (by omega) (by omega)) (f.1 278 (by omega) (by omega) (by omega) (by omega))
theorem r_t_at {i : Nat} (h : RTx D tx) (hg : gT tx) (hi : i < tx.length) : aI (Y w D) false 278 (nI i) = some (nI (tN tx i)) := by
  obtain ⟨t1, t2, t3⟩ := id h
  rw [Y_aI kA_278 (by omega), t3 i hi, (hg i hi).1]
theorem in_c {M : mM} {a c : Nat} (ha : a < 256) (hc : c < 256) : fX8_in M (Int32.toInt64 (nI a - nI c)) (0 : Int64) (Int32.toInt64 3) = some (b2i (decide (c ≤ a) && decide (a ≤ c + 3))) := by
  rw [d64 (lo := 0) (hi := 3) (by decide) rfl]
  congr 2
  by_cases h1 : c ≤ a
  · rw [pk_sub h1, decide_eq_true h1, Bool.true_and]
    refine decide_eq_decide.mpr ?_
    rw [← nI_3, nI_ltI (by omega) (by omega)]
    have := nI_pos (n := a - c) (by omega)
    constructor
    · rintro ⟨_, q⟩; omega
    · intro q; exact ⟨this, by omega⟩
  · rw [decide_eq_false h1, Bool.false_and, decide_eq_false]
    rintro ⟨q, _⟩
    exact q (pk_sneg (by omega) (by omega))
/-- what nextOf does -/
theorem r_nextOf {e : Option Nat} {p c : Nat} (h : RTx D tx) (hg : gT tx) (hp : D 272 9 = nI p) (hp2 : p ≤ 48) (he : D 272 10 = rbI e) (he2 : ∀ q, e = some q → q ≤ 48) (hc : c < 256) : ∃ D', fX8_nextOf (Y w D) 272 (nI c) 3 = some (nI (nx (tN tx) tx.length e p c).1, Y w D') ∧ D' 272 9 = nI (nx (tN tx) tx.length e p c).2.2 ∧ D' 272 10 = rbI (nx (tN tx) tx.length e p c).2.1 ∧ (∀ k, k ≠ 9 → k ≠ 10 → D' 272 k = D 272 k) ∧ (∀ a, a ≠ 272 → D' a = D a) := by
  obtain ⟨t1, t2, t3⟩ := id h
  cases e with
  | some q =>
    have hq := he2 q rfl
    have hne : ¬ nI q = -9 := fun e => by
      have := (rbI_9 he2).mp e
      cases this
    have he' : D 272 10 = nI q := he
    refine ⟨ud D 272 10 (nI q), ?_, by rw [ud_n (by omega)]; exact hp, ud_s, fun k h1 h2 => ud_n (by omega), fun a ha => ud_r ha⟩
    unfold fX8_nextOf fX8_nextOf_c24
    rw [if_pos eO_272, eF_272_10, Option.bind_some, he', if_neg hne, Option.bind_some, if_neg hne, Option.bind_some, eS_272_10, Option.bind_some]
    rfl
  | none =>
    have he' : D 272 10 = -9 := he
    have fail : nx (tN tx) tx.length none p c = (0, some p, p) → (some ((0 : Int32), Y w (ud D 272 10 (nI p))) = some (nI (nx (tN tx) tx.length none p c).1, Y w (ud D 272 10 (nI p))) ∧ (ud D 272 10 (nI p)) 272 9 = nI (nx (tN tx) tx.length none p c).2.2 ∧ (ud D 272 10 (nI p)) 272 10 = rbI (nx (tN tx) tx.length none p c).2.1 ∧ (∀ k, k ≠ 9 → k ≠ 10 → (ud D 272 10 (nI p)) 272 k = D 272 k) ∧ (∀ a, a ≠ 272 → (ud D 272 10 (nI p)) a = D a)) := by
      intro en
      rw [en]
      exact ⟨rfl, by rw [ud_n (by omega)]; exact hp, ud_s, fun k h1 h2 => ud_n (by omega), fun a ha => ud_r ha⟩
    unfold fX8_nextOf fX8_nextOf_c24
    rw [if_pos eO_272, eF_272_10, Option.bind_some, he', if_pos rfl, eF_272_9, Option.bind_some, eF_272_8, Option.bind_some, t1, hp]
    by_cases hpn : tx.length ≤ p
    · have en : nx (tN tx) tx.length none p c = (0, some p, p) := by
        unfold nx
        dsimp only
        rw [if_neg (fun q => by have := (okc_s.mp q).1; omega)]
      rw [il_t hpn (by omega), Option.bind_some, if_pos rfl, Option.bind_some, eS_272_10, Option.bind_some]
      exact ⟨_, fail en⟩
    · have g2 := (hg p (by omega)).2
      rw [il_f (by omega) (by omega), eF_272_7, Option.bind_some, Option.bind_some, r_t_at h hg (by omega), Option.bind_some, in_c g2 hc, Option.bind_some]
      by_cases hc1 : okc (tN tx) tx.length p c = true
      · obtain ⟨o1, o2, o3⟩ := okc_s.mp hc1
        have en : nx (tN tx) tx.length none p c = (tN tx p - c, none, p + 1) := by
          unfold nx
          dsimp only
          rw [if_pos hc1]
        rw [decide_eq_true o2, decide_eq_true o3, if_neg (by decide), Option.bind_some, nI_1, eS_272_9, Option.bind_some, en, pk_sub o2]
        exact ⟨_, rfl, ud_s, by rw [ud_n (by omega)]; exact he', fun k h1 h2 => ud_n (by omega), fun a ha => ud_r ha⟩
      · have en : nx (tN tx) tx.length none p c = (0, some p, p) := by
          unfold nx
          dsimp only
          rw [if_neg hc1]
        have hb : (decide (c ≤ tN tx p) && decide (tN tx p ≤ c + 3)) = false := by
          rw [Bool.and_eq_false_iff, decide_eq_false_iff_not, decide_eq_false_iff_not]
          have : ¬ (p < tx.length ∧ c ≤ tN tx p ∧ tN tx p ≤ c + 3) := fun q => hc1 (okc_s.mpr q)
          omega
        rw [hb, if_pos (by rfl), Option.bind_some, if_pos rfl, Option.bind_some, eS_272_10, Option.bind_some]
        exact ⟨_, fail en⟩
def isBe (t : Nat → Nat) (n : Nat) (e : Option Nat) (p : Nat) : Bool := match e with | some _ => false | none => okc t n p 97
theorem r_isBend {e : Option Nat} {p : Nat} (h : RTx D tx) (hg : gT tx) (hp : D 272 9 = nI p) (hp2 : p ≤ 48) (he : D 272 10 = rbI e) (he2 : ∀ q, e = some q → q ≤ 48) : fX8_isBend (Y w D) 272 = some (b2i (isBe (tN tx) tx.length e p)) := by
  obtain ⟨t1, t2, t3⟩ := id h
  unfold fX8_isBend
  rw [if_pos eO_272, eF_272_10, Option.bind_some, he]
  cases e with
  | some q =>
    have hne : ¬ rbI (some q) = -9 := fun e => by
      have := (rbI_9 he2).mp e
      cases this
    rw [if_neg hne]
    rfl
  | none =>
    rw [if_pos (by rfl), eF_272_9, Option.bind_some, eF_272_8, Option.bind_some, t1, hp]
    by_cases hpn : tx.length ≤ p
    · have hf : isBe (tN tx) tx.length none p = false := Bool.eq_false_iff.mpr (fun q => by have := (okc_s.mp q).1; omega)
      rw [il_t hpn (by omega), hf]
      rfl
    · have g2 := (hg p (by omega)).2
      rw [il_f (by omega) (by omega), eF_272_7, Option.bind_some, Option.bind_some, r_t_at h hg (by omega), Option.bind_some, d64 (lo := 97) (hi := 100) (by decide) (by decide), Option.bind_some]
      have e1 : decide (¬ nI (tN tx p) < 97 ∧ ¬ 100 < nI (tN tx p)) = isBe (tN tx) tx.length none p := by
        have : isBe (tN tx) tx.length none p = (decide (97 ≤ tN tx p) && decide (tN tx p ≤ 97 + 3)) := by
          show okc (tN tx) tx.length p 97 = _
          unfold okc
          rw [decide_eq_true (show p < tx.length by omega), Bool.true_and]
        rw [this, ← Bool.decide_and]
        refine decide_eq_decide.mpr ?_
        rw [← nI_97, ← nI_100, nI_ltI (by omega) (by omega), nI_ltI (by omega) (by omega)]
        omega
      rw [e1]
      cases isBe (tN tx) tx.length none p <;> rfl
theorem bnE_s {t : Nat → Nat} {n p r : Nat} {e : Option Nat} : bnE t n e p (r + 1) = if isBe t n e p = true then 1 + bnE t n e (p + 1) r else 0 := by
  cases e with
  | some q => rfl
  | none => rfl
theorem r_readPart_c94 {e : Option Nat} {k : Nat} (hg : gT tx) (hk : k < 4) (he2 : ∀ q, e = some q → q ≤ 48) : ∀ (r j p fuel : Nat) (D : mD), j + r = 6 → r < fuel → p + r ≤ 100 → (isBe (tN tx) tx.length e p = true → p ≤ 48) → p ≤ 48 → RTx D tx → D 272 9 = nI p → D 272 10 = rbI e → D 272 6 = nI k → ∃ D', fX8_readPart_c94 fuel (Y w D) 272 (nI j) = some (Y w D') ∧ D' 276 k = nI (j + bnE (tN tx) tx.length e p r) ∧ D' 272 6 = nI (k + 1) ∧ D' 272 9 = nI (p + bnE (tN tx) tx.length e p r) ∧ D' 272 10 = rbI e ∧ (∀ i, i < bnE (tN tx) tx.length e p r → D' 277 (6 * k + j + i) = (bnL (tN tx) p (bnE (tN tx) tx.length e p r)).getD i 0) ∧ (∀ q, (q < 6 * k + j) → D' 277 q = D 277 q) ∧ (∀ q, q ≠ k → D' 276 q = D 276 q) ∧ D' 275 = D 275 ∧ RdF D D' := by
  have fin : ∀ (j p : Nat) (D : mD), j ≤ 6 → RTx D tx → D 272 9 = nI p → D 272 10 = rbI e → D 272 6 = nI k → ∃ D', ((gR (Y w D) 272 8 4).bind fun a2 => (gI (Y w D) 272 8 6).bind fun x3 => (aS (Y w D) false a2 x3 (nI j)).bind fun M4 => (gI M4 272 8 6).bind fun x5 => (sV M4 272 8 6 (.int (x5 + 1))).bind fun M6 => some M6) = some (Y w D') ∧ D' 276 k = nI j ∧ D' 272 6 = nI (k + 1) ∧ D' 272 9 = nI p ∧ D' 272 10 = rbI e ∧ (∀ q, D' 277 q = D 277 q) ∧ (∀ q, q ≠ k → D' 276 q = D 276 q) ∧ D' 275 = D 275 ∧ RdF D D' := by
    intro j p D hj h hp he hs
    rw [eF_272_4, Option.bind_some, eF_272_6, Option.bind_some, hs, Y_aS kA_276 hk, Option.bind_some, eF_272_6, Option.bind_some, ud_r (by omega), hs, nI_1, eS_272_6, Option.bind_some]
    exact ⟨_, rfl, by rw [ud_r (by omega), ud_s], ud_s, by rw [ud_n (by omega), ud_r (by omega)]; exact hp, by rw [ud_n (by omega), ud_r (by omega)]; exact he, fun q => by rw [ud_r (by omega), ud_r (by omega)], fun q hq => by rw [ud_r (by omega), ud_n (by omega)], by rw [ud_r (by omega), ud_r (by omega)], fun a h1 h2 h3 h4 => by rw [ud_r h1, ud_r h3], fun k h1 h2 h3 => by rw [ud_n (by omega), ud_r (by omega)]⟩
  intro r
  induction r with
  | zero =>
    intro j p fuel D hj hf hpr hb hp48 h hp he hs
    obtain ⟨f, rfl, hf⟩ := fu hf
    have e0 : bnE (tN tx) tx.length e p 0 = 0 := by cases e <;> rfl
    obtain ⟨D', g1, g2, g3, g4, g5, g6, g7, g8, g9⟩ := fin j p D (by omega) h hp he hs
    rw [fX8_readPart_c94.eq_2, ← nI_6, il_t (by omega) (by omega), e0]
    exact ⟨D', g1, g2, g3, g4, g5, fun i hi => by omega, fun q _ => g6 q, g7, g8, g9⟩
  | succ r ih =>
    intro j p fuel D hj hf hpr hb hp48 h hp he hs
    obtain ⟨f, rfl, hf⟩ := fu hf
    rw [fX8_readPart_c94.eq_2, ← nI_6, il_f (by omega) (by omega), r_isBend h hg hp hp48 he he2, Option.bind_some, bnE_s]
    cases hi : isBe (tN tx) tx.length e p with
    | false =>
      obtain ⟨D', g1, g2, g3, g4, g5, g6, g7, g8, g9⟩ := fin j p D (by omega) h hp he hs
      rw [if_pos (by rfl), if_neg nft]
      exact ⟨D', g1, g2, g3, g4, g5, fun i hi => by omega, fun q _ => g6 q, g7, g8, g9⟩
    | true =>
      have en : e = none := by
        cases e with
        | none => rfl
        | some q => cases hi
      have hok : okc (tN tx) tx.length p 97 = true := by rw [en] at hi; exact hi
      obtain ⟨o1, o2, o3⟩ := okc_s.mp hok
      have t2 := h.2.1
      rw [if_neg nb0, if_pos rfl, eF_272_5, Option.bind_some, eF_272_6, Option.bind_some, hs, eF_272_7, Option.bind_some, eF_272_9, Option.bind_some, hp, r_t_at h hg o1, Option.bind_some, pk_mul, nI_add, ← nI_96, pk_sub (by omega), Y_aS kA_277 (by omega), Option.bind_some, eF_272_9, Option.bind_some, ud_r (by omega), hp, nI_1, eS_272_9, Option.bind_some, nI_1]
      have fr : RdF D (ud (ud D 277 (6 * k + j) (nI (tN tx p - 96))) 272 9 (nI (p + 1))) := ⟨fun a h1 h2 h3 h4 => by rw [ud_r h1, ud_r h4], fun k h1 h2 h3 => by rw [ud_n (by omega), ud_r (by omega)]⟩
      obtain ⟨D', g1, g2, g3, g4, g5, g6, g7, g8, g9, g10⟩ := ih (j + 1) (p + 1) f _ (by omega) (by omega) (by omega) (fun _ => by omega) (by omega) (h.rd fr) ud_s (by rw [ud_n (by omega), ud_r (by omega)]; exact he) (by rw [ud_n (by omega), ud_r (by omega)]; exact hs)
      refine ⟨D', g1, by rw [g2, show j + 1 + bnE (tN tx) tx.length e (p + 1) r = j + (1 + bnE (tN tx) tx.length e (p + 1) r) by omega], g3, by rw [g4, show p + 1 + bnE (tN tx) tx.length e (p + 1) r = p + (1 + bnE (tN tx) tx.length e (p + 1) r) by omega], g5, fun i hi => ?_, fun q hq => by rw [g7 q (by omega), ud_r (by omega), ud_n (by omega)], fun q hq => by rw [g8 q hq, ud_r (by omega), ud_r (by omega)], by rw [g9, ud_r (by omega), ud_r (by omega)], fr.tr g10⟩
      rw [Nat.add_comm 1, bnL]
      cases i with
      | zero =>
        rw [Nat.add_zero, g7 _ (by omega), ud_r (by omega), ud_s]
        rfl
      | succ i =>
        have := g6 i (by omega)
        rw [show 6 * k + (j + 1) + i = 6 * k + j + (i + 1) by omega] at this
        rw [this]
        rfl
theorem nx_b {t : Nat → Nat} {n p c : Nat} {e : Option Nat} (h1 : p ≤ n) (h2 : ∀ q, e = some q → q ≤ n) : (nx t n e p c).2.2 ≤ n ∧ ∀ q, (nx t n e p c).2.1 = some q → q ≤ n := by
  cases e with
  | some q => exact ⟨h1, fun r hr => by cases hr; exact h2 q rfl⟩
  | none =>
    unfold nx
    dsimp only
    by_cases hc : okc t n p c = true
    · rw [if_pos hc]
      have := (okc_s.mp hc).1
      exact ⟨(show p + 1 ≤ n by omega), fun r hr => by cases hr⟩
    · rw [if_neg hc]
      exact ⟨h1, fun r hr => by cases hr; exact h1⟩
theorem RdD.kept {D' : mD} {S : List tS} (h : RdD D S) (h1 : D' 272 6 = D 272 6) (h2 : ∀ q, q < 2 * S.length → D' 275 q = D 275 q) (h3 : ∀ q, q < S.length → D' 276 q = D 276 q) (h4 : ∀ q, q < 6 * S.length → D' 277 q = D 277 q) : RdD D' S := by
  obtain ⟨q1, q2, q3⟩ := h
  refine ⟨by rw [h1]; exact q1, q2, fun i hi => ?_⟩
  obtain ⟨a1, a2, a3, a4, a5⟩ := q3 i hi
  exact ⟨by rw [h2 _ (by omega)]; exact a1, by rw [h2 _ (by omega)]; exact a2, by rw [h3 _ hi]; exact a3, a4, fun j hj => by rw [h4 _ (by omega)]; exact a5 j hj⟩
theorem r_readPart_ok {p : Nat} {S : List tS} (hg : gT tx) (h : RTx D tx) (hp : D 272 9 = nI p) (hpn : p < tx.length) (he : D 272 10 = -9) (hR : RdD D S) (hS : S.length < 4) : ∃ D', fX8_readPart (Y w D) 272 83 = some (Y w D') ∧ D' 272 9 = nI ((bd1 (tN tx) tx.length p).2.2 + mn1 (tN tx) tx.length p) ∧ D' 272 10 = rbI (bd1 (tN tx) tx.length p).2.1 ∧ RdD D' (S ++ [prS (tN tx) tx.length p]) ∧ RdF D D' := by
  have t2 := h.2.1
  have r1 := hR.1
  have nb1 := nx_b (t := tN tx) (n := tx.length) (p := p + 1) (c := 48) (e := none) (by omega) (fun q hq => by cases hq)
  have nb2 := nx_b (t := tN tx) (n := tx.length) (p := (hd1 (tN tx) tx.length p).2.2) (c := 48) (e := (hd1 (tN tx) tx.length p).2.1) nb1.1 nb1.2
  have nb3 := nx_b (t := tN tx) (n := tx.length) (p := (kd1 (tN tx) tx.length p).2.2) (c := 97) (e := (kd1 (tN tx) tx.length p).2.1) nb2.1 nb2.2
  have z1 : (hd1 (tN tx) tx.length p).2.2 ≤ tx.length := nb1.1
  have z2 : (kd1 (tN tx) tx.length p).2.2 ≤ tx.length := nb2.1
  have z3 : (bd1 (tN tx) tx.length p).2.2 ≤ tx.length := nb3.1
  have y1 : ∀ q, (hd1 (tN tx) tx.length p).2.1 = some q → q ≤ 48 := fun q hq => Nat.le_trans (nb1.2 q hq) t2
  have y2 : ∀ q, (kd1 (tN tx) tx.length p).2.1 = some q → q ≤ 48 := fun q hq => Nat.le_trans (nb2.2 q hq) t2
  have y3 : ∀ q, (bd1 (tN tx) tx.length p).2.1 = some q → q ≤ 48 := fun q hq => Nat.le_trans (nb3.2 q hq) t2
  have f0 : RdF D (ud D 272 9 (nI (p + 1))) := ⟨fun a h1 h2 h3 h4 => ud_r h1, fun k h1 h2 h3 => ud_n (by omega)⟩
  obtain ⟨D1, g1, g2, g3, g4, g5⟩ := r_nextOf (w := w) (e := none) (p := p + 1) (c := 48) (h.rd f0) hg ud_s (by omega) (by rw [ud_n (by omega)]; exact he) (fun q hq => by cases hq) (by omega)
  have s1 : D1 272 6 = nI S.length := by rw [g4 6 (by omega) (by omega), ud_n (by omega)]; exact r1
  have f1 : RdF D (ud D1 275 (2 * S.length) (nI (hd1 (tN tx) tx.length p).1)) := ⟨fun a h1 h2 h3 h4 => by rw [ud_r h2, g5 a h1, ud_r h1], fun k h1 h2 h3 => by rw [ud_r (by omega), g4 k h2 h3, ud_n (by omega)]⟩
  obtain ⟨D2, m1, m2, m3, m4, m5⟩ := r_nextOf (w := w) (e := (hd1 (tN tx) tx.length p).2.1) (p := (hd1 (tN tx) tx.length p).2.2) (c := 48) (h.rd f1) hg (by rw [ud_r (by omega)]; exact g2) (by omega) (by rw [ud_r (by omega)]; exact g3) y1 (by omega)
  have s2 : D2 272 6 = nI S.length := by rw [m4 6 (by omega) (by omega), ud_r (by omega)]; exact s1
  have f2 : RdF D (ud D2 275 (2 * S.length + 1) (nI (kd1 (tN tx) tx.length p).1)) := f1.tr ⟨fun a h1 h2 h3 h4 => by rw [ud_r h2, m5 a h1], fun k h1 h2 h3 => by rw [ud_r (by omega), m4 k h2 h3]⟩
  obtain ⟨D3, n1, n2, n3, n4, n5⟩ := r_nextOf (w := w) (e := (kd1 (tN tx) tx.length p).2.1) (p := (kd1 (tN tx) tx.length p).2.2) (c := 97) (h.rd f2) hg (by rw [ud_r (by omega)]; exact m2) (by omega) (by rw [ud_r (by omega)]; exact m3) y2 (by omega)
  have s3 : D3 272 6 = nI S.length := by rw [n4 6 (by omega) (by omega), ud_r (by omega)]; exact s2
  have f3 : RdF D (ud D3 277 (6 * S.length) (nI ((bd1 (tN tx) tx.length p).1 + 1))) := f2.tr ⟨fun a h1 h2 h3 h4 => by rw [ud_r h4, n5 a h1], fun k h1 h2 h3 => by rw [ud_r (by omega), n4 k h2 h3]⟩
  obtain ⟨D4, k1, k2, k3, k4, k5, k6, k7, k8, k9, k10⟩ := r_readPart_c94 (w := w) (e := (bd1 (tN tx) tx.length p).2.1) (k := S.length) hg hS y3 5 1 (bd1 (tN tx) tx.length p).2.2 FUEL _ (by omega) (FU (by omega)) (by omega) (fun _ => by omega) (by omega) (h.rd f3) (by rw [ud_r (by omega)]; exact n2) (by rw [ud_r (by omega)]; exact n3) (by rw [ud_r (by omega)]; exact s3)
  have e1 : nx (tN tx) tx.length none (p + 1) 48 = hd1 (tN tx) tx.length p := rfl
  have e2 : nx (tN tx) tx.length (hd1 (tN tx) tx.length p).2.1 (hd1 (tN tx) tx.length p).2.2 48 = kd1 (tN tx) tx.length p := rfl
  have e3 : nx (tN tx) tx.length (kd1 (tN tx) tx.length p).2.1 (kd1 (tN tx) tx.length p).2.2 97 = bd1 (tN tx) tx.length p := rfl
  rw [e1] at g1
  rw [e2] at m1
  rw [e3] at n1
  have em : bnE (tN tx) tx.length (bd1 (tN tx) tx.length p).2.1 (bd1 (tN tx) tx.length p).2.2 5 = mn1 (tN tx) tx.length p := rfl
  rw [em] at k2 k4 k6
  unfold fX8_readPart
  rw [if_pos eO_272, if_pos rfl, eF_272_6, Option.bind_some, r1, if_neg (ne_l nI_4 (by omega) (by omega) (by omega)), eF_272_9, Option.bind_some, hp, nI_1, eS_272_9, Option.bind_some, eF_272_3, Option.bind_some, eF_272_6, Option.bind_some, ud_n (by omega), r1, ← nI_48, g1, Option.bind_some]
  dsimp only
  rw [← nI_2, pk_mul, Y_aS kA_275 (by omega), Option.bind_some, eF_272_3, Option.bind_some, eF_272_6, Option.bind_some, ud_r (by omega), s1, m1, Option.bind_some]
  dsimp only
  rw [pk_mul, nI_1, Y_aS kA_275 (by omega), Option.bind_some, eF_272_5, Option.bind_some, eF_272_6, Option.bind_some, ud_r (by omega), s2, ← nI_97, n1, Option.bind_some]
  dsimp only
  rw [← nI_6, pk_mul, nI_1, Y_aS kA_277 (by omega), Option.bind_some, ← nI_n1, k1]
  refine ⟨D4, rfl, k4, k5, ⟨by rw [k3, List.length_append, List.length_singleton], by rw [List.length_append, List.length_singleton]; omega, fun i hi => ?_⟩, f3.tr k10⟩
  rw [List.length_append, List.length_singleton] at hi
  have c275 : ∀ q, q ≠ 2 * S.length → q ≠ 2 * S.length + 1 → D4 275 q = D 275 q := fun q h1 h2 => by
    rw [k9, ud_r (by omega), n5 275 (by omega), ud_n (by omega), m5 275 (by omega), ud_n (by omega), g5 275 (by omega), ud_r (by omega)]
  have c276 : ∀ q, q ≠ S.length → D4 276 q = D 276 q := fun q hq => by
    rw [k8 q hq, ud_r (by omega), n5 276 (by omega), ud_r (by omega), m5 276 (by omega), ud_r (by omega), g5 276 (by omega), ud_r (by omega)]
  have c277 : ∀ q, q < 6 * S.length → D4 277 q = D 277 q := fun q hq => by
    rw [k7 q (by omega), ud_n (by omega), n5 277 (by omega), ud_r (by omega), m5 277 (by omega), ud_r (by omega), g5 277 (by omega), ud_r (by omega)]
  rw [getD_push]
  by_cases hi2 : i < S.length
  · rw [if_pos hi2]
    obtain ⟨a1, a2, a3, a4, a5⟩ := hR.2.2 i hi2
    exact ⟨by rw [c275 _ (by omega) (by omega)]; exact a1, by rw [c275 _ (by omega) (by omega)]; exact a2, by rw [c276 _ (by omega)]; exact a3, a4, fun j hj => by rw [c277 _ (by omega)]; exact a5 j hj⟩
  · have hi3 : i = S.length := by omega
    subst hi3
    have hmle : mn1 (tN tx) tx.length p ≤ 5 := by
      unfold mn1 bnE
      split
      · omega
      · exact bnF_le 5 _
    rw [if_neg hi2, if_pos rfl]
    unfold prS
    dsimp only
    refine ⟨?_, ?_, ?_, ?_, fun j hj => ?_⟩
    · rw [k9, ud_r (by omega), n5 275 (by omega), ud_n (by omega), m5 275 (by omega), ud_s]
    · rw [k9, ud_r (by omega), n5 275 (by omega), ud_s]
    · rw [k2, List.length_cons, bnL_len, Nat.add_comm]
    · rw [List.length_cons, bnL_len]; omega
    · rw [List.length_cons, bnL_len] at hj
      cases j with
      | zero =>
        rw [Nat.add_zero, k7 _ (by omega), ud_s]
        rfl
      | succ j =>
        have := k6 j (by omega)
        rw [show 6 * S.length + 1 + j = 6 * S.length + (j + 1) by omega] at this
        rw [this]
        rfl
theorem r_readPart_f {p : Nat} {S : List tS} {a : Nat} (ha : a < 256) (hp : D 272 9 = nI p) (hR : RdD D S) (hS : ¬ (a = 83 ∧ S.length < 4)) : fX8_readPart (Y w D) 272 (nI a) = some (Y w (ud D 272 10 (nI p))) := by
  have r2 := hR.2.1
  unfold fX8_readPart
  rw [if_pos eO_272]
  by_cases h83 : a = 83
  · have h4 : S.length = 4 := by omega
    rw [h83, if_pos nI_83, eF_272_6, Option.bind_some, hR.1, h4, if_pos nI_4, eF_272_9, Option.bind_some, hp, eS_272_10, Option.bind_some]
  · rw [if_neg (ne_l nI_83 h83 (by omega) (by omega)), eF_272_9, Option.bind_some, hp, eS_272_10, Option.bind_some]
theorem r_readText_c41 (hg : gT tx) : ∀ (k p fuel : Nat) (e : Option Nat) (D : mD) (S : List tS), S.length + k = 6 → k < fuel → p ≤ 100 → RTx D tx → D 272 9 = nI p → D 272 10 = rbI e → (∀ q, e = some q → q ≤ 48) → RdD D S → ∃ D', fX8_readText_c41 fuel (Y w D) 272 = some (rbI (psF (tN tx) tx.length k e p S).1, Y w D') ∧ ((psF (tN tx) tx.length k e p S).1 = none → RdD D' (psF (tN tx) tx.length k e p S).2) ∧ RdF D D' := by
  intro k
  induction k with
  | zero =>
    intro p fuel e D S hk hf hp100 h hp he he2 hR
    have := hR.2.1
    omega
  | succ k ih =>
    intro p fuel e D S hk hf hp100 h hp he he2 hR
    obtain ⟨f, rfl, hf⟩ := fu hf
    have t2 := h.2.1
    rw [fX8_readText_c41.eq_2, eF_272_10, Option.bind_some, he]
    cases e with
    | some q =>
      have hne : ¬ rbI (some q) = -9 := fun e => by
        have := (rbI_9 he2).mp e
        cases this
      rw [if_neg hne, Option.bind_some, psF_e]
      exact ⟨D, rfl, (fun q => by cases q), RdF.rf⟩
    | none =>
      rw [if_pos (by rfl), eF_272_9, Option.bind_some, eF_272_8, Option.bind_some, h.1, hp, psF]
      by_cases hpn : tx.length ≤ p
      · rw [il_t hpn (by omega), if_pos hpn, Option.bind_some]
        exact ⟨D, rfl, fun _ => hR, RdF.rf⟩
      · have g2 := (hg p (by omega)).2
        rw [il_f (by omega) (by omega), if_neg hpn, eF_272_7, Option.bind_some, Option.bind_some, r_t_at h hg (by omega), Option.bind_some]
        by_cases hS : tN tx p = 83 ∧ S.length < 4
        · obtain ⟨D1, g1, g3, g4, g5, g6⟩ := r_readPart_ok (w := w) (p := p) hg h hp (by omega) he hR hS.2
          have nb := bd1_le (t := tN tx) (n := tx.length) (p := p) (by omega)
          have nb1 := nx_b (t := tN tx) (n := tx.length) (p := p + 1) (c := 48) (e := none) (by omega) (fun q hq => by cases hq)
          have nb2 := nx_b (t := tN tx) (n := tx.length) (p := (hd1 (tN tx) tx.length p).2.2) (c := 48) (e := (hd1 (tN tx) tx.length p).2.1) nb1.1 nb1.2
          have nb3 := nx_b (t := tN tx) (n := tx.length) (p := (kd1 (tN tx) tx.length p).2.2) (c := 97) (e := (kd1 (tN tx) tx.length p).2.1) nb2.1 nb2.2
          have z3 : (bd1 (tN tx) tx.length p).2.2 ≤ tx.length := nb3.1
          have hmle : mn1 (tN tx) tx.length p ≤ 5 := by
            unfold mn1 bnE
            split
            · omega
            · exact bnF_le 5 _
          rw [hS.1, nI_83, g1, Option.bind_some, if_pos ⟨rfl, hS.2⟩]
          obtain ⟨D', k1, k2, k3⟩ := ih ((bd1 (tN tx) tx.length p).2.2 + mn1 (tN tx) tx.length p) f (bd1 (tN tx) tx.length p).2.1 D1 (S ++ [prS (tN tx) tx.length p]) (by rw [List.length_append, List.length_singleton]; omega) (by omega) (by omega) (h.rd g6) g3 g4 (fun q hq => Nat.le_trans (nb.1 q hq) t2) g5
          exact ⟨D', k1, k2, g6.tr k3⟩
        · have fr : RdF D (ud D 272 10 (nI p)) := ⟨fun a h1 h2 h3 h4 => ud_r h1, fun k h1 h2 h3 => ud_n (by omega)⟩
          rw [r_readPart_f g2 hp hR hS, Option.bind_some, if_neg hS]
          obtain ⟨f, rfl, hf3⟩ := fu (show 0 < f by omega)
          have hne : ¬ nI p = -9 := fun e => absurd (show nI p < 0 by rw [e]; decide) (nI_pos (by omega))
          rw [fX8_readText_c41.eq_2, eF_272_10, Option.bind_some, ud_s, if_neg hne, Option.bind_some]
          exact ⟨_, rfl, (fun q => by cases q), fr⟩
theorem r_readText (hg : gT tx) (h : RTx D tx) : ∃ D', fX8_readText (Y w D) 272 = some (faA tx, Y w D') ∧ ((txR tx).1 = none → RdD D' (txR tx).2) ∧ RdF D D' := by
  have t2 := h.2.1
  have fr : RdF D (ud (ud (ud D 272 9 0) 272 10 (-9)) 272 6 0) := ⟨fun a h1 h2 h3 h4 => by rw [ud_r h1, ud_r h1, ud_r h1], fun k h1 h2 h3 => by rw [ud_n (by omega), ud_n (by omega), ud_n (by omega)]⟩
  have h3 := h.rd fr
  unfold fX8_readText faA txR
  rw [if_pos eO_272, eS_272_9, Option.bind_some, eS_272_10, Option.bind_some, eS_272_6, Option.bind_some, eF_272_8, Option.bind_some, h3.1]
  by_cases h0 : tx.length = 0
  · rw [h0, if_pos nI_0, if_pos (Or.inl rfl)]
    exact ⟨_, rfl, (fun q => by cases q), fr⟩
  · have g2 := (hg 0 (by omega)).2
    have hat := r_t_at (w := w) h3 hg (show 0 < tx.length by omega)
    rw [nI_0] at hat
    rw [if_neg (nI_ne0 (by omega) (by omega)), eF_272_7, Option.bind_some, hat, Option.bind_some]
    by_cases h84 : tN tx 0 = 84
    · rw [if_pos (by rw [h84, nI_84]), if_neg (by omega), eS_272_9, Option.bind_some]
      have fr4 : RdF D (ud (ud (ud (ud D 272 9 0) 272 10 (-9)) 272 6 0) 272 9 1) := fr.tr ⟨fun a h1 h2 h3 h4 => ud_r h1, fun k h1 h2 h3 => ud_n (by omega)⟩
      obtain ⟨D', k1, k2, k3⟩ := r_readText_c41 (w := w) hg 6 1 FUEL none _ [] rfl (FU (by omega)) (by omega) (h.rd fr4) (by rw [ud_s, nI_n1]) (by rw [ud_n (by omega), ud_n (by omega), ud_s]; rfl) (fun q hq => by cases hq) ⟨by rw [ud_n (by omega), ud_s]; rfl, by decide, fun i hi => by simp at hi⟩
      rw [k1]
      exact ⟨D', rfl, k2, fr4.tr k3⟩
    · rw [if_neg (ne_l nI_84 h84 (by omega) (by omega)), if_pos (Or.inr h84)]
      exact ⟨_, rfl, (fun q => by cases q), fr⟩
theorem r_fault (hg : gT tx) (h : RI D tx V A K bd L) : ∃ D', fX8_fault (Y w D) 272 = some (faA tx, Y w D') ∧ RI D' tx V A K bd L ∧ ∀ a, a < 272 → D' a = D a := by
  obtain ⟨D', g1, g2, g3⟩ := r_readText (w := w) hg h.1
  unfold fX8_fault
  rw [if_pos eO_272, g1, Option.bind_some]
  exact ⟨D', rfl, h.scr g3.fr, fun a ha => g3.1 a (by omega) (by omega) (by omega) (by omega)⟩
end T3
