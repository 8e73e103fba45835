/-! ===== the class's acts, slots, laid, text ===== -/
def e0 : tV := (0, [])
def ActD (D : mD) (fi : Nat) (A : List tV) : Prop := D 32 1 = nI fi ∧ fi < 14 ∧ D 32 2 = nI A.length ∧ A.length ≤ 14 ∧ ∀ i, i < A.length → VlD D (34 + 14 * ((fi + i) % 14)) (A.getD i e0)
theorem ActD.kept {D D' : mD} {fi : Nat} {A : List tV} (h : ActD D fi A) (h1 : ∀ a, 32 ≤ a → a < 230 → D' a = D a) : ActD D' fi A := by
  obtain ⟨q1, q2, q3, q4, q5⟩ := h
  refine ⟨by rw [h1 32 (by omega) (by omega)]; exact q1, q2, by rw [h1 32 (by omega) (by omega)]; exact q3, q4, fun i hi => (q5 i hi).kept (fun a ha hb => h1 a (by omega) ?_)⟩
  have := Nat.mod_lt (fi + i) (show 0 < 14 by omega)
  omega
def pushA (A : List tV) (V : tV) : List tV := if A.length = 14 then A.tail ++ [V] else A ++ [V]
theorem nI_14 : nI 14 = 14 := by decide +kernel
theorem rem14 {a : Nat} (h : a < 1000) : nI a - nI a / 14 * 14 = nI (a % 14) := by
  rw [← nI_14, pk_rem (by omega) (by omega) (by omega)]
theorem getD_pushV {A : List tV} {V : tV} {j : Nat} : (A ++ [V]).getD j e0 = if j < A.length then A.getD j e0 else if j = A.length then V else e0 := by
  by_cases h : j < A.length
  · rw [if_pos h, List.getD_eq_getElem?_getD, List.getElem?_append_left h, ← List.getD_eq_getElem?_getD]
  · rw [if_neg h]
    by_cases h2 : j = A.length
    · subst h2
      simp
    · rw [if_neg h2, List.getD_eq_getElem?_getD, List.getElem?_eq_none (by simp; omega)]
      rfl
theorem getD_tailV {A : List tV} {j : Nat} : A.tail.getD j e0 = A.getD (j + 1) e0 := by
  cases A with
  | nil => rfl
  | cons a A => simp
section AC
variable {w : mW} {D : mD} {v u n m i fi : Nat} {V U : tV} {A : List tV}
theorem ac_q (hi : i < 14) : qI (Y w D) true 33 (nI i) = some (34 + 14 * i) := Y_qI (acts_at i hi).1
theorem ac_v (hi : i < 14) : isVl (34 + 14 * i) = true := (acts_at i hi).2
theorem l_aclear : ∃ D', fX0_clear (Y w D) 32 = some (Y w D') ∧ ActD D' 0 [] ∧ ∀ a, a ≠ 32 → D' a = D a := by
  unfold fX0_clear
  rw [if_pos eO_32, eS_32_1, Option.bind_some, eS_32_2, Option.bind_some]
  exact ⟨_, rfl, ⟨by rw [ud_n (by omega), ud_s]; rfl, by omega, by rw [ud_s]; rfl, by simp, fun i hi => by simp at hi⟩, fun a ha => by rw [ud_r ha, ud_r ha]⟩
theorem l_remember (h : ActD D fi A) (hV : VlD D 4 V) : ∃ D' fi', fX0_remember (Y w D) 32 4 = some (Y w D') ∧ ActD D' fi' (pushA A V) ∧ ∀ a, (a < 32 ∨ 230 ≤ a) → D' a = D a := by
  obtain ⟨q1, q2, q3, q4, q5⟩ := id h
  unfold fX0_remember
  rw [if_pos eO_32, eF_32_2, Option.bind_some, q3]
  have hm : ∀ b : Nat, b % 14 < 14 := fun b => Nat.mod_lt b (by omega)
  by_cases hl : A.length = 14
  · rw [if_pos (by rw [hl, nI_14]), eF_32_1, Option.bind_some, q1, nI_1, rem14 (by omega), eS_32_1, Option.bind_some, eF_32_2, Option.bind_some, ud_n (by omega), q3, hl, show nI 14 - 1 = nI 13 from by decide, eS_32_2, Option.bind_some, eF_32_0, Option.bind_some, eF_32_1, Option.bind_some, eF_32_2, Option.bind_some, ud_s, ud_n (by omega), ud_s, nI_add, rem14 (by have := hm (fi + 1); omega), ac_q (hm _), Option.bind_some]
    have hmm : ((fi + 1) % 14 + 13) % 14 = fi := by omega
    rw [hmm]
    obtain ⟨D1, e1, e2, e3⟩ := l_vsetTo (w := w) (D := ud (ud D 32 1 (nI ((fi + 1) % 14))) 32 2 (nI 13)) (ac_v q2) isVl_4 (by omega) (hV.kept (fun a ha hb => by rw [ud_r (by omega), ud_r (by omega)]))
    rw [e1, Option.bind_some, eF_32_2, Option.bind_some, e3 32 (by omega), ud_s, show nI 13 + 1 = nI 14 from by decide, eS_32_2, Option.bind_some]
    refine ⟨_, (fi + 1) % 14, rfl, ⟨?_, hm _, ?_, ?_, fun i hi => ?_⟩, fun a ha => ?_⟩
    · rw [ud_n (by omega), e3 32 (by omega), ud_n (by omega), ud_s]
    · rw [ud_s]
      simp [pushA, hl]
    · simp [pushA, hl]
    · have hi2 : i < 14 := by simpa [pushA, hl] using hi
      rw [pushA, if_pos hl, getD_pushV, List.length_tail, hl]
      by_cases hi3 : i < 13
      · have hj : (fi + 1) % 14 + i = (fi + 1) % 14 + i := rfl
        have hx : ((fi + 1) % 14 + i) % 14 = (fi + (i + 1)) % 14 := by omega
        have hy : (fi + (i + 1)) % 14 ≠ fi := by omega
        have := hm (fi + (i + 1))
        rw [if_pos (by omega), getD_tailV, hx]
        exact (q5 (i + 1) (by omega)).kept (fun a ha hb => by rw [ud_r (by omega), e3 a (by omega), ud_r (by omega), ud_r (by omega)])
      · have hi4 : i = 13 := by omega
        subst hi4
        rw [if_neg (by omega), if_pos (by omega), hmm]
        exact e2.kept (fun a ha hb => ud_r (by omega))
    · rw [ud_r (by omega), e3 a (by omega), ud_r (by omega), ud_r (by omega)]
  · rw [if_neg (fun q => hl ((nI_eq (by omega) (by omega)).mp (q.trans nI_14.symm))), eF_32_0, Option.bind_some, eF_32_1, Option.bind_some, Option.bind_some, q1, nI_add, rem14 (by omega), ac_q (hm _), Option.bind_some]
    have := hm (fi + A.length)
    obtain ⟨D1, e1, e2, e3⟩ := l_vsetTo (w := w) (ac_v (hm (fi + A.length))) isVl_4 (by omega) hV
    rw [e1, Option.bind_some, eF_32_2, Option.bind_some, e3 32 (by omega), q3, nI_1, eS_32_2, Option.bind_some]
    refine ⟨_, fi, rfl, ⟨?_, q2, ?_, ?_, fun i hi => ?_⟩, fun a ha => ?_⟩
    · rw [ud_n (by omega), e3 32 (by omega), q1]
    · rw [ud_s]
      simp [pushA, hl]
    · simp [pushA, hl]; omega
    · have hi2 : i < A.length + 1 := by simpa [pushA, hl] using hi
      rw [pushA, if_neg hl, getD_pushV]
      have := hm (fi + i)
      by_cases hi3 : i < A.length
      · rw [if_pos hi3]
        have hne : (fi + i) % 14 ≠ (fi + A.length) % 14 := by omega
        exact (q5 i hi3).kept (fun a ha hb => by rw [ud_r (by omega), e3 a (by omega)])
      · have hi4 : i = A.length := by omega
        subst hi4
        rw [if_neg hi3, if_pos rfl]
        exact e2.kept (fun a ha hb => ud_r (by omega))
    · rw [ud_r (by omega), e3 a (by omega)]
theorem l_takeBack (h : ActD D fi A) : ∃ D', fX0_takeBack (Y w D) 32 4 = some ((if A.length = 0 then -3 else nI (A.length - 1)), Y w D') ∧ ActD D' fi A.dropLast ∧ (if A.length = 0 then D' = D else VlD D' 4 (A.getD (A.length - 1) e0) ∧ ∀ a, (a < 4 ∨ 18 ≤ a) → a ≠ 32 → D' a = D a) := by
  obtain ⟨q1, q2, q3, q4, q5⟩ := id h
  unfold fX0_takeBack
  have hm : ∀ b : Nat, b % 14 < 14 := fun b => Nat.mod_lt b (by omega)
  rw [if_pos eO_32, eF_32_2, Option.bind_some, q3]
  by_cases h0 : A.length = 0
  · have hA : A = [] := List.length_eq_zero_iff.mp h0
    subst hA
    rw [if_pos (by rw [h0, nI_0])]
    exact ⟨D, rfl, h, rfl⟩
  · obtain ⟨c, hc⟩ : ∃ c, A.length = c + 1 := ⟨A.length - 1, by omega⟩
    simp only [if_neg h0]
    rw [if_neg (nI_ne0 (by omega) (by omega)), hc, Option.bind_some, nI_pred, eS_32_2, Option.bind_some, eF_32_0, Option.bind_some, eF_32_1, Option.bind_some, eF_32_2, Option.bind_some, ud_s, ud_n (by omega), q1, nI_add, rem14 (by omega), ac_q (hm _), Option.bind_some]
    have := hm (fi + c)
    obtain ⟨D1, e1, e2, e3⟩ := l_vsetTo (w := w) (D := ud D 32 2 (nI c)) isVl_4 (ac_v (hm (fi + c))) (by omega) ((q5 c (by omega)).kept (fun a ha hb => ud_r (by omega)))
    rw [e1, Option.bind_some, eF_32_2, Option.bind_some, e3 32 (by omega), ud_s]
    refine ⟨D1, rfl, ⟨?_, q2, ?_, by simp; omega, fun i hi => ?_⟩, e2, fun a ha hb => by rw [e3 a ha, ud_r hb]⟩
    · rw [e3 32 (by omega), ud_n (by omega), q1]
    · rw [e3 32 (by omega), ud_s]
      simp [hc]
    · have hi2 : i < c := by simpa [hc] using hi
      have := hm (fi + i)
      have e : A.dropLast.getD i e0 = A.getD i e0 := by
        rw [List.getD_eq_getElem?_getD, List.getD_eq_getElem?_getD, List.getElem?_dropLast, if_pos (by omega)]
      rw [e]
      exact (q5 i (by omega)).kept (fun a ha hb => by rw [e3 a (by omega), ud_r (by omega)])
/-! slots -/
def SltD (D : mD) (K : Nat → Option tV) : Prop := D 230 1 = w4 (K 0).isSome (K 1).isSome false false ∧ ∀ s, s < 2 → ∀ U, K s = some U → VlD D (232 + 14 * s) U
theorem SltD.kept {D D' : mD} {K : Nat → Option tV} (h : SltD D K) (h1 : ∀ a, 230 ≤ a → a < 260 → D' a = D a) : SltD D' K := ⟨by rw [h1 230 (by omega) (by omega)]; exact h.1, fun s hs U hU => (h.2 s hs U hU).kept (fun a ha hb => h1 a (by omega) (by omega))⟩
def setK (K : Nat → Option tV) (s : Nat) (V : tV) : Nat → Option tV := fun q => if q = s then some V else K q
theorem l_kclear : ∃ D', fX3_clear (Y w D) 230 = some (Y w D') ∧ SltD D' (fun _ => none) ∧ ∀ a, a ≠ 230 → D' a = D a := by
  unfold fX3_clear
  rw [if_pos eO_230, eS_230_1, Option.bind_some]
  exact ⟨_, rfl, ⟨by rw [ud_s]; decide, fun s hs U hU => by cases hU⟩, fun a ha => ud_r ha⟩
theorem sl_q (hi : i < 2) : qI (Y w D) true 231 (nI i) = some (232 + 14 * i) := Y_qI (slots_at i hi).1
theorem sl_v (hi : i < 2) : isVl (232 + 14 * i) = true := (slots_at i hi).2
theorem in2 {x : Int32} (h1 : ¬ x < 0) (h2 : x < 2) : x = 0 ∨ x = 1 := by
  obtain ⟨j, hj, rfl⟩ := nI_of h1
  have : j < 2 := by
    rw [← nI_2] at h2
    exact (nI_ltI hj (by omega)).mp h2
  rcases (show j = 0 ∨ j = 1 by omega) with rfl | rfl
  · left; exact nI_0
  · right; decide
theorem l_put {x : Int32} {K : Nat → Option tV} (h : SltD D K) (hV : VlD D 4 V) : ∃ D', fX3_put (Y w D) 230 x 4 = some ((if x = 0 ∨ x = 1 then V.1 else -1), Y w D') ∧ SltD D' (if x = 0 then setK K 0 V else if x = 1 then setK K 1 V else K) ∧ ∀ a, (a < 230 ∨ 260 ≤ a) → D' a = D a := by
  unfold fX3_put
  rw [if_pos eO_230]
  by_cases hx : x < 0
  · have h0 : ¬ (x = 0 ∨ x = 1) := by rintro (rfl | rfl) <;> exact absurd hx (by decide)
    rw [if_pos hx, if_neg h0, if_neg (fun q => h0 (Or.inl q)), if_neg (fun q => h0 (Or.inr q))]
    exact ⟨D, rfl, h, fun a _ => rfl⟩
  · rw [if_neg hx]
    by_cases hx2 : x < 2
    · rw [if_pos hx2]
      have hx3 := in2 hx hx2
      rw [if_pos hx3]
      have key : ∀ s, s < 2 → x = nI s → ∃ D', ((gR (Y w D) 230 3 0).bind fun a3 => (qI (Y w D) true a3 x).bind fun a4 => (fX6_setTo (Y w D) a4 4).bind fun M6 => (gI M6 230 3 1).bind fun x7 => (sV M6 230 3 1 (.int (x7 ||| (1 <<< (x &&& 31))))).bind fun M8 => (gI M8 4 6 2).bind fun x9 => some (x9, M8)) = some (V.1, Y w D') ∧ (D' 230 1 = D 230 1 ||| (1 <<< (x &&& 31)) ∧ VlD D' (232 + 14 * s) V ∧ ∀ a, (a < 232 + 14 * s ∨ 232 + 14 * s + 14 ≤ a) → a ≠ 230 → D' a = D a) := by
        intro s hs hxs
        obtain ⟨D1, e1, e2, e3⟩ := l_vsetTo (w := w) (sl_v hs) isVl_4 (by omega) hV
        rw [eF_230_0, Option.bind_some, hxs, sl_q hs, Option.bind_some, e1, Option.bind_some, eF_230_1, Option.bind_some, eS_230_1, Option.bind_some, vl_y isVl_4, Option.bind_some, ud_r (by omega), e3 4 (by omega), hV.2.1]
        exact ⟨_, rfl, by rw [ud_s, e3 230 (by omega)], e2.kept (fun a ha hb => ud_r (by omega)), fun a ha hb => by rw [ud_r hb, e3 a ha]⟩
      rcases hx3 with rfl | rfl
      · obtain ⟨D', g1, g2, g3, g4⟩ := key 0 (by omega) nI_0.symm
        refine ⟨D', g1, ⟨?_, fun s hs U hU => ?_⟩, fun a ha => g4 a (by omega) (by omega)⟩
        · rw [g2, h.1, if_pos rfl]
          show w4 (K 0).isSome (K 1).isSome false false ||| (1 <<< ((0 : Int32) &&& 31)) = w4 true (K 1).isSome false false
          generalize (K 0).isSome = b0
          generalize (K 1).isSome = b1
          revert b0 b1
          decide
        · rw [if_pos rfl] at hU
          rcases (show s = 0 ∨ s = 1 by omega) with rfl | rfl
          · simp only [setK, if_true] at hU
            cases hU
            exact g3
          · simp only [setK] at hU
            exact (h.2 1 (by omega) U hU).kept (fun a ha hb => g4 a (by omega) (by omega))
      · obtain ⟨D', g1, g2, g3, g4⟩ := key 1 (by omega) (by decide)
        refine ⟨D', g1, ⟨?_, fun s hs U hU => ?_⟩, fun a ha => g4 a (by omega) (by omega)⟩
        · rw [g2, h.1, if_neg (by decide), if_pos rfl]
          show w4 (K 0).isSome (K 1).isSome false false ||| (1 <<< ((1 : Int32) &&& 31)) = w4 (K 0).isSome true false false
          generalize (K 0).isSome = b0
          generalize (K 1).isSome = b1
          revert b0 b1
          decide
        · rw [if_neg (by decide), if_pos rfl] at hU
          rcases (show s = 0 ∨ s = 1 by omega) with rfl | rfl
          · simp only [setK] at hU
            exact (h.2 0 (by omega) U hU).kept (fun a ha hb => g4 a (by omega) (by omega))
          · simp only [setK, if_true] at hU
            cases hU
            exact g3
    · have h0 : ¬ (x = 0 ∨ x = 1) := by rintro (rfl | rfl) <;> exact absurd (by decide) hx2
      rw [if_neg hx2, if_neg h0, if_neg (fun q => h0 (Or.inl q)), if_neg (fun q => h0 (Or.inr q))]
      exact ⟨D, rfl, h, fun a _ => rfl⟩
/-- what a slot's number names -/
def slotK (K : Nat → Option tV) (x : Int32) : Option tV := if x = 0 then K 0 else if x = 1 then K 1 else none
theorem l_bringBack {x : Int32} {K : Nat → Option tV} (h : SltD D K) : ∃ D', fX3_bringBack (Y w D) 230 x 4 = some ((if x = 0 ∨ x = 1 then (match slotK K x with | some U => U.1 | none => -3) else -1), Y w D') ∧ (match slotK K x with | some U => VlD D' 4 U ∧ ∀ a, (a < 4 ∨ 18 ≤ a) → D' a = D a | none => D' = D) := by
  unfold fX3_bringBack
  rw [if_pos eO_230]
  by_cases hx : x < 0
  · have h0 : ¬ (x = 0 ∨ x = 1) := by rintro (rfl | rfl) <;> exact absurd hx (by decide)
    have hk : slotK K x = none := by unfold slotK; rw [if_neg (fun q => h0 (Or.inl q)), if_neg (fun q => h0 (Or.inr q))]
    rw [if_pos hx, if_neg h0, hk]
    exact ⟨D, rfl, rfl⟩
  · rw [if_neg hx]
    by_cases hx2 : x < 2
    · rw [if_pos hx2]
      have hx3 := in2 hx hx2
      rw [if_pos hx3, eF_230_1, Option.bind_some, h.1]
      have key : ∀ s U, s < 2 → x = nI s → K s = some U → ∃ D', ((gR (Y w D) 230 3 0).bind fun a5 => (qI (Y w D) true a5 x).bind fun a6 => (fX6_setTo (Y w D) 4 a6).bind fun M8 => (gI M8 4 6 2).bind fun x9 => some (x9, M8)) = some (U.1, Y w D') ∧ VlD D' 4 U ∧ ∀ a, (a < 4 ∨ 18 ≤ a) → D' a = D a := by
        intro s U hs hxs hU
        obtain ⟨D1, e1, e2, e3⟩ := l_vsetTo (w := w) isVl_4 (sl_v hs) (by omega) (h.2 s hs U hU)
        rw [eF_230_0, Option.bind_some, hxs, sl_q hs, Option.bind_some, e1, Option.bind_some, vl_y isVl_4, Option.bind_some, e2.2.1]
        exact ⟨D1, rfl, e2, e3⟩
      rcases hx3 with rfl | rfl
      · have hk : slotK K 0 = K 0 := by unfold slotK; rw [if_pos rfl]
        rw [hk]
        cases hK : K 0 with
        | none =>
          rw [if_pos (by generalize (K 1).isSome = b; show ((w4 false b false false) >>> ((0 : Int32) &&& 31)) &&& 1 = 0; revert b; decide)]
          exact ⟨D, rfl, rfl⟩
        | some U =>
          rw [if_neg (by generalize (K 1).isSome = b; show ¬ ((w4 true b false false) >>> ((0 : Int32) &&& 31)) &&& 1 = 0; revert b; decide)]
          exact key 0 U (by omega) nI_0.symm hK
      · have hk : slotK K 1 = K 1 := by unfold slotK; rw [if_neg (by decide), if_pos rfl]
        rw [hk]
        cases hK : K 1 with
        | none =>
          rw [if_pos (by generalize (K 0).isSome = b; show ((w4 b false false false) >>> ((1 : Int32) &&& 31)) &&& 1 = 0; revert b; decide)]
          exact ⟨D, rfl, rfl⟩
        | some U =>
          rw [if_neg (by generalize (K 0).isSome = b; show ¬ ((w4 b true false false) >>> ((1 : Int32) &&& 31)) &&& 1 = 0; revert b; decide)]
          exact key 1 U (by omega) (by decide) hK
    · have h0 : ¬ (x = 0 ∨ x = 1) := by rintro (rfl | rfl) <;> exact absurd (by decide) hx2
      have hk : slotK K x = none := by unfold slotK; rw [if_neg (fun q => h0 (Or.inl q)), if_neg (fun q => h0 (Or.inr q))]
      rw [if_neg hx2, if_neg h0, hk]
      exact ⟨D, rfl, rfl⟩
end AC
