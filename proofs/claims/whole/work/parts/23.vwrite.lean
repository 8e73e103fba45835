/-! ===== what writes a valley ===== -/
section VW
variable {w : mW} {D : mD} {v u n m i : Nat} {V U : tV}
theorem l_ssetTo {s q : Nat} {t : tS} (hs : isSt s = true) (hq : isSt q = true) (hne : s + 3 ≤ q ∨ q + 3 ≤ s) (h : StD D q t) : ∃ D', fX4_setTo (Y w D) s q = some (Y w D') ∧ StD D' s t ∧ ∀ a, (a < s ∨ s + 3 ≤ a) → D' a = D a := by
  obtain ⟨h1, h2, h3, h4⟩ := h
  unfold fX4_setTo
  rw [if_pos (st_o hs), st_r hs, Option.bind_some, st_r hq, Option.bind_some]
  obtain ⟨D1, e1, e2, e3⟩ := l_setTo (w := w) (st_rw hs) (st_rw hq) (by omega) h4 h4 h3
  rw [e1, Option.bind_some, st_h hq, Option.bind_some, st_sh hs, Option.bind_some, st_k hq, Option.bind_some, st_sk hs, Option.bind_some]
  refine ⟨_, rfl, ⟨?_, ?_, ?_, h4⟩, fun a ha => ?_⟩
  · rw [ud_n (by omega), ud_s, e3 q (by omega) (by omega), h1]
  · rw [ud_s, ud_r (by omega), e3 q (by omega) (by omega), h2]
  · exact e2.kept (by rw [ud_r (by omega), ud_r (by omega)]) (by rw [ud_r (by omega), ud_r (by omega)])
  · rw [ud_r (by omega), ud_r (by omega), e3 a (by omega) (by omega)]
theorem l_vsetTo_c18 (hv : isVl v = true) (hu : isVl u = true) (hd : v + 14 ≤ u ∨ u + 14 ≤ v) : ∀ (k j fuel : Nat) (D : mD), j + k = U.2.length → k < fuel → VlD D u U → D v 1 = nI U.2.length → (∀ i, i < j → StD D (v + 2 + 3 * i) (U.2.getD i d0)) → ∃ D', fX6_setTo_c18 fuel (Y w D) v u (nI j) = some (Y w D') ∧ (∀ i, i < U.2.length → StD D' (v + 2 + 3 * i) (U.2.getD i d0)) ∧ ∀ a, (a < v + 2 ∨ v + 14 ≤ a) → D' a = D a := by
  intro k
  induction k with
  | zero =>
    intro j fuel D hj hf hU h1 h2
    have q3 := hU.2.2.1
    obtain ⟨f, rfl, hf⟩ := fu hf
    rw [fX6_setTo_c18.eq_2, vl_t hv, Option.bind_some, h1, il_t (by omega) (by omega)]
    exact ⟨D, rfl, fun i hi => h2 i (by omega), fun a _ => rfl⟩
  | succ k ih =>
    intro j fuel D hj hf hU h1 h2
    obtain ⟨q1, q2, q3, q4⟩ := id hU
    obtain ⟨f, rfl, hf⟩ := fu hf
    rw [fX6_setTo_c18.eq_2, vl_t hv, Option.bind_some, h1, il_f (by omega) (by omega), vl_a hv, Option.bind_some, vl_q hv (by omega), Option.bind_some, vl_a hu, Option.bind_some, vl_q hu (by omega), Option.bind_some]
    obtain ⟨D1, e1, e2, e3⟩ := l_ssetTo (w := w) (vl_s hv (i := j) (by omega)) (vl_s hu (i := j) (by omega)) (by omega) (q4 j (by omega))
    rw [e1, Option.bind_some, nI_1]
    obtain ⟨D', g1, g2, g3⟩ := ih (j + 1) f D1 (by omega) (by omega) (hU.kept (fun a ha hb => e3 a (by omega))) (by rw [e3 v (by omega)]; exact h1) (fun i hi => by
      by_cases hij : i = j
      · subst hij; exact e2
      · exact (h2 i (by omega)).kept (fun a ha hb => e3 a (by omega)))
    exact ⟨D', g1, g2, fun a ha => by rw [g3 a ha, e3 a (by omega)]⟩
theorem l_vsetTo (hv : isVl v = true) (hu : isVl u = true) (hd : v + 14 ≤ u ∨ u + 14 ≤ v) (hU : VlD D u U) : ∃ D', fX6_setTo (Y w D) v u = some (Y w D') ∧ VlD D' v U ∧ ∀ a, (a < v ∨ v + 14 ≤ a) → D' a = D a := by
  obtain ⟨q1, q2, q3, q4⟩ := id hU
  unfold fX6_setTo
  rw [if_pos (vl_o hv), vl_t hu, Option.bind_some, vl_st hv, Option.bind_some, vl_y hu, Option.bind_some, vl_sy hv, Option.bind_some, ← nI_0, ud_r (by omega), q1, q2]
  obtain ⟨D', g1, g2, g3⟩ := l_vsetTo_c18 (w := w) hv hu hd U.2.length 0 FUEL (ud (ud D v 1 (nI U.2.length)) v 2 U.1) (by omega) (FU (by omega)) (hU.kept (fun a ha hb => by rw [ud_r (by omega), ud_r (by omega)])) (by rw [ud_n (by omega), ud_s]) (fun i hi => by omega)
  refine ⟨D', g1, ⟨?_, ?_, q3, g2⟩, fun a ha => ?_⟩
  · rw [g3 v (by omega), ud_n (by omega), ud_s]
  · rw [g3 v (by omega), ud_s]
  · rw [g3 a (by omega), ud_r (by omega), ud_r (by omega)]
theorem l_vclear (hv : isVl v = true) : ∃ D', fX6_clear (Y w D) v = some (Y w D') ∧ VlD D' v (0, []) ∧ ∀ a, a ≠ v → D' a = D a := by
  unfold fX6_clear
  rw [if_pos (vl_o hv), vl_st hv, Option.bind_some, vl_sy hv, Option.bind_some]
  refine ⟨_, rfl, ⟨?_, ?_, by simp, fun i hi => by simp at hi⟩, fun a ha => by rw [ud_r ha, ud_r ha]⟩
  · rw [ud_n (by omega), ud_s]; rfl
  · rw [ud_s]
theorem nI_4 : nI 4 = 4 := by decide +kernel
theorem nI_3 : nI 3 = 3 := by decide +kernel
theorem nI_12 : nI 12 = 12 := by decide +kernel
theorem getD_push {ss : List tS} {t : tS} {j : Nat} : (ss ++ [t]).getD j d0 = if j < ss.length then ss.getD j d0 else if j = ss.length then t else d0 := by
  by_cases h : j < ss.length
  · rw [if_pos h, List.getD_eq_getElem?_getD, List.getElem?_append_left h, ← List.getD_eq_getElem?_getD]
  · rw [if_neg h]
    by_cases h2 : j = ss.length
    · subst h2
      simp
    · rw [if_neg h2, List.getD_eq_getElem?_getD, List.getElem?_eq_none (by simp; omega)]
      rfl
theorem l_begin {x y : Int32} (hv : isVl v = true) (h : VlD D v V) (hl : V.2.length < 4) : ∃ D', fX6_begin (Y w D) v x y = some (Y w D') ∧ VlD D' v (V.1, V.2 ++ [(x, y, [])]) ∧ ∀ a, (a < v ∨ v + 14 ≤ a) → D' a = D a := by
  obtain ⟨q1, q2, q3, q4⟩ := id h
  have hs := vl_s hv (i := V.2.length) hl
  unfold fX6_begin
  rw [if_pos (vl_o hv), vl_t hv, Option.bind_some, q1, ← nI_4, il_f (by omega) (by omega), vl_a hv, Option.bind_some, Option.bind_some, vl_q hv hl, Option.bind_some, st_sh hs, Option.bind_some, vl_a hv, Option.bind_some, vl_t hv, Option.bind_some, ud_r (by omega), q1, vl_q hv hl, Option.bind_some, st_sk hs, Option.bind_some, vl_a hv, Option.bind_some, vl_t hv, Option.bind_some, ud_r (by omega), ud_r (by omega), q1, vl_q hv hl, Option.bind_some, st_r hs, Option.bind_some]
  obtain ⟨D1, e1, e2, e3⟩ := l_clear (w := w) (D := ud (ud D (v + 2 + 3 * V.2.length) 1 x) (v + 2 + 3 * V.2.length) 2 y) (st_rw hs)
  rw [e1, Option.bind_some, vl_t hv, Option.bind_some, vl_st hv, Option.bind_some, e3 v (by omega), ud_r (by omega), ud_r (by omega), q1, nI_1]
  refine ⟨_, rfl, ⟨?_, ?_, by simp; omega, fun j hj => ?_⟩, fun a ha => ?_⟩
  · rw [ud_s]; simp
  · rw [ud_n (by omega), e3 v (by omega), ud_r (by omega), ud_r (by omega), q2]
  · have hj' : j < V.2.length + 1 := by simpa using hj
    rw [getD_push]
    by_cases hj2 : j < V.2.length
    · rw [if_pos hj2]
      exact (q4 j hj2).kept (fun a ha hb => by rw [ud_r (by omega), e3 a (by omega), ud_r (by omega), ud_r (by omega)])
    · have hj3 : j = V.2.length := by omega
      subst hj3
      rw [if_neg hj2, if_pos rfl]
      refine ⟨?_, ?_, ?_, by simp⟩
      · rw [ud_r (by omega), e3 _ (by omega), ud_n (by omega), ud_s]
      · rw [ud_r (by omega), e3 _ (by omega), ud_s]
      · exact e2.kept (by rw [ud_r (by omega)]) (by rw [ud_r (by omega)])
  · rw [ud_r (by omega), e3 a (by omega), ud_r (by omega), ud_r (by omega)]
theorem l_bendLast {x : Int32} (hv : isVl v = true) (h : VlD D v V) (hl : 0 < V.2.length) (h12 : (V.2.getD (V.2.length - 1) d0).2.2.length < 12) : ∃ D', fX6_bendLast (Y w D) v x = some (Y w D') ∧ VlD D' v (V.1, V.2.set (V.2.length - 1) ((V.2.getD (V.2.length - 1) d0).1, (V.2.getD (V.2.length - 1) d0).2.1, (V.2.getD (V.2.length - 1) d0).2.2 ++ [x])) ∧ ∀ a, (a < v ∨ v + 14 ≤ a) → D' a = D a := by
  obtain ⟨q1, q2, q3, q4⟩ := id h
  obtain ⟨c, hc⟩ : ∃ c, V.2.length = c + 1 := ⟨V.2.length - 1, by omega⟩
  have hc1 : V.2.length - 1 = c := by omega
  rw [hc1] at h12 ⊢
  have hs := vl_s hv (i := c) (by omega)
  obtain ⟨s1, s2, s3, s4⟩ := q4 c (by omega)
  unfold fX6_bendLast
  rw [if_pos (vl_o hv), vl_t hv, Option.bind_some, q1, if_neg (nI_nle (by omega) (by omega)), vl_a hv, Option.bind_some, Option.bind_some, hc, nI_pred, vl_q hv (by omega), Option.bind_some, st_r hs, Option.bind_some]
  obtain ⟨D1, e1, e2, e3⟩ := l_add (w := w) (x := x) (st_rw hs) s3 h12
  rw [e1, Option.bind_some]
  refine ⟨D1, rfl, h.upd (by omega) (fun a ha => e3 a (by omega) (by omega)) ⟨by rw [e3 _ (by omega) (by omega), s1], by rw [e3 _ (by omega) (by omega), s2], e2, by show (_ ++ [x] : List Int32).length ≤ 12; rw [List.length_append, List.length_singleton]; omega⟩, fun a ha => e3 a (by omega) (by omega)⟩
/-- loseFirst, loseLast of a strand -/
theorem l_vlose (hv : isVl v = true) (h : VlD D v V) (hi : i < V.2.length) : ∃ D', fX2_loseFirst (Y w D) (v + 2 + 3 * i + 1) = some (Y w D') ∧ VlD D' v (V.1, V.2.set i ((V.2.getD i d0).1, (V.2.getD i d0).2.1, (V.2.getD i d0).2.2.tail)) ∧ (D' (v + 2 + 3 * i) = D (v + 2 + 3 * i)) ∧ ∀ a, (a < v + 2 + 3 * i ∨ v + 2 + 3 * i + 3 ≤ a) → D' a = D a := by
  obtain ⟨q1, q2, q3, q4⟩ := id h
  have hs := vl_s hv (i := i) (by omega)
  obtain ⟨s1, s2, s3, s4⟩ := q4 i hi
  obtain ⟨D1, e1, e2, e3⟩ := l_loseFirst (w := w) (st_rw hs) s3 s4
  refine ⟨D1, e1, h.upd hi (fun a ha => e3 a (by omega) (by omega)) ⟨by rw [e3 _ (by omega) (by omega), s1], by rw [e3 _ (by omega) (by omega), s2], e2, by show (List.tail _).length ≤ 12; rw [List.length_tail]; omega⟩, e3 _ (by omega) (by omega), fun a ha => e3 a (by omega) (by omega)⟩
theorem l_vlast (hv : isVl v = true) (h : VlD D v V) (hi : i < V.2.length) : ∃ D', fX2_loseLast (Y w D) (v + 2 + 3 * i + 1) = some (Y w D') ∧ VlD D' v (V.1, V.2.set i ((V.2.getD i d0).1, (V.2.getD i d0).2.1, (V.2.getD i d0).2.2.dropLast)) ∧ (∀ a, a ≠ v + 2 + 3 * i + 1 → D' a = D a) := by
  obtain ⟨q1, q2, q3, q4⟩ := id h
  have hs := vl_s hv (i := i) (by omega)
  obtain ⟨s1, s2, s3, s4⟩ := q4 i hi
  obtain ⟨D1, e1, e2, e3⟩ := l_loseLast (w := w) (st_rw hs) s3 s4
  refine ⟨D1, e1, h.upd hi (fun a ha => e3 a (by omega)) ⟨by rw [e3 _ (by omega), s1], by rw [e3 _ (by omega), s2], e2, by show (List.dropLast _).length ≤ 12; rw [List.length_dropLast]; omega⟩, fun a ha => e3 a ha⟩
def floodF (i : Nat) (h : Int32) : Nat → Nat → List tS → List tS
  | _, 0, ss => ss
  | j, k + 1, ss => floodF i h (j + 1) k (if j ≠ i ∧ (ss.getD j d0).1 = h then ss.set j ((ss.getD j d0).1, (ss.getD j d0).2.1, (ss.getD j d0).2.2.tail) else ss)
theorem l_flood_c2 (hv : isVl v = true) : ∀ (k j fuel : Nat) (D : mD) (V : tV), j + k = V.2.length → i < V.2.length → k < fuel → VlD D v V → ∃ D', fX6_floodFrom_c2 fuel (Y w D) v (nI i) (nI j) = some (Y w D') ∧ VlD D' v (V.1, floodF i (V.2.getD i d0).1 j k V.2) ∧ ∀ a, (a < v ∨ v + 14 ≤ a) → D' a = D a := by
  intro k
  induction k with
  | zero =>
    intro j fuel D V hj hi hf h
    obtain ⟨q1, q2, q3, q4⟩ := id h
    obtain ⟨f, rfl, hf⟩ := fu hf
    rw [fX6_floodFrom_c2.eq_2, vl_t hv, Option.bind_some, q1, il_t (by omega) (by omega)]
    exact ⟨D, rfl, h, fun a _ => rfl⟩
  | succ k ih =>
    intro j fuel D V hj hi hf h
    obtain ⟨q1, q2, q3, q4⟩ := id h
    obtain ⟨f, rfl, hf⟩ := fu hf
    have hs := vl_s hv (i := j) (by omega)
    have hs2 := vl_s hv (i := i) (by omega)
    rw [fX6_floodFrom_c2.eq_2, vl_t hv, Option.bind_some, q1, il_f (by omega) (by omega), nI_1]
    by_cases hji : j = i
    · subst hji
      rw [if_pos rfl]
      obtain ⟨D', g1, g2, g3⟩ := ih (j + 1) f D V (by omega) hi (by omega) h
      refine ⟨D', g1, ?_, g3⟩
      rw [floodF, if_neg (fun q => q.1 rfl)]
      exact g2
    · rw [if_neg (fun q => hji ((nI_eq (by omega) (by omega)).mp q)), vl_a hv, Option.bind_some, vl_q hv (by omega), Option.bind_some, st_h hs, Option.bind_some, Option.bind_some, vl_q hv (by omega), Option.bind_some, st_h hs2, Option.bind_some, (q4 j (by omega)).1, (q4 i hi).1]
      by_cases hh : (V.2.getD j d0).1 = (V.2.getD i d0).1
      · rw [if_pos hh, Option.bind_some, vl_q hv (by omega), Option.bind_some, st_r hs, Option.bind_some]
        obtain ⟨D1, e1, e2, e2b, e3⟩ := l_vlose (w := w) hv h (i := j) (by omega)
        rw [e1, Option.bind_some]
        obtain ⟨D', g1, g2, g3⟩ := ih (j + 1) f D1 (V.1, V.2.set j ((V.2.getD j d0).1, (V.2.getD j d0).2.1, (V.2.getD j d0).2.2.tail)) (by simp; omega) (by simpa using hi) (by omega) e2
        refine ⟨D', g1, ?_, fun a ha => by rw [g3 a ha, e3 a (by omega)]⟩
        rw [floodF, if_pos ⟨hji, hh⟩]
        have e : ((V.2.set j ((V.2.getD j d0).1, (V.2.getD j d0).2.1, (V.2.getD j d0).2.2.tail)).getD i d0) = V.2.getD i d0 := by
          rw [getD_set (by omega), if_neg (by omega)]
        dsimp only at g2
        rw [e] at g2
        exact g2
      · rw [if_neg hh]
        obtain ⟨D', g1, g2, g3⟩ := ih (j + 1) f D V (by omega) hi (by omega) h
        refine ⟨D', g1, ?_, g3⟩
        rw [floodF, if_neg (fun q => hh q.2)]
        exact g2
theorem floodF_get {i : Nat} {h : Int32} : ∀ (k j : Nat) (ss : List tS), j + k = ss.length → (floodF i h j k ss).length = ss.length ∧ ∀ q, (floodF i h j k ss).getD q d0 = if j ≤ q ∧ q < ss.length then fl1 i h q (ss.getD q d0) else ss.getD q d0 := by
  intro k
  induction k with
  | zero => intro j ss hj; exact ⟨rfl, fun q => by rw [if_neg (by omega)]; rfl⟩
  | succ k ih =>
    intro j ss hj
    rw [floodF]
    generalize hs2 : (if j ≠ i ∧ (ss.getD j d0).1 = h then ss.set j ((ss.getD j d0).1, (ss.getD j d0).2.1, (ss.getD j d0).2.2.tail) else ss) = ss2
    have hlen : ss2.length = ss.length := by rw [← hs2]; split <;> simp
    have hget : ∀ q, ss2.getD q d0 = if q = j then fl1 i h j (ss.getD j d0) else ss.getD q d0 := by
      intro q
      rw [← hs2]
      unfold fl1
      split
      · rw [getD_set (by omega)]
      · by_cases hq : q = j
        · subst hq; rw [if_pos rfl]
        · rw [if_neg hq]
    obtain ⟨a1, a2⟩ := ih (j + 1) ss2 (by omega)
    refine ⟨by rw [a1, hlen], fun q => ?_⟩
    rw [a2 q, hlen, hget q]
    by_cases h1 : q = j
    · subst h1
      rw [if_neg (by omega), if_pos rfl, if_pos (by omega)]
    · rw [if_neg h1]
      by_cases h2 : j + 1 ≤ q ∧ q < ss.length
      · rw [if_pos h2, if_pos (by omega)]
      · rw [if_neg h2, if_neg (by omega)]
theorem ext_getD {a b : List tS} (hl : a.length = b.length) (h : ∀ q, q < a.length → a.getD q d0 = b.getD q d0) : a = b := by
  apply List.ext_getElem hl
  intro q h1 h2
  have := h q h1
  simpa [h1, h2] using this
theorem floodF_eq (ss : List tS) (i : Nat) : floodF i (ss.getD i d0).1 0 ss.length ss = flood ss i := by
  obtain ⟨a1, a2⟩ := floodF_get (i := i) (h := (ss.getD i d0).1) ss.length 0 ss (by omega)
  apply ext_getD
  · rw [a1]; simp [flood]
  · intro q hq
    rw [a1] at hq
    rw [a2 q, if_pos ⟨Nat.zero_le q, hq⟩]
    unfold flood
    simp [hq]
theorem l_flood (hv : isVl v = true) (h : VlD D v V) (hi : i < V.2.length) : ∃ D', fX6_floodFrom (Y w D) v (nI i) = some (Y w D') ∧ VlD D' v (V.1, flood V.2 i) ∧ ∀ a, (a < v ∨ v + 14 ≤ a) → D' a = D a := by
  have q3 := h.2.2.1
  unfold fX6_floodFrom
  rw [if_pos (vl_o hv), ← nI_0, ← floodF_eq]
  exact l_flood_c2 hv V.2.length 0 FUEL D V (by omega) hi (FU (by omega)) h
end VW
