/-! ===== winters, and the other doings ===== -/
def w4 (b0 b1 b2 b3 : Bool) : Int32 := nI (b0.toNat + 2 * b1.toNat + 4 * b2.toNat + 8 * b3.toNat)
def pop (ss : List tS) : Nat := (there ss 0).toNat + (there ss 1).toNat + (there ss 2).toNat + (there ss 3).toNat
theorem there_out {ss : List tS} {j : Nat} (h : ss.length ≤ j) : there ss j = false := by
  cases hb : there ss j with
  | false => rfl
  | true => exact absurd (there_lt hb) (by omega)
theorem who_w4 {ss : List tS} (h : ss.length ≤ 4) : who ss = w4 (there ss 0) (there ss 1) (there ss 2) (there ss 3) := by
  unfold who
  rcases (show ss.length = 0 ∨ ss.length = 1 ∨ ss.length = 2 ∨ ss.length = 3 ∨ ss.length = 4 by omega) with h | h | h | h | h
  · rw [h, there_out (j := 0) (by omega), there_out (j := 1) (by omega), there_out (j := 2) (by omega), there_out (j := 3) (by omega)]
    simp only [whoF]
    decide
  · rw [h, there_out (j := 1) (by omega), there_out (j := 2) (by omega), there_out (j := 3) (by omega)]
    simp only [whoF]
    cases there ss 0 <;> decide
  · rw [h, there_out (j := 2) (by omega), there_out (j := 3) (by omega)]
    simp only [whoF]
    cases there ss 0 <;> cases there ss 1 <;> decide
  · rw [h, there_out (j := 3) (by omega)]
    simp only [whoF]
    cases there ss 0 <;> cases there ss 1 <;> cases there ss 2 <;> decide
  · rw [h]
    simp only [whoF]
    cases there ss 0 <;> cases there ss 1 <;> cases there ss 2 <;> cases there ss 3 <;> decide
theorem bc_w4 (M : mM) : ∀ b0 b1 b2 b3 : Bool, fJ6_bitCount_0f7a4 M (w4 b0 b1 b2 b3) = some (nI (b0.toNat + b1.toNat + b2.toNat + b3.toNat)) := by
  unfold fJ6_bitCount_0f7a4
  decide +kernel
theorem l_bc {M : mM} {ss : List tS} (h : ss.length ≤ 4) : fJ6_bitCount_0f7a4 M (who ss) = some (nI (pop ss)) := by
  rw [who_w4 h, bc_w4]
  rfl
theorem cntF_le (ss : List tS) (h : Int32) : ∀ (k j a : Nat), cntF ss h j k a ≤ a + k
  | 0, _, _ => Nat.le_refl _
  | k + 1, j, a => by
    rw [cntF]
    by_cases hc : there ss j = true ∧ (ss.getD j d0).1 = h
    · rw [if_pos hc]
      have := cntF_le ss h k (j + 1) (a + 1)
      omega
    · rw [if_neg hc]
      have := cntF_le ss h k (j + 1) a
      omega
theorem cnt_lt {ss : List tS} {h : Int32} (hl : ss.length ≤ 4) : cnt ss h < 2 ^ 31 := by
  have := cntF_le ss h ss.length 0 0
  unfold cnt
  omega
section WI
variable {w : mW} {D : mD} {v u n m i : Nat} {V U : tV}
theorem getD_self {ss : List tS} (hi : i < ss.length) {t : tS} : (ss.set i t).getD i d0 = t := by rw [getD_set hi, if_pos rfl]
theorem l_winterOf (hv : isVl v = true) (h : VlD D v V) (hi : i < V.2.length) : ∃ D', fX6_winterOf (Y w D) v (nI i) = some (Y w D') ∧ VlD D' v (V.1, winOf V.2 i) ∧ ∀ a, (a < v ∨ v + 14 ≤ a) → D' a = D a := by
  obtain ⟨q1, q2, q3, q4⟩ := id h
  have hs := vl_s hv (i := i) (by omega)
  obtain ⟨s1, s2, s3, s4⟩ := q4 i hi
  unfold fX6_winterOf
  rw [if_pos (vl_o hv), vl_a hv, Option.bind_some, vl_q hv (by omega), Option.bind_some, st_k hs, Option.bind_some, s2]
  by_cases k3 : (V.2.getD i d0).2.1 = 3
  · rw [if_pos k3]
    obtain ⟨D', g1, g2, g3⟩ := l_flood (w := w) hv h hi
    rw [g1, Option.bind_some]
    refine ⟨D', rfl, ?_, g3⟩
    unfold winOf
    rw [if_pos k3]
    exact g2
  · rw [if_neg k3, Option.bind_some, Option.bind_some, st_h hs, Option.bind_some, s1, l_cnt hv h, Option.bind_some]
    have hlast : ∃ D1, fX2_loseLast (Y w D) (v + 2 + 3 * i + 1) = some (Y w D1) ∧ VlD D1 v (V.1, V.2.set i ((V.2.getD i d0).1, (V.2.getD i d0).2.1, (V.2.getD i d0).2.2.dropLast)) ∧ (∀ a, a ≠ v + 2 + 3 * i + 1 → D1 a = D a) := l_vlast hv h hi
    obtain ⟨D1, e1, e2, e3⟩ := hlast
    have hfirst := l_vlose (w := w) hv e2 (i := i) (by simpa using hi)
    obtain ⟨D2, f1, f2, f2b, f3⟩ := hfirst
    dsimp only at f2
    rw [getD_self hi, List.set_set] at f2
    rw [st_r hs, Option.bind_some, e1, Option.bind_some, st_k hs, Option.bind_some, e3 _ (by omega), s2, st_r hs, Option.bind_some, f1, Option.bind_some]
    by_cases hc : cnt V.2 (V.2.getD i d0).1 < 3
    · have hn : ¬ (((V.2.getD i d0).2.1 = 0 ∨ (V.2.getD i d0).2.1 = 1) ∧ 3 ≤ cnt V.2 (V.2.getD i d0).1) := fun q => by omega
      have hc' : nI (cnt V.2 (V.2.getD i d0).1) < 3 := by rw [← nI_3]; exact nI_lt hc (by omega)
      have e : winOf V.2 i = V.2 := by unfold winOf; rw [if_neg k3, if_neg hn]
      rw [e, if_pos hc']
      refine ⟨D, ?_, h, fun a _ => rfl⟩
      by_cases k0 : (V.2.getD i d0).2.1 = 0
      · rw [if_pos k0]
      · rw [if_neg k0]
        by_cases k1 : (V.2.getD i d0).2.1 = 1
        · rw [if_pos k1]
        · rw [if_neg k1]
    · have hc' : ¬ nI (cnt V.2 (V.2.getD i d0).1) < 3 := by
        rw [← nI_3]
        exact nI_nlt (by omega) (cnt_lt q3)
      rw [if_neg hc']
      by_cases k0 : (V.2.getD i d0).2.1 = 0
      · have e : winOf V.2 i = V.2.set i ((V.2.getD i d0).1, (V.2.getD i d0).2.1, (V.2.getD i d0).2.2.dropLast) := by
          unfold winOf
          rw [if_neg k3, if_pos ⟨Or.inl k0, by omega⟩, if_neg (by rw [k0]; decide)]
        rw [if_pos k0, if_neg (by rw [k0]; decide), e]
        exact ⟨D1, rfl, e2, fun a ha => e3 a (by omega)⟩
      · rw [if_neg k0]
        by_cases k1 : (V.2.getD i d0).2.1 = 1
        · have e : winOf V.2 i = V.2.set i ((V.2.getD i d0).1, (V.2.getD i d0).2.1, (V.2.getD i d0).2.2.dropLast.tail) := by
            unfold winOf
            rw [if_neg k3, if_pos ⟨Or.inr k1, by omega⟩, if_pos k1]
          rw [if_pos k1, if_pos k1, e]
          exact ⟨D2, rfl, f2, fun a ha => by rw [f3 a (by omega), e3 a (by omega)]⟩
        · have e : winOf V.2 i = V.2 := by
            unfold winOf
            rw [if_neg k3, if_neg (fun q => by rcases q.1 with q | q; exact k0 q; exact k1 q)]
          rw [if_neg k1, e]
          exact ⟨D, rfl, h, fun a _ => rfl⟩
theorem l_passWinter_c10 (hv : isVl v = true) {x : Int32} : ∀ (k j fuel : Nat) (D : mD) (V : tV), j + k = V.2.length → k < fuel → VlD D v V → ∃ D', fX6_passWinter_c10 fuel (Y w D) v x (nI j) = some (x - nI (pop (winF j k V.2)), Y w D') ∧ VlD D' v (V.1 + 1, winF j k V.2) ∧ ∀ a, (a < v ∨ v + 14 ≤ a) → D' a = D a := by
  intro k
  induction k with
  | zero =>
    intro j fuel D V hj hf h
    obtain ⟨q1, q2, q3, q4⟩ := id h
    obtain ⟨f, rfl, hf⟩ := fu hf
    rw [fX6_passWinter_c10.eq_2, vl_t hv, Option.bind_some, q1, il_t (by omega) (by omega), vl_y hv, Option.bind_some, vl_sy hv, Option.bind_some, q2]
    have h2 : VlD (ud D v 2 (V.1 + 1)) v (V.1 + 1, V.2) := ⟨by rw [ud_n (by omega)]; exact q1, by rw [ud_s], q3, fun i hi => (q4 i hi).kept (fun a ha hb => ud_r (by omega))⟩
    rw [l_who hv h2, Option.bind_some, l_bc q3, Option.bind_some]
    exact ⟨_, rfl, h2, fun a ha => ud_r (by omega)⟩
  | succ k ih =>
    intro j fuel D V hj hf h
    obtain ⟨q1, q2, q3, q4⟩ := id h
    obtain ⟨f, rfl, hf⟩ := fu hf
    rw [fX6_passWinter_c10.eq_2, vl_t hv, Option.bind_some, q1, il_f (by omega) (by omega), l_has hv h, Option.bind_some, hasI_nI (by omega), nI_1]
    cases hb : there V.2 j with
    | false =>
      rw [if_pos (by rfl)]
      obtain ⟨D', g1, g2, g3⟩ := ih (j + 1) f D V (by omega) (by omega) h
      refine ⟨D', ?_, ?_, g3⟩
      · rw [g1, winF, hb]; rfl
      · rw [winF, hb]; exact g2
    | true =>
      rw [if_neg (by decide)]
      obtain ⟨D1, e1, e2, e3⟩ := l_winterOf (w := w) hv h (i := j) (by omega)
      rw [e1, Option.bind_some]
      obtain ⟨D', g1, g2, g3⟩ := ih (j + 1) f D1 (V.1, winOf V.2 j) (by dsimp only; rw [winOf_len]; omega) (by omega) e2
      refine ⟨D', ?_, ?_, fun a ha => by rw [g3 a ha, e3 a ha]⟩
      · rw [g1, winF, hb]; rfl
      · rw [winF, hb]; exact g2
theorem l_passWinter (hv : isVl v = true) (h : VlD D v V) : ∃ D', fX6_passWinter (Y w D) v = some (nI (pop V.2) - nI (pop (win V.2)), Y w D') ∧ VlD D' v (V.1 + 1, win V.2) ∧ ∀ a, (a < v ∨ v + 14 ≤ a) → D' a = D a := by
  have q3 := h.2.2.1
  unfold fX6_passWinter
  rw [if_pos (vl_o hv), l_who hv h, Option.bind_some, l_bc q3, Option.bind_some, ← nI_0]
  exact l_passWinter_c10 hv V.2.length 0 FUEL D V (by omega) (FU (by omega)) h
/-! hung, turned, snipped, joined: answers and what is made of it -/
def hgA (ss : List tS) (x h : Int32) : Int32 × List tS :=
  if hasI ss x = false ∨ h < 0 ∨ ¬ h < 4 then (-1, ss)
  else if (ss.getD x.toNatClampNeg d0).1 = h then (-3, ss)
  else (nI (cnt (ss.set x.toNatClampNeg (h, (ss.getD x.toNatClampNeg d0).2.1, (ss.getD x.toNatClampNeg d0).2.2)) h), ss.set x.toNatClampNeg (h, (ss.getD x.toNatClampNeg d0).2.1, (ss.getD x.toNatClampNeg d0).2.2))
theorem b2i_f {b : Bool} (h : b = false) : b2i b = 0 := by rw [h]; rfl
theorem b2i_t {b : Bool} (h : b = true) : ¬ b2i b = 0 := by rw [h]; decide
theorem l_hangIn {x y : Int32} (hv : isVl v = true) (h : VlD D v V) : ∃ D', fX6_hangIn (Y w D) v x y = some ((hgA V.2 x y).1, Y w D') ∧ VlD D' v (V.1, (hgA V.2 x y).2) ∧ ∀ a, (a < v ∨ v + 14 ≤ a) → D' a = D a := by
  obtain ⟨q1, q2, q3, q4⟩ := id h
  unfold fX6_hangIn
  rw [if_pos (vl_o hv), l_has hv h, Option.bind_some]
  cases hb : hasI V.2 x with
  | false =>
    have e : hgA V.2 x y = (-1, V.2) := by unfold hgA; rw [if_pos (Or.inl hb)]
    rw [if_pos (by rfl), e]
    exact ⟨D, rfl, h, fun a _ => rfl⟩
  | true =>
    obtain ⟨i, hi, rfl, ht⟩ := hasI_spec hb
    have hs := vl_s hv (i := i) (by omega)
    obtain ⟨s1, s2, s3, s4⟩ := q4 i hi
    rw [if_neg (by decide)]
    by_cases hy : y < 0
    · have e : hgA V.2 (nI i) y = (-1, V.2) := by unfold hgA; rw [if_pos (Or.inr (Or.inl hy))]
      rw [if_pos hy, e]
      exact ⟨D, rfl, h, fun a _ => rfl⟩
    · rw [if_neg hy]
      by_cases hy4 : y < 4
      · rw [if_pos hy4, vl_a hv, Option.bind_some, vl_q hv (by omega), Option.bind_some, st_h hs, Option.bind_some, s1]
        have hno : ¬ (hasI V.2 (nI i) = false ∨ y < 0 ∨ ¬ y < 4) := by
          rintro (q | q | q)
          · rw [hb] at q; cases q
          · exact hy q
          · exact q hy4
        by_cases he : (V.2.getD i d0).1 = y
        · have e : hgA V.2 (nI i) y = (-3, V.2) := by unfold hgA; rw [if_neg hno, nI_clamp (by omega), if_pos he]
          rw [if_pos he, e]
          exact ⟨D, rfl, h, fun a _ => rfl⟩
        · rw [if_neg he, Option.bind_some, vl_q hv (by omega), Option.bind_some, st_sh hs, Option.bind_some]
          have h2 : VlD (ud D (v + 2 + 3 * i) 1 y) v (V.1, V.2.set i (y, (V.2.getD i d0).2.1, (V.2.getD i d0).2.2)) := h.upd hi (fun a ha => ud_r (by omega)) ⟨by rw [ud_s], by rw [ud_n (by omega)]; exact s2, s3.kept (ud_r (by omega)) (ud_r (by omega)), s4⟩
          rw [l_cnt hv h2, Option.bind_some]
          have e : hgA V.2 (nI i) y = (nI (cnt (V.2.set i (y, (V.2.getD i d0).2.1, (V.2.getD i d0).2.2)) y), V.2.set i (y, (V.2.getD i d0).2.1, (V.2.getD i d0).2.2)) := by unfold hgA; rw [if_neg hno, nI_clamp (by omega), if_neg he]
          rw [e]
          exact ⟨_, rfl, h2, fun a ha => ud_r (by omega)⟩
      · have e : hgA V.2 (nI i) y = (-1, V.2) := by unfold hgA; rw [if_pos (Or.inr (Or.inr hy4))]
        rw [if_neg hy4, e]
        exact ⟨D, rfl, h, fun a _ => rfl⟩
def tnA (ss : List tS) (x : Int32) : Int32 × List tS :=
  if hasI ss x = false then (-1, ss)
  else ((ss.getD x.toNatClampNeg d0).2.2.reverse.getD 0 0, ss.set x.toNatClampNeg ((ss.getD x.toNatClampNeg d0).1, (ss.getD x.toNatClampNeg d0).2.1, (ss.getD x.toNatClampNeg d0).2.2.reverse))
theorem l_turnAbout {x : Int32} (hv : isVl v = true) (h : VlD D v V) : ∃ D', fX6_turnAbout (Y w D) v x = some ((tnA V.2 x).1, Y w D') ∧ VlD D' v (V.1, (tnA V.2 x).2) ∧ ∀ a, (a < v ∨ v + 14 ≤ a) → D' a = D a := by
  obtain ⟨q1, q2, q3, q4⟩ := id h
  unfold fX6_turnAbout
  rw [if_pos (vl_o hv), l_has hv h, Option.bind_some]
  cases hb : hasI V.2 x with
  | false =>
    have e : tnA V.2 x = (-1, V.2) := by unfold tnA; rw [if_pos hb]
    rw [if_pos (by rfl), e]
    exact ⟨D, rfl, h, fun a _ => rfl⟩
  | true =>
    obtain ⟨i, hi, rfl, ht⟩ := hasI_spec hb
    have hs := vl_s hv (i := i) (by omega)
    obtain ⟨s1, s2, s3, s4⟩ := q4 i hi
    have hne := there_ne.mp ht
    rw [if_neg (by decide), vl_a hv, Option.bind_some, vl_q hv (by omega), Option.bind_some, st_r hs, Option.bind_some]
    obtain ⟨D1, e1, e2, e3⟩ := l_reverse (w := w) (st_rw hs) s3 s4
    rw [e1, Option.bind_some, vl_a hv, Option.bind_some, vl_q hv (by omega), Option.bind_some, st_r hs, Option.bind_some, rw_ar (st_rw hs), Option.bind_some, ← nI_0, rw_at (st_rw hs) (by omega), Option.bind_some, e2.2 0 (by simpa using Nat.pos_of_ne_zero hne)]
    have e : tnA V.2 (nI i) = ((V.2.getD i d0).2.2.reverse.getD 0 0, V.2.set i ((V.2.getD i d0).1, (V.2.getD i d0).2.1, (V.2.getD i d0).2.2.reverse)) := by unfold tnA; rw [if_neg (by rw [hb]; decide), nI_clamp (by omega)]
    rw [e]
    exact ⟨D1, rfl, h.upd hi (fun a ha => e3 a (by omega)) ⟨by rw [e3 _ (by omega), s1], by rw [e3 _ (by omega), s2], e2, by show (List.reverse _).length ≤ 12; rw [List.length_reverse]; exact s4⟩, fun a ha => e3 a (by omega)⟩
def snA (ss : List tS) (x : Int32) : Int32 × List tS :=
  if hasI ss x = false then (-1, ss)
  else if (ss.getD x.toNatClampNeg d0).2.2.length < 2 then (-3, ss)
  else ((ss.getD x.toNatClampNeg d0).2.2.getD ((ss.getD x.toNatClampNeg d0).2.2.length - 1) 0, ss.set x.toNatClampNeg ((ss.getD x.toNatClampNeg d0).1, (ss.getD x.toNatClampNeg d0).2.1, (ss.getD x.toNatClampNeg d0).2.2.dropLast))
theorem l_snipEnd {x : Int32} (hv : isVl v = true) (h : VlD D v V) : ∃ D', fX6_snipEnd (Y w D) v x = some ((snA V.2 x).1, Y w D') ∧ VlD D' v (V.1, (snA V.2 x).2) ∧ ∀ a, (a < v ∨ v + 14 ≤ a) → D' a = D a := by
  obtain ⟨q1, q2, q3, q4⟩ := id h
  unfold fX6_snipEnd
  rw [if_pos (vl_o hv), l_has hv h, Option.bind_some]
  cases hb : hasI V.2 x with
  | false =>
    have e : snA V.2 x = (-1, V.2) := by unfold snA; rw [if_pos hb]
    rw [if_pos (by rfl), e]
    exact ⟨D, rfl, h, fun a _ => rfl⟩
  | true =>
    obtain ⟨i, hi, rfl, ht⟩ := hasI_spec hb
    have hs := vl_s hv (i := i) (by omega)
    obtain ⟨s1, s2, s3, s4⟩ := q4 i hi
    rw [if_neg (by decide), vl_a hv, Option.bind_some, vl_q hv (by omega), Option.bind_some, st_r hs, Option.bind_some, rw_sz (st_rw hs), Option.bind_some, s3.1, ← nI_2]
    by_cases h2 : (V.2.getD i d0).2.2.length < 2
    · rw [il_f (by omega) (by omega)]
      have e : snA V.2 (nI i) = (-3, V.2) := by unfold snA; rw [if_neg (by rw [hb]; decide), nI_clamp (by omega), if_pos h2]
      rw [e]
      exact ⟨D, rfl, h, fun a _ => rfl⟩
    · rw [il_t (by omega) (by omega)]
      obtain ⟨D1, e1, e2, e3⟩ := l_vlast (w := w) hv h hi
      have e4 := (e2.2.2.2 i (by simpa using hi)).2.2.1.1
      dsimp only at e4
      rw [getD_self hi, List.length_dropLast] at e4
      rw [e1, Option.bind_some, rw_ar (st_rw hs), Option.bind_some, rw_sz (st_rw hs), Option.bind_some, e4, rw_at (st_rw hs) (by omega), Option.bind_some, e3 _ (by omega), s3.2 _ (by omega)]
      have e : snA V.2 (nI i) = ((V.2.getD i d0).2.2.getD ((V.2.getD i d0).2.2.length - 1) 0, V.2.set i ((V.2.getD i d0).1, (V.2.getD i d0).2.1, (V.2.getD i d0).2.2.dropLast)) := by unfold snA; rw [if_neg (by rw [hb]; decide), nI_clamp (by omega), if_neg h2]
      rw [e]
      exact ⟨D1, rfl, e2, fun a ha => e3 a (by omega)⟩
def jnA (ss : List tS) (x y : Int32) : Int32 × List tS :=
  if hasI ss x = false ∨ hasI ss y = false then (-1, ss)
  else if x = y then (-2, ss)
  else if ¬ (ss.getD x.toNatClampNeg d0).1 = (ss.getD y.toNatClampNeg d0).1 then (-3, ss)
  else if 12 < (joinL (ss.getD x.toNatClampNeg d0).2.2 (ss.getD y.toNatClampNeg d0).2.2).length then (-4, ss)
  else (nI (joinL (ss.getD x.toNatClampNeg d0).2.2 (ss.getD y.toNatClampNeg d0).2.2).length, (ss.set x.toNatClampNeg ((ss.getD x.toNatClampNeg d0).1, (ss.getD x.toNatClampNeg d0).2.1, joinL (ss.getD x.toNatClampNeg d0).2.2 (ss.getD y.toNatClampNeg d0).2.2)).set y.toNatClampNeg ((ss.getD y.toNatClampNeg d0).1, (ss.getD y.toNatClampNeg d0).2.1, []))
theorem joinL_len (xs ys : List Int32) : (joinL xs ys).length = xs.length + ys.length - ovl xs ys := by
  have := ovl_le xs ys
  simp only [joinL, List.length_append, List.length_drop]
  omega
theorem l_joinTo {x y : Int32} (hv : isVl v = true) (h : VlD D v V) : ∃ D', fX6_joinTo (Y w D) v x y = some ((jnA V.2 x y).1, Y w D') ∧ VlD D' v (V.1, (jnA V.2 x y).2) ∧ ∀ a, (a < v ∨ v + 14 ≤ a) → D' a = D a := by
  obtain ⟨q1, q2, q3, q4⟩ := id h
  unfold fX6_joinTo
  rw [if_pos (vl_o hv), l_has hv h, Option.bind_some]
  cases hb : hasI V.2 x with
  | false =>
    have e : jnA V.2 x y = (-1, V.2) := by unfold jnA; rw [if_pos (Or.inl hb)]
    rw [if_pos (by rfl), e]
    exact ⟨D, rfl, h, fun a _ => rfl⟩
  | true =>
    rw [if_neg (by decide), l_has hv h, Option.bind_some]
    cases hb2 : hasI V.2 y with
    | false =>
      have e : jnA V.2 x y = (-1, V.2) := by unfold jnA; rw [if_pos (Or.inr hb2)]
      rw [if_pos (by rfl), e]
      exact ⟨D, rfl, h, fun a _ => rfl⟩
    | true =>
      obtain ⟨i, hi, rfl, ht⟩ := hasI_spec hb
      obtain ⟨j, hj, rfl, ht2⟩ := hasI_spec hb2
      have hs := vl_s hv (i := i) (by omega)
      have hs2 := vl_s hv (i := j) (by omega)
      obtain ⟨s1, s2, s3, s4⟩ := q4 i hi
      obtain ⟨p1, p2, p3, p4⟩ := q4 j hj
      have hno : ¬ (hasI V.2 (nI i) = false ∨ hasI V.2 (nI j) = false) := by
        rw [hb, hb2]; decide
      rw [if_neg (by decide)]
      by_cases hij : i = j
      · subst hij
        have e : jnA V.2 (nI i) (nI i) = (-2, V.2) := by unfold jnA; rw [if_neg hno, if_pos rfl]
        rw [if_pos rfl, e]
        exact ⟨D, rfl, h, fun a _ => rfl⟩
      · have hij2 : ¬ nI i = nI j := fun q => hij ((nI_eq (by omega) (by omega)).mp q)
        rw [if_neg hij2, vl_a hv, Option.bind_some, vl_q hv (by omega), Option.bind_some, st_h hs, Option.bind_some, Option.bind_some, vl_q hv (by omega), Option.bind_some, st_h hs2, Option.bind_some, s1, p1]
        by_cases hh : (V.2.getD i d0).1 = (V.2.getD j d0).1
        · have hl := joinL_len (V.2.getD i d0).2.2 (V.2.getD j d0).2.2
          have ho := ovl_le (V.2.getD i d0).2.2 (V.2.getD j d0).2.2
          rw [if_pos hh, Option.bind_some, vl_q hv (by omega), Option.bind_some, st_r hs, Option.bind_some, Option.bind_some, vl_q hv (by omega), Option.bind_some, st_r hs2, Option.bind_some, rw_sz (st_rw hs), Option.bind_some, rw_sz (st_rw hs2), Option.bind_some, s3.1, p3.1, l_overlapWith (st_rw hs) (st_rw hs2) s3 p3 s4 p4, Option.bind_some, nI_add, pk_sub (by omega), ← nI_12, ← hl]
          by_cases hc : 12 < (joinL (V.2.getD i d0).2.2 (V.2.getD j d0).2.2).length
          · have e : jnA V.2 (nI i) (nI j) = (-4, V.2) := by unfold jnA; rw [if_neg hno, if_neg hij2, nI_clamp (by omega), nI_clamp (by omega), if_neg (fun q => q hh), if_pos hc]
            rw [il_f hc (by omega), e]
            exact ⟨D, rfl, h, fun a _ => rfl⟩
          · rw [il_t (by omega) (by omega)]
            obtain ⟨D1, e1, e2, e3⟩ := l_addBehind (w := w) (st_rw hs) (st_rw hs2) (by omega) s3 p3 s4 p4 (by omega)
            have hu1 : VlD D1 v (V.1, V.2.set i ((V.2.getD i d0).1, (V.2.getD i d0).2.1, joinL (V.2.getD i d0).2.2 (V.2.getD j d0).2.2)) := h.upd hi (fun a ha => e3 a (by omega) (by omega)) ⟨by rw [e3 _ (by omega) (by omega), s1], by rw [e3 _ (by omega) (by omega), s2], e2, by show (joinL _ _).length ≤ 12; omega⟩
            obtain ⟨D2, f1, f2, f3⟩ := l_clear (w := w) (D := D1) (st_rw hs2)
            have hu2 := hu1.upd (i := j) (D' := D2) (t := ((V.2.getD j d0).1, (V.2.getD j d0).2.1, [])) (by simpa using hj) (fun a ha => f3 a (by omega)) ⟨by rw [f3 _ (by omega), e3 _ (by omega) (by omega), p1], by rw [f3 _ (by omega), e3 _ (by omega) (by omega), p2], f2, by simp⟩
            rw [e1, Option.bind_some, f1, Option.bind_some, rw_sz (st_rw hs), Option.bind_some, f3 _ (by omega), e2.1]
            have e : jnA V.2 (nI i) (nI j) = (nI (joinL (V.2.getD i d0).2.2 (V.2.getD j d0).2.2).length, (V.2.set i ((V.2.getD i d0).1, (V.2.getD i d0).2.1, joinL (V.2.getD i d0).2.2 (V.2.getD j d0).2.2)).set j ((V.2.getD j d0).1, (V.2.getD j d0).2.1, [])) := by unfold jnA; rw [if_neg hno, if_neg hij2, nI_clamp (by omega), nI_clamp (by omega), if_neg (fun q => q hh), if_neg hc]
            rw [e]
            exact ⟨D2, rfl, hu2, fun a ha => by rw [f3 a (by omega), e3 a (by omega) (by omega)]⟩
        · have e : jnA V.2 (nI i) (nI j) = (-3, V.2) := by unfold jnA; rw [if_neg hno, if_neg hij2, nI_clamp (by omega), nI_clamp (by omega), if_pos hh]
          rw [if_neg hh, e]
          exact ⟨D, rfl, h, fun a _ => rfl⟩
end WI
