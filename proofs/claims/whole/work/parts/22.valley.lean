/-! ===== strands and valleys: lists of (house, kind, bends) ===== -/
abbrev tS : Type := Int32 × Int32 × List Int32
abbrev tV : Type := Int32 × List tS
def d0 : tS := (0, 0, [])
def StD (D : mD) (s : Nat) (t : tS) : Prop := D s 1 = t.1 ∧ D s 2 = t.2.1 ∧ RowD D (s + 1) t.2.2 ∧ t.2.2.length ≤ 12
def VlD (D : mD) (v : Nat) (V : tV) : Prop := D v 1 = nI V.2.length ∧ D v 2 = V.1 ∧ V.2.length ≤ 4 ∧ ∀ i, i < V.2.length → StD D (v + 2 + 3 * i) (V.2.getD i d0)
def there (ss : List tS) (i : Nat) : Bool := decide ((ss.getD i d0).2.2 ≠ [])
def hasI (ss : List tS) (x : Int32) : Bool := decide (¬ x < 0) && there ss x.toNatClampNeg
def whoF (ss : List tS) : Nat → Nat → Int32 → Int32
  | _, 0, a => a
  | j, k + 1, a => whoF ss (j + 1) k (if there ss j = true then a ||| (1 <<< (nI j &&& 31)) else a ||| 0)
def who (ss : List tS) : Int32 := whoF ss 0 ss.length 0
def cntF (ss : List tS) (h : Int32) : Nat → Nat → Nat → Nat
  | _, 0, a => a
  | j, k + 1, a => cntF ss h (j + 1) k (if there ss j = true ∧ (ss.getD j d0).1 = h then a + 1 else a)
def cnt (ss : List tS) (h : Int32) : Nat := cntF ss h 0 ss.length 0
def sumF (ss : List tS) : Nat → Nat → Nat → Nat
  | _, 0, a => a
  | j, k + 1, a => sumF ss (j + 1) k (a + (ss.getD j d0).2.2.length)
def hseF (ss : List tS) : Nat → Nat → Int32 → Int32
  | _, 0, a => a
  | j, k + 1, a => hseF ss (j + 1) k (if there ss j = true then a ||| (1 <<< ((ss.getD j d0).1 &&& 31)) else a ||| 0)
def fl1 (i : Nat) (h : Int32) (j : Nat) (t : tS) : tS := if j ≠ i ∧ t.1 = h then (t.1, t.2.1, t.2.2.tail) else t
def flood (ss : List tS) (i : Nat) : List tS := ss.mapIdx (fl1 i (ss.getD i d0).1)
def winOf (ss : List tS) (i : Nat) : List tS :=
  if (ss.getD i d0).2.1 = 3 then flood ss i
  else if ((ss.getD i d0).2.1 = 0 ∨ (ss.getD i d0).2.1 = 1) ∧ 3 ≤ cnt ss (ss.getD i d0).1 then ss.set i ((ss.getD i d0).1, (ss.getD i d0).2.1, if (ss.getD i d0).2.1 = 1 then (ss.getD i d0).2.2.dropLast.tail else (ss.getD i d0).2.2.dropLast)
  else ss
def winF : Nat → Nat → List tS → List tS
  | _, 0, ss => ss
  | j, k + 1, ss => winF (j + 1) k (if there ss j = true then winOf ss j else ss)
def win (ss : List tS) : List tS := winF 0 ss.length ss
theorem winOf_len (ss : List tS) (i : Nat) : (winOf ss i).length = ss.length := by
  unfold winOf
  split
  · simp [flood]
  · split <;> simp
theorem winF_len : ∀ (k j : Nat) (ss : List tS), (winF j k ss).length = ss.length
  | 0, _, _ => rfl
  | k + 1, j, ss => by
    rw [winF, winF_len k]
    split
    · exact winOf_len ss j
    · rfl
theorem win_len (ss : List tS) : (win ss).length = ss.length := winF_len _ _ _
theorem StD.kept {D D' : mD} {s : Nat} {t : tS} (h : StD D s t) (h1 : ∀ a, s ≤ a → a < s + 3 → D' a = D a) : StD D' s t := ⟨by rw [h1 s (by omega) (by omega)]; exact h.1, by rw [h1 s (by omega) (by omega)]; exact h.2.1, h.2.2.1.kept (h1 _ (by omega) (by omega)) (h1 _ (by omega) (by omega)), h.2.2.2⟩
theorem VlD.kept {D D' : mD} {v : Nat} {V : tV} (h : VlD D v V) (h1 : ∀ a, v ≤ a → a < v + 14 → D' a = D a) : VlD D' v V := by
  obtain ⟨q1, q2, q3, q4⟩ := h
  exact ⟨by rw [h1 v (by omega) (by omega)]; exact q1, by rw [h1 v (by omega) (by omega)]; exact q2, q3, fun i hi => (q4 i hi).kept (fun a ha hb => h1 a (by omega) (by omega))⟩
theorem getD_set {ss : List tS} {i j : Nat} {t : tS} (hi : i < ss.length) : (ss.set i t).getD j d0 = if j = i then t else ss.getD j d0 := by
  by_cases h : j = i
  · subst h
    simp [hi]
  · rw [if_neg h]
    simp [List.getD_eq_getElem?_getD, List.getElem?_set_ne (Ne.symm h)]
theorem VlD.upd {D D' : mD} {v i : Nat} {V : tV} {t : tS} (h : VlD D v V) (hi : i < V.2.length) (hf : ∀ a, (a < v + 2 + 3 * i ∨ v + 2 + 3 * i + 3 ≤ a) → D' a = D a) (ht : StD D' (v + 2 + 3 * i) t) : VlD D' v (V.1, V.2.set i t) := by
  obtain ⟨q1, q2, q3, q4⟩ := h
  refine ⟨by rw [hf v (by omega), q1]; simp, by rw [hf v (by omega)]; exact q2, by simpa using q3, fun j hj => ?_⟩
  have hj' : j < V.2.length := by simpa using hj
  rw [getD_set hi]
  by_cases hji : j = i
  · subst hji
    rw [if_pos rfl]
    exact ht
  · rw [if_neg hji]
    exact (q4 j hj').kept (fun a ha hb => hf a (by omega))
section VL
variable {w : mW} {D : mD} {v u n m i : Nat} {V U : tV}
theorem vl_o (hv : isVl v = true) : isO (Y w D) v 6 = true := Y_isO (isVl_s hv).1
theorem vl_t (hv : isVl v = true) : gI (Y w D) v 6 1 = some (D v 1) := Y_gI (isVl_s hv).2.1
theorem vl_y (hv : isVl v = true) : gI (Y w D) v 6 2 = some (D v 2) := Y_gI (isVl_s hv).2.2.1
theorem vl_st {x : Int32} (hv : isVl v = true) : sV (Y w D) v 6 1 (.int x) = some (Y w (ud D v 1 x)) := Y_sI (isVl_s hv).2.1
theorem vl_sy {x : Int32} (hv : isVl v = true) : sV (Y w D) v 6 2 (.int x) = some (Y w (ud D v 2 x)) := Y_sI (isVl_s hv).2.2.1
theorem vl_a (hv : isVl v = true) : gR (Y w D) v 6 0 = some (v + 1) := Y_gR (isVl_s hv).2.2.2.1
theorem vl_q (hv : isVl v = true) (hi : i < 4) : qI (Y w D) false (v + 1) (nI i) = some (v + 2 + 3 * i) := Y_qI ((isVl_s hv).2.2.2.2 i hi).1
theorem vl_s (hv : isVl v = true) (hi : i < 4) : isSt (v + 2 + 3 * i) = true := ((isVl_s hv).2.2.2.2 i hi).2
theorem st_o {s : Nat} (hs : isSt s = true) : isO (Y w D) s 4 = true := Y_isO (isSt_s hs).1
theorem st_h {s : Nat} (hs : isSt s = true) : gI (Y w D) s 4 1 = some (D s 1) := Y_gI (isSt_s hs).2.1
theorem st_k {s : Nat} (hs : isSt s = true) : gI (Y w D) s 4 2 = some (D s 2) := Y_gI (isSt_s hs).2.2.1
theorem st_sh {s : Nat} {x : Int32} (hs : isSt s = true) : sV (Y w D) s 4 1 (.int x) = some (Y w (ud D s 1 x)) := Y_sI (isSt_s hs).2.1
theorem st_sk {s : Nat} {x : Int32} (hs : isSt s = true) : sV (Y w D) s 4 2 (.int x) = some (Y w (ud D s 2 x)) := Y_sI (isSt_s hs).2.2.1
theorem st_r {s : Nat} (hs : isSt s = true) : gR (Y w D) s 4 0 = some (s + 1) := Y_gR (isSt_s hs).2.2.2.1
theorem st_rw {s : Nat} (hs : isSt s = true) : isRw (s + 1) 12 = true := (isSt_s hs).2.2.2.2
theorem there_lt {ss : List tS} (h : there ss i = true) : i < ss.length := by
  refine Nat.lt_of_not_le fun hle => ?_
  have : ss.getD i d0 = d0 := by simp [hle]
  unfold there at h
  rw [this] at h
  simp [d0] at h
theorem there_ne {ss : List tS} : there ss i = true ↔ (ss.getD i d0).2.2.length ≠ 0 := by
  unfold there
  simp
theorem clamp_nI {x : Int32} (h : ¬ x < 0) : x = nI x.toNatClampNeg ∧ x.toNatClampNeg < 2 ^ 31 := by
  obtain ⟨j, hj, rfl⟩ := nI_of h
  rw [nI_clamp hj]
  exact ⟨rfl, hj⟩
theorem hasI_nI {ss : List tS} (hi : i < 2 ^ 31) : hasI ss (nI i) = there ss i := by
  unfold hasI
  rw [nI_clamp hi]
  simp [nI_pos hi]
theorem hasI_spec {ss : List tS} {x : Int32} (h : hasI ss x = true) : ∃ i, i < ss.length ∧ x = nI i ∧ there ss i = true := by
  unfold hasI at h
  simp only [Bool.and_eq_true, decide_eq_true_eq] at h
  exact ⟨_, there_lt h.2, (clamp_nI h.1).1, h.2⟩
theorem l_has {x : Int32} (hv : isVl v = true) (h : VlD D v V) : fX6_has (Y w D) v x = some (b2i (hasI V.2 x)) := by
  obtain ⟨q1, q2, q3, q4⟩ := h
  unfold fX6_has
  rw [if_pos (vl_o hv)]
  by_cases hx : x < 0
  · rw [if_pos hx]
    simp [hasI, hx, b2i]
  · obtain ⟨hx2, hx3⟩ := clamp_nI hx
    rw [if_neg hx, vl_t hv, Option.bind_some, q1]
    rw [hx2, hasI_nI hx3]
    generalize x.toNatClampNeg = i at hx3
    by_cases hi : V.2.length ≤ i
    · rw [il_t hi hx3]
      have : there V.2 i = false := by
        cases hb : there V.2 i with
        | false => rfl
        | true => exact absurd (there_lt hb) (by omega)
      rw [this]
      rfl
    · have hs := vl_s hv (i := i) (by omega)
      obtain ⟨s1, s2, s3, s4⟩ := q4 i (by omega)
      rw [il_f (by omega) (by omega), vl_a hv, Option.bind_some, vl_q hv (by omega), Option.bind_some, st_r hs, Option.bind_some, rw_sz (st_rw hs), Option.bind_some, s3.1]
      by_cases h0 : (V.2.getD i d0).2.2.length = 0
      · have : there V.2 i = false := by
          cases hb : there V.2 i with
          | false => rfl
          | true => exact absurd h0 (there_ne.mp hb)
        rw [this, h0, if_pos (by rw [nI_0]; exact Int32.le_refl 0)]
        rfl
      · rw [there_ne.mpr h0, if_neg (nI_nle (by omega) (by omega))]
        rfl
theorem l_who_c4 (hv : isVl v = true) (h : VlD D v V) : ∀ (k j fuel : Nat) (a : Int32), j + k = V.2.length → k < fuel → fX6_whoIsThere_c4 (Y w D) fuel v a (nI j) = some (whoF V.2 j k a) := by
  obtain ⟨q1, q2, q3, q4⟩ := id h
  intro k
  induction k with
  | zero =>
    intro j fuel a hj hf
    obtain ⟨f, rfl, hf⟩ := fu hf
    rw [fX6_whoIsThere_c4.eq_2, vl_t hv, Option.bind_some, q1, il_t (by omega) (by omega)]
    rfl
  | succ k ih =>
    intro j fuel a hj hf
    obtain ⟨f, rfl, hf⟩ := fu hf
    rw [fX6_whoIsThere_c4.eq_2, vl_t hv, Option.bind_some, q1, il_f (by omega) (by omega), l_has hv h, Option.bind_some, hasI_nI (by omega), nI_1, ih (j + 1) f _ (by omega) (by omega), ih (j + 1) f _ (by omega) (by omega)]
    cases hb : there V.2 j <;> simp [whoF, hb, b2i]
theorem l_who (hv : isVl v = true) (h : VlD D v V) : fX6_whoIsThere (Y w D) v = some (who V.2) := by
  have q3 := h.2.2.1
  unfold fX6_whoIsThere
  rw [if_pos (vl_o hv)]
  have := l_who_c4 (w := w) hv h V.2.length 0 FUEL 0 (by omega) (FU (by omega))
  rw [nI_0] at this
  exact this
theorem l_cnt_c4 {x : Int32} (hv : isVl v = true) (h : VlD D v V) : ∀ (k j fuel a : Nat), j + k = V.2.length → k < fuel → fX6_countIn_c4 (Y w D) fuel v x (nI a) (nI j) = some (nI (cntF V.2 x j k a)) := by
  obtain ⟨q1, q2, q3, q4⟩ := id h
  intro k
  induction k with
  | zero =>
    intro j fuel a hj hf
    obtain ⟨f, rfl, hf⟩ := fu hf
    rw [fX6_countIn_c4.eq_2, vl_t hv, Option.bind_some, q1, il_t (by omega) (by omega)]
    rfl
  | succ k ih =>
    intro j fuel a hj hf
    obtain ⟨f, rfl, hf⟩ := fu hf
    have hs := vl_s hv (i := j) (by omega)
    rw [fX6_countIn_c4.eq_2, vl_t hv, Option.bind_some, q1, il_f (by omega) (by omega), l_has hv h, Option.bind_some, hasI_nI (by omega), nI_1, nI_1, vl_a hv, Option.bind_some, vl_q hv (by omega), Option.bind_some, st_h hs, Option.bind_some, (q4 j (by omega)).1, ih (j + 1) f _ (by omega) (by omega), ih (j + 1) f _ (by omega) (by omega)]
    cases hb : there V.2 j
    · simp [cntF, hb, b2i]
    · by_cases hh : (V.2.getD j d0).1 = x
      · rw [if_neg (by decide), if_pos hh, cntF, if_pos ⟨hb, hh⟩]
      · rw [if_neg (by decide), if_neg hh, cntF, if_neg (fun q => hh q.2)]
theorem l_cnt {x : Int32} (hv : isVl v = true) (h : VlD D v V) : fX6_countIn (Y w D) v x = some (nI (cnt V.2 x)) := by
  have q3 := h.2.2.1
  unfold fX6_countIn
  rw [if_pos (vl_o hv)]
  have := l_cnt_c4 (w := w) (x := x) hv h V.2.length 0 FUEL 0 (by omega) (FU (by omega))
  rw [nI_0] at this
  exact this
theorem l_sum_c8 (hv : isVl v = true) (h : VlD D v V) : ∀ (k j fuel a : Nat), j + k = V.2.length → k < fuel → fX6_bendsFrom_c8 (Y w D) fuel v (nI a) (nI j) = some (nI (sumF V.2 j k a)) := by
  obtain ⟨q1, q2, q3, q4⟩ := id h
  intro k
  induction k with
  | zero =>
    intro j fuel a hj hf
    obtain ⟨f, rfl, hf⟩ := fu hf
    rw [fX6_bendsFrom_c8.eq_2, vl_t hv, Option.bind_some, q1, il_t (by omega) (by omega)]
    rfl
  | succ k ih =>
    intro j fuel a hj hf
    obtain ⟨f, rfl, hf⟩ := fu hf
    have hs := vl_s hv (i := j) (by omega)
    rw [fX6_bendsFrom_c8.eq_2, vl_t hv, Option.bind_some, q1, il_f (by omega) (by omega), vl_a hv, Option.bind_some, vl_q hv (by omega), Option.bind_some, st_r hs, Option.bind_some, rw_sz (st_rw hs), Option.bind_some, (q4 j (by omega)).2.2.1.1, nI_1, nI_add, ih (j + 1) f _ (by omega) (by omega)]
    rfl
theorem l_bsum (hv : isVl v = true) (h : VlD D v V) (hi : i ≤ V.2.length) : fX6_bendsFrom (Y w D) v (nI i) = some (nI (sumF V.2 i (V.2.length - i) 0)) := by
  have q3 := h.2.2.1
  unfold fX6_bendsFrom
  rw [if_pos (vl_o hv), l_max0 (by omega)]
  have := l_sum_c8 (w := w) hv h (V.2.length - i) i FUEL 0 (by omega) (FU (by omega))
  rw [nI_0] at this
  exact this
theorem l_hse_c4 (hv : isVl v = true) (h : VlD D v V) : ∀ (k j fuel : Nat) (a : Int32), j + k = V.2.length → k < fuel → fX6_housesInUse_c4 (Y w D) fuel v a (nI j) = some (hseF V.2 j k a) := by
  obtain ⟨q1, q2, q3, q4⟩ := id h
  intro k
  induction k with
  | zero =>
    intro j fuel a hj hf
    obtain ⟨f, rfl, hf⟩ := fu hf
    rw [fX6_housesInUse_c4.eq_2, vl_t hv, Option.bind_some, q1, il_t (by omega) (by omega)]
    rfl
  | succ k ih =>
    intro j fuel a hj hf
    obtain ⟨f, rfl, hf⟩ := fu hf
    have hs := vl_s hv (i := j) (by omega)
    rw [fX6_housesInUse_c4.eq_2, vl_t hv, Option.bind_some, q1, il_f (by omega) (by omega), l_has hv h, Option.bind_some, hasI_nI (by omega), nI_1, vl_a hv, Option.bind_some, vl_q hv (by omega), Option.bind_some, st_h hs, Option.bind_some, (q4 j (by omega)).1, ih (j + 1) f _ (by omega) (by omega), ih (j + 1) f _ (by omega) (by omega)]
    cases hb : there V.2 j <;> simp [hseF, hb, b2i]
theorem l_hse (hv : isVl v = true) (h : VlD D v V) : fX6_housesInUse (Y w D) v = some (hseF V.2 0 V.2.length 0) := by
  have q3 := h.2.2.1
  unfold fX6_housesInUse
  rw [if_pos (vl_o hv)]
  have := l_hse_c4 (w := w) hv h V.2.length 0 FUEL 0 (by omega) (FU (by omega))
  rw [nI_0] at this
  exact this
end VL
