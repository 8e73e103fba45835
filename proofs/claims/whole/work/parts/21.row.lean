/-! ===== rows: what the class's Row does, as lists ===== -/
def b2i (b : Bool) : Int32 := if b = true then 1 else 0
def alF (P : Nat → Bool) : Nat → Nat → Bool
  | _, 0 => true
  | j, k + 1 => P j && alF P (j + 1) k
def bearsB (xs : List Int32) (p : Nat) (ys : List Int32) : Bool := decide (p + ys.length ≤ xs.length) && alF (fun i => xs.getD (p + i) 0 == ys.getD i 0) 0 ys.length
def endsB (xs ys : List Int32) (k : Nat) : Bool := alF (fun i => xs.getD (xs.length - k + i) 0 == ys.getD i 0) 0 k
def ovlF (xs ys : List Int32) : Nat → Nat
  | 0 => 0
  | k + 1 => if endsB xs ys (k + 1) = true then k + 1 else ovlF xs ys k
def ovl (xs ys : List Int32) : Nat := ovlF xs ys (min xs.length ys.length)
def joinL (xs ys : List Int32) : List Int32 := xs ++ ys.drop (ovl xs ys)
def fstF (xs ys : List Int32) : Nat → Nat → Int32
  | _, 0 => -9
  | j, k + 1 => if bearsB xs j ys = true then nI j else fstF xs ys (j + 1) k
def fstP (xs ys : List Int32) : Int32 := fstF xs ys 0 xs.length
def bitsI (n p : Nat) : Int32 := ((1 <<< (nI n &&& 31)) - 1) <<< (nI p &&& 31)
def undF (xs ys : List Int32) : Nat → Nat → Int32 → Int32
  | _, 0, a => a
  | j, k + 1, a => undF xs ys (j + 1) k (if bearsB xs j ys = true then a ||| bitsI ys.length j else a)
def undP (xs ys : List Int32) : Int32 := undF xs ys 0 xs.length 0
def figF (xs : List Int32) : Nat → Nat → Int64 → Int64
  | _, 0, a => a
  | j, k + 1, a => figF xs (j + 1) k ((10 : Int64) * a + Int32.toInt64 (xs.getD j 0))
def figL (xs : List Int32) : Int64 := figF xs 0 xs.length 0
theorem ovlF_le (xs ys : List Int32) : ∀ k, ovlF xs ys k ≤ k
  | 0 => Nat.le_refl 0
  | k + 1 => by
    unfold ovlF
    split
    · exact Nat.le_refl _
    · exact Nat.le_succ_of_le (ovlF_le xs ys k)
theorem ovl_le (xs ys : List Int32) : ovl xs ys ≤ xs.length ∧ ovl xs ys ≤ ys.length := by
  have := ovlF_le xs ys (min xs.length ys.length)
  unfold ovl
  omega
/-- cell r is a row of these numbers -/
def RowD (D : mD) (r : Nat) (xs : List Int32) : Prop := D r 1 = nI xs.length ∧ ∀ j, j < xs.length → D (r + 1) j = xs.getD j 0
theorem RowD.kept {D D' : mD} {r : Nat} {xs : List Int32} (h : RowD D r xs) (h1 : D' r = D r) (h2 : D' (r + 1) = D (r + 1)) : RowD D' r xs := ⟨by rw [h1]; exact h.1, fun j hj => by rw [h2]; exact h.2 j hj⟩
section RW
variable {w : mW} {D : mD} {r q n m : Nat} {xs ys : List Int32}
theorem rw_o (hr : isRw r n = true) : isO (Y w D) r 2 = true := Y_isO (isRw_s hr).1
theorem rw_sz (hr : isRw r n = true) : gI (Y w D) r 2 1 = some (D r 1) := Y_gI (isRw_s hr).2.1
theorem rw_ar (hr : isRw r n = true) : gR (Y w D) r 2 0 = some (r + 1) := Y_gR (isRw_s hr).2.2.1
theorem rw_ln (hr : isRw r n = true) : aLen (Y w D) (r + 1) = some (nI n) := Y_len (isRw_s hr).2.2.2
theorem rw_at {j : Nat} (hr : isRw r n = true) (hj : j < n) : aI (Y w D) false (r + 1) (nI j) = some (D (r + 1) j) := Y_aI (isRw_s hr).2.2.2 hj
theorem rw_st {j : Nat} {v : Int32} (hr : isRw r n = true) (hj : j < n) : aS (Y w D) false (r + 1) (nI j) v = some (Y w (ud D (r + 1) j v)) := Y_aS (isRw_s hr).2.2.2 hj
theorem rw_ss {v : Int32} (hr : isRw r n = true) : sV (Y w D) r 2 1 (.int v) = some (Y w (ud D r 1 v)) := Y_sI (isRw_s hr).2.1
theorem rw_n (hr : isRw r n = true) : n < 1000 := (okA_s (isRw_s hr).2.2.2).2.2.2.2
theorem rw_ne (hr : isRw r n = true) (hq : isRw q m = true) : r ≠ q + 1 := by
  intro h
  have h1 := (okO_s (isRw_s hr).1).2.1
  have h2 := (okA_s (isRw_s hq).2.2.2).2.1
  rw [← h, h1] at h2
  simp at h2
theorem il_t {α : Type} {a b : Nat} {t e : α} (h : a ≤ b) (hb : b < 2 ^ 31) : (if nI a ≤ nI b then t else e) = t := if_pos (nI_le h hb)
theorem il_f {α : Type} {a b : Nat} {t e : α} (h : b < a) (ha : a < 2 ^ 31) : (if nI a ≤ nI b then t else e) = e := if_neg (nI_ge h ha)
theorem fu {fuel k : Nat} (h : k < fuel) : ∃ f, fuel = f + 1 ∧ k ≤ f := ⟨fuel - 1, by omega, by omega⟩
theorem FU {k : Nat} (h : k < 1000000) : k < FUEL := h
/-- bearsAt -/
theorem l_bearsAt_c21 (hr : isRw r n = true) (hq : isRw q m = true) (hx : RowD D r xs) (hy : RowD D q ys) (hxn : xs.length ≤ n) (hym : ys.length ≤ m) {p : Nat} (hp : p + ys.length ≤ xs.length) : ∀ (k j fuel : Nat), j + k = ys.length → k < fuel → fX2_bearsAt_c21 (Y w D) fuel r (nI p) q (nI j) = some (b2i (alF (fun i => xs.getD (p + i) 0 == ys.getD i 0) j k)) := by
  have hn := rw_n hr
  have hm := rw_n hq
  intro k
  induction k with
  | zero =>
    intro j fuel hj hf
    obtain ⟨f, rfl, hf⟩ := fu hf
    rw [fX2_bearsAt_c21.eq_2, rw_sz hq, Option.bind_some, hy.1, il_t (by omega) (by omega)]
    rfl
  | succ k ih =>
    intro j fuel hj hf
    obtain ⟨f, rfl, hf⟩ := fu hf
    rw [fX2_bearsAt_c21.eq_2, rw_sz hq, Option.bind_some, hy.1, il_f (by omega) (by omega), rw_ar hr, Option.bind_some, nI_add, rw_at hr (by omega), Option.bind_some, rw_ar hq, Option.bind_some, rw_at hq (by omega), Option.bind_some, hx.2 _ (by omega), hy.2 _ (by omega)]
    by_cases he : xs.getD (p + j) 0 = ys.getD j 0
    · rw [if_pos he, nI_1, ih (j + 1) f (by omega) (by omega)]
      simp only [alF, he, beq_self_eq_true, Bool.true_and]
    · rw [if_neg he]
      simp only [alF, beq_eq_false_iff_ne.mpr he, Bool.false_and, b2i, Bool.false_eq_true, if_false]
theorem l_bearsAt (hr : isRw r n = true) (hq : isRw q m = true) (hx : RowD D r xs) (hy : RowD D q ys) (hxn : xs.length ≤ n) (hym : ys.length ≤ m) {p : Nat} (hp : p < 1000) : fX2_bearsAt (Y w D) r (nI p) q = some (b2i (bearsB xs p ys)) := by
  have hn := rw_n hr
  have hm := rw_n hq
  unfold fX2_bearsAt
  rw [if_pos (rw_o hr), if_neg (nI_pos (by omega)), rw_sz hr, Option.bind_some, rw_sz hq, Option.bind_some, hx.1, hy.1]
  by_cases h : p + ys.length ≤ xs.length
  · rw [pk_sub (by omega), il_t (by omega) (by omega), ← nI_0, l_bearsAt_c21 hr hq hx hy hxn hym h ys.length 0 FUEL (by omega) (FU (by omega))]
    simp [bearsB, h]
  · have hb : bearsB xs p ys = false := by simp [bearsB, h]
    rw [hb]
    by_cases h2 : ys.length ≤ xs.length
    · rw [pk_sub h2, il_f (by omega) (by omega)]
      rfl
    · rw [if_neg]
      · rfl
      · have h3 := pk_sneg (a := xs.length) (b := ys.length) (by omega) (by omega)
        intro h4
        exact absurd (Int32.lt_of_le_of_lt h4 h3) (nI_pos (by omega))
/-- endsAs, overlapWith -/
theorem l_endsAs_c2 (hr : isRw r n = true) (hq : isRw q m = true) (hx : RowD D r xs) (hy : RowD D q ys) (hxn : xs.length ≤ n) (hym : ys.length ≤ m) {c : Nat} (hc1 : c ≤ xs.length) (hc2 : c ≤ ys.length) : ∀ (k j fuel : Nat), j + k = c → k < fuel → fX2_endsAs_c2 (Y w D) fuel r q (nI c) (nI j) = some (b2i (alF (fun i => xs.getD (xs.length - c + i) 0 == ys.getD i 0) j k)) := by
  have hn := rw_n hr
  have hm := rw_n hq
  intro k
  induction k with
  | zero =>
    intro j fuel hj hf
    obtain ⟨f, rfl, hf⟩ := fu hf
    rw [fX2_endsAs_c2.eq_2, il_t (by omega) (by omega)]
    rfl
  | succ k ih =>
    intro j fuel hj hf
    obtain ⟨f, rfl, hf⟩ := fu hf
    rw [fX2_endsAs_c2.eq_2, il_f (by omega) (by omega), rw_ar hr, Option.bind_some, rw_sz hr, Option.bind_some, hx.1, pk_sub hc1, nI_add, rw_at hr (by omega), Option.bind_some, rw_ar hq, Option.bind_some, rw_at hq (by omega), Option.bind_some, hx.2 _ (by omega), hy.2 _ (by omega)]
    by_cases he : xs.getD (xs.length - c + j) 0 = ys.getD j 0
    · rw [if_pos he, nI_1, ih (j + 1) f (by omega) (by omega)]
      simp only [alF, he, beq_self_eq_true, Bool.true_and]
    · rw [if_neg he]
      simp only [alF, beq_eq_false_iff_ne.mpr he, Bool.false_and, b2i, Bool.false_eq_true, if_false]
theorem l_endsAs (hr : isRw r n = true) (hq : isRw q m = true) (hx : RowD D r xs) (hy : RowD D q ys) (hxn : xs.length ≤ n) (hym : ys.length ≤ m) {c : Nat} (hc1 : c ≤ xs.length) (hc2 : c ≤ ys.length) : fX2_endsAs (Y w D) r q (nI c) = some (b2i (endsB xs ys c)) := by
  have hn := rw_n hr
  unfold fX2_endsAs
  rw [if_pos (rw_o hr), ← nI_0, l_endsAs_c2 hr hq hx hy hxn hym hc1 hc2 c 0 FUEL (by omega) (FU (by omega))]
  rfl
theorem b2i_0 {b : Bool} : (b2i b = 0) ↔ b = false := by cases b <;> simp [b2i]
theorem l_overlapWith_c12 (hr : isRw r n = true) (hq : isRw q m = true) (hx : RowD D r xs) (hy : RowD D q ys) (hxn : xs.length ≤ n) (hym : ys.length ≤ m) : ∀ (k fuel : Nat), k ≤ xs.length → k ≤ ys.length → k < fuel → fX2_overlapWith_c12 (Y w D) fuel r q (nI k) = some (nI (ovlF xs ys k)) := by
  have hn := rw_n hr
  intro k
  induction k with
  | zero =>
    intro fuel h1 h2 hf
    obtain ⟨f, rfl, hf⟩ := fu hf
    rw [fX2_overlapWith_c12.eq_2, if_pos (by rw [nI_0]; exact Int32.le_refl 0), ← nI_0]
    rfl
  | succ k ih =>
    intro fuel h1 h2 hf
    obtain ⟨f, rfl, hf⟩ := fu hf
    rw [fX2_overlapWith_c12.eq_2, if_neg (nI_nle (by omega) (by omega)), l_endsAs hr hq hx hy hxn hym h1 h2, Option.bind_some, pk_m1]
    by_cases he : endsB xs ys (k + 1) = true
    · rw [if_neg (by rw [b2i_0, he]; decide)]
      simp only [ovlF, he, if_true]
    · rw [if_pos (by rw [b2i_0]; simpa using he), ih f (by omega) (by omega) (by omega)]
      simp only [ovlF, he, if_false, Bool.false_eq_true]
theorem l_min {a b : Nat} (ha : a < 2 ^ 31) (hb : b < 2 ^ 31) : (if nI b < nI a then nI b else nI a) = nI (min a b) := by
  by_cases h : b < a
  · rw [if_pos (nI_lt h ha)]; congr 1; omega
  · rw [if_neg (nI_nlt (by omega) hb)]; congr 1; omega
theorem l_overlapWith (hr : isRw r n = true) (hq : isRw q m = true) (hx : RowD D r xs) (hy : RowD D q ys) (hxn : xs.length ≤ n) (hym : ys.length ≤ m) : fX2_overlapWith (Y w D) r q = some (nI (ovl xs ys)) := by
  have hn := rw_n hr
  have hm := rw_n hq
  unfold fX2_overlapWith
  rw [if_pos (rw_o hr), rw_sz hr, Option.bind_some, rw_sz hq, Option.bind_some, hx.1, hy.1, l_min (by omega) (by omega), l_overlapWith_c12 hr hq hx hy hxn hym _ _ (by omega) (by omega) (FU (by omega))]
  rfl
/-- firstPlaceOf, placesUnder, figures -/
theorem l_firstPlaceOf_c2 (hr : isRw r n = true) (hq : isRw q m = true) (hx : RowD D r xs) (hy : RowD D q ys) (hxn : xs.length ≤ n) (hym : ys.length ≤ m) : ∀ (k j fuel : Nat), j + k = xs.length → k < fuel → fX2_firstPlaceOf_c2 (Y w D) fuel r q (nI j) = some (fstF xs ys j k) := by
  have hn := rw_n hr
  intro k
  induction k with
  | zero =>
    intro j fuel hj hf
    obtain ⟨f, rfl, hf⟩ := fu hf
    rw [fX2_firstPlaceOf_c2.eq_2, rw_sz hr, Option.bind_some, hx.1, il_t (by omega) (by omega)]
    rfl
  | succ k ih =>
    intro j fuel hj hf
    obtain ⟨f, rfl, hf⟩ := fu hf
    rw [fX2_firstPlaceOf_c2.eq_2, rw_sz hr, Option.bind_some, hx.1, il_f (by omega) (by omega), l_bearsAt hr hq hx hy hxn hym (by omega), Option.bind_some, nI_1, ih (j + 1) f (by omega) (by omega)]
    cases hb : bearsB xs j ys <;> simp [fstF, hb, b2i]
theorem l_firstPlaceOf (hr : isRw r n = true) (hq : isRw q m = true) (hx : RowD D r xs) (hy : RowD D q ys) (hxn : xs.length ≤ n) (hym : ys.length ≤ m) : fX2_firstPlaceOf (Y w D) r q = some (fstP xs ys) := by
  have hn := rw_n hr
  unfold fX2_firstPlaceOf
  rw [if_pos (rw_o hr), ← nI_0, l_firstPlaceOf_c2 hr hq hx hy hxn hym xs.length 0 FUEL (by omega) (FU (by omega))]
  rfl
theorem l_bitsAt (hr : isRw r n = true) (hx : RowD D r xs) {p : Nat} : fX2_bitsAt (Y w D) r (nI p) = some (bitsI xs.length p) := by
  unfold fX2_bitsAt
  rw [if_pos (rw_o hr), rw_sz hr, Option.bind_some, hx.1]
  rfl
theorem l_placesUnder_c4 (hr : isRw r n = true) (hq : isRw q m = true) (hx : RowD D r xs) (hy : RowD D q ys) (hxn : xs.length ≤ n) (hym : ys.length ≤ m) : ∀ (k j fuel : Nat) (a : Int32), j + k = xs.length → k < fuel → fX2_placesUnder_c4 (Y w D) fuel r q a (nI j) = some (undF xs ys j k a) := by
  have hn := rw_n hr
  intro k
  induction k with
  | zero =>
    intro j fuel a hj hf
    obtain ⟨f, rfl, hf⟩ := fu hf
    rw [fX2_placesUnder_c4.eq_2, rw_sz hr, Option.bind_some, hx.1, il_t (by omega) (by omega)]
    rfl
  | succ k ih =>
    intro j fuel a hj hf
    obtain ⟨f, rfl, hf⟩ := fu hf
    rw [fX2_placesUnder_c4.eq_2, rw_sz hr, Option.bind_some, hx.1, il_f (by omega) (by omega), l_bearsAt hr hq hx hy hxn hym (by omega), Option.bind_some, nI_1, l_bitsAt hq hy, Option.bind_some, ih (j + 1) f _ (by omega) (by omega), ih (j + 1) f _ (by omega) (by omega)]
    cases hb : bearsB xs j ys <;> simp [undF, hb, b2i]
theorem l_placesUnder (hr : isRw r n = true) (hq : isRw q m = true) (hx : RowD D r xs) (hy : RowD D q ys) (hxn : xs.length ≤ n) (hym : ys.length ≤ m) : fX2_placesUnder (Y w D) r q = some (undP xs ys) := by
  have hn := rw_n hr
  unfold fX2_placesUnder
  rw [if_pos (rw_o hr)]
  have := l_placesUnder_c4 (w := w) hr hq hx hy hxn hym xs.length 0 FUEL 0 (by omega) (FU (by omega))
  rw [nI_0] at this
  exact this
theorem l_figures_c4 (hr : isRw r n = true) (hx : RowD D r xs) (hxn : xs.length ≤ n) : ∀ (k j fuel : Nat) (a : Int64), j + k = xs.length → k < fuel → fX2_figures_c4 (Y w D) fuel r a (nI j) = some (figF xs j k a) := by
  have hn := rw_n hr
  intro k
  induction k with
  | zero =>
    intro j fuel a hj hf
    obtain ⟨f, rfl, hf⟩ := fu hf
    rw [fX2_figures_c4.eq_2, rw_sz hr, Option.bind_some, hx.1, il_t (by omega) (by omega)]
    rfl
  | succ k ih =>
    intro j fuel a hj hf
    obtain ⟨f, rfl, hf⟩ := fu hf
    rw [fX2_figures_c4.eq_2, rw_sz hr, Option.bind_some, hx.1, il_f (by omega) (by omega), rw_ar hr, Option.bind_some, rw_at hr (by omega), Option.bind_some, hx.2 _ (by omega), nI_1, ih (j + 1) f _ (by omega) (by omega)]
    rfl
theorem l_figures (hr : isRw r n = true) (hx : RowD D r xs) (hxn : xs.length ≤ n) : fX2_figures (Y w D) r = some (figL xs) := by
  have hn := rw_n hr
  unfold fX2_figures
  rw [if_pos (rw_o hr), ← nI_0, l_figures_c4 hr hx hxn xs.length 0 FUEL 0 (by omega) (FU (by omega))]
  rfl
/-! writers -/
theorem l_clear (hr : isRw r n = true) : ∃ D', fX2_clear (Y w D) r = some (Y w D') ∧ RowD D' r [] ∧ ∀ a, a ≠ r → D' a = D a := by
  unfold fX2_clear
  rw [if_pos (rw_o hr), rw_ss hr, Option.bind_some]
  exact ⟨_, rfl, ⟨by rw [ud_s]; rfl, fun j hj => by simp at hj⟩, fun a ha => ud_r ha⟩
theorem getD_app {xs ys : List Int32} {j : Nat} (h : j < xs.length) : (xs ++ ys).getD j 0 = xs.getD j 0 := by
  rw [List.getD_eq_getElem?_getD, List.getElem?_append_left h, ← List.getD_eq_getElem?_getD]
theorem getD_app2 {xs : List Int32} {x : Int32} : (xs ++ [x]).getD xs.length 0 = x := by
  simp
theorem l_add {x : Int32} (hr : isRw r n = true) (hx : RowD D r xs) (hxn : xs.length < n) : ∃ D', fX2_add (Y w D) r x = some (Y w D') ∧ RowD D' r (xs ++ [x]) ∧ ∀ a, a ≠ r → a ≠ r + 1 → D' a = D a := by
  have hn := rw_n hr
  unfold fX2_add
  rw [if_pos (rw_o hr), rw_sz hr, Option.bind_some, rw_ar hr, Option.bind_some, rw_ln hr, Option.bind_some, hx.1, il_f (by omega) (by omega), Option.bind_some, Option.bind_some, rw_st hr (by omega), Option.bind_some, rw_sz hr, Option.bind_some, rw_ss hr, Option.bind_some]
  refine ⟨_, rfl, ⟨?_, fun j hj => ?_⟩, fun a h1 h2 => by rw [ud_r h1, ud_r h2]⟩
  · rw [ud_s, ud_r (by omega), hx.1, nI_1]
    simp
  · rw [ud_r (by omega)]
    by_cases hj2 : j = xs.length
    · subst hj2
      rw [ud_s, getD_app2]
    · have hj3 : j < xs.length := by simp at hj; omega
      rw [ud_n (by omega), hx.2 j hj3, getD_app hj3]
theorem l_setTo_c18 (hr : isRw r n = true) (hq : isRw q m = true) (hne : r ≠ q) (hyn : ys.length ≤ n) (hym : ys.length ≤ m) : ∀ (k j fuel : Nat) (D : mD), j + k = ys.length → k < fuel → D r 1 = nI ys.length → RowD D q ys → (∀ i, i < j → D (r + 1) i = ys.getD i 0) → ∃ D', fX2_setTo_c18 fuel (Y w D) r q (nI j) = some (Y w D') ∧ RowD D' r ys ∧ ∀ a, a ≠ r + 1 → D' a = D a := by
  have hn := rw_n hr
  have hrq := rw_ne hr hq
  have hqr := rw_ne hq hr
  intro k
  induction k with
  | zero =>
    intro j fuel D hj hf hs hy hc
    obtain ⟨f, rfl, hf⟩ := fu hf
    rw [fX2_setTo_c18.eq_2, rw_sz hr, Option.bind_some, hs, il_t (by omega) (by omega)]
    exact ⟨_, rfl, ⟨hs, fun i hi => hc i (by omega)⟩, fun a _ => rfl⟩
  | succ k ih =>
    intro j fuel D hj hf hs hy hc
    obtain ⟨f, rfl, hf⟩ := fu hf
    rw [fX2_setTo_c18.eq_2, rw_sz hr, Option.bind_some, hs, il_f (by omega) (by omega), rw_ar hr, Option.bind_some, rw_ar hq, Option.bind_some, rw_at hq (by omega), Option.bind_some, rw_st hr (by omega), Option.bind_some, nI_1]
    obtain ⟨D', h1, h2, h3⟩ := ih (j + 1) f (ud D (r + 1) j (D (q + 1) j)) (by omega) (by omega) (by rw [ud_r (by omega)]; exact hs) (hy.kept (ud_r hqr) (ud_r (by omega))) (fun i hi => by
      by_cases hij : i = j
      · subst hij
        rw [ud_s, hy.2 i (by omega)]
      · rw [ud_n (by omega)]
        exact hc i (by omega))
    exact ⟨D', h1, h2, fun a ha => by rw [h3 a ha, ud_r ha]⟩
theorem l_setTo (hr : isRw r n = true) (hq : isRw q m = true) (hne : r ≠ q) (hyn : ys.length ≤ n) (hym : ys.length ≤ m) (hy : RowD D q ys) : ∃ D', fX2_setTo (Y w D) r q = some (Y w D') ∧ RowD D' r ys ∧ ∀ a, a ≠ r → a ≠ r + 1 → D' a = D a := by
  have hn := rw_n hr
  have hqr := rw_ne hq hr
  have hrq := rw_ne hr hq
  unfold fX2_setTo
  rw [if_pos (rw_o hr), rw_sz hq, Option.bind_some, rw_ar hr, Option.bind_some, rw_ln hr, Option.bind_some, hy.1, l_min (by omega) (by omega), rw_ss hr, Option.bind_some]
  have e : min ys.length n = ys.length := by omega
  rw [e, ← nI_0]
  obtain ⟨D', h1, h2, h3⟩ := l_setTo_c18 (w := w) hr hq hne hyn hym ys.length 0 FUEL (ud D r 1 (nI ys.length)) (by omega) (FU (by omega)) (by rw [ud_s]) (hy.kept (ud_r (Ne.symm hne)) (ud_r (Ne.symm hrq))) (fun i hi => by omega)
  exact ⟨D', h1, h2, fun a ha hb => by rw [h3 a hb, ud_r ha]⟩
theorem l_loseLast (hr : isRw r n = true) (hx : RowD D r xs) (hxn : xs.length ≤ n) : ∃ D', fX2_loseLast (Y w D) r = some (Y w D') ∧ RowD D' r xs.dropLast ∧ (∀ a, a ≠ r → D' a = D a) := by
  have hn := rw_n hr
  unfold fX2_loseLast
  rw [if_pos (rw_o hr), rw_sz hr, Option.bind_some, hx.1]
  by_cases h0 : xs.length = 0
  · have hx0 : xs = [] := List.length_eq_zero_iff.mp h0
    subst hx0
    rw [if_pos (by rw [h0, nI_0]; exact Int32.le_refl 0)]
    exact ⟨D, rfl, hx, fun a _ => rfl⟩
  · rw [if_neg (nI_nle (by omega) (by omega)), Option.bind_some, rw_ss hr, Option.bind_some]
    refine ⟨_, rfl, ⟨?_, fun j hj => ?_⟩, fun a ha => ud_r ha⟩
    · obtain ⟨c, hc⟩ : ∃ c, xs.length = c + 1 := ⟨xs.length - 1, by omega⟩
      rw [ud_s, hc, nI_pred]
      simp [hc]
    · have hj2 : j < xs.length - 1 := by simpa using hj
      rw [ud_r (by omega), hx.2 j (by omega)]
      simp [hj2, show j < xs.length by omega]
theorem l_loseFirst_c9 (hr : isRw r n = true) (hxn : xs.length ≤ n) : ∀ (k i fuel : Nat) (D : mD), i + 1 + k = xs.length → k < fuel → D r 1 = nI xs.length → (∀ j, j < i → D (r + 1) j = xs.getD (j + 1) 0) → (∀ j, i ≤ j → j < xs.length → D (r + 1) j = xs.getD j 0) → ∃ D', fX2_loseFirst_c9 fuel (Y w D) r (nI (i + 1)) = some (Y w D') ∧ RowD D' r xs.tail ∧ (∀ a, a ≠ r → a ≠ r + 1 → D' a = D a) := by
  have hn := rw_n hr
  intro k
  induction k with
  | zero =>
    intro i fuel D hj hf hs h1 h2
    obtain ⟨f, rfl, hf⟩ := fu hf
    rw [fX2_loseFirst_c9.eq_2, rw_sz hr, Option.bind_some, hs, il_t (by omega) (by omega), Option.bind_some, rw_ss hr, Option.bind_some]
    refine ⟨_, rfl, ⟨?_, fun j hj2 => ?_⟩, fun a ha _ => ud_r ha⟩
    · rw [ud_s, ← hj, Nat.add_zero, nI_pred]
      simp [← hj]
    · have hj3 : j < xs.length - 1 := by simpa using hj2
      rw [ud_r (by omega), h1 j (by omega)]
      simp [show j + 1 < xs.length by omega]
  | succ k ih =>
    intro i fuel D hj hf hs h1 h2
    obtain ⟨f, rfl, hf⟩ := fu hf
    rw [fX2_loseFirst_c9.eq_2, rw_sz hr, Option.bind_some, hs, il_f (by omega) (by omega), rw_ar hr, Option.bind_some, Option.bind_some, rw_at hr (by omega), Option.bind_some, nI_pred, rw_st hr (by omega), Option.bind_some, nI_1]
    obtain ⟨D', g1, g2, g3⟩ := ih (i + 1) f (ud D (r + 1) i (D (r + 1) (i + 1))) (by omega) (by omega) (by rw [ud_r (by omega)]; exact hs) (fun j hj2 => by
      by_cases hij : j = i
      · subst hij
        rw [ud_s, h2 _ (by omega) (by omega)]
      · rw [ud_n (by omega)]
        exact h1 j (by omega)) (fun j hj1 hj2 => by
      rw [ud_n (by omega)]
      exact h2 j (by omega) hj2)
    exact ⟨D', g1, g2, fun a ha hb => by rw [g3 a ha hb, ud_r hb]⟩
theorem l_loseFirst (hr : isRw r n = true) (hx : RowD D r xs) (hxn : xs.length ≤ n) : ∃ D', fX2_loseFirst (Y w D) r = some (Y w D') ∧ RowD D' r xs.tail ∧ (∀ a, a ≠ r → a ≠ r + 1 → D' a = D a) := by
  have hn := rw_n hr
  unfold fX2_loseFirst
  rw [if_pos (rw_o hr), rw_sz hr, Option.bind_some, hx.1]
  by_cases h0 : xs.length = 0
  · have hx0 : xs = [] := List.length_eq_zero_iff.mp h0
    subst hx0
    rw [if_pos (by rw [h0, nI_0]; exact Int32.le_refl 0)]
    exact ⟨D, rfl, hx, fun a _ _ => rfl⟩
  · rw [if_neg (nI_nle (by omega) (by omega))]
    have := l_loseFirst_c9 (w := w) hr hxn (xs.length - 1) 0 FUEL D (by omega) (FU (by omega)) hx.1 (fun j hj => by omega) (fun j _ hj => hx.2 j hj)
    exact this
theorem nI_2 : nI 2 = 2 := by decide +kernel
theorem l_reverse_c2 (hr : isRw r n = true) (hxn : xs.length ≤ n) : ∀ (k i fuel : Nat) (D : mD), i + k = xs.length / 2 → k < fuel → D r 1 = nI xs.length → (∀ j, j < xs.length → D (r + 1) j = if j < i ∨ xs.length ≤ j + i then xs.getD (xs.length - 1 - j) 0 else xs.getD j 0) → ∃ D', fX2_reverse_c2 fuel (Y w D) r (nI i) = some (Y w D') ∧ RowD D' r xs.reverse ∧ (∀ a, a ≠ r + 1 → D' a = D a) := by
  have hn := rw_n hr
  intro k
  induction k with
  | zero =>
    intro i fuel D hj hf hs h1
    obtain ⟨f, rfl, hf⟩ := fu hf
    rw [fX2_reverse_c2.eq_2, rw_sz hr, Option.bind_some, hs, ← nI_2, pk_div (by omega) (by omega) (by omega), il_t (by omega) (by omega)]
    refine ⟨D, rfl, ⟨by rw [hs]; simp, fun j hj2 => ?_⟩, fun a _ => rfl⟩
    have hj3 : j < xs.length := by simpa using hj2
    rw [h1 j hj3]
    have e : xs.reverse.getD j 0 = xs.getD (xs.length - 1 - j) 0 := by
      simp [List.getD_eq_getElem?_getD, List.getElem?_reverse hj3]
    rw [e]
    by_cases hc : j < i ∨ xs.length ≤ j + i
    · rw [if_pos hc]
    · rw [if_neg hc]
      congr 1
      omega
  | succ k ih =>
    intro i fuel D hj hf hs h1
    obtain ⟨f, rfl, hf⟩ := fu hf
    have e1 : nI xs.length - 1 - nI i = nI (xs.length - 1 - i) := by
      obtain ⟨c, hc⟩ : ∃ c, xs.length = c + 1 := ⟨xs.length - 1, by omega⟩
      rw [hc, nI_pred, pk_sub (by omega)]
      rfl
    rw [fX2_reverse_c2.eq_2, rw_sz hr, Option.bind_some, hs, ← nI_2, pk_div (by omega) (by omega) (by omega), il_f (by omega) (by omega), rw_ar hr, Option.bind_some, rw_at hr (by omega), Option.bind_some, Option.bind_some, Option.bind_some, Option.bind_some, e1, rw_at hr (by omega), Option.bind_some, rw_st hr (by omega), Option.bind_some, rw_ar hr, Option.bind_some, rw_sz hr, Option.bind_some, ud_r (by omega), hs, e1, rw_st hr (by omega), Option.bind_some, nI_1]
    obtain ⟨D', g1, g2, g3⟩ := ih (i + 1) f (ud (ud D (r + 1) i (D (r + 1) (xs.length - 1 - i))) (r + 1) (xs.length - 1 - i) (D (r + 1) i)) (by omega) (by omega) (by rw [ud_r (by omega), ud_r (by omega)]; exact hs) (fun j hj2 => by
      by_cases hji : j = xs.length - 1 - i
      · subst hji
        rw [ud_s, if_pos (by omega), h1 i (by omega), if_neg (by omega)]
        congr 1
        omega
      · rw [ud_n (by omega)]
        by_cases hji2 : j = i
        · subst hji2
          rw [ud_s, if_pos (by omega), h1 _ (by omega), if_neg (by omega)]
        · rw [ud_n (by omega), h1 j hj2]
          by_cases hc : j < i ∨ xs.length ≤ j + i
          · rw [if_pos hc, if_pos (by omega)]
          · rw [if_neg hc, if_neg (by omega)])
    exact ⟨D', g1, g2, fun a ha => by rw [g3 a ha, ud_r ha, ud_r ha]⟩
theorem l_reverse (hr : isRw r n = true) (hx : RowD D r xs) (hxn : xs.length ≤ n) : ∃ D', fX2_reverse (Y w D) r = some (Y w D') ∧ RowD D' r xs.reverse ∧ (∀ a, a ≠ r + 1 → D' a = D a) := by
  have hn := rw_n hr
  unfold fX2_reverse
  rw [if_pos (rw_o hr), ← nI_0]
  exact l_reverse_c2 hr hxn (xs.length / 2) 0 FUEL D (by omega) (FU (by omega)) hx.1 (fun j hj => by rw [if_neg (by omega)]; exact hx.2 j hj)
theorem l_addBehind_c6 (hr : isRw r n = true) (hq : isRw q m = true) (hne : r ≠ q) (hym : ys.length ≤ m) : ∀ (k j fuel : Nat) (D : mD) (zs : List Int32), j + k = ys.length → k < fuel → RowD D r zs → zs.length + k ≤ n → RowD D q ys → ∃ D', fX2_addBehind_c6 fuel (Y w D) r q (nI j) = some (Y w D') ∧ RowD D' r (zs ++ ys.drop j) ∧ (∀ a, a ≠ r → a ≠ r + 1 → D' a = D a) := by
  have hn := rw_n hr
  have hm := rw_n hq
  have hrq := rw_ne hr hq
  have hqr := rw_ne hq hr
  intro k
  induction k with
  | zero =>
    intro j fuel D zs hj hf hz hzn hy
    obtain ⟨f, rfl, hf⟩ := fu hf
    rw [fX2_addBehind_c6.eq_2, rw_sz hq, Option.bind_some, hy.1, il_t (by omega) (by omega)]
    refine ⟨D, rfl, ?_, fun a _ _ => rfl⟩
    rw [List.drop_eq_nil_of_le (by omega), List.append_nil]
    exact hz
  | succ k ih =>
    intro j fuel D zs hj hf hz hzn hy
    obtain ⟨f, rfl, hf⟩ := fu hf
    rw [fX2_addBehind_c6.eq_2, rw_sz hq, Option.bind_some, hy.1, il_f (by omega) (by omega), rw_ar hq, Option.bind_some, rw_at hq (by omega), Option.bind_some, hy.2 j (by omega)]
    obtain ⟨D1, e1, e2, e3⟩ := l_add (w := w) (x := ys.getD j 0) hr hz (by omega)
    rw [e1, Option.bind_some, nI_1]
    obtain ⟨D', g1, g2, g3⟩ := ih (j + 1) f D1 (zs ++ [ys.getD j 0]) (by omega) (by omega) e2 (by simp; omega) (hy.kept (e3 q (by omega) (by omega)) (e3 (q + 1) (by omega) (by omega)))
    refine ⟨D', g1, ?_, fun a ha hb => by rw [g3 a ha hb, e3 a ha hb]⟩
    have : zs ++ ys.drop j = zs ++ [ys.getD j 0] ++ ys.drop (j + 1) := by
      rw [List.drop_eq_getElem_cons (by omega : j < ys.length)]
      simp [show j < ys.length by omega]
    rw [this]
    exact g2
theorem l_addBehind (hr : isRw r n = true) (hq : isRw q m = true) (hne : r ≠ q) (hx : RowD D r xs) (hy : RowD D q ys) (hxn : xs.length ≤ n) (hym : ys.length ≤ m) (hj : (joinL xs ys).length ≤ n) : ∃ D', fX2_addBehind (Y w D) r q = some (Y w D') ∧ RowD D' r (joinL xs ys) ∧ (∀ a, a ≠ r → a ≠ r + 1 → D' a = D a) := by
  have hm := rw_n hq
  have ho := ovl_le xs ys
  have hj2 : xs.length + (ys.length - ovl xs ys) ≤ n := by simpa [joinL] using hj
  unfold fX2_addBehind
  rw [if_pos (rw_o hr), l_overlapWith hr hq hx hy hxn hym, Option.bind_some]
  exact l_addBehind_c6 hr hq hne hym (ys.length - ovl xs ys) (ovl xs ys) FUEL D xs (by omega) (FU (by omega)) hx hj2 hy
def digL : Nat → Int64 → List Int32
  | 0, _ => []
  | k + 1, v => digL k (v / 10) ++ [Int64.toInt32 (v - v / (10 : Int64) * (10 : Int64))]
theorem digL_len : ∀ (k : Nat) (v : Int64), (digL k v).length = k
  | 0, _ => rfl
  | k + 1, v => by simp [digL, digL_len k]
theorem l_setFigures_c28 (hr : isRw r n = true) {N : Nat} (hN : N ≤ n) : ∀ (k fuel : Nat) (D : mD) (v : Int64) (zs : List Int32), k ≤ N → k + zs.length = N → k < fuel → (∀ j, k ≤ j → j < N → D (r + 1) j = zs.getD (j - k) 0) → ∃ D', fX2_setFigures_c28 fuel (Y w D) r v (nI k - 1) = some (Y w D') ∧ (∀ j, j < N → D' (r + 1) j = (digL k v ++ zs).getD j 0) ∧ (∀ a, a ≠ r + 1 → D' a = D a) := by
  have hn := rw_n hr
  intro k
  induction k with
  | zero =>
    intro fuel D v zs hk hz hf h1
    obtain ⟨f, rfl, hf⟩ := fu hf
    rw [fX2_setFigures_c28.eq_2, if_pos (by rw [nI_0]; decide)]
    exact ⟨D, rfl, fun j hj => by rw [h1 j (by omega) hj]; rfl, fun a _ => rfl⟩
  | succ k ih =>
    intro fuel D v zs hk hz hf h1
    obtain ⟨f, rfl, hf⟩ := fu hf
    rw [fX2_setFigures_c28.eq_2, nI_pred, if_neg (nI_pos (by omega)), rw_ar hr, Option.bind_some, rw_st hr (by omega), Option.bind_some, show nI k + (-1) = nI k - 1 from by rw [Int32.sub_eq_add_neg]]
    obtain ⟨D', g1, g2, g3⟩ := ih f (ud D (r + 1) k (Int64.toInt32 (v - v / (10 : Int64) * (10 : Int64)))) (v / 10) (Int64.toInt32 (v - v / (10 : Int64) * (10 : Int64)) :: zs) (by omega) (by simp; omega) (by omega) (fun j hj1 hj2 => by
      by_cases hjk : j = k
      · subst hjk
        rw [ud_s]
        simp
      · rw [ud_n (by omega), h1 j (by omega) hj2]
        obtain ⟨i, rfl⟩ : ∃ i, j = k + 1 + i := ⟨j - k - 1, by omega⟩
        rw [show k + 1 + i - (k + 1) = i by omega, show k + 1 + i - k = i + 1 by omega]
        simp)
    refine ⟨D', g1, fun j hj => ?_, fun a ha => by rw [g3 a ha, ud_r ha]⟩
    rw [g2 j hj]
    simp [digL]
theorem l_max0 {a : Nat} (ha : a < 2 ^ 31) : (if nI a < 0 then 0 else nI a) = nI a := if_neg (nI_pos ha)
theorem l_setFigures {N : Nat} {v : Int64} (hr : isRw r n = true) (hN : N ≤ n) : ∃ D', fX2_setFigures (Y w D) r (nI N) v = some (Y w D') ∧ RowD D' r (digL N v) ∧ (∀ a, a ≠ r → a ≠ r + 1 → D' a = D a) := by
  have hn := rw_n hr
  unfold fX2_setFigures
  rw [if_pos (rw_o hr), rw_ar hr, Option.bind_some, rw_ln hr, Option.bind_some, l_min (by omega) (by omega), show min N n = N by omega, l_max0 (by omega), rw_ss hr, Option.bind_some, rw_sz hr, Option.bind_some, ud_s]
  obtain ⟨D', g1, g2, g3⟩ := l_setFigures_c28 (w := w) hr hN N FUEL (ud D r 1 (nI N)) v [] (by omega) (by simp) (FU (by omega)) (fun j h1 h2 => by omega)
  refine ⟨D', g1, ⟨by rw [g3 r (by omega), ud_s, digL_len], fun j hj => ?_⟩, fun a h1 h2 => by rw [g3 a h2, ud_r h1]⟩
  rw [g2 j (by rwa [digL_len] at hj), List.append_nil]
end RW
