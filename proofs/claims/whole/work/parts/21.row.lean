/-! ===== rows: what the class's Row does, as lists ===== -/
def b2i (b : Bool) : Int32 := if b = true then 1 else 0
def alF (P : Nat → Bool) : Nat → Nat → Bool
  | _, 0 => true
  | j, k + 1 => P j && alF P (j + 1) k
def bearsB (xs : List Int32) (p : Nat) (ys : List Int32) : Bool := decide (p + ys.length ≤ xs.length) && alF (fun i => xs.getD (p + i) 0 == ys.getD i 0) 0 ys.length
def endsB (xs ys : List Int32) (k : Nat) : Bool := alF (fun i => xs.getD (xs.length - k + i) 0 == ys.getD i 0) 0 k
def ovlF (xs ys : List Int32) : Nat → Nat
  | 0 => 0
  | k + 1 => if endsB xs ys (k + 1) = true then k + 1 else ovlF xs ys k
def ovl (xs ys : List Int32) : Nat := ovlF xs ys (min xs.length ys.length)
def joinL (xs ys : List Int32) : List Int32 := xs ++ ys.drop (ovl xs ys)
def fstF (xs ys : List Int32) : Nat → Nat → Int32
  | _, 0 => -9
  | j, k + 1 => if bearsB xs j ys = true then nI j else fstF xs ys (j + 1) k
def fstP (xs ys : List Int32) : Int32 := fstF xs ys 0 xs.length
def bitsI (n p : Nat) : Int32 := ((1 <<< (nI n &&& 31)) - 1) <<< (nI p &&& 31)
def undF (xs ys : List Int32) : Nat → Nat → Int32 → Int32
  | _, 0, a => a
  | j, k + 1, a => undF xs ys (j + 1) k (if bearsB xs j ys = true then a ||| bitsI ys.length j else a)
def undP (xs ys : List Int32) : Int32 := undF xs ys 0 xs.length 0
def figF (xs : List Int32) : Nat → Nat → Int64 → Int64
  | _, 0, a => a
  | j, k + 1, a => figF xs (j + 1) k ((10 : Int64) * a + Int32.toInt64 (xs.getD j 0))
def figL (xs : List Int32) : Int64 := figF xs 0 xs.length 0
theorem ovlF_le (xs ys : List Int32) : ∀ k, ovlF xs ys k ≤ k
  | 0 => Nat.le_refl 0
  | k + 1 => by
    unfold ovlF
    split
    · exact Nat.le_refl _
    · exact Nat.le_succ_of_le (ovlF_le xs ys k)
theorem ovl_le (xs ys : List Int32) : ovl xs ys ≤ xs.length ∧ ovl xs ys ≤ ys.length := by
  have := ovlF_le xs ys (min xs.length ys.length)
  unfold ovl
  omega
/-- cell r is a row of these numbers -/
def RowD (D : mD) (r : Nat) (xs : List Int32) : Prop := D r 1 = nI xs.length ∧ ∀ j, j < xs.length → D (r + 1) j = xs.getD j 0
theorem RowD.kept {D D' : mD} {r : Nat} {xs : List Int32} (h : RowD D r xs) (h1 : D' r = D r) (h2 : D' (r + 1) = D (r + 1)) : RowD D' r xs := ⟨by rw [h1]; exact h.1, fun j hj => by rw [h2]; exact h.2 j hj⟩
section RW
variable {w : mW} {D : mD} {r q n m : Nat} {xs ys : List Int32}
theorem rw_o (hr : isRw r n = true) : isO (Y w D) r 2 = true := Y_isO (isRw_s hr).1
theorem rw_sz (hr : isRw r n = true) : gI (Y w D) r 2 1 = some (D r 1) := Y_gI (isRw_s hr).2.1
theorem rw_ar (hr : isRw r n = true) : gR (Y w D) r 2 0 = some (r + 1) := Y_gR (isRw_s hr).2.2.1
theorem rw_ln (hr : isRw r n = true) : aLen (Y w D) (r + 1) = some (nI n) := Y_len (isRw_s hr).2.2.2
theorem rw_at {j : Nat} (hr : isRw r n = true) (hj : j < n) : aI (Y w D) false (r + 1) (nI j) = some (D (r + 1) j) := Y_aI (isRw_s hr).2.2.2 hj
theorem rw_st {j : Nat} {v : Int32} (hr : isRw r n = true) (hj : j < n) : aS (Y w D) false (r + 1) (nI j) v = some (Y w (ud D (r + 1) j v)) := Y_aS (isRw_s hr).2.2.2 hj
theorem rw_ss {v : Int32} (hr : isRw r n = true) : sV (Y w D) r 2 1 (.int v) = some (Y w (ud D r 1 v)) := Y_sI (isRw_s hr).2.1
theorem rw_n (hr : isRw r n = true) : n < 1000 := (okA_s (isRw_s hr).2.2.2).2.2.2.2
theorem rw_ne (hr : isRw r n = true) (hq : isRw q m = true) : r ≠ q + 1 := by
  intro h
  have h1 := (okO_s (isRw_s hr).1).2.1
  have h2 := (okA_s (isRw_s hq).2.2.2).2.1
  rw [← h, h1] at h2
  simp at h2
theorem il_t {α : Type} {a b : Nat} {t e : α} (h : a ≤ b) (hb : b < 2 ^ 31) : (if nI a ≤ nI b then t else e) = t := if_pos (nI_le h hb)
theorem il_f {α : Type} {a b : Nat} {t e : α} (h : b < a) (ha : a < 2 ^ 31) : (if nI a ≤ nI b then t else e) = e := if_neg (nI_ge h ha)
theorem fu {fuel k : Nat} (h : k < fuel) : ∃ f, fuel = f + 1 ∧ k ≤ f := ⟨fuel - 1, by omega, by omega⟩
theorem FU {k : Nat} (h : k < 1000000) : k < FUEL := h
/-- bearsAt -/
theorem l_bearsAt_c21 (hr : isRw r n = true) (hq : isRw q m = true) (hx : RowD D r xs) (hy : RowD D q ys) (hxn : xs.length ≤ n) (hym : ys.length ≤ m) {p : Nat} (hp : p + ys.length ≤ xs.length) : ∀ (k j fuel : Nat), j + k = ys.length → k < fuel → fX2_bearsAt_c21 (Y w D) fuel r (nI p) q (nI j) = some (b2i (alF (fun i => xs.getD (p + i) 0 == ys.getD i 0) j k)) := by
  have hn := rw_n hr
  have hm := rw_n hq
  intro k
  induction k with
  | zero =>
    intro j fuel hj hf
    obtain ⟨f, rfl, hf⟩ := fu hf
    rw [fX2_bearsAt_c21.eq_2, rw_sz hq, Option.bind_some, hy.1, il_t (by omega) (by omega)]
    rfl
  | succ k ih =>
    intro j fuel hj hf
    obtain ⟨f, rfl, hf⟩ := fu hf
    rw [fX2_bearsAt_c21.eq_2, rw_sz hq, Option.bind_some, hy.1, il_f (by omega) (by omega), rw_ar hr, Option.bind_some, nI_add, rw_at hr (by omega), Option.bind_some, rw_ar hq, Option.bind_some, rw_at hq (by omega), Option.bind_some, hx.2 _ (by omega), hy.2 _ (by omega)]
    by_cases he : xs.getD (p + j) 0 = ys.getD j 0
    · rw [if_pos he, nI_1, ih (j + 1) f (by omega) (by omega)]
      simp only [alF, he, beq_self_eq_true, Bool.true_and]
    · rw [if_neg he]
      simp only [alF, beq_eq_false_iff_ne.mpr he, Bool.false_and, b2i, Bool.false_eq_true, if_false]
theorem l_bearsAt (hr : isRw r n = true) (hq : isRw q m = true) (hx : RowD D r xs) (hy : RowD D q ys) (hxn : xs.length ≤ n) (hym : ys.length ≤ m) {p : Nat} (hp : p < 1000) : fX2_bearsAt (Y w D) r (nI p) q = some (b2i (bearsB xs p ys)) := by
  have hn := rw_n hr
  have hm := rw_n hq
  unfold fX2_bearsAt
  rw [if_pos (rw_o hr), if_neg (nI_pos (by omega)), rw_sz hr, Option.bind_some, rw_sz hq, Option.bind_some, hx.1, hy.1]
  by_cases h : p + ys.length ≤ xs.length
  · rw [pk_sub (by omega), il_t (by omega) (by omega), ← nI_0, l_bearsAt_c21 hr hq hx hy hxn hym h ys.length 0 FUEL (by omega) (FU (by omega))]
    simp [bearsB, h]
  · have hb : bearsB xs p ys = false := by simp [bearsB, h]
    rw [hb]
    by_cases h2 : ys.length ≤ xs.length
    · rw [pk_sub h2, il_f (by omega) (by omega)]
      rfl
    · rw [if_neg]
      · rfl
      · have h3 := pk_sneg (a := xs.length) (b := ys.length) (by omega) (by omega)
        intro h4
        exact absurd (Int32.lt_of_le_of_lt h4 h3) (nI_pos (by omega))
end RW
