/-! ===== the cells behind the two constructors, as a function of numbers: D (cell, place), the seeds apart ===== -/
def shp : List (Nat × Nat × List Nat) := [(99, 0, []), (7, 13, [2, 4, 18, 32, 230, 260, 263, 265, 267, 269, 270, 271, 0]), (5, 2, [3, 0]), (30, 48, []), (6, 3, [5, 0, 0]), (40, 4, [6, 9, 12, 15]), (4, 3, [7, 0, 0]), (2, 2, [8, 0]), (30, 12, []), (4, 3, [10, 0, 0]), (2, 2, [11, 0]), (30, 12, []), (4, 3, [13, 0, 0]), (2, 2, [14, 0]), (30, 12, []), (4, 3, [16, 0, 0]), (2, 2, [17, 0]), (30, 12, []), (6, 3, [19, 0, 0]), (40, 4, [20, 23, 26, 29]), (4, 3, [21, 0, 0]), (2, 2, [22, 0]), (30, 12, []), (4, 3, [24, 0, 0]), (2, 2, [25, 0]), (30, 12, []), (4, 3, [27, 0, 0]), (2, 2, [28, 0]), (30, 12, []), (4, 3, [30, 0, 0]), (2, 2, [31, 0]), (30, 12, []), (0, 3, [33, 0, 0]), (41, 14, [34, 48, 62, 76, 90, 104, 118, 132, 146, 160, 174, 188, 202, 216]), (6, 3, [35, 0, 0]), (40, 4, [36, 39, 42, 45]), (4, 3, [37, 0, 0]), (2, 2, [38, 0]), (30, 12, []), (4, 3, [40, 0, 0]), (2, 2, [41, 0]), (30, 12, []), (4, 3, [43, 0, 0]), (2, 2, [44, 0]), (30, 12, []), (4, 3, [46, 0, 0]), (2, 2, [47, 0]), (30, 12, []), (6, 3, [49, 0, 0]), (40, 4, [50, 53, 56, 59]), (4, 3, [51, 0, 0]), (2, 2, [52, 0]), (30, 12, []), (4, 3, [54, 0, 0]), (2, 2, [55, 0]), (30, 12, []), (4, 3, [57, 0, 0]), (2, 2, [58, 0]), (30, 12, []), (4, 3, [60, 0, 0]), (2, 2, [61, 0]), (30, 12, []), (6, 3, [63, 0, 0]), (40, 4, [64, 67, 70, 73]), (4, 3, [65, 0, 0]), (2, 2, [66, 0]), (30, 12, []), (4, 3, [68, 0, 0]), (2, 2, [69, 0]), (30, 12, []), (4, 3, [71, 0, 0]), (2, 2, [72, 0]), (30, 12, []), (4, 3, [74, 0, 0]), (2, 2, [75, 0]), (30, 12, []), (6, 3, [77, 0, 0]), (40, 4, [78, 81, 84, 87]), (4, 3, [79, 0, 0]), (2, 2, [80, 0]), (30, 12, []), (4, 3, [82, 0, 0]), (2, 2, [83, 0]), (30, 12, []), (4, 3, [85, 0, 0]), (2, 2, [86, 0]), (30, 12, []), (4, 3, [88, 0, 0]), (2, 2, [89, 0]), (30, 12, []), (6, 3, [91, 0, 0]), (40, 4, [92, 95, 98, 101]), (4, 3, [93, 0, 0]), (2, 2, [94, 0]), (30, 12, []), (4, 3, [96, 0, 0]), (2, 2, [97, 0]), (30, 12, []), (4, 3, [99, 0, 0]), (2, 2, [100, 0]), (30, 12, []), (4, 3, [102, 0, 0]), (2, 2, [103, 0]), (30, 12, []), (6, 3, [105, 0, 0]), (40, 4, [106, 109, 112, 115]), (4, 3, [107, 0, 0]), (2, 2, [108, 0]), (30, 12, []), (4, 3, [110, 0, 0]), (2, 2, [111, 0]), (30, 12, []), (4, 3, [113, 0, 0]), (2, 2, [114, 0]), (30, 12, []), (4, 3, [116, 0, 0]), (2, 2, [117, 0]), (30, 12, []), (6, 3, [119, 0, 0]), (40, 4, [120, 123, 126, 129]), (4, 3, [121, 0, 0]), (2, 2, [122, 0]), (30, 12, []), (4, 3, [124, 0, 0]), (2, 2, [125, 0]), (30, 12, []), (4, 3, [127, 0, 0]), (2, 2, [128, 0]), (30, 12, []), (4, 3, [130, 0, 0]), (2, 2, [131, 0]), (30, 12, []), (6, 3, [133, 0, 0]), (40, 4, [134, 137, 140, 143]), (4, 3, [135, 0, 0]), (2, 2, [136, 0]), (30, 12, []), (4, 3, [138, 0, 0]), (2, 2, [139, 0]), (30, 12, []), (4, 3, [141, 0, 0]), (2, 2, [142, 0]), (30, 12, []), (4, 3, [144, 0, 0]), (2, 2, [145, 0]), (30, 12, []), (6, 3, [147, 0, 0]), (40, 4, [148, 151, 154, 157]), (4, 3, [149, 0, 0]), (2, 2, [150, 0]), (30, 12, []), (4, 3, [152, 0, 0]), (2, 2, [153, 0]), (30, 12, []), (4, 3, [155, 0, 0]), (2, 2, [156, 0]), (30, 12, []), (4, 3, [158, 0, 0]), (2, 2, [159, 0]), (30, 12, []), (6, 3, [161, 0, 0]), (40, 4, [162, 165, 168, 171]), (4, 3, [163, 0, 0]), (2, 2, [164, 0]), (30, 12, []), (4, 3, [166, 0, 0]), (2, 2, [167, 0]), (30, 12, []), (4, 3, [169, 0, 0]), (2, 2, [170, 0]), (30, 12, []), (4, 3, [172, 0, 0]), (2, 2, [173, 0]), (30, 12, []), (6, 3, [175, 0, 0]), (40, 4, [176, 179, 182, 185]), (4, 3, [177, 0, 0]), (2, 2, [178, 0]), (30, 12, []), (4, 3, [180, 0, 0]), (2, 2, [181, 0]), (30, 12, []), (4, 3, [183, 0, 0]), (2, 2, [184, 0]), (30, 12, []), (4, 3, [186, 0, 0]), (2, 2, [187, 0]), (30, 12, []), (6, 3, [189, 0, 0]), (40, 4, [190, 193, 196, 199]), (4, 3, [191, 0, 0]), (2, 2, [192, 0]), (30, 12, []), (4, 3, [194, 0, 0]), (2, 2, [195, 0]), (30, 12, []), (4, 3, [197, 0, 0]), (2, 2, [198, 0]), (30, 12, []), (4, 3, [200, 0, 0]), (2, 2, [201, 0]), (30, 12, []), (6, 3, [203, 0, 0]), (40, 4, [204, 207, 210, 213]), (4, 3, [205, 0, 0]), (2, 2, [206, 0]), (30, 12, []), (4, 3, [208, 0, 0]), (2, 2, [209, 0]), (30, 12, []), (4, 3, [211, 0, 0]), (2, 2, [212, 0]), (30, 12, []), (4, 3, [214, 0, 0]), (2, 2, [215, 0]), (30, 12, []), (6, 3, [217, 0, 0]), (40, 4, [218, 221, 224, 227]), (4, 3, [219, 0, 0]), (2, 2, [220, 0]), (30, 12, []), (4, 3, [222, 0, 0]), (2, 2, [223, 0]), (30, 12, []), (4, 3, [225, 0, 0]), (2, 2, [226, 0]), (30, 12, []), (4, 3, [228, 0, 0]), (2, 2, [229, 0]), (30, 12, []), (3, 2, [231, 0]), (41, 2, [232, 246]), (6, 3, [233, 0, 0]), (40, 4, [234, 237, 240, 243]), (4, 3, [235, 0, 0]), (2, 2, [236, 0]), (30, 12, []), (4, 3, [238, 0, 0]), (2, 2, [239, 0]), (30, 12, []), (4, 3, [241, 0, 0]), (2, 2, [242, 0]), (30, 12, []), (4, 3, [244, 0, 0]), (2, 2, [245, 0]), (30, 12, []), (6, 3, [247, 0, 0]), (40, 4, [248, 251, 254, 257]), (4, 3, [249, 0, 0]), (2, 2, [250, 0]), (30, 12, []), (4, 3, [252, 0, 0]), (2, 2, [253, 0]), (30, 12, []), (4, 3, [255, 0, 0]), (2, 2, [256, 0]), (30, 12, []), (4, 3, [258, 0, 0]), (2, 2, [259, 0]), (30, 12, []), (1, 3, [261, 262, 0]), (30, 6, []), (31, 6, []), (2, 2, [264, 0]), (30, 12, []), (2, 2, [266, 0]), (30, 48, []), (2, 2, [268, 0]), (30, 12, []), (30, 4, []), (30, 16, []), (30, 16, []), (8, 24, [0, 273, 274, 275, 276, 277, 0, 278, 0, 0, 0, 0, 279, 0, 0, 280, 281, 0, 0, 282, 283, 0, 284, 285]), (30, 4, []), (30, 114, []), (30, 8, []), (30, 4, []), (30, 24, []), (30, 48, []), (30, 12, []), (30, 798, []), (30, 48, []), (30, 6, []), (30, 6, []), (31, 2, []), (30, 114, [])]
def SH (a : Nat) : Nat := (shp.getD a (50, 0, [])).1
def LN (a : Nat) : Nat := (shp.getD a (50, 0, [])).2.1
def RF (a k : Nat) : Nat := (shp.getD a (50, 0, [])).2.2.getD k 0
abbrev mD : Type := Nat → Nat → Int32
abbrev mW : Type := List Int32 × (Nat → Int64)
def isLg (a k : Nat) : Bool := (SH a == 7 && k == 12) || (SH a == 8 && k == 21)
def fvl (w : mW) (D : mD) (a k : Nat) : Value := if RF a k ≠ 0 then .ref (RF a k) else if isLg a k = true then .long (w.2 a) else .int (D a k)
def cel (w : mW) (D : mD) (a : Nat) : mC :=
  if SH a = 99 then .inr (.inl (false, w.1))
  else if SH a = 30 then .inr (.inl (false, (List.range (LN a)).map (D a)))
  else if SH a = 31 then .inr (.inl (true, (List.range (LN a)).map (D a)))
  else if SH a = 40 then .inr (.inr (false, (List.range (LN a)).map (fun k => .ref (RF a k))))
  else if SH a = 41 then .inr (.inr (true, (List.range (LN a)).map (fun k => .ref (RF a k))))
  else .inl (SH a, (List.range (LN a)).map (fvl w D a))
def Y (w : mW) (D : mD) : mM := (List.range 286).map (cel w D)
def ud (D : mD) (a k : Nat) (v : Int32) : mD := fun a' k' => if a' = a ∧ k' = k then v else D a' k'
def okO (a ci : Nat) : Bool := decide (a < 286 ∧ SH a = ci ∧ ci < 9 ∧ 0 < a)
def okI (a ci k : Nat) : Bool := okO a ci && decide (k < LN a) && decide (RF a k = 0) && !isLg a k
def okL (a ci k : Nat) : Bool := okO a ci && decide (k < LN a) && decide (RF a k = 0) && isLg a k
def okR (a ci k q : Nat) : Bool := okO a ci && decide (k < LN a) && decide (RF a k = q) && decide (q ≠ 0)
def okA (z : Bool) (a n : Nat) : Bool := decide (a < 286 ∧ SH a = (if z then 31 else 30) ∧ LN a = n ∧ 0 < a ∧ n < 1000)
def okQ (z : Bool) (a i q : Nat) : Bool := decide (a < 286 ∧ SH a = (if z then 41 else 40) ∧ i < LN a ∧ RF a i = q ∧ i < 1000)
theorem Y_at {w : mW} {D : mD} {a : Nat} (h : a < 286) : (Y w D)[a]? = some (cel w D a) := by
  simp [Y, h]
theorem Y_set {w w' : mW} {D D' : mD} {a : Nat} (h : a < 286) (h1 : ∀ b, b ≠ a → cel w' D' b = cel w D b) : (Y w D).set a (cel w' D' a) = Y w' D' := by
  apply List.ext_getElem?
  intro b
  by_cases hb : b = a
  · subst hb
    rw [List.getElem?_set_self (by simp [Y, h]), Y_at h]
  · rw [List.getElem?_set_ne (Ne.symm hb)]
    by_cases hl : b < 286
    · rw [Y_at hl, Y_at hl, h1 b hb]
    · simp [Y, hl]
theorem okO_s {a ci : Nat} (h : okO a ci = true) : a < 286 ∧ SH a = ci ∧ ci < 9 ∧ 0 < a := of_decide_eq_true h
theorem cel_o {w : mW} {D : mD} {a ci : Nat} (h : okO a ci = true) : cel w D a = .inl (ci, (List.range (LN a)).map (fvl w D a)) := by
  obtain ⟨h1, h2, h3, h4⟩ := okO_s h
  unfold cel
  rw [h2, if_neg (by omega), if_neg (by omega), if_neg (by omega), if_neg (by omega), if_neg (by omega)]
theorem okI_s {a ci k : Nat} (h : okI a ci k = true) : okO a ci = true ∧ k < LN a ∧ RF a k = 0 ∧ isLg a k = false := by
  simp only [okI, Bool.and_eq_true, decide_eq_true_eq, Bool.not_eq_true'] at h
  exact ⟨h.1.1.1, h.1.1.2, h.1.2, h.2⟩
theorem okL_s {a ci k : Nat} (h : okL a ci k = true) : okO a ci = true ∧ k < LN a ∧ RF a k = 0 ∧ isLg a k = true := by
  simp only [okL, Bool.and_eq_true, decide_eq_true_eq] at h
  exact ⟨h.1.1.1, h.1.1.2, h.1.2, h.2⟩
theorem okR_s {a ci k q : Nat} (h : okR a ci k q = true) : okO a ci = true ∧ k < LN a ∧ RF a k = q ∧ q ≠ 0 := by
  simp only [okR, Bool.and_eq_true, decide_eq_true_eq] at h
  exact ⟨h.1.1.1, h.1.1.2, h.1.2, h.2⟩
theorem Y_gV {w : mW} {D : mD} {a ci k : Nat} (h : okO a ci = true) (hk : k < LN a) : gV (Y w D) a ci k = some (fvl w D a k) := by
  unfold gV
  rw [Y_at (okO_s h).1, cel_o h]
  simp [hk]
theorem Y_isO {w : mW} {D : mD} {a ci : Nat} (h : okO a ci = true) : isO (Y w D) a ci = true := by
  unfold isO
  rw [Y_at (okO_s h).1, cel_o h]
  simp
theorem Y_gI {w : mW} {D : mD} {a ci k : Nat} (h : okI a ci k = true) : gI (Y w D) a ci k = some (D a k) := by
  obtain ⟨h1, h2, h3, h4⟩ := okI_s h
  unfold gI
  rw [Y_gV h1 h2, fvl, if_neg (by rw [h3]; exact fun q => q rfl), if_neg (by rw [h4]; decide)]
theorem Y_gL {w : mW} {D : mD} {a ci k : Nat} (h : okL a ci k = true) : gL (Y w D) a ci k = some (w.2 a) := by
  obtain ⟨h1, h2, h3, h4⟩ := okL_s h
  unfold gL
  rw [Y_gV h1 h2, fvl, if_neg (by rw [h3]; exact fun q => q rfl), if_pos h4]
theorem Y_gR {w : mW} {D : mD} {a ci k q : Nat} (h : okR a ci k q = true) : gR (Y w D) a ci k = some q := by
  obtain ⟨h1, h2, h3, h4⟩ := okR_s h
  unfold gR
  rw [Y_gV h1 h2, fvl, if_pos (by rw [h3]; exact h4), h3]
theorem cel_ud {w : mW} {D : mD} {a b k : Nat} {v : Int32} (h : b ≠ a) : cel w (ud D a k v) b = cel w D b := by
  have e : ud D a k v b = D b := by
    funext j
    simp [ud, h]
  unfold cel
  have e2 : fvl w (ud D a k v) b = fvl w D b := by
    funext j
    simp only [fvl, e]
  rw [e, e2]
theorem Y_sI {w : mW} {D : mD} {a ci k : Nat} {v : Int32} (h : okI a ci k = true) : sV (Y w D) a ci k (.int v) = some (Y w (ud D a k v)) := by
  obtain ⟨h1, h2, h3, h4⟩ := okI_s h
  obtain ⟨o1, o2, o3, o4⟩ := okO_s h1
  have key : (Sum.inl (ci, ((List.range (LN a)).map (fvl w D a)).set k (.int v)) : mC) = cel w (ud D a k v) a := by
    rw [cel_o h1]
    congr 2
    apply List.ext_getElem?
    intro j
    by_cases hj : j = k
    · subst hj
      rw [List.getElem?_set_self (by simpa using h2)]
      simp [h2, fvl, h3, h4, ud]
    · rw [List.getElem?_set_ne (Ne.symm hj)]
      by_cases hl : j < LN a
      · simp [hl, fvl, ud, hj]
      · simp [hl]
  unfold sV
  rw [Y_at o1, cel_o h1]
  simp only [List.length_map, List.length_range]
  rw [if_pos ⟨trivial, h2, o4⟩, key, Y_set o1 (fun b hb => cel_ud hb)]
theorem Y_sL {w : mW} {D : mD} {a ci k : Nat} {v : Int64} (h : okL a ci k = true) : sV (Y w D) a ci k (.long v) = some (Y (w.1, fun q => if q = a then v else w.2 q) D) := by
  obtain ⟨h1, h2, h3, h4⟩ := okL_s h
  obtain ⟨o1, o2, o3, o4⟩ := okO_s h1
  have uniq : ∀ j, isLg a j = true → j = k := by
    intro j hj
    simp only [isLg, Bool.or_eq_true, Bool.and_eq_true, beq_iff_eq] at hj h4
    omega
  have key : (Sum.inl (ci, ((List.range (LN a)).map (fvl w D a)).set k (.long v)) : mC) = cel (w.1, fun q => if q = a then v else w.2 q) D a := by
    rw [cel_o h1]
    congr 2
    apply List.ext_getElem?
    intro j
    by_cases hj : j = k
    · subst hj
      rw [List.getElem?_set_self (by simpa using h2)]
      simp [h2, fvl, h3, h4]
    · rw [List.getElem?_set_ne (Ne.symm hj)]
      have hn : isLg a j = false := by
        cases hb : isLg a j with
        | false => rfl
        | true => exact absurd (uniq j hb) hj
      by_cases hl : j < LN a
      · simp [hl, fvl, hn]
      · simp [hl]
  have other : ∀ b, b ≠ a → cel (w.1, fun q => if q = a then v else w.2 q) D b = cel w D b := by
    intro b hb
    unfold cel
    have e2 : fvl (w.1, fun q => if q = a then v else w.2 q) D b = fvl w D b := by
      funext j
      simp only [fvl, if_neg hb]
    rw [e2]
  unfold sV
  rw [Y_at o1, cel_o h1]
  simp only [List.length_map, List.length_range]
  rw [if_pos ⟨trivial, h2, o4⟩, key, Y_set o1 other]
theorem okA_s {z : Bool} {a n : Nat} (h : okA z a n = true) : a < 286 ∧ SH a = (if z then 31 else 30) ∧ LN a = n ∧ 0 < a ∧ n < 1000 := of_decide_eq_true h
theorem cel_a {w : mW} {D : mD} {z : Bool} {a n : Nat} (h : okA z a n = true) : cel w D a = .inr (.inl (z, (List.range n).map (D a))) := by
  obtain ⟨h1, h2, h3, h4, h5⟩ := okA_s h
  unfold cel
  cases z
  · rw [h2]; simp [h3]
  · rw [h2]; simp [h3]
theorem Y_len {w : mW} {D : mD} {z : Bool} {a n : Nat} (h : okA z a n = true) : aLen (Y w D) a = some (nI n) := by
  unfold aLen
  rw [Y_at (okA_s h).1, cel_a h]
  simp
theorem Y_aI {w : mW} {D : mD} {z : Bool} {a n j : Nat} (h : okA z a n = true) (hj : j < n) : aI (Y w D) z a (nI j) = some (D a j) := by
  obtain ⟨h1, h2, h3, h4, h5⟩ := okA_s h
  unfold aI
  rw [Y_at h1, cel_a h]
  simp only
  rw [if_pos ⟨trivial, nI_pos (by omega)⟩, nI_clamp (by omega)]
  simp [hj]
theorem Y_aS {w : mW} {D : mD} {z : Bool} {a n j : Nat} {v : Int32} (h : okA z a n = true) (hj : j < n) : aS (Y w D) z a (nI j) v = some (Y w (ud D a j v)) := by
  obtain ⟨h1, h2, h3, h4, h5⟩ := okA_s h
  have key : (Sum.inr (Sum.inl (z, ((List.range n).map (D a)).set j v)) : mC) = cel w (ud D a j v) a := by
    rw [cel_a h]
    congr 3
    apply List.ext_getElem?
    intro i
    by_cases hi : i = j
    · subst hi
      rw [List.getElem?_set_self (by simpa using hj)]
      simp [hj, ud]
    · rw [List.getElem?_set_ne (Ne.symm hi)]
      by_cases hl : i < n
      · simp [hl, ud, hi]
      · simp [hl]
  unfold aS
  rw [Y_at h1, cel_a h]
  simp only [List.length_map, List.length_range]
  rw [nI_clamp (by omega), if_pos ⟨trivial, nI_pos (by omega), hj, h4⟩, key, Y_set h1 (fun b hb => cel_ud hb)]
theorem okQ_s {z : Bool} {a i q : Nat} (h : okQ z a i q = true) : a < 286 ∧ SH a = (if z then 41 else 40) ∧ i < LN a ∧ RF a i = q ∧ i < 1000 := of_decide_eq_true h
theorem Y_qI {w : mW} {D : mD} {z : Bool} {a i q : Nat} (h : okQ z a i q = true) : qI (Y w D) z a (nI i) = some q := by
  obtain ⟨h1, h2, h3, h4, h5⟩ := okQ_s h
  have hc : cel w D a = .inr (.inr (z, (List.range (LN a)).map (fun k => .ref (RF a k)))) := by
    unfold cel
    cases z
    · rw [h2]; simp
    · rw [h2]; simp
  unfold qI
  rw [Y_at h1, hc]
  simp only
  rw [if_pos ⟨trivial, nI_pos (by omega)⟩, nI_clamp (by omega)]
  simp [h3, h4]
theorem Y_scl {w : mW} {D : mD} : aLen (Y w D) 0 = some (nI w.1.length) := by
  unfold aLen
  rw [Y_at (by decide), show cel w D 0 = .inr (.inl (false, w.1)) from rfl]
theorem Y_sci {w : mW} {D : mD} {j : Nat} (hj : j < w.1.length) (hl : w.1.length < 2 ^ 31) : aI (Y w D) false 0 (nI j) = some (w.1.getD j 0) := by
  unfold aI
  rw [Y_at (by decide), show cel w D 0 = .inr (.inl (false, w.1)) from rfl]
  simp only
  rw [if_pos ⟨trivial, nI_pos (by omega)⟩, nI_clamp (by omega)]
  simp [hj]
theorem ud_s {D : mD} {a k : Nat} {v : Int32} : ud D a k v a k = v := by simp [ud]
theorem ud_n {D : mD} {a k a' k' : Nat} {v : Int32} (h : ¬ (a' = a ∧ k' = k)) : ud D a k v a' k' = D a' k' := by simp [ud, h]
theorem ud_r {D : mD} {a k a' : Nat} {v : Int32} (h : a' ≠ a) : ud D a k v a' = D a' := by
  funext j
  simp [ud, h]
theorem eO_1 {w : mW} {D : mD} : isO (Y w D) 1 7 = true := Y_isO (by decide +kernel)
theorem eF_1_0 {w : mW} {D : mD} : gR (Y w D) 1 7 0 = some 2 := Y_gR (by decide +kernel)
theorem eF_1_1 {w : mW} {D : mD} : gR (Y w D) 1 7 1 = some 4 := Y_gR (by decide +kernel)
theorem eF_1_2 {w : mW} {D : mD} : gR (Y w D) 1 7 2 = some 18 := Y_gR (by decide +kernel)
theorem eF_1_3 {w : mW} {D : mD} : gR (Y w D) 1 7 3 = some 32 := Y_gR (by decide +kernel)
theorem eF_1_4 {w : mW} {D : mD} : gR (Y w D) 1 7 4 = some 230 := Y_gR (by decide +kernel)
theorem eF_1_5 {w : mW} {D : mD} : gR (Y w D) 1 7 5 = some 260 := Y_gR (by decide +kernel)
theorem eF_1_6 {w : mW} {D : mD} : gR (Y w D) 1 7 6 = some 263 := Y_gR (by decide +kernel)
theorem eF_1_7 {w : mW} {D : mD} : gR (Y w D) 1 7 7 = some 265 := Y_gR (by decide +kernel)
theorem eF_1_8 {w : mW} {D : mD} : gR (Y w D) 1 7 8 = some 267 := Y_gR (by decide +kernel)
theorem eF_1_9 {w : mW} {D : mD} : gR (Y w D) 1 7 9 = some 269 := Y_gR (by decide +kernel)
theorem eF_1_10 {w : mW} {D : mD} : gR (Y w D) 1 7 10 = some 270 := Y_gR (by decide +kernel)
theorem eF_1_11 {w : mW} {D : mD} : gR (Y w D) 1 7 11 = some 271 := Y_gR (by decide +kernel)
theorem eF_1_12 {w : mW} {D : mD} : gL (Y w D) 1 7 12 = some (w.2 1) := Y_gL (by decide +kernel)
theorem eO_2 {w : mW} {D : mD} : isO (Y w D) 2 5 = true := Y_isO (by decide +kernel)
theorem eF_2_0 {w : mW} {D : mD} : gR (Y w D) 2 5 0 = some 3 := Y_gR (by decide +kernel)
theorem eF_2_1 {w : mW} {D : mD} : gI (Y w D) 2 5 1 = some (D 2 1) := Y_gI (by decide +kernel)
theorem eS_2_1 {w : mW} {D : mD} {v : Int32} : sV (Y w D) 2 5 1 (.int v) = some (Y w (ud D 2 1 v)) := Y_sI (by decide +kernel)
theorem eO_32 {w : mW} {D : mD} : isO (Y w D) 32 0 = true := Y_isO (by decide +kernel)
theorem eF_32_0 {w : mW} {D : mD} : gR (Y w D) 32 0 0 = some 33 := Y_gR (by decide +kernel)
theorem eF_32_1 {w : mW} {D : mD} : gI (Y w D) 32 0 1 = some (D 32 1) := Y_gI (by decide +kernel)
theorem eS_32_1 {w : mW} {D : mD} {v : Int32} : sV (Y w D) 32 0 1 (.int v) = some (Y w (ud D 32 1 v)) := Y_sI (by decide +kernel)
theorem eF_32_2 {w : mW} {D : mD} : gI (Y w D) 32 0 2 = some (D 32 2) := Y_gI (by decide +kernel)
theorem eS_32_2 {w : mW} {D : mD} {v : Int32} : sV (Y w D) 32 0 2 (.int v) = some (Y w (ud D 32 2 v)) := Y_sI (by decide +kernel)
theorem eO_230 {w : mW} {D : mD} : isO (Y w D) 230 3 = true := Y_isO (by decide +kernel)
theorem eF_230_0 {w : mW} {D : mD} : gR (Y w D) 230 3 0 = some 231 := Y_gR (by decide +kernel)
theorem eF_230_1 {w : mW} {D : mD} : gI (Y w D) 230 3 1 = some (D 230 1) := Y_gI (by decide +kernel)
theorem eS_230_1 {w : mW} {D : mD} {v : Int32} : sV (Y w D) 230 3 1 (.int v) = some (Y w (ud D 230 1 v)) := Y_sI (by decide +kernel)
theorem eO_260 {w : mW} {D : mD} : isO (Y w D) 260 1 = true := Y_isO (by decide +kernel)
theorem eF_260_0 {w : mW} {D : mD} : gR (Y w D) 260 1 0 = some 261 := Y_gR (by decide +kernel)
theorem eF_260_1 {w : mW} {D : mD} : gR (Y w D) 260 1 1 = some 262 := Y_gR (by decide +kernel)
theorem eF_260_2 {w : mW} {D : mD} : gI (Y w D) 260 1 2 = some (D 260 2) := Y_gI (by decide +kernel)
theorem eS_260_2 {w : mW} {D : mD} {v : Int32} : sV (Y w D) 260 1 2 (.int v) = some (Y w (ud D 260 2 v)) := Y_sI (by decide +kernel)
theorem eO_263 {w : mW} {D : mD} : isO (Y w D) 263 2 = true := Y_isO (by decide +kernel)
theorem eF_263_0 {w : mW} {D : mD} : gR (Y w D) 263 2 0 = some 264 := Y_gR (by decide +kernel)
theorem eF_263_1 {w : mW} {D : mD} : gI (Y w D) 263 2 1 = some (D 263 1) := Y_gI (by decide +kernel)
theorem eS_263_1 {w : mW} {D : mD} {v : Int32} : sV (Y w D) 263 2 1 (.int v) = some (Y w (ud D 263 1 v)) := Y_sI (by decide +kernel)
theorem eO_265 {w : mW} {D : mD} : isO (Y w D) 265 2 = true := Y_isO (by decide +kernel)
theorem eF_265_0 {w : mW} {D : mD} : gR (Y w D) 265 2 0 = some 266 := Y_gR (by decide +kernel)
theorem eF_265_1 {w : mW} {D : mD} : gI (Y w D) 265 2 1 = some (D 265 1) := Y_gI (by decide +kernel)
theorem eS_265_1 {w : mW} {D : mD} {v : Int32} : sV (Y w D) 265 2 1 (.int v) = some (Y w (ud D 265 1 v)) := Y_sI (by decide +kernel)
theorem eO_267 {w : mW} {D : mD} : isO (Y w D) 267 2 = true := Y_isO (by decide +kernel)
theorem eF_267_0 {w : mW} {D : mD} : gR (Y w D) 267 2 0 = some 268 := Y_gR (by decide +kernel)
theorem eF_267_1 {w : mW} {D : mD} : gI (Y w D) 267 2 1 = some (D 267 1) := Y_gI (by decide +kernel)
theorem eS_267_1 {w : mW} {D : mD} {v : Int32} : sV (Y w D) 267 2 1 (.int v) = some (Y w (ud D 267 1 v)) := Y_sI (by decide +kernel)
theorem eO_272 {w : mW} {D : mD} : isO (Y w D) 272 8 = true := Y_isO (by decide +kernel)
theorem eF_272_0 {w : mW} {D : mD} : gI (Y w D) 272 8 0 = some (D 272 0) := Y_gI (by decide +kernel)
theorem eS_272_0 {w : mW} {D : mD} {v : Int32} : sV (Y w D) 272 8 0 (.int v) = some (Y w (ud D 272 0 v)) := Y_sI (by decide +kernel)
theorem eF_272_1 {w : mW} {D : mD} : gR (Y w D) 272 8 1 = some 273 := Y_gR (by decide +kernel)
theorem eF_272_2 {w : mW} {D : mD} : gR (Y w D) 272 8 2 = some 274 := Y_gR (by decide +kernel)
theorem eF_272_3 {w : mW} {D : mD} : gR (Y w D) 272 8 3 = some 275 := Y_gR (by decide +kernel)
theorem eF_272_4 {w : mW} {D : mD} : gR (Y w D) 272 8 4 = some 276 := Y_gR (by decide +kernel)
theorem eF_272_5 {w : mW} {D : mD} : gR (Y w D) 272 8 5 = some 277 := Y_gR (by decide +kernel)
theorem eF_272_6 {w : mW} {D : mD} : gI (Y w D) 272 8 6 = some (D 272 6) := Y_gI (by decide +kernel)
theorem eS_272_6 {w : mW} {D : mD} {v : Int32} : sV (Y w D) 272 8 6 (.int v) = some (Y w (ud D 272 6 v)) := Y_sI (by decide +kernel)
theorem eF_272_7 {w : mW} {D : mD} : gR (Y w D) 272 8 7 = some 278 := Y_gR (by decide +kernel)
theorem eF_272_8 {w : mW} {D : mD} : gI (Y w D) 272 8 8 = some (D 272 8) := Y_gI (by decide +kernel)
theorem eS_272_8 {w : mW} {D : mD} {v : Int32} : sV (Y w D) 272 8 8 (.int v) = some (Y w (ud D 272 8 v)) := Y_sI (by decide +kernel)
theorem eF_272_9 {w : mW} {D : mD} : gI (Y w D) 272 8 9 = some (D 272 9) := Y_gI (by decide +kernel)
theorem eS_272_9 {w : mW} {D : mD} {v : Int32} : sV (Y w D) 272 8 9 (.int v) = some (Y w (ud D 272 9 v)) := Y_sI (by decide +kernel)
theorem eF_272_10 {w : mW} {D : mD} : gI (Y w D) 272 8 10 = some (D 272 10) := Y_gI (by decide +kernel)
theorem eS_272_10 {w : mW} {D : mD} {v : Int32} : sV (Y w D) 272 8 10 (.int v) = some (Y w (ud D 272 10 v)) := Y_sI (by decide +kernel)
theorem eF_272_11 {w : mW} {D : mD} : gI (Y w D) 272 8 11 = some (D 272 11) := Y_gI (by decide +kernel)
theorem eS_272_11 {w : mW} {D : mD} {v : Int32} : sV (Y w D) 272 8 11 (.int v) = some (Y w (ud D 272 11 v)) := Y_sI (by decide +kernel)
theorem eF_272_12 {w : mW} {D : mD} : gR (Y w D) 272 8 12 = some 279 := Y_gR (by decide +kernel)
theorem eF_272_13 {w : mW} {D : mD} : gI (Y w D) 272 8 13 = some (D 272 13) := Y_gI (by decide +kernel)
theorem eS_272_13 {w : mW} {D : mD} {v : Int32} : sV (Y w D) 272 8 13 (.int v) = some (Y w (ud D 272 13 v)) := Y_sI (by decide +kernel)
theorem eF_272_14 {w : mW} {D : mD} : gI (Y w D) 272 8 14 = some (D 272 14) := Y_gI (by decide +kernel)
theorem eS_272_14 {w : mW} {D : mD} {v : Int32} : sV (Y w D) 272 8 14 (.int v) = some (Y w (ud D 272 14 v)) := Y_sI (by decide +kernel)
theorem eF_272_15 {w : mW} {D : mD} : gR (Y w D) 272 8 15 = some 280 := Y_gR (by decide +kernel)
theorem eF_272_16 {w : mW} {D : mD} : gR (Y w D) 272 8 16 = some 281 := Y_gR (by decide +kernel)
theorem eF_272_17 {w : mW} {D : mD} : gI (Y w D) 272 8 17 = some (D 272 17) := Y_gI (by decide +kernel)
theorem eS_272_17 {w : mW} {D : mD} {v : Int32} : sV (Y w D) 272 8 17 (.int v) = some (Y w (ud D 272 17 v)) := Y_sI (by decide +kernel)
theorem eF_272_18 {w : mW} {D : mD} : gI (Y w D) 272 8 18 = some (D 272 18) := Y_gI (by decide +kernel)
theorem eS_272_18 {w : mW} {D : mD} {v : Int32} : sV (Y w D) 272 8 18 (.int v) = some (Y w (ud D 272 18 v)) := Y_sI (by decide +kernel)
theorem eF_272_19 {w : mW} {D : mD} : gR (Y w D) 272 8 19 = some 282 := Y_gR (by decide +kernel)
theorem eF_272_20 {w : mW} {D : mD} : gR (Y w D) 272 8 20 = some 283 := Y_gR (by decide +kernel)
theorem eF_272_21 {w : mW} {D : mD} : gL (Y w D) 272 8 21 = some (w.2 272) := Y_gL (by decide +kernel)
theorem eF_272_22 {w : mW} {D : mD} : gR (Y w D) 272 8 22 = some 284 := Y_gR (by decide +kernel)
theorem eF_272_23 {w : mW} {D : mD} : gR (Y w D) 272 8 23 = some 285 := Y_gR (by decide +kernel)
theorem kA_3 : okA false 3 48 = true := by decide +kernel
theorem kA_261 : okA false 261 6 = true := by decide +kernel
theorem kA_262 : okA true 262 6 = true := by decide +kernel
theorem kA_264 : okA false 264 12 = true := by decide +kernel
theorem kA_266 : okA false 266 48 = true := by decide +kernel
theorem kA_268 : okA false 268 12 = true := by decide +kernel
theorem kA_269 : okA false 269 4 = true := by decide +kernel
theorem kA_270 : okA false 270 16 = true := by decide +kernel
theorem kA_271 : okA false 271 16 = true := by decide +kernel
theorem kA_273 : okA false 273 4 = true := by decide +kernel
theorem kA_274 : okA false 274 114 = true := by decide +kernel
theorem kA_275 : okA false 275 8 = true := by decide +kernel
theorem kA_276 : okA false 276 4 = true := by decide +kernel
theorem kA_277 : okA false 277 24 = true := by decide +kernel
theorem kA_278 : okA false 278 48 = true := by decide +kernel
theorem kA_279 : okA false 279 12 = true := by decide +kernel
theorem kA_280 : okA false 280 798 = true := by decide +kernel
theorem kA_281 : okA false 281 48 = true := by decide +kernel
theorem kA_282 : okA false 282 6 = true := by decide +kernel
theorem kA_283 : okA false 283 6 = true := by decide +kernel
theorem kA_284 : okA true 284 2 = true := by decide +kernel
theorem kA_285 : okA false 285 114 = true := by decide +kernel
/-! rows, strands, valleys by their numbers -/
def isRw (r n : Nat) : Bool := okO r 2 && okI r 2 1 && okR r 2 0 (r + 1) && okA false (r + 1) n
def isSt (s : Nat) : Bool := okO s 4 && okI s 4 1 && okI s 4 2 && okR s 4 0 (s + 1) && isRw (s + 1) 12
def isVl (v : Nat) : Bool := okO v 6 && okI v 6 1 && okI v 6 2 && okR v 6 0 (v + 1) && okQ false (v + 1) 0 (v + 2) && okQ false (v + 1) 1 (v + 5) && okQ false (v + 1) 2 (v + 8) && okQ false (v + 1) 3 (v + 11) && isSt (v + 2) && isSt (v + 5) && isSt (v + 8) && isSt (v + 11)
theorem isVl_all : ∀ v ∈ [4, 18, 34, 48, 62, 76, 90, 104, 118, 132, 146, 160, 174, 188, 202, 216, 232, 246], isVl v = true := by decide +kernel
theorem acts_at : ∀ i, i < 14 → okQ true 33 i (34 + 14 * i) = true ∧ isVl (34 + 14 * i) = true := by decide +kernel
theorem slots_at : ∀ i, i < 2 → okQ true 231 i (232 + 14 * i) = true ∧ isVl (232 + 14 * i) = true := by decide +kernel
theorem isVl_4 : isVl 4 = true := by decide +kernel
theorem isVl_18 : isVl 18 = true := by decide +kernel
theorem isRw_bed : isRw 263 12 = true := by decide +kernel
theorem isRw_str : isRw 265 48 = true := by decide +kernel
theorem isRw_gue : isRw 267 12 = true := by decide +kernel
theorem isRw_s {r n : Nat} (h : isRw r n = true) : okO r 2 = true ∧ okI r 2 1 = true ∧ okR r 2 0 (r + 1) = true ∧ okA false (r + 1) n = true := by
  simp only [isRw, Bool.and_eq_true] at h
  exact ⟨h.1.1.1, h.1.1.2, h.1.2, h.2⟩
theorem isSt_s {s : Nat} (h : isSt s = true) : okO s 4 = true ∧ okI s 4 1 = true ∧ okI s 4 2 = true ∧ okR s 4 0 (s + 1) = true ∧ isRw (s + 1) 12 = true := by
  simp only [isSt, Bool.and_eq_true] at h
  exact ⟨h.1.1.1.1, h.1.1.1.2, h.1.1.2, h.1.2, h.2⟩
theorem isVl_s {v : Nat} (h : isVl v = true) : okO v 6 = true ∧ okI v 6 1 = true ∧ okI v 6 2 = true ∧ okR v 6 0 (v + 1) = true ∧ ∀ i, i < 4 → okQ false (v + 1) i (v + 2 + 3 * i) = true ∧ isSt (v + 2 + 3 * i) = true := by
  simp only [isVl, Bool.and_eq_true] at h
  obtain ⟨⟨⟨⟨⟨⟨⟨⟨⟨⟨⟨h1, h2⟩, h3⟩, h4⟩, q0⟩, q1⟩, q2⟩, q3⟩, s0⟩, s1⟩, s2⟩, s3⟩ := h
  refine ⟨h1, h2, h3, h4, fun i hi => ?_⟩
  match i, hi with
  | 0, _ => exact ⟨q0, s0⟩
  | 1, _ => exact ⟨q1, s1⟩
  | 2, _ => exact ⟨q2, s2⟩
  | 3, _ => exact ⟨q3, s3⟩
