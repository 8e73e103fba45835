/-! ===== the two constructors: what they make ===== -/
def RC (n m : Nat) : mM := [.inl (2, [.ref (n + 1), .int 0]), .inr (.inl (false, List.replicate m 0))]
def SC (n : Nat) : mM := .inl (4, [.ref (n + 1), .int 0, .int 0]) :: RC (n + 1) 12
def VC (n : Nat) : mM := .inl (6, [.ref (n + 1), .int 0, .int 0]) :: .inr (.inr (false, [.ref (n + 2), .ref (n + 5), .ref (n + 8), .ref (n + 11)])) :: ([] ++ SC (n + 2) ++ SC (n + 5) ++ SC (n + 8) ++ SC (n + 11))
def TC (n : Nat) : mM := [.inl (5, [.ref (n + 1), .int 0]), .inr (.inl (false, List.replicate 48 0))]
def LC (n : Nat) : mM := [.inl (1, [.ref (n + 1), .ref (n + 2), .int 0]), .inr (.inl (false, List.replicate 6 0)), .inr (.inl (true, List.replicate 6 0))]
def AC (n : Nat) : mM := .inl (0, [.ref (n + 1), .int 0, .int 0]) :: .inr (.inr (true, [.ref (n + 2), .ref (n + 16), .ref (n + 30), .ref (n + 44), .ref (n + 58), .ref (n + 72), .ref (n + 86), .ref (n + 100), .ref (n + 114), .ref (n + 128), .ref (n + 142), .ref (n + 156), .ref (n + 170), .ref (n + 184)])) :: ([] ++ VC (n + 2) ++ VC (n + 16) ++ VC (n + 30) ++ VC (n + 44) ++ VC (n + 58) ++ VC (n + 72) ++ VC (n + 86) ++ VC (n + 100) ++ VC (n + 114) ++ VC (n + 128) ++ VC (n + 142) ++ VC (n + 156) ++ VC (n + 170) ++ VC (n + 184))
def KC (n : Nat) : mM := .inl (3, [.ref (n + 1), .int 0]) :: .inr (.inr (true, [.ref (n + 2), .ref (n + 16)])) :: ([] ++ VC (n + 2) ++ VC (n + 16))
section IT
variable {P : mM} {n : Nat}
theorem it_A (h : P.length = n) {c : mC} {R : mM} : (P ++ c :: R)[n]? = some c := by
  subst h
  rw [List.getElem?_append_right (Nat.le_refl _), Nat.sub_self]
  rfl
theorem it_B (h : P.length = n) {c c' : mC} {R : mM} : (P ++ c :: R).set n c' = P ++ c' :: R := by
  subst h
  rw [List.set_append_right _ _ (Nat.le_refl _), Nat.sub_self]
  rfl
theorem it_O (h : P.length = n) {ci : Nat} {fs : List Value} {R : mM} : isO (P ++ .inl (ci, fs) :: R) n ci = true := by
  unfold isO
  rw [it_A h]
  exact beq_self_eq_true ci
theorem it_S (h : P.length = n) (hn : 0 < n) {ci k : Nat} {fs : List Value} {v : Value} {R : mM} (hk : k < fs.length) : sV (P ++ .inl (ci, fs) :: R) n ci k v = some (P ++ .inl (ci, fs.set k v) :: R) := by
  unfold sV
  rw [it_A h]
  dsimp only
  rw [if_pos ⟨rfl, hk, hn⟩, it_B h]
theorem it_G (h : P.length = n) {ci k q : Nat} {fs : List Value} {R : mM} (hk : fs[k]? = some (.ref q)) : gR (P ++ .inl (ci, fs) :: R) n ci k = some q := by
  unfold gR gV
  rw [it_A h]
  dsimp only
  rw [if_pos rfl, hk]
theorem it_Q (h : P.length = n) (hn : 0 < n) {z : Bool} {i : Int32} {j v : Nat} {rs : List Value} {R : mM} (h0 : ¬ i < 0) (hij : i.toNatClampNeg = j) (hj : j < rs.length) (hv : isO (P ++ .inr (.inr (z, rs)) :: R) v (mcz z) = true) : qS (P ++ .inr (.inr (z, rs)) :: R) z n i v = some (P ++ .inr (.inr (z, rs.set j (.ref v))) :: R) := by
  unfold qS
  rw [it_A h]
  dsimp only
  rw [if_pos ⟨rfl, h0, by rw [hij]; exact hj, hn, hv⟩, it_B h, hij]
theorem it_app {c : mC} {R T : mM} : (P ++ c :: R) ++ T = P ++ c :: (R ++ T) := by rw [List.append_assoc, List.cons_append]
theorem it_len {c : mC} {R : mM} (h : P.length = n) : (P ++ c :: R).length = R.length + (n + 1) := by
  rw [List.length_append, List.length_cons, h]
  omega
/-- a new object into a row of objects -/
theorem it_stp {z : Bool} {c : Nat} {df : List Value} {C : Nat → mM} {fI : mM → Nat → Option mM} (hc : mcz z = c) (hI : ∀ (P : mM) (n : Nat), P.length = n → 0 < n → fI (P ++ [.inl (c, df)]) n = some (P ++ C n)) (hC : ∀ m, ∃ fs R, C m = .inl (c, fs) :: R) (h : P.length = n) (hn : 0 < n) {ci m j : Nat} {fs rs : List Value} {R : mM} {i : Int32} (hm : R.length + (n + 2) = m) (hf : fs[0]? = some (.ref (n + 1))) (h0 : ¬ i < 0) (hij : i.toNatClampNeg = j) (hj : j < rs.length) {α : Type} {K : mM → Option α} : ((gR (P ++ .inl (ci, fs) :: .inr (.inr (z, rs)) :: R) n ci 0).bind fun a => (some ((P ++ .inl (ci, fs) :: .inr (.inr (z, rs)) :: R) ++ [.inl (c, df)])).bind fun M5 => (fI M5 (List.length (P ++ .inl (ci, fs) :: .inr (.inr (z, rs)) :: R))).bind fun M6 => (qS M6 z a i (List.length (P ++ .inl (ci, fs) :: .inr (.inr (z, rs)) :: R))).bind K) = K (P ++ .inl (ci, fs) :: .inr (.inr (z, rs.set j (.ref m))) :: (R ++ C m)) := by
  have hl : (P ++ .inl (ci, fs) :: .inr (.inr (z, rs)) :: R : mM).length = m := by rw [it_len h, List.length_cons]; omega
  have h2 : (P ++ [.inl (ci, fs)] : mM).length = n + 1 := by rw [it_len h, List.length_nil]; omega
  have e2 : ∀ (x : mC) (T : mM), P ++ .inl (ci, fs) :: x :: T = (P ++ [.inl (ci, fs)]) ++ x :: T := fun x T => by rw [List.append_assoc, List.cons_append, List.nil_append]
  obtain ⟨gs, T, hT⟩ := hC m
  rw [it_G h hf, Option.bind_some, Option.bind_some, hl, hI _ _ hl (by omega), Option.bind_some, it_app, List.cons_append, e2]
  have hv : isO ((P ++ [.inl (ci, fs)]) ++ .inr (.inr (z, rs)) :: (R ++ C m)) m (mcz z) = true := by
    rw [← e2, ← List.cons_append, ← it_app, hT, hc]
    exact it_O hl
  rw [it_Q h2 (by omega) h0 hij hj hv, Option.bind_some, ← e2]
/-- a new object into a field -/
theorem it_stq {c : Nat} {df : List Value} {C : Nat → mM} {fI : mM → Nat → Option mM} (hI : ∀ (P : mM) (n : Nat), P.length = n → 0 < n → fI (P ++ [.inl (c, df)]) n = some (P ++ C n)) (h : P.length = n) (hn : 0 < n) {ci k m : Nat} {fs : List Value} {R : mM} (hm : R.length + (n + 1) = m) (hk : k < fs.length) {α : Type} {K : mM → Option α} : ((some ((P ++ .inl (ci, fs) :: R) ++ [.inl (c, df)])).bind fun M1 => (fI M1 (List.length (P ++ .inl (ci, fs) :: R))).bind fun M2 => (sV M2 n ci k (.ref (List.length (P ++ .inl (ci, fs) :: R)))).bind K) = K (P ++ .inl (ci, fs.set k (.ref m)) :: (R ++ C m)) := by
  have hl : (P ++ .inl (ci, fs) :: R : mM).length = m := by rw [it_len h]; exact hm
  rw [Option.bind_some, hl, hI _ _ hl (by omega), Option.bind_some, it_app, it_S h hn hk, Option.bind_some]
/-- a new array into a field -/
theorem it_stw {x : mC} (h : P.length = n) (hn : 0 < n) {ci k m : Nat} {fs : List Value} {R : mM} (hm : R.length + (n + 1) = m) (hk : k < fs.length) {α : Type} {K : mM → Option α} : ((some ((P ++ .inl (ci, fs) :: R) ++ [x])).bind fun M1 => (sV M1 n ci k (.ref (List.length (P ++ .inl (ci, fs) :: R)))).bind K) = K (P ++ .inl (ci, fs.set k (.ref m)) :: (R ++ [x])) := by
  have hl : (P ++ .inl (ci, fs) :: R : mM).length = m := by rw [it_len h]; exact hm
  rw [Option.bind_some, hl, it_app, it_S h hn hk, Option.bind_some]
theorem it_set (h : P.length = n) (hn : 0 < n) {ci k : Nat} {fs : List Value} {v : Value} {R : mM} (hk : k < fs.length) {α : Type} {K : mM → Option α} : ((sV (P ++ .inl (ci, fs) :: R) n ci k v).bind K) = K (P ++ .inl (ci, fs.set k v) :: R) := by
  rw [it_S h hn hk, Option.bind_some]
end IT
theorem in_R12 (P : mM) (n : Nat) (h : P.length = n) (hn : 0 < n) : fX2_init_12 (P ++ [.inl (2, dfX2)]) n = some (P ++ RC n 12) := by
  unfold fX2_init_12
  rw [if_pos (it_O h)]
  refine (it_stw h hn (m := n + 1) (by simp) (Nat.le_of_ble_eq_true rfl)).trans ?_
  exact it_set h hn (Nat.le_of_ble_eq_true rfl)
theorem in_R48 (P : mM) (n : Nat) (h : P.length = n) (hn : 0 < n) : fX2_init_48 (P ++ [.inl (2, dfX2)]) n = some (P ++ RC n 48) := by
  unfold fX2_init_48
  rw [if_pos (it_O h)]
  refine (it_stw h hn (m := n + 1) (by simp) (Nat.le_of_ble_eq_true rfl)).trans ?_
  exact it_set h hn (Nat.le_of_ble_eq_true rfl)
theorem in_S (P : mM) (n : Nat) (h : P.length = n) (hn : 0 < n) : fX4_init (P ++ [.inl (4, dfX4)]) n = some (P ++ SC n) := by
  unfold fX4_init
  rw [if_pos (it_O h)]
  exact it_stq (C := fun m => RC m 12) in_R12 h hn (m := n + 1) (by simp) (Nat.le_of_ble_eq_true rfl)
theorem in_T (P : mM) (n : Nat) (h : P.length = n) (hn : 0 < n) : fX5_init (P ++ [.inl (5, dfX5)]) n = some (P ++ TC n) := by
  unfold fX5_init
  rw [if_pos (it_O h)]
  exact it_stw h hn (m := n + 1) (by simp) (Nat.le_of_ble_eq_true rfl)
theorem in_L (P : mM) (n : Nat) (h : P.length = n) (hn : 0 < n) : fX1_init (P ++ [.inl (1, dfX1)]) n = some (P ++ LC n) := by
  unfold fX1_init
  rw [if_pos (it_O h)]
  refine (it_stw h hn (m := n + 1) (by simp) (Nat.le_of_ble_eq_true rfl)).trans ?_
  exact it_stw h hn (m := n + 2) (by simp; omega) (Nat.le_of_ble_eq_true rfl)
theorem SC_hd (m : Nat) : ∃ fs R, SC m = .inl (4, fs) :: R := ⟨_, _, rfl⟩
theorem VC_hd (m : Nat) : ∃ fs R, VC m = .inl (6, fs) :: R := ⟨_, _, rfl⟩
theorem SC_len (m : Nat) : (SC m).length = 3 := rfl
theorem VC_len (m : Nat) : (VC m).length = 14 := rfl
theorem in_V (P : mM) (n : Nat) (h : P.length = n) (hn : 0 < n) : fX6_init (P ++ [.inl (6, dfX6)]) n = some (P ++ VC n) := by
  unfold fX6_init
  rw [if_pos (it_O h)]
  refine (it_stw h hn (m := n + 1) (by simp) (Nat.le_of_ble_eq_true rfl)).trans ?_
  refine (it_stp (z := false) (C := SC) (fI := fX4_init) (m := n + 2) (j := 0) rfl in_S SC_hd h hn (by simp only [List.length_append, List.length_nil, List.length_singleton, SC_len]; omega) rfl (by decide) (by decide) (by simp only [List.length_set, List.length_replicate]; decide)).trans ?_
  refine (it_stp (z := false) (C := SC) (fI := fX4_init) (m := n + 5) (j := 1) rfl in_S SC_hd h hn (by simp only [List.length_append, List.length_nil, List.length_singleton, SC_len]; omega) rfl (by decide) (by decide) (by simp only [List.length_set, List.length_replicate]; decide)).trans ?_
  refine (it_stp (z := false) (C := SC) (fI := fX4_init) (m := n + 8) (j := 2) rfl in_S SC_hd h hn (by simp only [List.length_append, List.length_nil, List.length_singleton, SC_len]; omega) rfl (by decide) (by decide) (by simp only [List.length_set, List.length_replicate]; decide)).trans ?_
  refine (it_stp (z := false) (C := SC) (fI := fX4_init) (m := n + 11) (j := 3) rfl in_S SC_hd h hn (by simp only [List.length_append, List.length_nil, List.length_singleton, SC_len]; omega) rfl (by decide) (by decide) (by simp only [List.length_set, List.length_replicate]; decide)).trans ?_
  rfl
theorem in_A (P : mM) (n : Nat) (h : P.length = n) (hn : 0 < n) : fX0_init (P ++ [.inl (0, dfX0)]) n = some (P ++ AC n) := by
  unfold fX0_init
  rw [if_pos (it_O h)]
  refine (it_stw h hn (m := n + 1) (by simp) (Nat.le_of_ble_eq_true rfl)).trans ?_
  refine (it_stp (z := true) (C := VC) (fI := fX6_init) (m := n + 2) (j := 0) rfl in_V VC_hd h hn (by simp only [List.length_append, List.length_nil, List.length_singleton, VC_len]; omega) rfl (by decide) (by decide) (by simp only [List.length_set, List.length_replicate]; decide)).trans ?_
  refine (it_stp (z := true) (C := VC) (fI := fX6_init) (m := n + 16) (j := 1) rfl in_V VC_hd h hn (by simp only [List.length_append, List.length_nil, List.length_singleton, VC_len]; omega) rfl (by decide) (by decide) (by simp only [List.length_set, List.length_replicate]; decide)).trans ?_
  refine (it_stp (z := true) (C := VC) (fI := fX6_init) (m := n + 30) (j := 2) rfl in_V VC_hd h hn (by simp only [List.length_append, List.length_nil, List.length_singleton, VC_len]; omega) rfl (by decide) (by decide) (by simp only [List.length_set, List.length_replicate]; decide)).trans ?_
  refine (it_stp (z := true) (C := VC) (fI := fX6_init) (m := n + 44) (j := 3) rfl in_V VC_hd h hn (by simp only [List.length_append, List.length_nil, List.length_singleton, VC_len]; omega) rfl (by decide) (by decide) (by simp only [List.length_set, List.length_replicate]; decide)).trans ?_
  refine (it_stp (z := true) (C := VC) (fI := fX6_init) (m := n + 58) (j := 4) rfl in_V VC_hd h hn (by simp only [List.length_append, List.length_nil, List.length_singleton, VC_len]; omega) rfl (by decide) (by decide) (by simp only [List.length_set, List.length_replicate]; decide)).trans ?_
  refine (it_stp (z := true) (C := VC) (fI := fX6_init) (m := n + 72) (j := 5) rfl in_V VC_hd h hn (by simp only [List.length_append, List.length_nil, List.length_singleton, VC_len]; omega) rfl (by decide) (by decide) (by simp only [List.length_set, List.length_replicate]; decide)).trans ?_
  refine (it_stp (z := true) (C := VC) (fI := fX6_init) (m := n + 86) (j := 6) rfl in_V VC_hd h hn (by simp only [List.length_append, List.length_nil, List.length_singleton, VC_len]; omega) rfl (by decide) (by decide) (by simp only [List.length_set, List.length_replicate]; decide)).trans ?_
  refine (it_stp (z := true) (C := VC) (fI := fX6_init) (m := n + 100) (j := 7) rfl in_V VC_hd h hn (by simp only [List.length_append, List.length_nil, List.length_singleton, VC_len]; omega) rfl (by decide) (by decide) (by simp only [List.length_set, List.length_replicate]; decide)).trans ?_
  refine (it_stp (z := true) (C := VC) (fI := fX6_init) (m := n + 114) (j := 8) rfl in_V VC_hd h hn (by simp only [List.length_append, List.length_nil, List.length_singleton, VC_len]; omega) rfl (by decide) (by decide) (by simp only [List.length_set, List.length_replicate]; decide)).trans ?_
  refine (it_stp (z := true) (C := VC) (fI := fX6_init) (m := n + 128) (j := 9) rfl in_V VC_hd h hn (by simp only [List.length_append, List.length_nil, List.length_singleton, VC_len]; omega) rfl (by decide) (by decide) (by simp only [List.length_set, List.length_replicate]; decide)).trans ?_
  refine (it_stp (z := true) (C := VC) (fI := fX6_init) (m := n + 142) (j := 10) rfl in_V VC_hd h hn (by simp only [List.length_append, List.length_nil, List.length_singleton, VC_len]; omega) rfl (by decide) (by decide) (by simp only [List.length_set, List.length_replicate]; decide)).trans ?_
  refine (it_stp (z := true) (C := VC) (fI := fX6_init) (m := n + 156) (j := 11) rfl in_V VC_hd h hn (by simp only [List.length_append, List.length_nil, List.length_singleton, VC_len]; omega) rfl (by decide) (by decide) (by simp only [List.length_set, List.length_replicate]; decide)).trans ?_
  refine (it_stp (z := true) (C := VC) (fI := fX6_init) (m := n + 170) (j := 12) rfl in_V VC_hd h hn (by simp only [List.length_append, List.length_nil, List.length_singleton, VC_len]; omega) rfl (by decide) (by decide) (by simp only [List.length_set, List.length_replicate]; decide)).trans ?_
  refine (it_stp (z := true) (C := VC) (fI := fX6_init) (m := n + 184) (j := 13) rfl in_V VC_hd h hn (by simp only [List.length_append, List.length_nil, List.length_singleton, VC_len]; omega) rfl (by decide) (by decide) (by simp only [List.length_set, List.length_replicate]; decide)).trans ?_
  rfl
theorem in_K (P : mM) (n : Nat) (h : P.length = n) (hn : 0 < n) : fX3_init (P ++ [.inl (3, dfX3)]) n = some (P ++ KC n) := by
  unfold fX3_init
  rw [if_pos (it_O h)]
  refine (it_stw h hn (m := n + 1) (by simp) (Nat.le_of_ble_eq_true rfl)).trans ?_
  refine (it_stp (z := true) (C := VC) (fI := fX6_init) (m := n + 2) (j := 0) rfl in_V VC_hd h hn (by simp only [List.length_append, List.length_nil, List.length_singleton, VC_len]; omega) rfl (by decide) (by decide) (by simp only [List.length_set, List.length_replicate]; decide)).trans ?_
  refine (it_stp (z := true) (C := VC) (fI := fX6_init) (m := n + 16) (j := 1) rfl in_V VC_hd h hn (by simp only [List.length_append, List.length_nil, List.length_singleton, VC_len]; omega) rfl (by decide) (by decide) (by simp only [List.length_set, List.length_replicate]; decide)).trans ?_
  rfl
theorem AC_len (m : Nat) : (AC m).length = 198 := by simp only [AC, List.length_cons, List.length_append, List.length_nil, VC_len]
theorem KC_len (m : Nat) : (KC m).length = 30 := by simp only [KC, List.length_cons, List.length_append, List.length_nil, VC_len]
theorem TC_len (m : Nat) : (TC m).length = 2 := rfl
theorem LC_len (m : Nat) : (LC m).length = 3 := rfl
theorem RC_len (m k : Nat) : (RC m k).length = 2 := rfl
def I7 : mM := .inl (7, [.ref 2, .ref 4, .ref 18, .ref 32, .ref 230, .ref 260, .ref 263, .ref 265, .ref 267, .ref 269, .ref 270, .ref 271, .long 0]) :: ([] ++ TC 2 ++ VC 4 ++ VC 18 ++ AC 32 ++ KC 230 ++ LC 260 ++ RC 263 12 ++ RC 265 48 ++ RC 267 12 ++ [.inr (.inl (false, List.replicate 4 0))] ++ [.inr (.inl (false, List.replicate 16 0))] ++ [.inr (.inl (false, List.replicate 16 0))])
theorem in_7 {c0 : mC} : fX7_init ([c0] ++ [.inl (7, dfX7)]) 1 = some ([c0] ++ I7) := by
  have h : ([c0] : mM).length = 1 := rfl
  have hn : 0 < 1 := Nat.one_pos
  unfold fX7_init
  rw [if_pos (it_O h)]
  refine (it_stq (C := TC) in_T h hn (k := 0) (m := 2) (by simp only [List.length_append, List.length_nil, List.length_singleton, TC_len, VC_len, AC_len, KC_len, LC_len, RC_len]) (Nat.le_of_ble_eq_true rfl)).trans ?_
  refine (it_stq (C := VC) in_V h hn (k := 1) (m := 4) (by simp only [List.length_append, List.length_nil, List.length_singleton, TC_len, VC_len, AC_len, KC_len, LC_len, RC_len]) (Nat.le_of_ble_eq_true rfl)).trans ?_
  refine (it_stq (C := VC) in_V h hn (k := 2) (m := 18) (by simp only [List.length_append, List.length_nil, List.length_singleton, TC_len, VC_len, AC_len, KC_len, LC_len, RC_len]) (Nat.le_of_ble_eq_true rfl)).trans ?_
  refine (it_stq (C := AC) in_A h hn (k := 3) (m := 32) (by simp only [List.length_append, List.length_nil, List.length_singleton, TC_len, VC_len, AC_len, KC_len, LC_len, RC_len]) (Nat.le_of_ble_eq_true rfl)).trans ?_
  refine (it_stq (C := KC) in_K h hn (k := 4) (m := 230) (by simp only [List.length_append, List.length_nil, List.length_singleton, TC_len, VC_len, AC_len, KC_len, LC_len, RC_len]) (Nat.le_of_ble_eq_true rfl)).trans ?_
  refine (it_stq (C := LC) in_L h hn (k := 5) (m := 260) (by simp only [List.length_append, List.length_nil, List.length_singleton, TC_len, VC_len, AC_len, KC_len, LC_len, RC_len]) (Nat.le_of_ble_eq_true rfl)).trans ?_
  refine (it_stq (C := (fun m => RC m 12)) in_R12 h hn (k := 6) (m := 263) (by simp only [List.length_append, List.length_nil, List.length_singleton, TC_len, VC_len, AC_len, KC_len, LC_len, RC_len]) (Nat.le_of_ble_eq_true rfl)).trans ?_
  refine (it_stq (C := (fun m => RC m 48)) in_R48 h hn (k := 7) (m := 265) (by simp only [List.length_append, List.length_nil, List.length_singleton, TC_len, VC_len, AC_len, KC_len, LC_len, RC_len]) (Nat.le_of_ble_eq_true rfl)).trans ?_
  refine (it_stq (C := (fun m => RC m 12)) in_R12 h hn (k := 8) (m := 267) (by simp only [List.length_append, List.length_nil, List.length_singleton, TC_len, VC_len, AC_len, KC_len, LC_len, RC_len]) (Nat.le_of_ble_eq_true rfl)).trans ?_
  refine (it_stw h hn (k := 9) (m := 269) (by simp only [List.length_append, List.length_nil, List.length_singleton, TC_len, VC_len, AC_len, KC_len, LC_len, RC_len]) (Nat.le_of_ble_eq_true rfl)).trans ?_
  refine (it_stw h hn (k := 10) (m := 270) (by simp only [List.length_append, List.length_nil, List.length_singleton, TC_len, VC_len, AC_len, KC_len, LC_len, RC_len]) (Nat.le_of_ble_eq_true rfl)).trans ?_
  refine (it_stw h hn (k := 11) (m := 271) (by simp only [List.length_append, List.length_nil, List.length_singleton, TC_len, VC_len, AC_len, KC_len, LC_len, RC_len]) (Nat.le_of_ble_eq_true rfl)).trans ?_
  exact it_set h hn (Nat.le_of_ble_eq_true rfl)
def I8 : mM := .inl (8, [.int 0, .ref 273, .ref 274, .ref 275, .ref 276, .ref 277, .int 0, .ref 278, .int 0, .int 0, .int 0, .int 0, .ref 279, .int 0, .int 0, .ref 280, .ref 281, .int 0, .int 0, .ref 282, .ref 283, .long 0, .ref 284, .ref 285]) :: ([] ++ [.inr (.inl (false, List.replicate 4 0))] ++ [.inr (.inl (false, List.replicate 114 0))] ++ [.inr (.inl (false, List.replicate 8 0))] ++ [.inr (.inl (false, List.replicate 4 0))] ++ [.inr (.inl (false, List.replicate 24 0))] ++ [.inr (.inl (false, List.replicate 48 0))] ++ [.inr (.inl (false, List.replicate 12 0))] ++ [.inr (.inl (false, List.replicate 798 0))] ++ [.inr (.inl (false, List.replicate 48 0))] ++ [.inr (.inl (false, List.replicate 6 0))] ++ [.inr (.inl (false, List.replicate 6 0))] ++ [.inr (.inl (true, List.replicate 2 0))] ++ [.inr (.inl (false, List.replicate 114 0))])
theorem in_8 {P : mM} (h : P.length = 272) : fX8_init (P ++ [.inl (8, dfX8)]) 272 = some (P ++ I8) := by
  have hn : 0 < 272 := by decide
  unfold fX8_init
  rw [if_pos (it_O h)]
  refine (it_stw h hn (k := 1) (m := 273) (by simp only [List.length_append, List.length_nil, List.length_singleton]) (Nat.le_of_ble_eq_true rfl)).trans ?_
  refine (it_stw h hn (k := 2) (m := 274) (by simp only [List.length_append, List.length_nil, List.length_singleton]) (Nat.le_of_ble_eq_true rfl)).trans ?_
  refine (it_stw h hn (k := 3) (m := 275) (by simp only [List.length_append, List.length_nil, List.length_singleton]) (Nat.le_of_ble_eq_true rfl)).trans ?_
  refine (it_stw h hn (k := 4) (m := 276) (by simp only [List.length_append, List.length_nil, List.length_singleton]) (Nat.le_of_ble_eq_true rfl)).trans ?_
  refine (it_stw h hn (k := 5) (m := 277) (by simp only [List.length_append, List.length_nil, List.length_singleton]) (Nat.le_of_ble_eq_true rfl)).trans ?_
  refine (it_stw h hn (k := 7) (m := 278) (by simp only [List.length_append, List.length_nil, List.length_singleton]) (Nat.le_of_ble_eq_true rfl)).trans ?_
  refine (it_stw h hn (k := 12) (m := 279) (by simp only [List.length_append, List.length_nil, List.length_singleton]) (Nat.le_of_ble_eq_true rfl)).trans ?_
  refine (it_stw h hn (k := 15) (m := 280) (by simp only [List.length_append, List.length_nil, List.length_singleton]) (Nat.le_of_ble_eq_true rfl)).trans ?_
  refine (it_stw h hn (k := 16) (m := 281) (by simp only [List.length_append, List.length_nil, List.length_singleton]) (Nat.le_of_ble_eq_true rfl)).trans ?_
  refine (it_stw h hn (k := 19) (m := 282) (by simp only [List.length_append, List.length_nil, List.length_singleton]) (Nat.le_of_ble_eq_true rfl)).trans ?_
  refine (it_stw h hn (k := 20) (m := 283) (by simp only [List.length_append, List.length_nil, List.length_singleton]) (Nat.le_of_ble_eq_true rfl)).trans ?_
  refine (it_stw h hn (k := 22) (m := 284) (by simp only [List.length_append, List.length_nil, List.length_singleton]) (Nat.le_of_ble_eq_true rfl)).trans ?_
  refine (it_stw h hn (k := 23) (m := 285) (by simp only [List.length_append, List.length_nil, List.length_singleton]) (Nat.le_of_ble_eq_true rfl)).trans ?_
  rfl
theorem I7_len {c0 : mC} : ([c0] ++ I7 : mM).length = 272 := by simp only [I7, List.length_cons, List.length_append, List.length_nil, TC_len, VC_len, AC_len, KC_len, LC_len, RC_len]
def w00 (xs : List Int32) : mW := (xs, fun _ => 0)
def D00 : mD := fun _ _ => 0
theorem sh_99 : ∀ a, a < 286 → a = 0 ∨ SH a ≠ 99 := by decide +kernel
theorem cel_w {xs : List Int32} {a : Nat} (h : SH a ≠ 99) : cel (w00 xs) D00 a = cel (w00 []) D00 a := by
  unfold cel
  rw [if_neg h, if_neg h]
  rfl
set_option maxRecDepth 20000 in
theorem I78 : I7 ++ I8 = (List.range' 1 285).map (cel (w00 []) D00) := by decide +kernel
theorem Y_start {xs : List Int32} : ([.inr (.inl (false, xs))] ++ I7) ++ I8 = Y (w00 xs) D00 := by
  have e : List.range 286 = 0 :: List.range' 1 285 := by rw [List.range_eq_range', List.range'_succ]
  unfold Y
  rw [e, List.map_cons, List.append_assoc, I78, List.cons_append, List.nil_append, show cel (w00 xs) D00 0 = .inr (.inl (false, xs)) from rfl]
  refine congrArg (List.cons _) (List.map_congr_left (fun a ha => ?_))
  rw [List.mem_range'_1] at ha
  rcases sh_99 a (by omega) with h | h
  · omega
  · exact (cel_w h).symm
theorem law_start {xs : List Int32} : fL_law [.inr (.inl (false, xs))] 0 = fL_law_c18 FUEL (Y (w00 xs) D00) 0 1 272 0 := by
  unfold fL_law
  rw [Option.bind_some, show List.length [(.inr (.inl (false, xs)) : mC)] = 1 from rfl, in_7, Option.bind_some, Option.bind_some, I7_len, in_8 I7_len, Option.bind_some, Y_start]
theorem IN_start {xs : List Int32} : IN (w00 xs) D00 0 := by
  refine ⟨[], e0, [], fun _ => none, [], [], ⟨⟨rfl, by decide, fun j hj => by cases hj⟩, ⟨rfl, rfl, by decide, fun i hi => by cases hi⟩, ⟨0, rfl, by decide, rfl, by decide, fun i hi => by cases hi⟩, ⟨rfl, fun s _ U hU => by cases hU⟩, ⟨⟨rfl, fun j hj => by cases hj⟩, by decide⟩, ⟨rfl, by decide, fun j hj => by cases hj⟩⟩, ⟨⟨rfl, by decide, fun j hj => by cases hj⟩, ⟨rfl, rfl, by decide, fun i hi => by cases hi⟩, ⟨rfl, by decide, 0, by decide, rfl, fun i hi => by cases hi⟩, fun s _ => ⟨rfl, fun U hU => by cases hU⟩, ⟨rfl, by decide, fun j hj => by cases hj⟩, ⟨rfl, by decide, fun j hj => by cases hj⟩⟩, ⟨gT_nil, gV1_e0, fun i => gV1_e0, fun s U hU => (by cases hU), gLa_nil⟩, rfl⟩
