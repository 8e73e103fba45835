/-! ===== the river, by the reference ===== -/
def SrD (D : mD) (x : List Int32) : Prop := D 272 17 = nI x.length ∧ x.length ≤ 48 ∧ ∀ j, j < x.length → D 281 j = x.getD j 0
def SrF (D D' : mD) : Prop := (∀ a, a ≠ 272 → a ≠ 281 → D' a = D a) ∧ ∀ k, k ≠ 17 → D' 272 k = D 272 k
theorem SrF.rf {D : mD} : SrF D D := ⟨fun _ _ _ => rfl, fun _ _ => rfl⟩
theorem SrF.tr {D D1 D2 : mD} (h1 : SrF D D1) (h2 : SrF D1 D2) : SrF D D2 := ⟨fun a x y => (h2.1 a x y).trans (h1.1 a x y), fun k x => (h2.2 k x).trans (h1.2 k x)⟩
theorem SrF.fr {D D' : mD} (h : SrF D D') : RFr D D' := ⟨fun a ha => h.1 a (by omega) (by omega), fun k _ _ _ h4 => h.2 k h4, h.1 273 (by omega) (by omega), fun k _ => by rw [h.1 274 (by omega) (by omega)], h.1 278 (by omega) (by omega), h.1 279 (by omega) (by omega), h.1 280 (by omega) (by omega), h.1 282 (by omega) (by omega), h.1 283 (by omega) (by omega), h.1 284 (by omega) (by omega), h.1 285 (by omega) (by omega)⟩
section R9
variable {w : mW} {D : mD} {s : Nat} {tx : List Int32} {V : tV} {A : List tV} {K : Nat → Option tV} {bd : List Int32} {L : List (Int32 × Int32)} {x ys : List Int32}
theorem RVl.sr {D' : mD} (h : RVl D V) (f : SrF D D') : RVl D' V := h.kept (f.2 0 (by omega)) (f.1 273 (by omega) (by omega)) (fun k _ => by rw [f.1 274 (by omega) (by omega)])
theorem r_goesOn_c5 (h : RVl D V) (hx : SrD D x) (hs : s < V.2.length) {c : Nat} (hc1 : c ≤ x.length) (hc2 : c ≤ (V.2.getD s d0).2.2.length) : ∀ (k j fuel : Nat) (b : Bool), j + k = c → k < fuel → fX8_goesOn_c5 (Y w D) fuel 272 (nI s) (nI c) (b2i b) (nI j) = some (b2i (b && alF (fun i => x.getD (x.length - c + i) 0 == (V.2.getD s d0).2.2.getD i 0) j k)) := by
  have q2 := h.2.2.1
  obtain ⟨a1, a2, a3, a4, a5⟩ := h.2.2.2 s hs
  obtain ⟨x1, x2, x3⟩ := hx
  intro k
  induction k with
  | zero =>
    intro j fuel b hj hf
    obtain ⟨f, rfl, hf⟩ := fu hf
    rw [fX8_goesOn_c5.eq_2, il_t (by omega) (by omega), if_pos b2i_01, alF, Bool.and_true]
  | succ k ih =>
    intro j fuel b hj hf
    obtain ⟨f, rfl, hf⟩ := fu hf
    have i1 := ih (j + 1) f true (by omega) (by omega)
    have i2 := ih (j + 1) f false (by omega) (by omega)
    have t1 : b2i true = 1 := rfl
    have t0 : b2i false = 0 := rfl
    rw [t1, Bool.true_and] at i1
    rw [t0, Bool.false_and, t0] at i2
    have hba := r_bendAt (w := w) (D := D) (l := 0) (i := s) (j := j) (by omega) (by omega) (by omega)
    rw [nI_0, a5 j (by omega)] at hba
    rw [fX8_goesOn_c5.eq_2, il_f (by omega) (by omega), nI_1]
    cases b with
    | false => rw [if_pos (by rfl), i2, Bool.false_and]; rfl
    | true =>
      rw [if_neg nb0, eF_272_16, Option.bind_some, eF_272_17, Option.bind_some, x1, pk_sub hc1, nI_add, Y_aI kA_281 (by omega), Option.bind_some, x3 _ (by omega), hba, Option.bind_some, i1, i2, Bool.true_and, alF]
      by_cases he : x.getD (x.length - c + j) 0 = (V.2.getD s d0).2.2.getD j 0
      · rw [if_pos he, he, beq_self_eq_true, Bool.true_and]
      · rw [if_neg he, beq_eq_false_iff_ne.mpr he, Bool.false_and]
        rfl
theorem r_goesOn (h : RVl D V) (hx : SrD D x) (hs : s < V.2.length) {c : Nat} (hc1 : c ≤ x.length) (hc2 : c ≤ (V.2.getD s d0).2.2.length) : fX8_goesOn (Y w D) 272 (nI s) (nI c) = some (b2i (endsB x (V.2.getD s d0).2.2 c)) := by
  have x2 := hx.2.1
  have := r_goesOn_c5 (w := w) h hx hs hc1 hc2 c 0 FUEL true (by omega) (FU (by omega))
  rw [nI_0] at this
  unfold fX8_goesOn
  rw [if_pos eO_272]
  exact this
theorem r_flowOn_c48 (hs : s < V.2.length) {c : Nat} (hc2 : c ≤ (V.2.getD s d0).2.2.length) (hl : x.length + (V.2.getD s d0).2.2.length - c ≤ 48) (hx48 : x.length ≤ 48) : ∀ (k j fuel : Nat) (D : mD), j + k = (V.2.getD s d0).2.2.length → c ≤ j → k < fuel → RVl D V → D 272 17 = nI x.length → (∀ q, q < x.length → D 281 q = x.getD q 0) → (∀ q, c ≤ q → q < j → D 281 (x.length + (q - c)) = (V.2.getD s d0).2.2.getD q 0) → ∃ D', fX8_flowOn_c48 fuel (Y w D) 272 (nI s) (nI (V.2.getD s d0).2.2.length) (nI c) (nI j) = some (Y w D') ∧ SrD D' (x ++ (V.2.getD s d0).2.2.drop c) ∧ SrF D D' := by
  intro k
  induction k with
  | zero =>
    intro j fuel D hj hcj hf h x1 x3 x4
    have a4 := (h.2.2.2 s hs).2.2.2.1
    obtain ⟨f, rfl, hf⟩ := fu hf
    rw [fX8_flowOn_c48.eq_2, il_t (by omega) (by omega), eF_272_17, Option.bind_some, x1, pk_sub hc2, nI_add, eS_272_17, Option.bind_some]
    refine ⟨_, rfl, ⟨?_, ?_, fun q hq => ?_⟩, fun a h1 h2 => ud_r h1, fun k hk => ud_n (by omega)⟩
    · rw [ud_s, List.length_append, List.length_drop]
    · rw [List.length_append, List.length_drop]; omega
    · rw [List.length_append, List.length_drop] at hq
      rw [ud_r (by omega)]
      by_cases hq2 : q < x.length
      · rw [x3 q hq2, getD_app hq2]
      · rw [getD_app_r hq2]
        have := x4 (q - x.length + c) (by omega) (by omega)
        rw [show x.length + (q - x.length + c - c) = q by omega] at this
        exact this
  | succ k ih =>
    intro j fuel D hj hcj hf h x1 x3 x4
    have q2 := h.2.2.1
    obtain ⟨a1, a2, a3, a4, a5⟩ := h.2.2.2 s hs
    obtain ⟨f, rfl, hf⟩ := fu hf
    have hba := r_bendAt (w := w) (D := D) (l := 0) (i := s) (j := j) (by omega) (by omega) (by omega)
    rw [nI_0, a5 j (by omega)] at hba
    rw [fX8_flowOn_c48.eq_2, il_f (by omega) (by omega), eF_272_16, Option.bind_some, eF_272_17, Option.bind_some, x1, hba, Option.bind_some, nI_add, pk_sub (by omega), Y_aS kA_281 (by omega), Option.bind_some, nI_1]
    have fr : SrF D (ud D 281 (x.length + j - c) ((V.2.getD s d0).2.2.getD j 0)) := ⟨fun a h1 h2 => ud_r h2, fun k hk => by rw [ud_r (by omega)]⟩
    obtain ⟨D', g1, g2, g3⟩ := ih (j + 1) f (ud D 281 (x.length + j - c) ((V.2.getD s d0).2.2.getD j 0)) (by omega) (by omega) (by omega) (h.sr fr) (by rw [ud_r (by omega)]; exact x1) (fun q hq => by rw [ud_n (by omega)]; exact x3 q hq) (fun q h1 h2 => by
      by_cases hqj : q = j
      · subst hqj
        rw [show x.length + (q - c) = x.length + q - c by omega, ud_s]
      · rw [ud_n (by omega)]; exact x4 q h1 (by omega))
    exact ⟨D', g1, g2, fr.tr g3⟩
theorem r_flowOn_c26 (h : RVl D V) (hx : SrD D x) (hs : s < V.2.length) (hl : x.length + (V.2.getD s d0).2.2.length ≤ 48) : ∀ (k fuel : Nat), k ≤ x.length → k ≤ (V.2.getD s d0).2.2.length → k < fuel → ∃ D', fX8_flowOn_c26 fuel (Y w D) 272 (nI s) (nI (V.2.getD s d0).2.2.length) (nI k) = some (Y w D') ∧ SrD D' (x ++ (V.2.getD s d0).2.2.drop (ovlF x (V.2.getD s d0).2.2 k)) ∧ SrF D D' := by
  have a4 := (h.2.2.2 s hs).2.2.2.1
  have fin : ∀ c, c ≤ (V.2.getD s d0).2.2.length → ∃ D', fX8_flowOn_c48 FUEL (Y w D) 272 (nI s) (nI (V.2.getD s d0).2.2.length) (nI c) (nI c) = some (Y w D') ∧ SrD D' (x ++ (V.2.getD s d0).2.2.drop c) ∧ SrF D D' := fun c hc => r_flowOn_c48 (w := w) hs hc (by omega) hx.2.1 ((V.2.getD s d0).2.2.length - c) c FUEL D (by omega) (Nat.le_refl c) (FU (by omega)) h hx.1 hx.2.2 (fun q h1 h2 => by omega)
  intro k
  induction k with
  | zero =>
    intro fuel h1 h2 hf
    obtain ⟨f, rfl, hf⟩ := fu hf
    rw [fX8_flowOn_c26.eq_2, if_pos (by rw [nI_0]; exact Int32.le_refl 0), ovlF]
    exact fin 0 (by omega)
  | succ k ih =>
    intro fuel h1 h2 hf
    obtain ⟨f, rfl, hf⟩ := fu hf
    rw [fX8_flowOn_c26.eq_2, if_neg (nI_nle (by omega) (by omega)), r_goesOn h hx hs h1 h2, Option.bind_some, pk_m1, ovlF]
    cases hb : endsB x (V.2.getD s d0).2.2 (k + 1) with
    | false =>
      rw [if_pos (by rfl), if_neg nft]
      exact ih f (by omega) (by omega) (by omega)
    | true =>
      rw [if_neg nb0, if_pos rfl]
      exact fin (k + 1) (by omega)
theorem r_flowOn (h : RVl D V) (hx : SrD D x) (hs : s < V.2.length) (hl : x.length + (V.2.getD s d0).2.2.length ≤ 48) : ∃ D', fX8_flowOn (Y w D) 272 (nI s) = some (Y w D') ∧ SrD D' (joinL x (V.2.getD s d0).2.2) ∧ SrF D D' := by
  have q2 := h.2.2.1
  obtain ⟨a1, a2, a3, a4, a5⟩ := h.2.2.2 s hs
  rw [Nat.mul_zero, Nat.zero_add] at a3
  have hx2 := hx.2.1
  unfold fX8_flowOn joinL ovl
  rw [if_pos eO_272, eF_272_2, Option.bind_some, show (4 : Int32) + nI s = nI (4 + s) from by rw [← nI_4, nI_add], nw_at (by omega), Option.bind_some, a3, eF_272_17, Option.bind_some, Option.bind_some, hx.1]
  by_cases hm : (V.2.getD s d0).2.2.length ≤ x.length
  · rw [il_t hm (by omega), show min x.length (V.2.getD s d0).2.2.length = (V.2.getD s d0).2.2.length by omega]
    exact r_flowOn_c26 h hx hs hl _ _ hm (Nat.le_refl _) (FU (by omega))
  · rw [il_f (by omega) (by omega), show min x.length (V.2.getD s d0).2.2.length = x.length by omega]
    exact r_flowOn_c26 h hx hs hl _ _ (Nat.le_refl _) (by omega) (FU (by omega))
theorem or_b : ∀ b0 b1 b2 b3 : Bool, ∀ s : Fin 4, (w4 b0 b1 b2 b3 ||| (1 <<< (nI s.val &&& 31))) = w4 (b0 || decide (0 = s.val)) (b1 || decide (1 = s.val)) (b2 || decide (2 = s.val)) (b3 || decide (3 = s.val)) := by decide +kernel
def rbI (o : Option Nat) : Int32 := match o with | some m => nI m | none => -9
theorem NwD.l12 {l : Nat} (h : NwD (D 274) (D 273) (57 * l) V) (s : Nat) : (V.2.getD s d0).2.2.length ≤ 12 := by
  by_cases hs : s < V.2.length
  · exact (h.2.2 s hs).2.2.2.1
  · rw [List.getD_eq_getElem?_getD, List.getElem?_eq_none (by omega)]
    exact Nat.zero_le _
theorem r_riverBy_c35 {n F : Nat} (hn : n ≤ 4) (hF : F < 10000) : ∀ (k i fuel : Nat) (D : mD) (mt : Nat → Bool) (x : List Int32), i + k = n → k < fuel → RVl D V → SrD D x → x.length + 12 * k ≤ 48 → ∃ D', fX8_riverBy_c35 fuel (Y w D) 272 (nI F) (nI n) (w4 (mt 0) (mt 1) (mt 2) (mt 3)) (nI (10 ^ k / 10)) (nI i) = some (rbI (rbF V.2 mt x (dgs F k)), Y w D') ∧ SrF D D' := by
  intro k
  induction k with
  | zero =>
    intro i fuel D mt x hi hf h hx hl
    obtain ⟨f, rfl, hf⟩ := fu hf
    rw [fX8_riverBy_c35.eq_2, il_t (by omega) (by omega), eF_272_17, Option.bind_some, hx.1]
    exact ⟨D, rfl, SrF.rf⟩
  | succ k ih =>
    intro i fuel D mt x hi hf h hx hl
    obtain ⟨f, rfl, hf⟩ := fu hf
    have q2 := h.2.2.1
    have hp0 : 0 < 10 ^ k := Nat.pow_pos (by omega)
    have hp4 : 10 ^ k ≤ 10 ^ 4 := Nat.pow_le_pow_right (by omega) (by omega)
    have e0 : 10 ^ (k + 1) / 10 = 10 ^ k := by rw [Nat.pow_succ, Nat.mul_div_cancel _ (by omega)]
    have hd : F / 10 ^ k ≤ F := Nat.div_le_self _ _
    have hm : F / 10 ^ k % 10 < 10 := Nat.mod_lt _ (by omega)
    have e1 : nI F / nI (10 ^ k) = nI (F / 10 ^ k) := pk_div (by omega) hp0 (by omega)
    have e2 : nI (F / 10 ^ k) - nI (F / 10 ^ k) / 10 * 10 = nI (F / 10 ^ k % 10) := by rw [← nI_10, pk_rem (by omega) (by omega) (by omega)]
    have e3 : nI (10 ^ k) / 10 = nI (10 ^ k / 10) := by rw [← nI_10, pk_div (by omega) (by omega) (by omega)]
    rw [fX8_riverBy_c35.eq_2, il_f (by omega) (by omega), e0, if_neg (nI_ne0 hp0 (by omega)), e1, e2, e3, dgs, rbF, r_there h, Option.bind_some, nI_1]
    generalize F / 10 ^ k % 10 = d at hm
    by_cases h0 : d = 0
    · have hno : hasI V.2 (nI d - 1) = false := by
        rw [h0]
        unfold hasI
        rw [decide_eq_false (by decide)]
        rfl
      rw [hno, if_pos (by rfl), if_pos h0]
      exact ⟨D, rfl, SrF.rf⟩
    · obtain ⟨s, rfl⟩ : ∃ s, d = s + 1 := ⟨d - 1, by omega⟩
      rw [if_neg h0, nI_pred, hasI_nI (by omega), show s + 1 - 1 = s by omega]
      cases ht : there V.2 s with
      | false =>
        rw [if_pos (by rfl), Bool.false_and, if_neg nft]
        exact ⟨D, rfl, SrF.rf⟩
      | true =>
        have hs := there_lt ht
        rw [if_neg nb0, r_has (b := mt) (by omega), Option.bind_some, Bool.true_and]
        cases hmt : mt s with
        | true =>
          rw [if_neg nb0, if_neg (by decide)]
          exact ⟨D, rfl, SrF.rf⟩
        | false =>
          have hl12 := h.2.l12 s
          have hjl := joinL_len x (V.2.getD s d0).2.2
          obtain ⟨D1, g1, g2, g3⟩ := r_flowOn (w := w) h hx hs (by omega)
          have hor := or_b (mt 0) (mt 1) (mt 2) (mt 3) ⟨s, by omega⟩
          dsimp only at hor
          rw [if_pos (by rfl), if_pos (by rfl), Option.bind_some, g1, Option.bind_some, hor]
          obtain ⟨D', k1, k2⟩ := ih (i + 1) f D1 (updM mt s) (joinL x (V.2.getD s d0).2.2) (by omega) (by omega) (h.sr g3) g2 (by omega)
          exact ⟨D', k1, g3.tr k2⟩
theorem r_riverBy_c8 {n F : Nat} (hn : n ≤ 4) : ∀ (k i fuel a : Nat), i + k = n → k < fuel → fX8_riverBy_c8 fuel (Y w D) 272 (nI F) (nI n) 0 (nI a) (nI i) = fX8_riverBy_c35 FUEL (Y w (ud D 272 17 0)) 272 (nI F) (nI n) 0 (nI (a * 10 ^ k)) 0 := by
  intro k
  induction k with
  | zero =>
    intro i fuel a hi hf
    obtain ⟨f, rfl, hf⟩ := fu hf
    rw [fX8_riverBy_c8.eq_2, il_t (by omega) (by omega), eS_272_17, Option.bind_some, Nat.pow_zero, Nat.mul_one]
  | succ k ih =>
    intro i fuel a hi hf
    obtain ⟨f, rfl, hf⟩ := fu hf
    rw [fX8_riverBy_c8.eq_2, il_f (by omega) (by omega), ← nI_10, pk_mul, nI_1, ih (i + 1) f (a * 10) (by omega) (by omega), Nat.pow_succ, Nat.mul_assoc, Nat.mul_comm 10 (10 ^ k)]
theorem r_riverBy {n F : Nat} (hn : 1 ≤ n ∧ n ≤ 4) (hF : F < 10000) (h : RVl D V) : ∃ D', fX8_riverBy (Y w D) 272 (nI F) (nI n) = some (rbI (gR1 V.2 n F), Y w D') ∧ SrF D D' := by
  have e := r_riverBy_c8 (w := w) (D := D) (F := F) hn.2 (n - 1) 1 FUEL 1 (by omega) (FU (by omega))
  have fr : SrF D (ud D 272 17 0) := ⟨fun a h1 h2 => ud_r h1, fun k hk => ud_n (by omega)⟩
  obtain ⟨D', g1, g2⟩ := r_riverBy_c35 (w := w) (V := V) hn.2 hF n 0 FUEL (ud D 272 17 0) mt0 [] (by omega) (FU (by omega)) (h.sr fr) ⟨ud_s, by simp, fun j hj => by simp at hj⟩ (by rw [List.length_nil]; omega)
  have ew : w4 (mt0 0) (mt0 1) (mt0 2) (mt0 3) = 0 := by decide
  have ep : 10 ^ n / 10 = 10 ^ (n - 1) := by
    obtain ⟨m, rfl⟩ : ∃ m, n = m + 1 := ⟨n - 1, by omega⟩
    rw [Nat.pow_succ, Nat.mul_div_cancel _ (by omega)]
    rfl
  rw [ew, ep, nI_0] at g1
  rw [Nat.one_mul, nI_n1] at e
  unfold fX8_riverBy
  rw [if_pos eO_272, e, g1]
  exact ⟨D', rfl, fr.tr g2⟩
theorem gR_le {ss : List tS} (h12 : ∀ s, (ss.getD s d0).2.2.length ≤ 12) : ∀ (l : List Nat) (mt : Nat → Bool) (x : List Int32) (m : Nat), rbF ss mt x l = some m → m ≤ x.length + 12 * l.length
  | [], mt, x, m, h => by
    rw [rbF] at h
    cases h
    omega
  | d :: l, mt, x, m, h => by
    rw [rbF] at h
    by_cases h0 : d = 0
    · rw [if_pos h0] at h; cases h
    · rw [if_neg h0] at h
      by_cases h1 : (there ss (d - 1) && !mt (d - 1)) = true
      · rw [if_pos h1] at h
        have h2 := gR_le h12 l _ _ m h
        have h3 := joinL_len x (ss.getD (d - 1) d0).2.2
        have h4 := h12 (d - 1)
        rw [List.length_cons]
        omega
      · rw [if_neg h1] at h; cases h
theorem dgs_len (F : Nat) : ∀ n, (dgs F n).length = n
  | 0 => rfl
  | n + 1 => by rw [dgs, List.length_cons, dgs_len F n]
theorem r_river_c76 {n mo : Nat} {z : Int32} (hn : 1 ≤ n ∧ n ≤ 4) (hmo : mo < 5000) : ∀ (k F fuel : Nat) (D : mD) (st : Option Nat × Nat), F + k = mo + 1 → k < fuel → RVl D V → (∀ m, st.1 = some m → m ≤ 48) → ∃ D', fX8_river_c76 fuel (Y w D) 272 z (nI n) (nI mo) (nI st.2) (rbI st.1) (nI F) = some ((if z = 0 then rbI (rvS (gR1 V.2 n) (List.range' F k) st).1 else nI (rvS (gR1 V.2 n) (List.range' F k) st).2), Y w D') ∧ SrF D D' := by
  intro k
  induction k with
  | zero =>
    intro F fuel D st hF hf h hst
    obtain ⟨f, rfl, hf⟩ := fu hf
    refine ⟨D, ?_, SrF.rf⟩
    rw [fX8_river_c76.eq_2, ilt_t (by omega) (by omega)]
    by_cases hz : z = 0
    · rw [if_pos hz, if_pos hz]; rfl
    · rw [if_neg hz, if_neg hz]; rfl
  | succ k ih =>
    intro F fuel D st hF hf h hst
    obtain ⟨f, rfl, hf⟩ := fu hf
    obtain ⟨D1, g1, g2⟩ := r_riverBy (w := w) (F := F) hn (by omega) h
    have h1 := h.sr g2
    rw [fX8_river_c76.eq_2, ilt_f (by omega) (by omega), if_neg (nI_nle (by omega) (by omega)), g1, Option.bind_some]
    dsimp only
    rw [nI_1, List.range'_succ]
    have e : rvS (gR1 V.2 n) (F :: List.range' (F + 1) k) st = rvS (gR1 V.2 n) (List.range' (F + 1) k) (rvT (gR1 V.2 n) st F) := rfl
    rw [e]
    cases hg : gR1 V.2 n F with
    | none =>
      have e2 : rvT (gR1 V.2 n) st F = st := by
        unfold rvT
        rw [hg]
      rw [if_pos (by rfl), e2]
      obtain ⟨D', k1, k2⟩ := ih (F + 1) f D1 st (by omega) (by omega) h1 hst
      exact ⟨D', k1, g2.tr k2⟩
    | some m =>
      have hm : m ≤ 48 := by
        have := gR_le (ss := V.2) h.2.l12 (dgs F n) mt0 [] m hg
        rw [dgs_len, List.length_nil] at this
        omega
      have ei : rbI (some m) = nI m := rfl
      have ne9 : ∀ q, q ≤ 48 → ¬ nI q = -9 := fun q hq hc => nI_pos (n := q) (by omega) (by rw [hc]; decide)
      rw [ei, if_neg (ne9 m hm)]
      have ht : rvT (gR1 V.2 n) st F = (match st.1 with | none => (some m, F) | some f => if m < f then (some m, F) else st) := by
        unfold rvT
        rw [hg]
        rfl
      rw [ht]
      cases hs : st.1 with
      | none =>
        dsimp only
        rw [if_pos (by rfl)]
        obtain ⟨D', k1, k2⟩ := ih (F + 1) f D1 (some m, F) (by omega) (by omega) h1 (fun q hq => by cases hq; exact hm)
        exact ⟨D', k1, g2.tr k2⟩
      | some b =>
        have hb := hst b hs
        have eb : rbI (some b) = nI b := rfl
        dsimp only
        rw [eb, if_neg (ne9 b hb)]
        by_cases hlt : m < b
        · rw [if_pos hlt, il_f hlt (by omega)]
          obtain ⟨D', k1, k2⟩ := ih (F + 1) f D1 (some m, F) (by omega) (by omega) h1 (fun q hq => by cases hq; exact hm)
          exact ⟨D', k1, g2.tr k2⟩
        · rw [if_neg hlt, il_t (by omega) (by omega)]
          obtain ⟨D', k1, k2⟩ := ih (F + 1) f D1 st (by omega) (by omega) h1 hst
          rw [hs, eb] at k1
          exact ⟨D', k1, g2.tr k2⟩
def fsN : Nat → Nat → Nat
  | a, 0 => a
  | a, k + 1 => fsN (10 * a + 1) k
def msN : Nat → Nat → Nat
  | a, 0 => a
  | a, k + 1 => msN (10 * a + 4) k
theorem r_river_c30 {n : Nat} {z : Int32} {M : mM} (hn : n ≤ 4) : ∀ (k i fuel a b : Nat), i + k = n → k < fuel → fX8_river_c30 fuel M 272 z (nI n) (nI a) (nI b) (nI i) = if nI n = 0 then fX8_river_c76 FUEL M 272 z (nI n) (nI (msN b k)) 0 0 (nI (fsN a k)) else fX8_river_c76 FUEL M 272 z (nI n) (nI (msN b k)) 0 (-9) (nI (fsN a k)) := by
  intro k
  induction k with
  | zero =>
    intro i fuel a b hi hf
    obtain ⟨f, rfl, hf⟩ := fu hf
    rw [fX8_river_c30.eq_2, il_t (by omega) (by omega)]
    rfl
  | succ k ih =>
    intro i fuel a b hi hf
    obtain ⟨f, rfl, hf⟩ := fu hf
    have e1 : (10 : Int32) * nI a + 1 = nI (10 * a + 1) := by rw [← nI_10, pk_mul, nI_1]
    have e2 : (10 : Int32) * nI b + 4 = nI (10 * b + 4) := by rw [← nI_10, ← nI_4, pk_mul, nI_add]
    rw [fX8_river_c30.eq_2, il_f (by omega) (by omega), e1, e2, nI_1, ih (i + 1) f _ _ (by omega) (by omega)]
    rfl
theorem LR_n {n : Nat} (hn : 1 ≤ n ∧ n ≤ 4) : (List.range' (fsN 0 n) (msN 0 n + 1 - fsN 0 n)).filter (okD n) = (List.range' 0 (4 ^ n)).map (fgR n) ∧ fsN 0 n ≤ msN 0 n ∧ msN 0 n < 5000 := by
  rcases (show n = 1 ∨ n = 2 ∨ n = 3 ∨ n = 4 by omega) with rfl | rfl | rfl | rfl
  · exact ⟨LR1, by decide, by decide⟩
  · exact ⟨LR2, by decide, by decide⟩
  · exact ⟨LR3, by decide, by decide⟩
  · exact ⟨LR4, by decide, by decide⟩
theorem r_river {x : Int32} (h : RI D tx V A K bd L) : ∃ D', fX8_river (Y w D) 272 x = some (riA V.2 x, Y w D') ∧ RI D' tx V A K bd L ∧ ∀ a, a < 272 → D' a = D a := by
  have q2 := h.2.1.2.2.1
  have hp := pop_le V.2
  have hw := r_whoIs (w := w) (l := 0) (by omega) h.2.1.1 h.2.1.2
  rw [nI_0] at hw
  have ho : fX8_ones (Y w D) (who V.2) = some (nI (pop V.2)) := by
    rw [who_w4 q2]
    exact r_ones4 (b := there V.2)
  unfold fX8_river
  rw [if_pos eO_272, d64 (lo := 0) (hi := 1) (by decide) (by decide), Option.bind_some]
  by_cases hx : x = 0 ∨ x = 1
  · have hc := r_river_c30 (z := x) (M := Y w D) hp (pop V.2) 0 FUEL 0 0 (by omega) (FU (by omega))
    rw [nI_0] at hc
    rw [if_neg (by rw [b2i_0, decide_eq_false_iff_not]; exact fun q => q ⟨(in01.mpr hx).1, Int32.not_lt.mpr (in01.mpr hx).2⟩), hw, Option.bind_some, ho, Option.bind_some, hc]
    have ea : riA V.2 x = (if x = 0 then rvI (-1) (rvR V.2 (pop V.2)).1 else nI (rvR V.2 (pop V.2)).2) := by
      unfold riA
      rcases hx with q | q
      · rw [if_pos q, if_pos q]
      · rw [if_neg (by rw [q]; decide), if_pos q, if_neg (by rw [q]; decide)]
    rw [ea]
    by_cases h0 : pop V.2 = 0
    · have er : rvR V.2 (pop V.2) = (some 0, 0) := by
        rw [h0]
        rfl
      rw [er, h0, if_pos nI_0, show FUEL = 999999 + 1 from rfl, fX8_river_c76.eq_2]
      refine ⟨D, ?_, h, fun a _ => rfl⟩
      rw [if_neg (by decide), if_pos (by decide)]
      by_cases hz : x = 0
      · rw [if_pos hz, if_pos hz]; rfl
      · rw [if_neg hz, if_neg hz]; rfl
    · obtain ⟨l1, l2, l3⟩ := LR_n (n := pop V.2) (by omega)
      obtain ⟨D', k1, k2⟩ := r_river_c76 (w := w) (z := x) (n := pop V.2) (by omega) l3 (msN 0 (pop V.2) + 1 - fsN 0 (pop V.2)) (fsN 0 (pop V.2)) FUEL D (none, 0) (by omega) (FU (by omega)) h.2.1 (fun m q => by cases q)
      have er : rvS (gR1 V.2 (pop V.2)) (List.range' (fsN 0 (pop V.2)) (msN 0 (pop V.2) + 1 - fsN 0 (pop V.2))) (none, 0) = rvR V.2 (pop V.2) := by
        rw [← rvS_filter (ok := okD (pop V.2)) (fun F hF => ?_), l1]
        · rfl
        · cases hg : gR1 V.2 (pop V.2) F with
          | none => rfl
          | some m =>
            have := rb_ok q2 _ _ _ m hg
            unfold okD at hF
            rw [this] at hF
            cases hF
      rw [er] at k1
      have hsome := rvR_some q2
      have e1 : rbI (rvR V.2 (pop V.2)).1 = rvI (-1) (rvR V.2 (pop V.2)).1 := by
        cases hr : (rvR V.2 (pop V.2)).1 with
        | none => exact absurd hr hsome
        | some m => rfl
      rw [e1] at k1
      have k1' : fX8_river_c76 FUEL (Y w D) 272 x (nI (pop V.2)) (nI (msN 0 (pop V.2))) 0 (-9) (nI (fsN 0 (pop V.2))) = some ((if x = 0 then rvI (-1) (rvR V.2 (pop V.2)).1 else nI (rvR V.2 (pop V.2)).2), Y w D') := by
        rw [← nI_0]
        exact k1
      rw [if_neg (nI_ne0 (by omega) (by omega)), k1']
      exact ⟨D', rfl, h.scr k2.fr, fun a ha => k2.1 a (by omega) (by omega)⟩
  · have hno : b2i (decide (¬ x < 0 ∧ ¬ 1 < x)) = 0 := by
      rw [b2i_0, decide_eq_false_iff_not]
      rintro ⟨q1, q2⟩
      exact hx (in01.mp ⟨q1, Int32.not_lt.mp q2⟩)
    have e : riA V.2 x = -2 := by
      unfold riA
      rw [if_neg (fun q => hx (Or.inl q)), if_neg (fun q => hx (Or.inr q))]
    rw [if_pos hno, e]
    exact ⟨D, rfl, h, fun a _ => rfl⟩
end R9
