/-! ===== doings that are tried ===== -/
def jdT (bd : List Int32) (ss : List tS) (h a b : Nat) : Bool × List tS :=
  if h = 0 then (decide (a = 0 ∧ b = 0), win ss)
  else if h = 1 then (decide (¬ (hgA ss (nI a) (nI b)).1 < 0), (hgA ss (nI a) (nI b)).2)
  else if h = 2 then (decide (a = 0) && decide (¬ (tnA ss (nI b)).1 < 0), (tnA ss (nI b)).2)
  else if h = 3 then (decide (a = 0) && decide (¬ (snA ss (nI b)).1 < 0), (snA ss (nI b)).2)
  else if h = 4 then (decide (¬ (jnA ss (nI a) (nI b)).1 < 0), (jnA ss (nI a) (nI b)).2)
  else if h = 5 then (hasI ss (nI a) && decide (¬ nI (gt ss (nI a)).2.2.length < nI b), ss)
  else if h = 6 then (decide (a = 0) && (hasI ss (nI b) && decide (¬ fstP bd (gt ss (nI b)).2.2 = -9)), ss)
  else (false, ss)
theorem ne_l {a k : Nat} {x : Int32} (hx : nI k = x) (h : a ≠ k) (ha : a < 2 ^ 31) (hk : k < 2 ^ 31) : ¬ nI a = x := by
  rw [← hx, nI_eq ha hk]
  exact h
theorem nI_5 : nI 5 = 5 := by decide +kernel
theorem nI_10 : nI 10 = 10 := by decide +kernel
theorem nI_100 : nI 100 = 100 := by decide +kernel
theorem nI_9 : nI 9 = 9 := by decide +kernel
theorem sgn {x : Int32} {M : mM} : (if x < 0 then some ((0 : Int32), M) else some (1, M)) = some (b2i (decide (¬ x < 0)), M) := by
  by_cases h : x < 0
  · rw [if_pos h, decide_eq_false (fun q => q h)]; rfl
  · rw [if_neg h, decide_eq_true h]; rfl
theorem sgn2 {x y : Int32} {M : mM} : (if x < y then some ((0 : Int32), M) else some (1, M)) = some (b2i (true && decide (¬ x < y)), M) := by
  by_cases h : x < y
  · rw [if_pos h, decide_eq_false (fun q => q h)]; rfl
  · rw [if_neg h, decide_eq_true h]; rfl
theorem sgn3 {x y : Int32} {M : mM} : (if x = y then some ((0 : Int32), M) else some (1, M)) = some (b2i (decide (¬ x = y)), M) := by
  by_cases h : x = y
  · rw [if_pos h, decide_eq_false (fun q => q h)]; rfl
  · rw [if_neg h, decide_eq_true h]; rfl
theorem jd_len {bd : List Int32} {ss : List tS} {h a b : Nat} : (jdT bd ss h a b).2.length = ss.length := by
  unfold jdT
  repeat' split
  · exact win_len ss
  · exact hg_len
  · exact tn_len
  · exact sn_len
  · exact jn_len
  · rfl
  · rfl
  · rfl
theorem jd_good {bd : List Int32} {ss : List tS} {h a b : Nat} (g : gW ss) : gW (jdT bd ss h a b).2 := by
  unfold jdT
  repeat' split
  · exact g.oWin
  · exact g.oHang
  · exact g.oTurn
  · exact g.oSnip
  · exact g.oJoin
  · exact g
  · exact g
  · exact g
section JU
variable {w : mW} {D : mD} {i : Nat} {tx : List Int32} {V U : tV} {A : List tV} {K : Nat → Option tV} {bd : List Int32} {L : List (Int32 × Int32)}
/-- the class -/
theorem c_canBe {d : Nat} (hd : d < 1000) (h : CI D tx V A K bd L) (hU : VlD D 18 U) : ∃ D', fX7_canBe (Y w D) 1 (nI d) = some (b2i (jdT bd U.2 (d / 100) (d / 10 % 10) (d % 10)).1, Y w D') ∧ CI D' tx V A K bd L ∧ ((jdT bd U.2 (d / 100) (d / 10 % 10) (d % 10)).1 = true → ∃ y, VlD D' 18 (y, (jdT bd U.2 (d / 100) (d / 10 % 10) (d % 10)).2)) ∧ ∀ a, 272 ≤ a → D' a = D a := by
  have q3 := hU.2.2.1
  have m1 : d / 10 % 10 < 10 := Nat.mod_lt _ (by omega)
  have m2 : d % 10 < 10 := Nat.mod_lt _ (by omega)
  have e1 : nI d / 100 = nI (d / 100) := by rw [← nI_100, pk_div (by omega) (by omega) (by omega)]
  have e2 : nI d / 10 - nI d / 10 / 10 * 10 = nI (d / 10 % 10) := by rw [← nI_10, pk_div (a := d) (by omega) (by omega) (by omega), pk_rem (by omega) (by omega) (by omega)]
  have e3 : nI d - nI d / 10 * 10 = nI (d % 10) := by rw [← nI_10, pk_rem (by omega) (by omega) (by omega)]
  unfold fX7_canBe
  rw [if_pos eO_1, e1, e2, e3]
  simp only [eF_1_2, Option.bind_some]
  by_cases h0 : d / 100 = 0
  · have ej : jdT bd U.2 (d / 100) (d / 10 % 10) (d % 10) = (decide (d / 10 % 10 = 0 ∧ d % 10 = 0), win U.2) := by unfold jdT; rw [if_pos h0]
    rw [ej, h0, if_pos nI_0]
    by_cases hz : d = 0
    · subst hz
      obtain ⟨D', k1, k2, k3⟩ := l_passWinter (w := w) isVl_18 hU
      have hp := pop_le U.2
      rw [if_pos nI_0, k1, Option.bind_some, sgn]
      dsimp only
      rw [wi_ans, decide_eq_true (nI_pos (by omega))]
      exact ⟨D', rfl, h.scr (fun a ha => k3 a (by omega)), fun _ => ⟨_, k2⟩, fun a ha => k3 a (by omega)⟩
    · rw [if_neg (ne_l nI_0 hz (by omega) (by omega))]
      have hf : ¬ (d / 10 % 10 = 0 ∧ d % 10 = 0) := by omega
      dsimp only
      rw [decide_eq_false hf]
      exact ⟨D, rfl, h, (fun q => by cases q), fun a _ => rfl⟩
  · rw [if_neg (ne_l nI_0 h0 (by omega) (by omega))]
    by_cases h1 : d / 100 = 1
    · have ej : jdT bd U.2 (d / 100) (d / 10 % 10) (d % 10) = (decide (¬ (hgA U.2 (nI (d / 10 % 10)) (nI (d % 10))).1 < 0), (hgA U.2 (nI (d / 10 % 10)) (nI (d % 10))).2) := by unfold jdT; rw [if_neg h0, if_pos h1]
      rw [ej, h1, if_pos nI_n1]
      obtain ⟨D', k1, k2, k3⟩ := l_hangIn (w := w) (x := nI (d / 10 % 10)) (y := nI (d % 10)) isVl_18 hU
      rw [k1, Option.bind_some, sgn]
      exact ⟨D', rfl, h.scr (fun a ha => k3 a (by omega)), fun _ => ⟨_, k2⟩, fun a ha => k3 a (by omega)⟩
    · rw [if_neg (ne_l nI_n1 h1 (by omega) (by omega))]
      by_cases h2 : d / 100 = 2
      · have ej : jdT bd U.2 (d / 100) (d / 10 % 10) (d % 10) = (decide (d / 10 % 10 = 0) && decide (¬ (tnA U.2 (nI (d % 10))).1 < 0), (tnA U.2 (nI (d % 10))).2) := by unfold jdT; rw [if_neg h0, if_neg h1, if_pos h2]
        rw [ej, h2, if_pos nI_2]
        by_cases ha : d / 10 % 10 = 0
        · obtain ⟨D', k1, k2, k3⟩ := l_turnAbout (w := w) (x := nI (d % 10)) isVl_18 hU
          dsimp only
          rw [ha, if_pos nI_0, k1, Option.bind_some, sgn, decide_eq_true rfl, Bool.true_and]
          exact ⟨D', rfl, h.scr (fun a ha => k3 a (by omega)), fun _ => ⟨_, k2⟩, fun a ha => k3 a (by omega)⟩
        · dsimp only
          rw [if_neg (ne_l nI_0 ha (by omega) (by omega)), decide_eq_false ha, Bool.false_and]
          exact ⟨D, rfl, h, (fun q => by cases q), fun a _ => rfl⟩
      · rw [if_neg (ne_l nI_2 h2 (by omega) (by omega))]
        by_cases h3 : d / 100 = 3
        · have ej : jdT bd U.2 (d / 100) (d / 10 % 10) (d % 10) = (decide (d / 10 % 10 = 0) && decide (¬ (snA U.2 (nI (d % 10))).1 < 0), (snA U.2 (nI (d % 10))).2) := by unfold jdT; rw [if_neg h0, if_neg h1, if_neg h2, if_pos h3]
          rw [ej, h3, if_pos nI_3]
          by_cases ha : d / 10 % 10 = 0
          · obtain ⟨D', k1, k2, k3⟩ := l_snipEnd (w := w) (x := nI (d % 10)) isVl_18 hU
            dsimp only
            rw [ha, if_pos nI_0, k1, Option.bind_some, sgn, decide_eq_true rfl, Bool.true_and]
            exact ⟨D', rfl, h.scr (fun a ha => k3 a (by omega)), fun _ => ⟨_, k2⟩, fun a ha => k3 a (by omega)⟩
          · dsimp only
            rw [if_neg (ne_l nI_0 ha (by omega) (by omega)), decide_eq_false ha, Bool.false_and]
            exact ⟨D, rfl, h, (fun q => by cases q), fun a _ => rfl⟩
        · rw [if_neg (ne_l nI_3 h3 (by omega) (by omega))]
          by_cases h4 : d / 100 = 4
          · have ej : jdT bd U.2 (d / 100) (d / 10 % 10) (d % 10) = (decide (¬ (jnA U.2 (nI (d / 10 % 10)) (nI (d % 10))).1 < 0), (jnA U.2 (nI (d / 10 % 10)) (nI (d % 10))).2) := by unfold jdT; rw [if_neg h0, if_neg h1, if_neg h2, if_neg h3, if_pos h4]
            rw [ej, h4, if_pos nI_4]
            obtain ⟨D', k1, k2, k3⟩ := l_joinTo (w := w) (x := nI (d / 10 % 10)) (y := nI (d % 10)) isVl_18 hU
            rw [k1, Option.bind_some, sgn]
            exact ⟨D', rfl, h.scr (fun a ha => k3 a (by omega)), fun _ => ⟨_, k2⟩, fun a ha => k3 a (by omega)⟩
          · rw [if_neg (ne_l nI_4 h4 (by omega) (by omega))]
            by_cases h5 : d / 100 = 5
            · have ej : jdT bd U.2 (d / 100) (d / 10 % 10) (d % 10) = (hasI U.2 (nI (d / 10 % 10)) && decide (¬ nI (gt U.2 (nI (d / 10 % 10))).2.2.length < nI (d % 10)), U.2) := by unfold jdT; rw [if_neg h0, if_neg h1, if_neg h2, if_neg h3, if_neg h4, if_pos h5]
              rw [ej, h5, if_pos nI_5, l_has isVl_18 hU, Option.bind_some]
              dsimp only
              cases hb : hasI U.2 (nI (d / 10 % 10)) with
              | false =>
                rw [if_pos (by rfl), Bool.false_and]
                exact ⟨D, rfl, h, (fun q => by cases q), fun a _ => rfl⟩
              | true =>
                obtain ⟨i, hi, ei, ht⟩ := hasI_spec hb
                have hs := vl_s isVl_18 (i := i) (by omega)
                have hg : gt U.2 (nI i) = U.2.getD i d0 := by unfold gt; rw [nI_clamp (by omega)]
                rw [if_neg nb0, vl_a isVl_18, Option.bind_some, ei, vl_q isVl_18 (by omega), Option.bind_some, st_r hs, Option.bind_some, rw_sz (st_rw hs), Option.bind_some, (hU.2.2.2 i hi).2.2.1.1, hg, sgn2]
                exact ⟨D, rfl, h, fun _ => ⟨_, hU⟩, fun a _ => rfl⟩
            · rw [if_neg (ne_l nI_5 h5 (by omega) (by omega))]
              by_cases h6 : d / 100 = 6
              · have ej : jdT bd U.2 (d / 100) (d / 10 % 10) (d % 10) = (decide (d / 10 % 10 = 0) && (hasI U.2 (nI (d % 10)) && decide (¬ fstP bd (gt U.2 (nI (d % 10))).2.2 = -9)), U.2) := by unfold jdT; rw [if_neg h0, if_neg h1, if_neg h2, if_neg h3, if_neg h4, if_neg h5, if_pos h6]
                rw [ej, h6, if_pos nI_6]
                dsimp only
                by_cases ha : d / 10 % 10 = 0
                · rw [ha, if_pos nI_0, l_has isVl_18 hU, Option.bind_some, decide_eq_true rfl, Bool.true_and]
                  cases hb : hasI U.2 (nI (d % 10)) with
                  | false =>
                    rw [if_pos (by rfl), Bool.false_and]
                    exact ⟨D, rfl, h, (fun q => by cases q), fun a _ => rfl⟩
                  | true =>
                    obtain ⟨i, hi, ei, ht⟩ := hasI_spec hb
                    have hs := vl_s isVl_18 (i := i) (by omega)
                    have hg : gt U.2 (nI i) = U.2.getD i d0 := by unfold gt; rw [nI_clamp (by omega)]
                    obtain ⟨s1, s2, s3, s4⟩ := hU.2.2.2 i hi
                    have c5 := h.2.2.2.2.1
                    rw [if_neg nb0, eF_1_6, Option.bind_some, vl_a isVl_18, Option.bind_some, ei, vl_q isVl_18 (by omega), Option.bind_some, st_r hs, Option.bind_some, l_firstPlaceOf isRw_bed (st_rw hs) c5.1 s3 c5.2 s4, Option.bind_some, hg, Bool.true_and, sgn3]
                    exact ⟨D, rfl, h, fun _ => ⟨_, hU⟩, fun a _ => rfl⟩
                · rw [if_neg (ne_l nI_0 ha (by omega) (by omega)), decide_eq_false ha, Bool.false_and]
                  exact ⟨D, rfl, h, (fun q => by cases q), fun a _ => rfl⟩
              · have ej : jdT bd U.2 (d / 100) (d / 10 % 10) (d % 10) = (false, U.2) := by unfold jdT; rw [if_neg h0, if_neg h1, if_neg h2, if_neg h3, if_neg h4, if_neg h5, if_neg h6]
                rw [if_neg (ne_l nI_6 h6 (by omega) (by omega)), ej]
                exact ⟨D, rfl, h, (fun q => by cases q), fun a _ => rfl⟩
/-! the reference's level 1 -/
theorem r_there1 {x : Int32} (hn : D 272 0 = nI U.2.length) (h : NwD (D 274) (D 273) (57 * 1) U) : fX8_isThere (Y w D) 272 1 x = some (b2i (hasI U.2 x)) := by
  have := r_isThere (w := w) (l := 1) (x := x) (by omega) hn h
  rw [nI_n1] at this
  exact this
theorem r_try1 {x y : Int32} (hn : D 272 0 = nI U.2.length) (h : NwD (D 274) (D 273) (57 * 1) U) : ∃ D', fX8_tryThing (Y w D) 272 1 x y = some (b2i (decide (¬ (hgA U.2 x y).1 < 0)), Y w D') ∧ NwD (D' 274) (D' 273) (57 * 1) (U.1, (hgA U.2 x y).2) ∧ LvF 1 D D' := by
  have q2 := h.2.1
  unfold fX8_tryThing
  rw [if_pos eO_272, if_neg (by decide), if_pos rfl, r_there1 hn h, Option.bind_some, d64 (lo := 0) (hi := 3) (by decide) (by decide), Option.bind_some]
  cases hb : hasI U.2 x with
  | false =>
    have e : hgA U.2 x y = (-1, U.2) := by unfold hgA; rw [if_pos (Or.inl hb)]
    rw [if_pos (by rfl), e]
    exact ⟨D, rfl, h, LvF.rf⟩
  | true =>
    rw [if_neg nb0]
    by_cases hy : y < 0 ∨ ¬ y < 4
    · have e : hgA U.2 x y = (-1, U.2) := by unfold hgA; rw [if_pos (Or.inr hy)]
      rw [if_pos, e]
      · exact ⟨D, rfl, h, LvF.rf⟩
      · rw [b2i_0, decide_eq_false_iff_not]
        rintro ⟨p1, p2⟩
        rcases hy with q | q
        · exact p1 q
        · exact p2 (lt34.mpr q)
    · obtain ⟨i, hi, rfl, ht⟩ := hasI_spec hb
      obtain ⟨a1, a2, a3, a4, a5⟩ := h.2.2 i hi
      have hno : ¬ (hasI U.2 (nI i) = false ∨ y < 0 ∨ ¬ y < 4) := by
        rintro (q | q)
        · rw [hb] at q; cases q
        · exact hy q
      rw [if_neg, eF_272_2, Option.bind_some, ← nI_57, nI_add, nw_at (by omega), Option.bind_some, show 57 + i = 57 * 1 + i by omega, a1]
      · by_cases hh : (U.2.getD i d0).1 = y
        · have e : hgA U.2 (nI i) y = (-3, U.2) := by unfold hgA; rw [if_neg hno, nI_clamp (by omega), if_pos hh]
          rw [if_pos hh, e]
          exact ⟨D, rfl, h, LvF.rf⟩
        · have e : hgA U.2 (nI i) y = (nI (cnt (U.2.set i (y, (U.2.getD i d0).2.1, (U.2.getD i d0).2.2)) y), U.2.set i (y, (U.2.getD i d0).2.1, (U.2.getD i d0).2.2)) := by
            unfold hgA
            rw [if_neg hno, nI_clamp (by omega), if_neg hh]
          have hc := cnt_lt (ss := U.2.set i (y, (U.2.getD i d0).2.1, (U.2.getD i d0).2.2)) (h := y) (by simpa using q2)
          obtain ⟨k1, k2⟩ := r_hang0 (y := y) (l := 1) (by omega) h hi
          rw [if_neg hh, Option.bind_some, nw_st (by omega), Option.bind_some, e]
          dsimp only
          rw [decide_eq_true (nI_pos hc)]
          exact ⟨_, rfl, k1, k2⟩
      · rw [b2i_0, decide_eq_false_iff_not]
        intro q
        exact q ⟨fun q1 => hy (Or.inl q1), fun q2 => hy (Or.inr (lt34.mp q2))⟩
theorem r_try2 {y : Int32} (hn : D 272 0 = nI U.2.length) (h : NwD (D 274) (D 273) (57 * 1) U) (hg : gW U.2) : ∃ D', fX8_tryThing (Y w D) 272 2 0 y = some (b2i (decide (¬ (tnA U.2 y).1 < 0)), Y w D') ∧ NwD (D' 274) (D' 273) (57 * 1) (U.1, (tnA U.2 y).2) ∧ LvF 1 D D' := by
  have q2 := h.2.1
  unfold fX8_tryThing
  rw [if_pos eO_272, if_neg (by decide), if_neg (by decide), if_pos rfl, if_pos rfl, r_there1 hn h, Option.bind_some]
  cases hb : hasI U.2 y with
  | false =>
    have e : tnA U.2 y = (-1, U.2) := by unfold tnA; rw [if_pos hb]
    rw [if_pos (by rfl), e]
    exact ⟨D, rfl, h, LvF.rf⟩
  | true =>
    obtain ⟨i, hi, rfl, ht⟩ := hasI_spec hb
    have e : tnA U.2 (nI i) = ((U.2.getD i d0).2.2.reverse.getD 0 0, U.2.set i ((U.2.getD i d0).1, (U.2.getD i d0).2.1, (U.2.getD i d0).2.2.reverse)) := by
      unfold tnA
      rw [hb, if_neg ntf, nI_clamp (by omega)]
    obtain ⟨D2, k1, k2, k3, k4⟩ := r_turnOn (w := w) (l := 1) (by omega) h hi
    rw [nI_n1] at k1
    rw [if_neg nb0, k1, Option.bind_some, e]
    dsimp only
    rw [decide_eq_true (rev0 (hg i).2.2 (there_ne.mp ht))]
    exact ⟨D2, rfl, k2, k3⟩
theorem r_try3 {y : Int32} (hn : D 272 0 = nI U.2.length) (h : NwD (D 274) (D 273) (57 * 1) U) (hg : gW U.2) : ∃ D', fX8_tryThing (Y w D) 272 3 0 y = some (b2i (decide (¬ (snA U.2 y).1 < 0)), Y w D') ∧ NwD (D' 274) (D' 273) (57 * 1) (U.1, (snA U.2 y).2) ∧ LvF 1 D D' := by
  have q2 := h.2.1
  unfold fX8_tryThing
  rw [if_pos eO_272, if_neg (by decide), if_neg (by decide), if_neg (by decide), if_pos rfl, if_pos rfl, r_there1 hn h, Option.bind_some]
  cases hb : hasI U.2 y with
  | false =>
    have e : snA U.2 y = (-1, U.2) := by unfold snA; rw [if_pos hb]
    rw [if_pos (by rfl), e]
    exact ⟨D, rfl, h, LvF.rf⟩
  | true =>
    obtain ⟨i, hi, rfl, ht⟩ := hasI_spec hb
    obtain ⟨a1, a2, a3, a4, a5⟩ := h.2.2 i hi
    rw [if_neg nb0, eF_272_2, Option.bind_some, ← nI_61, nI_add, nw_at (by omega), Option.bind_some, show 61 + i = 57 * 1 + 4 + i by omega, a3]
    by_cases h1 : (U.2.getD i d0).2.2.length < 2
    · have e : snA U.2 (nI i) = (-3, U.2) := by unfold snA; rw [hb, if_neg ntf, nI_clamp (by omega), if_pos h1]
      rw [if_pos (by rw [← nI_n1]; exact nI_le (by omega) (by omega)), e]
      exact ⟨D, rfl, h, LvF.rf⟩
    · have e : snA U.2 (nI i) = ((U.2.getD i d0).2.2.getD ((U.2.getD i d0).2.2.length - 1) 0, U.2.set i ((U.2.getD i d0).1, (U.2.getD i d0).2.1, (U.2.getD i d0).2.2.dropLast)) := by
        unfold snA
        rw [hb, if_neg ntf, nI_clamp (by omega), if_neg h1]
      obtain ⟨D2, k1, k2, k3, k4⟩ := r_loseLast (w := w) (l := 1) (by omega) h hi
      rw [nI_n1] at k1
      rw [if_neg (by rw [← nI_n1]; exact nI_ge (by omega) (by omega)), k1, Option.bind_some, e]
      dsimp only
      rw [decide_eq_true ((hg i).2.2.at (by omega))]
      exact ⟨D2, rfl, k2, k3⟩
theorem cj_jn {ss : List tS} {x y : Int32} (h4 : ss.length ≤ 4) : cjB ss x y = decide (¬ (jnA ss x y).1 < 0) ∧ (cjB ss x y = false → (jnA ss x y).2 = ss) := by
  unfold jnA cjB
  cases hb : hasI ss x with
  | false => rw [if_pos (Or.inl rfl)]; exact ⟨rfl, fun _ => rfl⟩
  | true =>
    cases hb2 : hasI ss y with
    | false => rw [if_pos (Or.inr rfl)]; exact ⟨rfl, fun _ => rfl⟩
    | true =>
      rw [if_neg ntff]
      by_cases hxy : x = y
      · rw [if_pos hxy, decide_eq_true hxy]; exact ⟨rfl, fun _ => rfl⟩
      · rw [if_neg hxy, decide_eq_false hxy]
        by_cases hh : (gt ss x).1 = (gt ss y).1
        · rw [if_neg (fun q => q hh), decide_eq_true hh]
          by_cases h12 : (joinL (gt ss x).2.2 (gt ss y).2.2).length ≤ 12
          · rw [if_neg (by unfold gt at h12; omega), decide_eq_true h12]
            refine ⟨?_, fun q => by cases q⟩
            dsimp only
            unfold gt at h12
            rw [decide_eq_true (nI_pos (by omega))]
            rfl
          · rw [if_pos (by unfold gt at h12; omega), decide_eq_false h12]
            exact ⟨rfl, fun _ => rfl⟩
        · have hh' : ¬ (ss.getD x.toNatClampNeg d0).1 = (ss.getD y.toNatClampNeg d0).1 := hh
          rw [if_pos hh', decide_eq_false hh, Bool.and_false, Bool.false_and]; exact ⟨rfl, fun _ => rfl⟩
theorem b2i_01 {b : Bool} : b2i b = 0 ∨ b2i b = 1 := by cases b <;> simp [b2i]
theorem r_try4 {x y : Int32} (hn : D 272 0 = nI U.2.length) (h : NwD (D 274) (D 273) (57 * 1) U) : ∃ D', fX8_tryThing (Y w D) 272 4 x y = some (b2i (decide (¬ (jnA U.2 x y).1 < 0)), Y w D') ∧ NwD (D' 274) (D' 273) (57 * 1) (U.1, (jnA U.2 x y).2) ∧ LvF 1 D D' := by
  have q2 := h.2.1
  have hcj := r_canJoin (w := w) (l := 1) (x := x) (y := y) (by omega) hn h
  rw [nI_n1] at hcj
  obtain ⟨j1, j2⟩ := cj_jn (x := x) (y := y) q2
  unfold fX8_tryThing
  rw [if_pos eO_272, if_neg (by decide), if_neg (by decide), if_neg (by decide), if_neg (by decide), if_pos rfl, hcj, Option.bind_some, ← j1]
  cases hc : cjB U.2 x y with
  | false =>
    rw [if_pos (by rfl), if_pos b2i_01, j2 hc]
    exact ⟨D, rfl, h, LvF.rf⟩
  | true =>
    have hc' := hc
    unfold cjB at hc'
    simp only [Bool.and_eq_true, decide_eq_true_eq, Bool.not_eq_true', decide_eq_false_iff_not] at hc'
    obtain ⟨⟨⟨⟨hb, hb2⟩, hxy⟩, hh⟩, h12⟩ := hc'
    obtain ⟨i, hi, rfl, ht⟩ := hasI_spec hb
    obtain ⟨j, hj, rfl, ht2⟩ := hasI_spec hb2
    have hne : i ≠ j := fun q => hxy (by rw [q])
    have gi : gt U.2 (nI i) = U.2.getD i d0 := by unfold gt; rw [nI_clamp (by omega)]
    have gj : gt U.2 (nI j) = U.2.getD j d0 := by unfold gt; rw [nI_clamp (by omega)]
    rw [gi, gj] at h12
    rw [gi, gj] at hh
    obtain ⟨D2, k1, k2, k3⟩ := r_joinOn (w := w) (l := 1) (by omega) h hi hj hne h12
    have e : (jnA U.2 (nI i) (nI j)).2 = (U.2.set i ((U.2.getD i d0).1, (U.2.getD i d0).2.1, joinL (U.2.getD i d0).2.2 (U.2.getD j d0).2.2)).set j ((U.2.getD j d0).1, (U.2.getD j d0).2.1, []) := by
      unfold jnA
      rw [if_neg (by rw [hb, hb2]; exact ntff), if_neg hxy, nI_clamp (by omega), nI_clamp (by omega), if_neg (fun q => q hh), if_neg (by omega)]
    rw [nI_n1] at k1
    rw [if_neg nb0, k1, Option.bind_some, if_pos b2i_01, e]
    exact ⟨D2, rfl, k2, k3⟩
theorem r_try {hh a b : Nat} (h1 : hh < 10) (h2 : a < 10) (h3 : b < 10) (hn : D 272 0 = nI U.2.length) (h : NwD (D 274) (D 273) (57 * 1) U) (hg : gW U.2) (hb : RBd D bd) : ∃ D', fX8_tryThing (Y w D) 272 (nI hh) (nI a) (nI b) = some (b2i (jdT bd U.2 hh a b).1, Y w D') ∧ LvF 1 D D' ∧ ((jdT bd U.2 hh a b).1 = true → ∃ y, NwD (D' 274) (D' 273) (57 * 1) (y, (jdT bd U.2 hh a b).2)) := by
  have q2 := h.2.1
  rcases (show hh = 0 ∨ hh = 1 ∨ hh = 2 ∨ hh = 3 ∨ hh = 4 ∨ hh = 5 ∨ hh = 6 ∨ 7 ≤ hh by omega) with rfl | rfl | rfl | rfl | rfl | rfl | rfl | h7
  · have ej : jdT bd U.2 0 a b = (decide (a = 0 ∧ b = 0), win U.2) := by unfold jdT; rw [if_pos rfl]
    obtain ⟨D1, k1, k2, k3⟩ := r_passOn (w := w) (l := 1) (by omega) hn h hg.oKd
    rw [nI_n1] at k1
    unfold fX8_tryThing
    rw [if_pos eO_272, if_pos nI_0, k1, Option.bind_some, ej]
    dsimp only
    refine ⟨D1, ?_, k3, fun _ => ⟨_, k2⟩⟩
    by_cases ha : a = 0
    · rw [ha, if_pos nI_0]
      by_cases hb0 : b = 0
      · rw [hb0, if_pos nI_0]; rfl
      · rw [if_neg (ne_l nI_0 hb0 (by omega) (by omega)), decide_eq_false (fun q => hb0 q.2)]; rfl
    · rw [if_neg (ne_l nI_0 ha (by omega) (by omega)), decide_eq_false (fun q => ha q.1)]; rfl
  · have ej : jdT bd U.2 1 a b = (decide (¬ (hgA U.2 (nI a) (nI b)).1 < 0), (hgA U.2 (nI a) (nI b)).2) := by unfold jdT; rw [if_neg (by decide), if_pos rfl]
    rw [ej]
    obtain ⟨D', g1, g2, g3⟩ := r_try1 (w := w) (x := nI a) (y := nI b) hn h
    rw [← nI_n1] at g1
    exact ⟨D', g1, g3, fun _ => ⟨_, g2⟩⟩
  · have ej : jdT bd U.2 2 a b = (decide (a = 0) && decide (¬ (tnA U.2 (nI b)).1 < 0), (tnA U.2 (nI b)).2) := by unfold jdT; rw [if_neg (by decide), if_neg (by decide), if_pos rfl]
    rw [ej]
    dsimp only
    by_cases ha : a = 0
    · subst ha
      obtain ⟨D', g1, g2, g3⟩ := r_try2 (w := w) (y := nI b) hn h hg
      rw [decide_eq_true rfl, Bool.true_and, nI_0, nI_2]
      exact ⟨D', g1, g3, fun _ => ⟨_, g2⟩⟩
    · unfold fX8_tryThing
      rw [if_pos eO_272, nI_2, if_neg (by decide), if_neg (by decide), if_pos rfl, if_neg (ne_l nI_0 ha (by omega) (by omega)), decide_eq_false ha, Bool.false_and]
      exact ⟨D, rfl, LvF.rf, fun q => by cases q⟩
  · have ej : jdT bd U.2 3 a b = (decide (a = 0) && decide (¬ (snA U.2 (nI b)).1 < 0), (snA U.2 (nI b)).2) := by unfold jdT; rw [if_neg (by decide), if_neg (by decide), if_neg (by decide), if_pos rfl]
    rw [ej]
    dsimp only
    by_cases ha : a = 0
    · subst ha
      obtain ⟨D', g1, g2, g3⟩ := r_try3 (w := w) (y := nI b) hn h hg
      rw [decide_eq_true rfl, Bool.true_and, nI_0, nI_3]
      exact ⟨D', g1, g3, fun _ => ⟨_, g2⟩⟩
    · unfold fX8_tryThing
      rw [if_pos eO_272, nI_3, if_neg (by decide), if_neg (by decide), if_neg (by decide), if_pos rfl, if_neg (ne_l nI_0 ha (by omega) (by omega)), decide_eq_false ha, Bool.false_and]
      exact ⟨D, rfl, LvF.rf, fun q => by cases q⟩
  · have ej : jdT bd U.2 4 a b = (decide (¬ (jnA U.2 (nI a) (nI b)).1 < 0), (jnA U.2 (nI a) (nI b)).2) := by unfold jdT; rw [if_neg (by decide), if_neg (by decide), if_neg (by decide), if_neg (by decide), if_pos rfl]
    rw [ej]
    obtain ⟨D', g1, g2, g3⟩ := r_try4 (w := w) (x := nI a) (y := nI b) hn h
    rw [← nI_4] at g1
    exact ⟨D', g1, g3, fun _ => ⟨_, g2⟩⟩
  · have ej : jdT bd U.2 5 a b = (hasI U.2 (nI a) && decide (¬ nI (gt U.2 (nI a)).2.2.length < nI b), U.2) := by unfold jdT; rw [if_neg (by decide), if_neg (by decide), if_neg (by decide), if_neg (by decide), if_neg (by decide), if_pos rfl]
    rw [ej]
    dsimp only
    unfold fX8_tryThing
    rw [if_pos eO_272, nI_5, if_neg (by decide), if_neg (by decide), if_neg (by decide), if_neg (by decide), if_neg (by decide), if_pos rfl, r_there1 hn h, Option.bind_some]
    cases hbb : hasI U.2 (nI a) with
    | false =>
      rw [if_pos (by rfl), Bool.false_and]
      exact ⟨D, rfl, LvF.rf, fun q => by cases q⟩
    | true =>
      obtain ⟨i, hi, ei, ht⟩ := hasI_spec hbb
      have hgt : gt U.2 (nI i) = U.2.getD i d0 := by unfold gt; rw [nI_clamp (by omega)]
      obtain ⟨a1, a2, a3, a4, a5⟩ := h.2.2 i hi
      rw [if_neg nb0, eF_272_2, Option.bind_some, ei, ← nI_61, nI_add, nw_at (by omega), Option.bind_some, show 61 + i = 57 * 1 + 4 + i by omega, a3, hgt, sgn2]
      exact ⟨D, rfl, LvF.rf, fun _ => ⟨_, h⟩⟩
  · have ej : jdT bd U.2 6 a b = (decide (a = 0) && (hasI U.2 (nI b) && decide (¬ fstP bd (gt U.2 (nI b)).2.2 = -9)), U.2) := by unfold jdT; rw [if_neg (by decide), if_neg (by decide), if_neg (by decide), if_neg (by decide), if_neg (by decide), if_neg (by decide), if_pos rfl]
    rw [ej]
    dsimp only
    unfold fX8_tryThing
    rw [if_pos eO_272, nI_6, if_neg (by decide), if_neg (by decide), if_neg (by decide), if_neg (by decide), if_neg (by decide), if_neg (by decide), if_pos rfl]
    by_cases ha : a = 0
    · rw [ha, if_pos nI_0, r_there1 hn h, Option.bind_some, decide_eq_true rfl, Bool.true_and]
      cases hbb : hasI U.2 (nI b) with
      | false =>
        rw [if_pos (by rfl), Bool.false_and]
        exact ⟨D, rfl, LvF.rf, fun q => by cases q⟩
      | true =>
        obtain ⟨i, hi, ei, ht⟩ := hasI_spec hbb
        have hgt : gt U.2 (nI i) = U.2.getD i d0 := by unfold gt; rw [nI_clamp (by omega)]
        have hfp := r_firstPlace (w := w) (l := 1) (by omega) h hb hi
        rw [nI_n1] at hfp
        rw [if_neg nb0, ei, hfp, Option.bind_some, hgt, Bool.true_and, sgn3]
        exact ⟨D, rfl, LvF.rf, fun _ => ⟨_, h⟩⟩
    · rw [if_neg (ne_l nI_0 ha (by omega) (by omega)), decide_eq_false ha, Bool.false_and]
      exact ⟨D, rfl, LvF.rf, fun q => by cases q⟩
  · have ej : jdT bd U.2 hh a b = (false, U.2) := by unfold jdT; rw [if_neg (by omega), if_neg (by omega), if_neg (by omega), if_neg (by omega), if_neg (by omega), if_neg (by omega), if_neg (by omega)]
    unfold fX8_tryThing
    rw [if_pos eO_272, if_neg (ne_l nI_0 (by omega) (by omega) (by omega)), if_neg (ne_l nI_n1 (by omega) (by omega) (by omega)), if_neg (ne_l nI_2 (by omega) (by omega) (by omega)), if_neg (ne_l nI_3 (by omega) (by omega) (by omega)), if_neg (ne_l nI_4 (by omega) (by omega) (by omega)), if_neg (ne_l nI_5 (by omega) (by omega) (by omega)), if_neg (ne_l nI_6 (by omega) (by omega) (by omega)), ej]
    exact ⟨D, rfl, LvF.rf, fun q => by cases q⟩
end JU
