/-! ===== the reference: winters and the other doings at a level ===== -/
theorem winOf_get (ss : List tS) (i j : Nat) : ((winOf ss i).getD j d0).2.1 = (ss.getD j d0).2.1 ∧ ((winOf ss i).getD j d0).1 = (ss.getD j d0).1 ∧ ((winOf ss i).getD j d0).2.2.length ≤ (ss.getD j d0).2.2.length := by
  unfold winOf
  split
  · have hfl : (flood ss i).getD j d0 = if j < ss.length then fl1 i (ss.getD i d0).1 j (ss.getD j d0) else d0 := by
      unfold flood
      by_cases hj : j < ss.length
      · rw [if_pos hj]; simp [hj]
      · rw [if_neg hj]; simp [hj]
    rw [hfl]
    by_cases hj : j < ss.length
    · rw [if_pos hj]
      unfold fl1
      split
      · exact ⟨rfl, rfl, by show (List.tail _).length ≤ _; rw [List.length_tail]; omega⟩
      · exact ⟨rfl, rfl, Nat.le_refl _⟩
    · rw [if_neg hj]
      have : ss.getD j d0 = d0 := by simp [Nat.not_lt.mp hj]
      rw [this]
      exact ⟨rfl, rfl, Nat.le_refl _⟩
  · split
    · by_cases hi : i < ss.length
      · rw [getD_set hi]
        by_cases hji : j = i
        · subst hji
          rw [if_pos rfl]
          refine ⟨rfl, rfl, ?_⟩
          show (if _ then _ else _ : List Int32).length ≤ _
          split
          · rw [List.length_tail, List.length_dropLast]; omega
          · rw [List.length_dropLast]; omega
        · rw [if_neg hji]
          exact ⟨rfl, rfl, Nat.le_refl _⟩
      · rw [List.set_eq_of_length_le (by omega)]
        exact ⟨rfl, rfl, Nat.le_refl _⟩
    · exact ⟨rfl, rfl, Nat.le_refl _⟩
theorem winF_get : ∀ (k j : Nat) (ss : List tS) (q : Nat), ((winF j k ss).getD q d0).2.1 = (ss.getD q d0).2.1 ∧ ((winF j k ss).getD q d0).1 = (ss.getD q d0).1 ∧ ((winF j k ss).getD q d0).2.2.length ≤ (ss.getD q d0).2.2.length
  | 0, _, _, _ => ⟨rfl, rfl, Nat.le_refl _⟩
  | k + 1, j, ss, q => by
    rw [winF]
    obtain ⟨a1, a2, a3⟩ := winF_get k (j + 1) (if there ss j = true then winOf ss j else ss) q
    by_cases h : there ss j = true
    · rw [if_pos h] at a1 a2 a3 ⊢
      obtain ⟨b1, b2, b3⟩ := winOf_get ss j q
      exact ⟨a1.trans b1, a2.trans b2, Nat.le_trans a3 b3⟩
    · rw [if_neg h] at a1 a2 a3 ⊢
      exact ⟨a1, a2, a3⟩
theorem win_there {ss : List tS} {j : Nat} (h : there (win ss) j = true) : there ss j = true := by
  have h1 := (winF_get ss.length 0 ss j).2.2
  have h2 := there_ne.mp h
  unfold win at h2
  exact there_ne.mpr (by omega)
theorem pop_win (ss : List tS) : pop (win ss) ≤ pop ss := by
  have : ∀ j, (there (win ss) j).toNat ≤ (there ss j).toNat := by
    intro j
    cases h : there (win ss) j with
    | false => exact Nat.zero_le _
    | true => rw [win_there h]; exact Nat.le_refl _
  have h0 := this 0
  have h1 := this 1
  have h2 := this 2
  have h3 := this 3
  unfold pop
  omega
theorem pop_le (ss : List tS) : pop ss ≤ 4 := by
  have : ∀ b : Bool, b.toNat ≤ 1 := by decide
  have h0 := this (there ss 0)
  have h1 := this (there ss 1)
  have h2 := this (there ss 2)
  have h3 := this (there ss 3)
  unfold pop
  omega
theorem wi_ans (ss : List tS) : nI (pop ss) - nI (pop (win ss)) = nI (pop ss - pop (win ss)) := pk_sub (pop_win ss)
def KdG (ss : List tS) : Prop := ∀ j, j < ss.length → (ss.getD j d0).2.1 = 0 ∨ (ss.getD j d0).2.1 = 1 ∨ (ss.getD j d0).2.1 = 2 ∨ (ss.getD j d0).2.1 = 3
theorem KdG.winOf {ss : List tS} {i : Nat} (h : KdG ss) : KdG (winOf ss i) := fun j hj => by
  rw [winOf_len] at hj
  rw [(winOf_get ss i j).1]
  exact h j hj
theorem KdG.win {ss : List tS} (h : KdG ss) : KdG (win ss) := fun j hj => by
  rw [win_len] at hj
  unfold _root_.Jvm.Pilot.CTinselRiverLaw_law_r8047_549f23.win
  rw [(winF_get _ _ ss j).1]
  exact h j hj
theorem set_self_getD {ss : List tS} {i : Nat} : ss.set i (ss.getD i d0) = ss := by
  by_cases hi : i < ss.length
  · apply ext_getD (by simp)
    intro q hq
    rw [getD_set hi]
    by_cases h : q = i
    · subst h; rw [if_pos rfl]
    · rw [if_neg h]
  · exact List.set_eq_of_length_le (by omega)
section R2
variable {w : mW} {D : mD} {l i : Nat} {V : tV}
theorem r_has {M : mM} {b : Nat → Bool} {o : Nat} (ho : o < 4) : fX8_has M (w4 (b 0) (b 1) (b 2) (b 3)) (nI o) = some (b2i (b o)) := by
  obtain ⟨h0, h1, h2, h3⟩ := has_w4 M (b 0) (b 1) (b 2) (b 3)
  match o, ho with
  | 0, _ => exact h0
  | 1, _ => exact h1
  | 2, _ => exact h2
  | 3, _ => exact h3
theorem r_hurt_c30 (hl : l < 2) {h : Int32} {ss0 : List tS} : ∀ (k j fuel : Nat) (D : mD) (V : tV), j + k = V.2.length → k < fuel → i < V.2.length → D 272 0 = nI V.2.length → NwD (D 274) (D 273) (57 * l) V → (∀ q, j ≤ q → V.2.getD q d0 = ss0.getD q d0) → ∃ D', fX8_hurt_c30 fuel (Y w D) 272 (nI l) (nI i) (w4 (inB ss0 h 0) (inB ss0 h 1) (inB ss0 h 2) (inB ss0 h 3)) (nI j) = some (Y w D') ∧ NwD (D' 274) (D' 273) (57 * l) (V.1, floodF i h j k V.2) ∧ LvF l D D' := by
  intro k
  induction k with
  | zero =>
    intro j fuel D V hj hf hi hn hV hq
    have q2 := hV.2.1
    obtain ⟨f, rfl, hf⟩ := fu hf
    rw [fX8_hurt_c30.eq_2, eF_272_0, Option.bind_some, hn, il_t (by omega) (by omega)]
    exact ⟨D, rfl, hV, LvF.rf⟩
  | succ k ih =>
    intro j fuel D V hj hf hi hn hV hq
    have q2 := hV.2.1
    obtain ⟨f, rfl, hf⟩ := fu hf
    rw [fX8_hurt_c30.eq_2, eF_272_0, Option.bind_some, hn, il_f (by omega) (by omega), nI_1]
    by_cases hji : j = i
    · subst hji
      rw [if_pos rfl]
      obtain ⟨D', g1, g2, g3⟩ := ih (j + 1) f D V (by omega) (by omega) hi hn hV (fun q hq2 => hq q (by omega))
      refine ⟨D', g1, ?_, g3⟩
      rw [floodF, if_neg (fun q => q.1 rfl)]
      exact g2
    · rw [if_neg (fun q => hji ((nI_eq (by omega) (by omega)).mp q)), r_has (b := inB ss0 h) (by omega), Option.bind_some]
      have hg := hq j (Nat.le_refl j)
      cases hb : inB ss0 h j with
      | true =>
        have hh : (V.2.getD j d0).1 = h := by
          unfold inB at hb
          rw [Bool.and_eq_true] at hb
          rw [hg]
          exact of_decide_eq_true hb.2
        obtain ⟨D1, e1, e2, e3⟩ := r_loseFirst (w := w) hl hV (i := j) (by omega)
        rw [if_neg nb0, e1, Option.bind_some]
        obtain ⟨D', g1, g2, g3⟩ := ih (j + 1) f D1 (V.1, V.2.set j ((V.2.getD j d0).1, (V.2.getD j d0).2.1, (V.2.getD j d0).2.2.tail)) (by simp; omega) (by omega) (by simpa using hi) (by rw [e3.1 272 (by omega), hn]; simp) e2 (fun q hq2 => by
          dsimp only
          rw [getD_set (by omega), if_neg (by omega)]
          exact hq q (by omega))
        refine ⟨D', g1, ?_, e3.tr g3⟩
        rw [floodF, if_pos ⟨hji, hh⟩]
        exact g2
      | false =>
        rw [if_pos (by rfl)]
        obtain ⟨D', g1, g2, g3⟩ := ih (j + 1) f D V (by omega) (by omega) hi hn hV (fun q hq2 => hq q (by omega))
        refine ⟨D', g1, ?_, g3⟩
        have e : (if j ≠ i ∧ (V.2.getD j d0).1 = h then V.2.set j ((V.2.getD j d0).1, (V.2.getD j d0).2.1, (V.2.getD j d0).2.2.tail) else V.2) = V.2 := by
          by_cases hh : (V.2.getD j d0).1 = h
          · rw [if_pos ⟨hji, hh⟩]
            have ht : there ss0 j = false := by
              unfold inB at hb
              rw [← hg, decide_eq_true hh, Bool.and_true] at hb
              exact hb
            have h0 : (V.2.getD j d0).2.2 = [] := by
              rw [hg]
              unfold there at ht
              have := of_decide_eq_false ht
              exact Classical.not_not.mp this
            have : ((V.2.getD j d0).1, (V.2.getD j d0).2.1, (V.2.getD j d0).2.2.tail) = V.2.getD j d0 := by
              rw [h0]
              show ((V.2.getD j d0).1, (V.2.getD j d0).2.1, ([] : List Int32)) = _
              rw [← h0]
            rw [this, set_self_getD]
          · rw [if_neg (fun q => hh q.2)]
        rw [floodF, e]
        exact g2
theorem r_hurt (hl : l < 2) (hn : D 272 0 = nI V.2.length) (h : NwD (D 274) (D 273) (57 * l) V) (hk : KdG V.2) (hi : i < V.2.length) : ∃ D', fX8_hurt (Y w D) 272 (nI l) (nI i) = some (Y w D') ∧ NwD (D' 274) (D' 273) (57 * l) (V.1, winOf V.2 i) ∧ LvF l D D' := by
  obtain ⟨q1, q2, q3⟩ := id h
  obtain ⟨a1, a2, a3, a4, a5⟩ := q3 i hi
  unfold fX8_hurt
  rw [if_pos eO_272, eF_272_2, Option.bind_some, ix0, nw_at (by omega), Option.bind_some, a1, r_inHouse hl hn h, Option.bind_some, eF_272_1, Option.bind_some, kd_at (by omega), Option.bind_some, a2]
  by_cases k3 : (V.2.getD i d0).2.1 = 3
  · rw [if_pos k3, ← nI_0]
    obtain ⟨D', g1, g2, g3⟩ := r_hurt_c30 (w := w) (i := i) (h := (V.2.getD i d0).1) (ss0 := V.2) hl V.2.length 0 FUEL D V (by omega) (FU (by omega)) hi hn h (fun q _ => rfl)
    refine ⟨D', g1, ?_, g3⟩
    unfold winOf
    rw [if_pos k3, ← floodF_eq]
    exact g2
  · rw [if_neg k3, Option.bind_some, kd_at (by omega), Option.bind_some, a2, r_ones, Option.bind_some, on_w4, ← cnt_inB q2]
    have hc := cnt_lt (h := (V.2.getD i d0).1) q2
    obtain ⟨D1, e1, e2, e3, e4⟩ := r_loseLast (w := w) hl h hi
    have hi2 : i < (V.2.set i ((V.2.getD i d0).1, (V.2.getD i d0).2.1, (V.2.getD i d0).2.2.dropLast)).length := by simpa using hi
    obtain ⟨D2, f1, f2, f3⟩ := r_loseFirst (w := w) hl e2 (i := i) hi2
    dsimp only at f2
    rw [getD_self hi, List.set_set] at f2
    rw [e1, Option.bind_some, eF_272_1, Option.bind_some, kd_at (by omega), Option.bind_some, e3.1 273 (by omega), a2, f1, Option.bind_some]
    by_cases k2 : (V.2.getD i d0).2.1 = 2
    · have e : winOf V.2 i = V.2 := by
        unfold winOf
        rw [if_neg k3, if_neg]
        rintro ⟨q | q, _⟩
        · rw [k2] at q; exact absurd q (by decide)
        · rw [k2] at q; exact absurd q (by decide)
      rw [if_pos (by rw [k2]; decide), e]
      exact ⟨D, rfl, h, LvF.rf⟩
    · have k01 : (V.2.getD i d0).2.1 = 0 ∨ (V.2.getD i d0).2.1 = 1 := by
        rcases hk i hi with q | q | q | q
        · exact Or.inl q
        · exact Or.inr q
        · exact absurd q k2
        · exact absurd q k3
      rw [if_neg (by rcases k01 with q | q <;> rw [q] <;> decide), ← nI_2]
      by_cases hc3 : 3 ≤ cnt V.2 (V.2.getD i d0).1
      · rw [il_f (by omega) hc]
        have e : winOf V.2 i = V.2.set i ((V.2.getD i d0).1, (V.2.getD i d0).2.1, if (V.2.getD i d0).2.1 = 1 then (V.2.getD i d0).2.2.dropLast.tail else (V.2.getD i d0).2.2.dropLast) := by
          unfold winOf
          rw [if_neg k3, if_pos ⟨k01, hc3⟩]
        rw [e]
        by_cases k1 : (V.2.getD i d0).2.1 = 1
        · rw [if_pos k1, if_pos k1]
          exact ⟨D2, rfl, f2, e3.tr f3⟩
        · rw [if_neg k1, if_neg k1]
          exact ⟨D1, rfl, e2, e3⟩
      · have e : winOf V.2 i = V.2 := by
          unfold winOf
          rw [if_neg k3, if_neg (fun q => hc3 q.2)]
        rw [il_t (by omega) (by omega), e]
        exact ⟨D, rfl, h, LvF.rf⟩
theorem r_whoIs_c4 (hl : l < 2) (hn : D 272 0 = nI V.2.length) (h : NwD (D 274) (D 273) (57 * l) V) : ∀ (k j fuel : Nat) (a : Int32), j + k = V.2.length → k < fuel → fX8_whoIs_c4 (Y w D) fuel 272 (nI l) a (nI j) = some (whoF V.2 j k a) := by
  obtain ⟨q1, q2, q3⟩ := id h
  intro k
  induction k with
  | zero =>
    intro j fuel a hj hf
    obtain ⟨f, rfl, hf⟩ := fu hf
    rw [fX8_whoIs_c4.eq_2, eF_272_0, Option.bind_some, hn, il_t (by omega) (by omega)]
    rfl
  | succ k ih =>
    intro j fuel a hj hf
    obtain ⟨f, rfl, hf⟩ := fu hf
    rw [fX8_whoIs_c4.eq_2, eF_272_0, Option.bind_some, hn, il_f (by omega) (by omega), r_isThere hl hn h, Option.bind_some, hasI_nI (by omega), nI_1, ih (j + 1) f _ (by omega) (by omega), ih (j + 1) f _ (by omega) (by omega)]
    cases hb : there V.2 j
    · rw [if_pos (by rfl), whoF, if_neg (by rw [hb]; decide)]
    · rw [if_neg nb0, whoF, if_pos hb]
theorem r_whoIs (hl : l < 2) (hn : D 272 0 = nI V.2.length) (h : NwD (D 274) (D 273) (57 * l) V) : fX8_whoIs (Y w D) 272 (nI l) = some (who V.2) := by
  have q2 := h.2.1
  unfold fX8_whoIs
  rw [if_pos eO_272]
  have := r_whoIs_c4 (w := w) hl hn h V.2.length 0 FUEL 0 (by omega) (FU (by omega))
  rw [nI_0] at this
  exact this
theorem r_passOn_c8 (hl : l < 2) {ss0 : List tS} (h0 : ss0.length ≤ 4) : ∀ (k j fuel : Nat) (D : mD) (V : tV), j + k = V.2.length → k < fuel → D 272 0 = nI V.2.length → NwD (D 274) (D 273) (57 * l) V → KdG V.2 → (∀ q, there (winF j k V.2) q = true → there ss0 q = true) → ∃ D', fX8_passOn_c8 fuel (Y w D) 272 (nI l) (who ss0) (nI j) = some (nI (pop ss0 - pop (winF j k V.2)), Y w D') ∧ NwD (D' 274) (D' 273) (57 * l) (V.1 + 1, winF j k V.2) ∧ LvF l D D' := by
  intro k
  induction k with
  | zero =>
    intro j fuel D V hj hf hn hV hk hm
    obtain ⟨q1, q2, q3⟩ := id hV
    obtain ⟨f, rfl, hf⟩ := fu hf
    rw [fX8_passOn_c8.eq_2, eF_272_0, Option.bind_some, hn, il_t (by omega) (by omega), eF_272_2, Option.bind_some, ixy, nw_at (by omega), Option.bind_some, nw_st (by omega), Option.bind_some, q1]
    have h2 : NwD (ud D 274 (57 * l + 56) (V.1 + 1) 274) (ud D 274 (57 * l + 56) (V.1 + 1) 273) (57 * l) (V.1 + 1, V.2) := by
      rw [ud_r (a := 274) (a' := 273) (by omega)]
      refine ⟨by rw [ud_s], q2, fun i hi => ?_⟩
      have hi2 : i < V.2.length := hi
      obtain ⟨a1, a2, a3, a4, a5⟩ := q3 i hi
      exact ⟨by rw [ud_n (by omega)]; exact a1, a2, by rw [ud_n (by omega)]; exact a3, a4, fun j hj => by
        have : j < (V.2.getD i d0).2.2.length := hj
        rw [ud_n (by omega)]; exact a5 j hj⟩
    rw [r_whoIs hl (by rw [ud_r (by omega)]; exact hn) h2, Option.bind_some, r_ones, Option.bind_some]
    refine ⟨_, ?_, h2, LvF.ud (by omega)⟩
    dsimp only
    have hm : ∀ q, there V.2 q = true → there ss0 q = true := hm
    rw [who_w4 h0, who_w4 q2, on_diff _ _ _ _ _ _ _ _ (hm 0) (hm 1) (hm 2) (hm 3)]
    rfl
  | succ k ih =>
    intro j fuel D V hj hf hn hV hk hm
    obtain ⟨q1, q2, q3⟩ := id hV
    obtain ⟨f, rfl, hf⟩ := fu hf
    rw [fX8_passOn_c8.eq_2, eF_272_0, Option.bind_some, hn, il_f (by omega) (by omega), r_isThere hl hn hV, Option.bind_some, hasI_nI (by omega), nI_1]
    cases hb : there V.2 j with
    | false =>
      have e : winF j (k + 1) V.2 = winF (j + 1) k V.2 := by rw [winF, if_neg (by rw [hb]; decide)]
      rw [e] at hm
      rw [if_pos (by rfl), e]
      exact ih (j + 1) f D V (by omega) (by omega) hn hV hk hm
    | true =>
      have e : winF j (k + 1) V.2 = winF (j + 1) k (winOf V.2 j) := by rw [winF, if_pos hb]
      rw [e] at hm
      rw [if_neg nb0, e]
      obtain ⟨D1, e1, e2, e3⟩ := r_hurt (w := w) hl hn hV hk (i := j) (by omega)
      rw [e1, Option.bind_some]
      obtain ⟨D', g1, g2, g3⟩ := ih (j + 1) f D1 (V.1, winOf V.2 j) (by dsimp only; rw [winOf_len]; omega) (by omega) (by rw [e3.1 272 (by omega), hn]; dsimp only; rw [winOf_len]) e2 hk.winOf hm
      exact ⟨D', g1, g2, e3.tr g3⟩
theorem r_passOn (hl : l < 2) (hn : D 272 0 = nI V.2.length) (h : NwD (D 274) (D 273) (57 * l) V) (hk : KdG V.2) : ∃ D', fX8_passOn (Y w D) 272 (nI l) = some (nI (pop V.2 - pop (win V.2)), Y w D') ∧ NwD (D' 274) (D' 273) (57 * l) (V.1 + 1, win V.2) ∧ LvF l D D' := by
  have q2 := h.2.1
  unfold fX8_passOn
  rw [if_pos eO_272, r_whoIs hl hn h, Option.bind_some, ← nI_0]
  exact r_passOn_c8 hl q2 V.2.length 0 FUEL D V (by omega) (FU (by omega)) hn h hk (fun q hq => win_there hq)
end R2
