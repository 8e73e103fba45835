/-! ===== two who hang theirs, at rest ===== -/
theorem nft : ¬ (false = true) := by decide
def put2 (ss : List tS) (i j a b : Nat) : List tS := (ss.set i (nI a, (ss.getD i d0).2.1, (ss.getD i d0).2.2)).set j (nI b, ((ss.set i (nI a, (ss.getD i d0).2.1, (ss.getD i d0).2.2)).getD j d0).2.1, ((ss.set i (nI a, (ss.getD i d0).2.1, (ss.getD i d0).2.2)).getD j d0).2.2)
def gnA (ss : List tS) (i j a b s : Nat) : Int32 := if ((win (put2 ss i j a b)).getD s d0).1 = (ss.getD s d0).1 then nI (2 * ((win (put2 ss i j a b)).getD s d0).2.2.length + 1) else nI (2 * ((win (put2 ss i j a b)).getD s d0).2.2.length + 0)
def rs1 (ss : List tS) (i j a b h : Nat) : Bool := !decide (gnA ss i j a b i < gnA ss i j h b i) && !decide (gnA ss i j a b j < gnA ss i j a h j)
def rsB (ss : List tS) (i j p : Nat) : Bool := alF (rs1 ss i j (p / 4) (p % 4)) 0 4
def cnF (P : Nat → Bool) : Nat → Nat → Nat → Nat
  | _, 0, a => a
  | p, k + 1, a => cnF P (p + 1) k (if P p = true then a + 1 else a)
def fiF (P : Nat → Bool) (f : Nat → Int32) (d : Int32) : Nat → Nat → Int32
  | _, 0 => d
  | p, k + 1 => if P p = true then f p else fiF P f d (p + 1) k
def pr4 (p : Nat) : Int32 := nI (10 * (p / 4) + p % 4)
def reA (ss : List tS) (x y z : Int32) : Int32 := if hasI ss x = false ∨ hasI ss y = false then -1 else if x = y ∨ ¬ (z = 0 ∨ z = 1) then -2 else if z = 0 then nI (cnF (rsB ss x.toNatClampNeg y.toNatClampNeg) 0 16 0) else fiF (rsB ss x.toNatClampNeg y.toNatClampNeg) pr4 (-9) 0 16
theorem put2_len {ss : List tS} {i j a b : Nat} : (put2 ss i j a b).length = ss.length := by
  unfold put2
  rw [List.length_set, List.length_set]
theorem put2_good {ss : List tS} {i j a b : Nat} (g : gW ss) (ha : a < 4) (hb : b < 4) : gW (put2 ss i j a b) := by
  have f4 : ∀ c, c < 4 → (nI c = 0 ∨ nI c = 1 ∨ nI c = 2 ∨ nI c = 3) := by decide
  have g1 : gW (ss.set i (nI a, (ss.getD i d0).2.1, (ss.getD i d0).2.2)) := g.oSet ⟨f4 a ha, (g i).2⟩
  exact g1.oSet ⟨f4 b hb, (g1 j).2⟩
section RE
variable {w : mW} {D : mD} {v i j : Nat} {tx : List Int32} {V U : tV} {A : List tV} {K : Nat → Option tV} {bd : List Int32} {L : List (Int32 × Int32)}
theorem vl_house {x : Int32} (h : VlD D v U) (hi : i < U.2.length) : VlD (ud D (v + 2 + 3 * i) 1 x) v (U.1, U.2.set i (x, (U.2.getD i d0).2.1, (U.2.getD i d0).2.2)) := by
  obtain ⟨s1, s2, s3, s4⟩ := h.2.2.2 i hi
  exact h.upd hi (fun a ha => ud_r (by omega)) ⟨ud_s, by rw [ud_n (by omega)]; exact s2, s3.kept (ud_r (by omega)) (ud_r (by omega)), s4⟩
theorem c_gainOf (hV : VlD D 4 V) (hU : VlD D 18 U) (hi : i < V.2.length) (hl : U.2.length = V.2.length) : fX7_gainOf (Y w D) 1 (nI i) = some (if (U.2.getD i d0).1 = (V.2.getD i d0).1 then nI (2 * (U.2.getD i d0).2.2.length + 1) else nI (2 * (U.2.getD i d0).2.2.length + 0)) := by
  have q3 := hV.2.2.1
  have hs := vl_s isVl_4 (i := i) (by omega)
  have hs2 := vl_s isVl_18 (i := i) (by omega)
  obtain ⟨s1, s2, s3, s4⟩ := hV.2.2.2 i hi
  obtain ⟨p1, p2, p3, p4⟩ := hU.2.2.2 i (by omega)
  unfold fX7_gainOf
  rw [if_pos eO_1]
  simp only [eF_1_1, eF_1_2, Option.bind_some, vl_a isVl_4, vl_a isVl_18, vl_q isVl_4 (show i < 4 by omega), vl_q isVl_18 (show i < 4 by omega), st_h hs, st_h hs2, st_r hs2, rw_sz (st_rw hs2), s1, p1, p3.1]
  rw [← nI_2, ← nI_n1, ← nI_0, pk_mul, nI_add, nI_add]
  by_cases hc : (U.2.getD i d0).1 = (V.2.getD i d0).1
  · rw [if_pos hc, if_pos hc]
  · rw [if_neg hc, if_neg hc]
theorem c_findGains_c2 (hi : i < V.2.length) (hj : j < V.2.length) (hne : i ≠ j) : ∀ (k p fuel : Nat) (D : mD), p + k = 16 → k < fuel → CI D tx V A K bd L → (∀ q, q < p → D 270 q = gnA V.2 i j (q / 4) (q % 4) i ∧ D 271 q = gnA V.2 i j (q / 4) (q % 4) j) → ∃ D', fX7_findGains_c2 fuel (Y w D) 1 (nI i) (nI j) (nI p) = some (Y w D') ∧ (∀ q, q < 16 → D' 270 q = gnA V.2 i j (q / 4) (q % 4) i ∧ D' 271 q = gnA V.2 i j (q / 4) (q % 4) j) ∧ CI D' tx V A K bd L ∧ ∀ a, 272 ≤ a → D' a = D a := by
  intro k
  induction k with
  | zero =>
    intro p fuel D hp hf h h1
    obtain ⟨f, rfl, hf⟩ := fu hf
    rw [fX7_findGains_c2.eq_2, ← nI_16, il_t (by omega) (by omega)]
    exact ⟨D, rfl, fun q hq => h1 q (by omega), h, fun a _ => rfl⟩
  | succ k ih =>
    intro p fuel D hp hf h h1
    obtain ⟨f, rfl, hf⟩ := fu hf
    have q3 := h.2.1.2.2.1
    have hs := vl_s isVl_18 (i := i) (by omega)
    have hs2 := vl_s isVl_18 (i := j) (by omega)
    obtain ⟨D1, g1, g2, g3, g4⟩ := c_trial (w := w) h
    have v1 := vl_house (x := nI (p / 4)) g2 hi
    have hj2 : j < (V.2.set i (nI (p / 4), (V.2.getD i d0).2.1, (V.2.getD i d0).2.2)).length := by rw [List.length_set]; exact hj
    have v2 := vl_house (x := nI (p % 4)) v1 hj2
    dsimp only at v2
    obtain ⟨D2, k1, k2, k3⟩ := l_passWinter (w := w) isVl_18 v2
    dsimp only at k2
    have eput : (V.2.set i (nI (p / 4), (V.2.getD i d0).2.1, (V.2.getD i d0).2.2)).set j (nI (p % 4), ((V.2.set i (nI (p / 4), (V.2.getD i d0).2.1, (V.2.getD i d0).2.2)).getD j d0).2.1, ((V.2.set i (nI (p / 4), (V.2.getD i d0).2.1, (V.2.getD i d0).2.2)).getD j d0).2.2) = put2 V.2 i j (p / 4) (p % 4) := rfl
    rw [eput] at k2
    have fr2 : ∀ a, (a < 18 ∨ 32 ≤ a) → D2 a = D a := fun a ha => by rw [k3 a ha, ud_r (by omega), ud_r (by omega), g4 a ha]
    have hc2 : CI D2 tx V A K bd L := h.scr (fun a ha => fr2 a (by omega))
    have hlen : (win (put2 V.2 i j (p / 4) (p % 4))).length = V.2.length := by rw [win_len, put2_len]
    have go1 := c_gainOf (w := w) (i := i) hc2.2.1 k2 hi hlen
    dsimp only at go1
    have k2' : VlD (ud D2 270 p (gnA V.2 i j (p / 4) (p % 4) i)) 18 (V.1 + 1, win (put2 V.2 i j (p / 4) (p % 4))) := k2.kept (fun a ha hb => ud_r (by omega))
    have hc3 : CI (ud D2 270 p (gnA V.2 i j (p / 4) (p % 4) i)) tx V A K bd L := hc2.scr (fun a ha => ud_r (by omega))
    have go2 := c_gainOf (w := w) (i := j) hc3.2.1 k2' hj hlen
    dsimp only at go2
    have eg1 : (if ((win (put2 V.2 i j (p / 4) (p % 4))).getD i d0).1 = (V.2.getD i d0).1 then nI (2 * ((win (put2 V.2 i j (p / 4) (p % 4))).getD i d0).2.2.length + 1) else nI (2 * ((win (put2 V.2 i j (p / 4) (p % 4))).getD i d0).2.2.length + 0)) = gnA V.2 i j (p / 4) (p % 4) i := rfl
    have eg2 : (if ((win (put2 V.2 i j (p / 4) (p % 4))).getD j d0).1 = (V.2.getD j d0).1 then nI (2 * ((win (put2 V.2 i j (p / 4) (p % 4))).getD j d0).2.2.length + 1) else nI (2 * ((win (put2 V.2 i j (p / 4) (p % 4))).getD j d0).2.2.length + 0)) = gnA V.2 i j (p / 4) (p % 4) j := rfl
    rw [eg1] at go1
    rw [eg2] at go2
    have ea : nI p / 4 = nI (p / 4) := by rw [← nI_4, pk_div (by omega) (by omega) (by omega)]
    have eb : nI p - nI (p / 4) * 4 = nI (p % 4) := by rw [← ea, ← nI_4, pk_rem (by omega) (by omega) (by omega)]
    rw [fX7_findGains_c2.eq_2, ← nI_16, il_f (by omega) (by omega), ea, eb, eF_1_2, Option.bind_some, eF_1_1, Option.bind_some, g1, Option.bind_some, eF_1_2, Option.bind_some, vl_a isVl_18, Option.bind_some, vl_q isVl_18 (by omega), Option.bind_some, st_sh hs, Option.bind_some, eF_1_2, Option.bind_some, vl_a isVl_18, Option.bind_some, vl_q isVl_18 (by omega), Option.bind_some, st_sh hs2, Option.bind_some, eF_1_2, Option.bind_some, k1, Option.bind_some]
    dsimp only
    rw [eF_1_10, Option.bind_some, go1, Option.bind_some, Y_aS kA_270 (by omega), Option.bind_some, eF_1_11, Option.bind_some, go2, Option.bind_some, Y_aS kA_271 (by omega), Option.bind_some, nI_1]
    obtain ⟨D', m1, m2, m3, m4⟩ := ih (p + 1) f (ud (ud D2 270 p (gnA V.2 i j (p / 4) (p % 4) i)) 271 p (gnA V.2 i j (p / 4) (p % 4) j)) (by omega) (by omega) (hc3.scr (fun a ha => ud_r (by omega))) (fun q hq => by
      by_cases hqp : q = p
      · subst hqp
        exact ⟨by rw [ud_r (by omega), ud_s], by rw [ud_s]⟩
      · obtain ⟨b1, b2⟩ := h1 q (by omega)
        exact ⟨by rw [ud_r (by omega), ud_n (by omega), fr2 270 (by omega)]; exact b1, by rw [ud_n (by omega), ud_r (by omega), fr2 271 (by omega)]; exact b2⟩)
    exact ⟨D', m1, m2, m3, fun a ha => by rw [m4 a ha, ud_r (by omega), ud_r (by omega), fr2 a (by omega)]⟩
theorem c_isRest_c11 {p : Nat} (hp : p < 16) (hg : ∀ q, q < 16 → D 270 q = gnA V.2 i j (q / 4) (q % 4) i ∧ D 271 q = gnA V.2 i j (q / 4) (q % 4) j) : ∀ (k h fuel : Nat), h + k = 4 → k < fuel → fX7_isRest_c11 (Y w D) fuel 1 (nI p) (nI (p / 4)) (nI (p % 4)) (nI h) = some (b2i (alF (rs1 V.2 i j (p / 4) (p % 4)) h k)) := by
  intro k
  induction k with
  | zero =>
    intro h fuel hh hf
    obtain ⟨f, rfl, hf⟩ := fu hf
    rw [fX7_isRest_c11.eq_2, ← nI_4, il_t (by omega) (by omega)]
    rfl
  | succ k ih =>
    intro h fuel hh hf
    obtain ⟨f, rfl, hf⟩ := fu hf
    have hm : p % 4 < 4 := Nat.mod_lt _ (by omega)
    have e1 := (hg (4 * h + p % 4) (by omega)).1
    have e2 := (hg (4 * (p / 4) + h) (by omega)).2
    rw [show (4 * h + p % 4) / 4 = h by omega, show (4 * h + p % 4) % 4 = p % 4 by omega] at e1
    rw [show (4 * (p / 4) + h) / 4 = p / 4 by omega, show (4 * (p / 4) + h) % 4 = h by omega] at e2
    rw [fX7_isRest_c11.eq_2, ← nI_4, il_f (by omega) (by omega), eF_1_10, Option.bind_some, pk_mul, nI_add, Y_aI kA_270 (by omega), Option.bind_some, Option.bind_some, Y_aI kA_270 (by omega), Option.bind_some, eF_1_11, Option.bind_some, pk_mul, nI_add, Y_aI kA_271 (by omega), Option.bind_some, Option.bind_some, Y_aI kA_271 (by omega), Option.bind_some, e1, e2, (hg p hp).1, (hg p hp).2, nI_1, ih (h + 1) f (by omega) (by omega), alF]
    by_cases c1 : gnA V.2 i j (p / 4) (p % 4) i < gnA V.2 i j h (p % 4) i
    · rw [if_pos c1, rs1, decide_eq_true c1]
      rfl
    · rw [if_neg c1]
      by_cases c2 : gnA V.2 i j (p / 4) (p % 4) j < gnA V.2 i j (p / 4) h j
      · rw [if_neg (Int32.not_le.mpr c2), rs1, decide_eq_true c2, decide_eq_false c1]
        rfl
      · have er : rs1 V.2 i j (p / 4) (p % 4) h = true := by
          unfold rs1
          rw [decide_eq_false c1, decide_eq_false c2]
          rfl
        rw [if_pos (Int32.not_lt.mp c2), er, Bool.true_and]
theorem c_isRest {p : Nat} (hp : p < 16) (hg : ∀ q, q < 16 → D 270 q = gnA V.2 i j (q / 4) (q % 4) i ∧ D 271 q = gnA V.2 i j (q / 4) (q % 4) j) : fX7_isRest (Y w D) 1 (nI p) = some (b2i (rsB V.2 i j p)) := by
  have ea : nI p / 4 = nI (p / 4) := by rw [← nI_4, pk_div (by omega) (by omega) (by omega)]
  have eb : nI p - nI (p / 4) * 4 = nI (p % 4) := by rw [← ea, ← nI_4, pk_rem (by omega) (by omega) (by omega)]
  have := c_isRest_c11 (w := w) hp hg 4 0 FUEL (by omega) (FU (by omega))
  rw [nI_0] at this
  unfold fX7_isRest
  rw [if_pos eO_1, ea, eb, this]
  rfl
theorem c_rests_c53 {P : Nat → Bool} {z : Int32} (hz : z = 0 ∨ z = 1) (hg : ∀ p, p < 16 → fX7_isRest (Y w D) 1 (nI p) = some (b2i (P p))) : ∀ (k p fuel a : Nat), p + k = 16 → k < fuel → fX7_rests_c53 fuel (Y w D) 1 z (nI a) (nI p) = some ((if z = 0 then nI (cnF P p k a) else fiF P pr4 (-9) p k), Y w D) := by
  intro k
  induction k with
  | zero =>
    intro p fuel a hp hf
    obtain ⟨f, rfl, hf⟩ := fu hf
    rw [fX7_rests_c53.eq_2, ← nI_16, il_t (by omega) (by omega)]
    rcases hz with rfl | rfl
    · rfl
    · rfl
  | succ k ih =>
    intro p fuel a hp hf
    obtain ⟨f, rfl, hf⟩ := fu hf
    have ea : nI p / 4 = nI (p / 4) := by rw [← nI_4, pk_div (by omega) (by omega) (by omega)]
    have eb : nI p - nI (p / 4) * 4 = nI (p % 4) := by rw [← ea, ← nI_4, pk_rem (by omega) (by omega) (by omega)]
    rw [fX7_rests_c53.eq_2, ← nI_16, il_f (by omega) (by omega), ea, eb, hg p (by omega), Option.bind_some, nI_1, nI_1, ← nI_10, pk_mul, nI_add, ih (p + 1) f _ (by omega) (by omega), ih (p + 1) f _ (by omega) (by omega), cnF, fiF]
    cases hb : P p
    · rw [if_pos (by rfl), if_neg nft, if_neg nft]
    · rw [if_neg nb0, if_pos (c := true = true) rfl, if_pos (c := true = true) rfl]
      rcases hz with rfl | rfl
      · rw [if_neg (by decide), if_pos rfl]
        rfl
      · rw [if_pos rfl, if_neg (by decide)]
        rfl
theorem c_rests {x y z : Int32} (h : CI D tx V A K bd L) : ∃ D', fX7_rests (Y w D) 1 x y z = some (reA V.2 x y z, Y w D') ∧ CI D' tx V A K bd L ∧ ∀ a, 272 ≤ a → D' a = D a := by
  have q3 := h.2.1.2.2.1
  unfold fX7_rests reA
  rw [if_pos eO_1, eF_1_1, Option.bind_some, l_has isVl_4 h.2.1, Option.bind_some]
  cases hb : hasI V.2 x with
  | false =>
    rw [if_pos (Or.inl rfl), if_pos (by rfl)]
    exact ⟨D, rfl, h, fun a _ => rfl⟩
  | true =>
    rw [if_neg nb0, Option.bind_some, l_has isVl_4 h.2.1, Option.bind_some]
    cases hb2 : hasI V.2 y with
    | false =>
      rw [if_pos (Or.inr rfl), if_pos (by rfl)]
      exact ⟨D, rfl, h, fun a _ => rfl⟩
    | true =>
      rw [if_neg nb0, if_neg ntff]
      by_cases hxy : x = y
      · rw [if_pos hxy, if_pos (Or.inl hxy)]
        exact ⟨D, rfl, h, fun a _ => rfl⟩
      · rw [if_neg hxy]
        by_cases hz : z = 0 ∨ z = 1
        · obtain ⟨i, hi, rfl, ht⟩ := hasI_spec hb
          obtain ⟨j, hj, rfl, ht2⟩ := hasI_spec hb2
          obtain ⟨z1, z2⟩ := in01.mpr hz
          have hne : i ≠ j := fun q => hxy (by rw [q])
          obtain ⟨D', g1, g2, g3, g4⟩ := c_findGains_c2 (w := w) hi hj hne 16 0 FUEL D (by omega) (FU (by omega)) h (fun q hq => by omega)
          rw [nI_0] at g1
          have := c_rests_c53 (w := w) (P := rsB V.2 i j) hz (fun p hp => c_isRest hp g2) 16 0 FUEL 0 (by omega) (FU (by omega))
          rw [nI_0] at this
          rw [if_neg z1, if_pos z2]
          unfold fX7_findGains
          have hno : ¬ (nI i = nI j ∨ ¬ (z = 0 ∨ z = 1)) := by
            rintro (q | q)
            · exact hxy q
            · exact q hz
          rw [if_pos eO_1, g1, Option.bind_some, this, if_neg hno, nI_clamp (by omega), nI_clamp (by omega)]
          exact ⟨D', rfl, g3, g4⟩
        · rw [if_pos (Or.inr hz)]
          refine ⟨D, ?_, h, fun a _ => rfl⟩
          by_cases h4 : z < 0
          · rw [if_pos h4]
          · rw [if_neg h4, if_neg (fun q => hz (in01.mp ⟨h4, q⟩))]
/-! the reference -/
theorem RVl.lv1 {D' : mD} (h : RVl D V) (f : LvF 1 D D') : RVl D' V := h.kept (by rw [f.1 272 (by omega)]) (f.1 273 (by omega)) (fun k hk => f.2 k (by omega))
theorem r_gain {a b s : Nat} (h : RVl D V) (hg : gW V.2) (hi : i < V.2.length) (hj : j < V.2.length) (hs : s < V.2.length) (ha : a < 4) (hb : b < 4) : ∃ D', fX8_gain (Y w D) 272 (nI i) (nI j) (nI a) (nI b) (nI s) = some (gnA V.2 i j a b s, Y w D') ∧ LvF 1 D D' := by
  have q2 := h.2.2.1
  obtain ⟨D1, g1, g2, g3⟩ := r_layTrial (w := w) h.2
  obtain ⟨v1, f1⟩ := r_hang0 (y := nI a) (l := 1) (by omega) g2 hi
  have hj2 : j < (V.2.set i (nI a, (V.2.getD i d0).2.1, (V.2.getD i d0).2.2)).length := by rw [List.length_set]; exact hj
  obtain ⟨v2, f2⟩ := r_hang0 (y := nI b) (l := 1) (by omega) v1 hj2
  dsimp only at v2 f2
  have eput : (V.2.set i (nI a, (V.2.getD i d0).2.1, (V.2.getD i d0).2.2)).set j (nI b, ((V.2.set i (nI a, (V.2.getD i d0).2.1, (V.2.getD i d0).2.2)).getD j d0).2.1, ((V.2.set i (nI a, (V.2.getD i d0).2.1, (V.2.getD i d0).2.2)).getD j d0).2.2) = put2 V.2 i j a b := rfl
  rw [eput] at v2
  have fl := (g3.tr f1).tr f2
  have hn2 : ud (ud D1 274 (57 * 1 + i) (nI a)) 274 (57 * 1 + j) (nI b) 272 0 = nI (put2 V.2 i j a b).length := by rw [put2_len, fl.1 272 (by omega)]; exact h.1
  obtain ⟨D2, k1, k2, k3⟩ := r_passOn (w := w) (V := (V.1, put2 V.2 i j a b)) (l := 1) (by omega) hn2 v2 (put2_good hg ha hb).oKd
  rw [nI_n1] at k1
  have fl2 := fl.tr k3
  have hs2 : s < (win (put2 V.2 i j a b)).length := by rw [win_len, put2_len]; exact hs
  obtain ⟨b1, b2, b3, b4, b5⟩ := k2.2.2 s hs2
  dsimp only at b1 b3
  have b0 := (h.lv1 fl2).2.2.2 s hs
  obtain ⟨c1, c2, c3, c4, c5⟩ := b0
  rw [Nat.mul_zero, Nat.zero_add] at c1
  unfold fX8_gain
  rw [if_pos eO_272, g1, Option.bind_some, eF_272_2, Option.bind_some, ← nI_57, nI_add, nw_st (by omega), Option.bind_some, eF_272_2, Option.bind_some, nI_add, nw_st (by omega), Option.bind_some, show 57 + i = 57 * 1 + i by omega, show 57 + j = 57 * 1 + j by omega, k1, Option.bind_some]
  dsimp only
  rw [eF_272_2, Option.bind_some, ← nI_61, nI_add, nw_at (by omega), Option.bind_some, Option.bind_some, nI_add, nw_at (by omega), Option.bind_some, Option.bind_some, nw_at (by omega), Option.bind_some, show 61 + s = 57 * 1 + 4 + s by omega, show 57 + s = 57 * 1 + s by omega, b1, b3, c1, ← nI_2, ← nI_n1, ← nI_0, pk_mul, nI_add, nI_add]
  refine ⟨D2, ?_, fl2⟩
  unfold gnA
  by_cases hc : ((win (put2 V.2 i j a b)).getD s d0).1 = (V.2.getD s d0).1
  · rw [if_pos hc, if_pos hc]
  · rw [if_neg hc, if_neg hc]
theorem r_isRest_c6 {a b : Nat} (hg : gW V.2) (hi : i < V.2.length) (hj : j < V.2.length) (ha : a < 4) (hb : b < 4) : ∀ (k h fuel : Nat) (D : mD) (c : Bool), h + k = 4 → k < fuel → RVl D V → ∃ D', fX8_isRest_c6 fuel (Y w D) 272 (nI i) (nI j) (nI a) (nI b) (b2i c) (nI h) = some (b2i (c && alF (rs1 V.2 i j a b) h k), Y w D') ∧ LvF 1 D D' := by
  intro k
  induction k with
  | zero =>
    intro h fuel D c hh hf hV
    obtain ⟨f, rfl, hf⟩ := fu hf
    rw [fX8_isRest_c6.eq_2, ← nI_4, il_t (by omega) (by omega), if_pos b2i_01, alF, Bool.and_true]
    exact ⟨D, rfl, LvF.rf⟩
  | succ k ih =>
    intro h fuel D c hh hf hV
    obtain ⟨f, rfl, hf⟩ := fu hf
    rw [fX8_isRest_c6.eq_2, ← nI_4, il_f (by omega) (by omega), nI_1]
    cases c with
    | false =>
      obtain ⟨D', g1, g2⟩ := ih (h + 1) f D false (by omega) (by omega) hV
      rw [if_pos (by rfl), Bool.false_and]
      rw [Bool.false_and] at g1
      exact ⟨D', g1, g2⟩
    | true =>
      obtain ⟨D1, g1, f1⟩ := r_gain (w := w) (a := h) (b := b) (s := i) hV hg hi hj hi (by omega) hb
      obtain ⟨D2, g2, f2⟩ := r_gain (w := w) (a := a) (b := b) (s := i) (hV.lv1 f1) hg hi hj hi ha hb
      have V2 := (hV.lv1 f1).lv1 f2
      rw [if_neg nb0, g1, Option.bind_some, Bool.true_and, alF]
      dsimp only
      rw [g2, Option.bind_some]
      dsimp only
      by_cases c1 : gnA V.2 i j a b i < gnA V.2 i j h b i
      · have er : rs1 V.2 i j a b h = false := by
          unfold rs1
          rw [decide_eq_true c1]
          rfl
        obtain ⟨D', k1, k2⟩ := ih (h + 1) f D2 false (by omega) (by omega) V2
        rw [if_pos c1, er, Bool.false_and]
        rw [Bool.false_and] at k1
        exact ⟨D', k1, (f1.tr f2).tr k2⟩
      · obtain ⟨D3, g3, f3⟩ := r_gain (w := w) (a := a) (b := h) (s := j) V2 hg hi hj hj ha (by omega)
        obtain ⟨D4, g4, f4⟩ := r_gain (w := w) (a := a) (b := b) (s := j) (V2.lv1 f3) hg hi hj hj ha hb
        have V4 := (V2.lv1 f3).lv1 f4
        have fl := ((f1.tr f2).tr f3).tr f4
        rw [if_neg c1, g3, Option.bind_some]
        dsimp only
        rw [g4, Option.bind_some]
        dsimp only
        by_cases c2 : gnA V.2 i j a b j < gnA V.2 i j a h j
        · have er : rs1 V.2 i j a b h = false := by
            unfold rs1
            rw [decide_eq_true c2, Bool.not_true, Bool.and_false]
          obtain ⟨D', k1, k2⟩ := ih (h + 1) f D4 false (by omega) (by omega) V4
          rw [if_pos c2, er, Bool.false_and]
          rw [Bool.false_and] at k1
          exact ⟨D', k1, fl.tr k2⟩
        · have er : rs1 V.2 i j a b h = true := by
            unfold rs1
            rw [decide_eq_false c1, decide_eq_false c2]
            rfl
          obtain ⟨D', k1, k2⟩ := ih (h + 1) f D4 true (by omega) (by omega) V4
          rw [if_neg c2, er, Bool.true_and]
          rw [Bool.true_and] at k1
          exact ⟨D', k1, fl.tr k2⟩
theorem r_rests_c48 {z : Int32} (hg : gW V.2) (hi : i < V.2.length) (hj : j < V.2.length) : ∀ (k p fuel a : Nat) (D : mD) (d : Int32), p + k = 16 → k < fuel → a ≤ p → RVl D V → ∃ D', fX8_rests_c48 fuel (Y w D) 272 (nI i) (nI j) z (nI a) d (nI p) = some ((if z = 0 then nI (cnF (rsB V.2 i j) p k a) else if a = 0 then fiF (rsB V.2 i j) pr4 d p k else d), Y w D') ∧ LvF 1 D D' := by
  intro k
  induction k with
  | zero =>
    intro p fuel a D d hp hf hap hV
    obtain ⟨f, rfl, hf⟩ := fu hf
    rw [fX8_rests_c48.eq_2, ← nI_16, il_t (by omega) (by omega), cnF, fiF]
    refine ⟨D, ?_, LvF.rf⟩
    by_cases hz : z = 0
    · rw [if_pos hz, if_pos hz]
    · rw [if_neg hz, if_neg hz]
      by_cases ha : a = 0
      · rw [if_pos ha]
      · rw [if_neg ha]
  | succ k ih =>
    intro p fuel a D d hp hf hap hV
    obtain ⟨f, rfl, hf⟩ := fu hf
    have ea : nI p / 4 = nI (p / 4) := by rw [← nI_4, pk_div (by omega) (by omega) (by omega)]
    have eb : nI p - nI (p / 4) * 4 = nI (p % 4) := by rw [← ea, ← nI_4, pk_rem (by omega) (by omega) (by omega)]
    obtain ⟨D1, g1, f1⟩ := r_isRest_c6 (w := w) (a := p / 4) (b := p % 4) hg hi hj (by omega) (Nat.mod_lt _ (by omega)) 4 0 FUEL D true (by omega) (FU (by omega)) hV
    rw [Bool.true_and, nI_0] at g1
    have g1' : fX8_isRest (Y w D) 272 (nI i) (nI j) (nI (p / 4)) (nI (p % 4)) = some (b2i (rsB V.2 i j p), Y w D1) := by
      unfold fX8_isRest
      rw [if_pos eO_272]
      exact g1
    rw [fX8_rests_c48.eq_2, ← nI_16, il_f (by omega) (by omega), ea, eb, g1', Option.bind_some]
    dsimp only
    rw [nI_1, nI_1, ← nI_10, pk_mul, nI_add, cnF, fiF]
    cases hb : rsB V.2 i j p with
    | false =>
      obtain ⟨D', k1, k2⟩ := ih (p + 1) f a D1 d (by omega) (by omega) (by omega) (hV.lv1 f1)
      rw [if_pos (by rfl), if_neg nft, if_neg nft, k1]
      exact ⟨D', rfl, f1.tr k2⟩
    | true =>
      rw [if_neg nb0, if_pos (c := true = true) rfl, if_pos (c := true = true) rfl]
      by_cases h0 : a = 0
      · subst h0
        obtain ⟨D', k1, k2⟩ := ih (p + 1) f (0 + 1) D1 (nI (10 * (p / 4) + p % 4)) (by omega) (by omega) (by omega) (hV.lv1 f1)
        rw [if_pos nI_0, k1, if_neg (c := 0 + 1 = 0) (by decide), if_pos (c := (0 : Nat) = 0) rfl]
        exact ⟨D', rfl, f1.tr k2⟩
      · obtain ⟨D', k1, k2⟩ := ih (p + 1) f (a + 1) D1 d (by omega) (by omega) (by omega) (hV.lv1 f1)
        rw [if_neg (ne_l nI_0 h0 (by omega) (by omega)), k1, if_neg (c := a + 1 = 0) (by omega), if_neg h0]
        exact ⟨D', rfl, f1.tr k2⟩
theorem r_rests {x y z : Int32} (h : RI D tx V A K bd L) (hg : gW V.2) : ∃ D', fX8_rests (Y w D) 272 x y z = some (reA V.2 x y z, Y w D') ∧ RI D' tx V A K bd L ∧ ∀ a, a < 272 → D' a = D a := by
  have q2 := h.2.1.2.2.1
  unfold fX8_rests reA
  rw [if_pos eO_272, r_there h.2.1, Option.bind_some]
  cases hb : hasI V.2 x with
  | false =>
    rw [if_pos (Or.inl rfl), if_pos (by rfl)]
    exact ⟨D, rfl, h, fun a _ => rfl⟩
  | true =>
    rw [if_neg nb0, r_there h.2.1, Option.bind_some]
    cases hb2 : hasI V.2 y with
    | false =>
      rw [if_pos (Or.inr rfl), if_pos (by rfl)]
      exact ⟨D, rfl, h, fun a _ => rfl⟩
    | true =>
      rw [if_neg nb0, if_neg ntff]
      by_cases hxy : x = y
      · rw [if_pos hxy, if_pos (Or.inl hxy)]
        exact ⟨D, rfl, h, fun a _ => rfl⟩
      · rw [if_neg hxy, d64 (lo := 0) (hi := 1) (by decide) (by decide), Option.bind_some]
        by_cases hz : z = 0 ∨ z = 1
        · obtain ⟨i, hi, rfl, ht⟩ := hasI_spec hb
          obtain ⟨j, hj, rfl, ht2⟩ := hasI_spec hb2
          obtain ⟨D', g1, g2⟩ := r_rests_c48 (w := w) (z := z) hg hi hj 16 0 FUEL 0 D (-9) (by omega) (FU (by omega)) (by omega) h.2.1
          rw [nI_0, if_pos (c := (0 : Nat) = 0) rfl] at g1
          have hno : ¬ (nI i = nI j ∨ ¬ (z = 0 ∨ z = 1)) := by
            rintro (q | q)
            · exact hxy q
            · exact q hz
          rw [if_neg, g1, if_neg hno, nI_clamp (by omega), nI_clamp (by omega)]
          · exact ⟨D', rfl, h.scr (RFr.lv1 g2), fun a ha => g2.1 a (by omega)⟩
          · rw [b2i_0, decide_eq_false_iff_not]
            intro q
            exact q ⟨(in01.mpr hz).1, Int32.not_lt.mpr (in01.mpr hz).2⟩
        · have hno : b2i (decide (¬ z < 0 ∧ ¬ 1 < z)) = 0 := by
            rw [b2i_0, decide_eq_false_iff_not]
            rintro ⟨q1, q2⟩
            exact hz (in01.mp ⟨q1, Int32.not_lt.mp q2⟩)
          rw [if_pos hno, if_pos (Or.inr hz)]
          exact ⟨D, rfl, h, fun a _ => rfl⟩
end RE
