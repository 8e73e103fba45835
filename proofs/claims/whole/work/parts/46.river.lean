/-! ===== the shortest river of all ===== -/
def flS (ss : List tS) (x : List Int32) (l : List Nat) : List Int32 := l.foldl (fun x s => joinL x (ss.getD s d0).2.2) x
def updM (mt : Nat → Bool) (s : Nat) : Nat → Bool := fun j => mt j || decide (j = s)
def vaB (T : Nat → Bool) : (Nat → Bool) → List Nat → Bool
  | _, [] => true
  | mt, s :: l => (T s && !mt s) && vaB T (updM mt s) l
def rbF (ss : List tS) : (Nat → Bool) → List Int32 → List Nat → Option Nat
  | _, x, [] => some x.length
  | mt, x, d :: l => if d = 0 then none else if (there ss (d - 1) && !mt (d - 1)) = true then rbF ss (updM mt (d - 1)) (joinL x (ss.getD (d - 1) d0).2.2) l else none
def dgs (F : Nat) : Nat → List Nat
  | 0 => []
  | k + 1 => (F / 10 ^ k % 10) :: dgs F k
def cds (c : Nat) : Nat → List Nat
  | 0 => []
  | k + 1 => (c / 4 ^ k % 4) :: cds c k
def ordN (o : Nat) : List Nat → Nat
  | [] => o
  | s :: l => ordN (10 * o + s + 1) l
def nmd (a : Int32) : List Nat → Int32
  | [] => a
  | s :: l => nmd (a ||| (1 <<< (nI s &&& 31))) l
def fgR (n c : Nat) : Nat := ordN 0 (cds c n)
def tb (t0 t1 t2 t3 : Bool) (s : Nat) : Bool := if s = 0 then t0 else if s = 1 then t1 else if s = 2 then t2 else if s = 3 then t3 else false
def mt0 : Nat → Bool := fun _ => false
theorem tb_there {ss : List tS} (h : ss.length ≤ 4) : there ss = tb (there ss 0) (there ss 1) (there ss 2) (there ss 3) := by
  funext s
  unfold tb
  by_cases h0 : s = 0
  · rw [if_pos h0, h0]
  · rw [if_neg h0]
    by_cases h1 : s = 1
    · rw [if_pos h1, h1]
    · rw [if_neg h1]
      by_cases h2 : s = 2
      · rw [if_pos h2, h2]
      · rw [if_neg h2]
        by_cases h3 : s = 3
        · rw [if_pos h3, h3]
        · rw [if_neg h3, there_out (by omega)]
theorem ord_all : ∀ t0 t1 t2 t3 : Bool, ∀ c : Fin 256, c.val < 4 ^ (t0.toNat + t1.toNat + t2.toNat + t3.toNat) → decide (nmd 0 (cds c.val (t0.toNat + t1.toNat + t2.toNat + t3.toNat)) = w4 t0 t1 t2 t3) = vaB (tb t0 t1 t2 t3) mt0 (cds c.val (t0.toNat + t1.toNat + t2.toNat + t3.toNat)) := by decide +kernel
theorem dgs_all : ∀ n : Fin 5, ∀ c : Fin 256, c.val < 4 ^ n.val → dgs (fgR n.val c.val) n.val = (cds c.val n.val).map (fun s => s + 1) := by decide +kernel
def okD (n F : Nat) : Bool := (dgs F n).all (fun d => decide (1 ≤ d) && decide (d ≤ 4))
def fsR (n : Nat) : Nat := if n = 1 then 1 else if n = 2 then 11 else if n = 3 then 111 else 1111
theorem LR1 : (List.range' 1 4).filter (okD 1) = (List.range' 0 4).map (fgR 1) := by decide +kernel
theorem LR2 : (List.range' 11 34).filter (okD 2) = (List.range' 0 16).map (fgR 2) := by decide +kernel
theorem LR3 : (List.range' 111 334).filter (okD 3) = (List.range' 0 64).map (fgR 3) := by decide +kernel
theorem LR4 : (List.range' 1111 3334).filter (okD 4) = (List.range' 0 256).map (fgR 4) := by decide +kernel
theorem some_all : ∀ t0 t1 t2 t3 : Bool, (List.range' 0 (4 ^ (t0.toNat + t1.toNat + t2.toNat + t3.toNat))).any (fun c => vaB (tb t0 t1 t2 t3) mt0 (cds c (t0.toNat + t1.toNat + t2.toNat + t3.toNat))) = true := by decide +kernel
theorem rb_va {ss : List tS} : ∀ (l : List Nat) (mt : Nat → Bool) (x : List Int32), rbF ss mt x (l.map (fun s => s + 1)) = if vaB (there ss) mt l = true then some (flS ss x l).length else none
  | [], mt, x => by
    rw [vaB, if_pos rfl]
    rfl
  | s :: l, mt, x => by
    rw [List.map_cons, rbF, if_neg (by omega), show s + 1 - 1 = s by omega, vaB]
    by_cases h : (there ss s && !mt s) = true
    · rw [if_pos h, h, Bool.true_and, rb_va l]
      rfl
    · rw [if_neg h, Bool.eq_false_iff.mpr h, Bool.false_and, if_neg nft]
theorem rb_ok {ss : List tS} (h4 : ss.length ≤ 4) : ∀ (l : List Nat) (mt : Nat → Bool) (x : List Int32) (m : Nat), rbF ss mt x l = some m → l.all (fun d => decide (1 ≤ d) && decide (d ≤ 4)) = true
  | [], _, _, _, _ => rfl
  | d :: l, mt, x, m, h => by
    rw [rbF] at h
    by_cases h0 : d = 0
    · rw [if_pos h0] at h; cases h
    · rw [if_neg h0] at h
      by_cases h1 : (there ss (d - 1) && !mt (d - 1)) = true
      · rw [if_pos h1] at h
        have ht : there ss (d - 1) = true := (Bool.and_eq_true _ _ ▸ h1).1
        have := there_lt ht
        rw [List.all_cons, decide_eq_true (show 1 ≤ d by omega), decide_eq_true (show d ≤ 4 by omega), rb_ok h4 l _ _ m h]
        rfl
      · rw [if_neg h1] at h; cases h
/-! the best so far -/
def rvT (g : Nat → Option Nat) (st : Option Nat × Nat) (F : Nat) : Option Nat × Nat := match g F with | none => st | some m => (match st.1 with | none => (some m, F) | some f => if m < f then (some m, F) else st)
def rvS (g : Nat → Option Nat) (l : List Nat) (st : Option Nat × Nat) : Option Nat × Nat := l.foldl (rvT g) st
theorem rvS_filter {g : Nat → Option Nat} {ok : Nat → Bool} (h : ∀ F, ok F = false → g F = none) : ∀ (l : List Nat) (st : Option Nat × Nat), rvS g (l.filter ok) st = rvS g l st
  | [], _ => rfl
  | F :: l, st => by
    cases hb : ok F with
    | true =>
      rw [List.filter_cons_of_pos hb]
      exact rvS_filter h l _
    | false =>
      rw [List.filter_cons_of_neg (by rw [hb]; exact nft)]
      have e : rvT g st F = st := by
        unfold rvT
        rw [h F hb]
      show _ = rvS g l (rvT g st F)
      rw [e]
      exact rvS_filter h l st
theorem rvS_some {g : Nat → Option Nat} : ∀ (l : List Nat) (st : Option Nat × Nat), ((st.1 ≠ none) ∨ ∃ F ∈ l, g F ≠ none) → (rvS g l st).1 ≠ none
  | [], st, h => by
    rcases h with h | ⟨F, hF, _⟩
    · exact h
    · cases hF
  | F :: l, st, h => by
    show (rvS g l (rvT g st F)).1 ≠ none
    refine rvS_some l _ ?_
    cases hg : g F with
    | none =>
      have e : rvT g st F = st := by
        unfold rvT
        rw [hg]
      rw [e]
      rcases h with h | ⟨G, hG, hn⟩
      · exact Or.inl h
      · rcases List.mem_cons.mp hG with q | q
        · subst q; exact absurd hg hn
        · exact Or.inr ⟨G, q, hn⟩
    | some m =>
      refine Or.inl ?_
      unfold rvT
      rw [hg]
      dsimp only
      cases hs : st.1 with
      | none => simp
      | some f =>
        dsimp only
        split
        · simp
        · rw [hs]; simp
def gR1 (ss : List tS) (n F : Nat) : Option Nat := rbF ss mt0 [] (dgs F n)
def rvR (ss : List tS) (n : Nat) : Option Nat × Nat := rvS (gR1 ss n) ((List.range' 0 (4 ^ n)).map (fgR n)) (none, 0)
def rvI (d : Int32) (o : Option Nat) : Int32 := match o with | some m => nI m | none => d
def riA (ss : List tS) (x : Int32) : Int32 := if x = 0 then rvI (-1) (rvR ss (pop ss)).1 else if x = 1 then nI (rvR ss (pop ss)).2 else -2
theorem gR_code {ss : List tS} {n c : Nat} (hn : n ≤ 4) (hc : c < 4 ^ n) : gR1 ss n (fgR n c) = if vaB (there ss) mt0 (cds c n) = true then some (flS ss [] (cds c n)).length else none := by
  have h4 : 4 ^ n ≤ 4 ^ 4 := Nat.pow_le_pow_right (by omega) hn
  have := dgs_all ⟨n, by omega⟩ ⟨c, by omega⟩ hc
  dsimp only at this
  unfold gR1
  rw [this, rb_va]
theorem rvR_some {ss : List tS} (h4 : ss.length ≤ 4) : (rvR ss (pop ss)).1 ≠ none := by
  refine rvS_some _ _ (Or.inr ?_)
  have := some_all (there ss 0) (there ss 1) (there ss 2) (there ss 3)
  rw [← tb_there h4] at this
  obtain ⟨c, hc, hv⟩ := List.any_eq_true.mp this
  have hc2 : c < 4 ^ pop ss := by
    have := List.mem_range'_1.mp hc
    unfold pop
    omega
  refine ⟨fgR (pop ss) c, List.mem_map.mpr ⟨c, hc, rfl⟩, ?_⟩
  have hv' : vaB (there ss) mt0 (cds c (pop ss)) = true := hv
  rw [gR_code (pop_le ss) hc2, if_pos hv']
  simp
theorem flS_len {ss : List tS} (h12 : ∀ s, (ss.getD s d0).2.2.length ≤ 12) : ∀ (l : List Nat) (x : List Int32), (flS ss x l).length ≤ x.length + 12 * l.length
  | [], x => by show x.length ≤ _; omega
  | s :: l, x => by
    have h1 := flS_len h12 l (joinL x (ss.getD s d0).2.2)
    have h2 := joinL_len x (ss.getD s d0).2.2
    have h3 := h12 s
    show (flS ss (joinL x (ss.getD s d0).2.2) l).length ≤ _
    rw [List.length_cons]
    omega
theorem cds_len (c : Nat) : ∀ n, (cds c n).length = n
  | 0 => rfl
  | n + 1 => by rw [cds, List.length_cons, cds_len c n]
section RV
variable {w : mW} {D : mD} {i : Nat} {tx : List Int32} {V : tV} {A : List tV} {K : Nat → Option tV} {bd : List Int32} {L : List (Int32 × Int32)}
theorem VlD.l12 {v : Nat} (h : VlD D v V) (s : Nat) : (V.2.getD s d0).2.2.length ≤ 12 := by
  by_cases hs : s < V.2.length
  · exact (h.2.2.2 s hs).2.2.2
  · rw [List.getD_eq_getElem?_getD, List.getElem?_eq_none (by omega)]
    exact Nat.zero_le _
/-! the class -/
theorem c_isOrder_c5 {n c : Nat} (hn : n ≤ 4) (hc : c < 4 ^ n) (h : CI D tx V A K bd L) : ∀ (k i fuel : Nat) (a : Int32), i + k = n → k < fuel → fX7_isOrder_c5 (Y w D) fuel 1 (nI c) (nI n) a (nI i) = some (b2i (decide (nmd a (cds c k) = who V.2))) := by
  intro k
  induction k with
  | zero =>
    intro i fuel a hi hf
    obtain ⟨f, rfl, hf⟩ := fu hf
    rw [fX7_isOrder_c5.eq_2, il_t (by omega) (by omega), eF_1_1, Option.bind_some, l_who isVl_4 h.2.1, Option.bind_some, cds, nmd]
    by_cases he : a = who V.2
    · rw [if_pos he, decide_eq_true he]; rfl
    · rw [if_neg he, decide_eq_false he]; rfl
  | succ k ih =>
    intro i fuel a hi hf
    obtain ⟨f, rfl, hf⟩ := fu hf
    rw [fX7_isOrder_c5.eq_2, il_f (by omega) (by omega), c_figureOf hn hc (by omega), Option.bind_some, nI_1, ih (i + 1) f _ (by omega) (by omega), cds, nmd, show n - 1 - i = k by omega]
theorem va_there {T : Nat → Bool} : ∀ (l : List Nat) (mt : Nat → Bool), vaB T mt l = true → ∀ s ∈ l, T s = true
  | [], _, _, s, hs => by cases hs
  | q :: l, mt, h, s, hs => by
    rw [vaB, Bool.and_eq_true, Bool.and_eq_true] at h
    rcases List.mem_cons.mp hs with e | e
    · subst e; exact h.1.1
    · exact va_there l _ h.2 s e
theorem c_flow_c12 {n c : Nat} (hn : n ≤ 4) (hc : c < 4 ^ n) : ∀ (k i fuel o : Nat) (D : mD) (x : List Int32), i + k = n → k < fuel → CI D tx V A K bd L → RowD D 265 x → x.length + 12 * k ≤ 48 → (∀ s ∈ cds c k, there V.2 s = true) → ∃ D', fX7_flow_c12 fuel (Y w D) 1 (nI c) (nI n) (nI o) (nI i) = some (nI (ordN o (cds c k)), Y w D') ∧ RowD D' 265 (flS V.2 x (cds c k)) ∧ CI D' tx V A K bd L ∧ ∀ a, 272 ≤ a → D' a = D a := by
  intro k
  induction k with
  | zero =>
    intro i fuel o D x hi hf h hx hl hth
    obtain ⟨f, rfl, hf⟩ := fu hf
    rw [fX7_flow_c12.eq_2, il_t (by omega) (by omega)]
    exact ⟨D, rfl, hx, h, fun a _ => rfl⟩
  | succ k ih =>
    intro i fuel o D x hi hf h hx hl hth
    obtain ⟨f, rfl, hf⟩ := fu hf
    have ht : there V.2 (c / 4 ^ k % 4) = true := hth _ (by rw [cds]; exact List.mem_cons_self)
    have hs := there_lt ht
    have q3 := h.2.1.2.2.1
    have hm : c / 4 ^ k % 4 < 4 := Nat.mod_lt _ (by omega)
    have hst := vl_s isVl_4 hm
    obtain ⟨s1, s2, s3, s4⟩ := h.2.1.2.2.2 _ hs
    have hjl := joinL_len x (V.2.getD (c / 4 ^ k % 4) d0).2.2
    obtain ⟨D1, g1, g2, g3⟩ := l_addBehind (w := w) isRw_str (st_rw hst) (by omega) hx s3 (by omega) s4 (by omega)
    rw [fX7_flow_c12.eq_2, il_f (by omega) (by omega), c_figureOf hn hc (by omega), Option.bind_some, eF_1_7, Option.bind_some, eF_1_1, Option.bind_some, vl_a isVl_4, Option.bind_some, show n - 1 - i = k by omega, vl_q isVl_4 hm, Option.bind_some, st_r hst, Option.bind_some, g1, Option.bind_some, ← nI_10, pk_mul, nI_add, nI_1, nI_1]
    obtain ⟨D', k1, k2, k3, k4⟩ := ih (i + 1) f (10 * o + c / 4 ^ k % 4 + 1) D1 _ (by omega) (by omega) (h.scr (fun a ha => g3 a (by omega) (by omega))) g2 (by omega) (fun s hs => hth s (by rw [cds]; exact List.mem_cons_of_mem _ hs))
    exact ⟨D', k1, k2, k3, fun a ha => by rw [k4 a ha, g3 a (by omega) (by omega)]⟩
theorem c_flow {n c : Nat} (hn : n ≤ 4) (hc : c < 4 ^ n) (h : CI D tx V A K bd L) (hv : vaB (there V.2) mt0 (cds c n) = true) : ∃ D', fX7_flow (Y w D) 1 (nI c) (nI n) = some (nI (fgR n c), Y w D') ∧ RowD D' 265 (flS V.2 [] (cds c n)) ∧ CI D' tx V A K bd L ∧ ∀ a, 272 ≤ a → D' a = D a := by
  obtain ⟨D1, g1, g2, g3⟩ := l_clear (w := w) (D := D) isRw_str
  obtain ⟨D', k1, k2, k3, k4⟩ := c_flow_c12 (w := w) hn hc n 0 FUEL 0 D1 [] (by omega) (FU (by omega)) (h.scr (fun a ha => g3 a (by omega))) g2 (by rw [List.length_nil]; omega) (va_there _ _ hv)
  unfold fX7_flow
  rw [nI_0] at k1
  rw [if_pos eO_1, eF_1_7, Option.bind_some, g1, Option.bind_some, k1]
  exact ⟨D', rfl, k2, k3, fun a ha => by rw [k4 a ha, g3 a (by omega)]⟩
theorem sh5 : ∀ l : Fin 5, (1 <<< ((2 * nI l.val) &&& 31) : Int32) = nI (4 ^ l.val) := by decide +kernel
theorem c_river_c31 {z : Int32} : ∀ (k c fuel : Nat) (D : mD) (st : Option Nat × Nat), c + k = 4 ^ pop V.2 → k < fuel → CI D tx V A K bd L → (∀ m, st.1 = some m → m ≤ 48) → ∃ D', fX7_river_c31 fuel (Y w D) 1 z (nI (pop V.2)) (rvI (-1) st.1) (nI st.2) (nI c) = some ((if z = 0 then rvI (-1) (rvS (gR1 V.2 (pop V.2)) ((List.range' c k).map (fgR (pop V.2))) st).1 else nI (rvS (gR1 V.2 (pop V.2)) ((List.range' c k).map (fgR (pop V.2))) st).2), Y w D') ∧ CI D' tx V A K bd L ∧ ∀ a, 272 ≤ a → D' a = D a := by
  have hp := pop_le V.2
  have h4 : 4 ^ pop V.2 ≤ 4 ^ 4 := Nat.pow_le_pow_right (by omega) hp
  have hsh : (1 <<< ((2 * nI (pop V.2)) &&& 31) : Int32) = nI (4 ^ pop V.2) := sh5 ⟨pop V.2, by omega⟩
  intro k
  induction k with
  | zero =>
    intro c fuel D st hc hf h hst
    obtain ⟨f, rfl, hf⟩ := fu hf
    refine ⟨D, ?_, h, fun a _ => rfl⟩
    rw [fX7_river_c31.eq_2, hsh, il_t (by omega) (by omega)]
    by_cases hz : z = 0
    · rw [if_pos hz, if_pos hz]; rfl
    · rw [if_neg hz, if_neg hz]; rfl
  | succ k ih =>
    intro c fuel D st hc hf h hst
    obtain ⟨f, rfl, hf⟩ := fu hf
    have q3 := h.2.1.2.2.1
    have hio := c_isOrder_c5 (w := w) hp (show c < 4 ^ pop V.2 by omega) h (pop V.2) 0 FUEL 0 (by omega) (FU (by omega))
    rw [nI_0] at hio
    have hio2 : fX7_isOrder (Y w D) 1 (nI c) (nI (pop V.2)) = some (b2i (vaB (there V.2) mt0 (cds c (pop V.2)))) := by
      have := ord_all (there V.2 0) (there V.2 1) (there V.2 2) (there V.2 3) ⟨c, by omega⟩ (show c < 4 ^ pop V.2 by omega)
      dsimp only at this
      rw [← who_w4 q3, ← tb_there q3] at this
      unfold fX7_isOrder
      rw [if_pos eO_1, hio]
      exact congrArg (fun b => some (b2i b)) this
    have hgc := gR_code (ss := V.2) hp (show c < 4 ^ pop V.2 by omega)
    rw [fX7_river_c31.eq_2, hsh, il_f (by omega) (by omega), hio2, Option.bind_some, nI_1, List.range'_succ, List.map_cons]
    cases hv : vaB (there V.2) mt0 (cds c (pop V.2)) with
    | false =>
      rw [hv, if_neg nft] at hgc
      have e : rvS (gR1 V.2 (pop V.2)) (fgR (pop V.2) c :: (List.range' (c + 1) k).map (fgR (pop V.2))) st = rvS (gR1 V.2 (pop V.2)) ((List.range' (c + 1) k).map (fgR (pop V.2))) st := by
        show rvS (gR1 V.2 (pop V.2)) ((List.range' (c + 1) k).map (fgR (pop V.2))) (rvT (gR1 V.2 (pop V.2)) st (fgR (pop V.2) c)) = _
        have e2 : rvT (gR1 V.2 (pop V.2)) st (fgR (pop V.2) c) = st := by
          unfold rvT
          rw [hgc]
        rw [e2]
      rw [if_pos (by rfl), e]
      exact ih (c + 1) f D st (by omega) (by omega) h hst
    | true =>
      rw [hv, if_pos rfl] at hgc
      obtain ⟨D1, g1, g2, g3, g4⟩ := c_flow (w := w) hp (show c < 4 ^ pop V.2 by omega) h hv
      have hml : (flS V.2 [] (cds c (pop V.2))).length ≤ 48 := by
        have := flS_len (ss := V.2) h.2.1.l12 (cds c (pop V.2)) []
        rw [cds_len, List.length_nil] at this
        omega
      rw [if_neg nb0, g1, Option.bind_some]
      dsimp only
      simp only [eF_1_7, Option.bind_some, eF_265_1, g2.1]
      have e : rvS (gR1 V.2 (pop V.2)) (fgR (pop V.2) c :: (List.range' (c + 1) k).map (fgR (pop V.2))) st = rvS (gR1 V.2 (pop V.2)) ((List.range' (c + 1) k).map (fgR (pop V.2))) (rvT (gR1 V.2 (pop V.2)) st (fgR (pop V.2) c)) := rfl
      rw [e]
      generalize hm : (flS V.2 [] (cds c (pop V.2))).length = m at *
      have ht : rvT (gR1 V.2 (pop V.2)) st (fgR (pop V.2) c) = (match st.1 with | none => (some m, fgR (pop V.2) c) | some f => if m < f then (some m, fgR (pop V.2) c) else st) := by
        unfold rvT
        rw [hgc]
      rw [ht]
      cases hs : st.1 with
      | none =>
        dsimp only
        rw [if_pos (by decide)]
        obtain ⟨D', k1, k2, k3⟩ := ih (c + 1) f D1 (some m, fgR (pop V.2) c) (by omega) (by omega) g3 (fun q hq => by cases hq; exact hml)
        exact ⟨D', k1, k2, fun a ha => by rw [k3 a ha, g4 a ha]⟩
      | some b =>
        have hb := hst b hs
        dsimp only
        have ei : rvI (-1) (some b) = nI b := rfl
        rw [ei, if_neg (nI_pos (by omega))]
        by_cases hlt : m < b
        · rw [if_pos hlt, il_f hlt (by omega)]
          obtain ⟨D', k1, k2, k3⟩ := ih (c + 1) f D1 (some m, fgR (pop V.2) c) (by omega) (by omega) g3 (fun q hq => by cases hq; exact hml)
          exact ⟨D', k1, k2, fun a ha => by rw [k3 a ha, g4 a ha]⟩
        · rw [if_neg hlt, il_t (by omega) (by omega)]
          obtain ⟨D', k1, k2, k3⟩ := ih (c + 1) f D1 st (by omega) (by omega) g3 hst
          rw [hs, ei] at k1
          exact ⟨D', k1, k2, fun a ha => by rw [k3 a ha, g4 a ha]⟩
theorem c_river {x : Int32} (h : CI D tx V A K bd L) : ∃ D', fX7_river (Y w D) 1 x = some (riA V.2 x, Y w D') ∧ CI D' tx V A K bd L ∧ ∀ a, 272 ≤ a → D' a = D a := by
  have q3 := h.2.1.2.2.1
  have hp := pop_le V.2
  have h4 : 4 ^ pop V.2 ≤ 4 ^ 4 := Nat.pow_le_pow_right (by omega) hp
  obtain ⟨D', k1, k2, k3⟩ := c_river_c31 (w := w) (z := x) (4 ^ pop V.2) 0 FUEL D (none, 0) (by omega) (FU (by omega)) h (fun m q => by cases q)
  have k1' : fX7_river_c31 FUEL (Y w D) 1 x (nI (pop V.2)) (-1) 0 0 = some ((if x = 0 then rvI (-1) (rvR V.2 (pop V.2)).1 else nI (rvR V.2 (pop V.2)).2), Y w D') := by
    rw [nI_0] at k1
    exact k1
  unfold fX7_river riA
  rw [if_pos eO_1, eF_1_1, Option.bind_some, l_who isVl_4 h.2.1, Option.bind_some, l_bc q3, Option.bind_some, k1']
  by_cases h0 : x = 0
  · rw [if_pos h0, if_pos h0, if_pos h0]
    exact ⟨D', rfl, k2, k3⟩
  · rw [if_neg h0, if_neg h0, if_neg h0]
    by_cases h1 : x = 1
    · rw [if_pos h1, if_pos h1]
      exact ⟨D', rfl, k2, k3⟩
    · rw [if_neg h1, if_neg h1]
      exact ⟨D, rfl, h, fun a _ => rfl⟩
end RV
