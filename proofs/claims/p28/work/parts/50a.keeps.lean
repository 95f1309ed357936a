/-! ===== what a plate's state keeps: names, pairs, what is engraved ===== -/
def vN (X : XS) : Prop := ∀ k, k < xn X → (0 < xl X k → xL (xSg X k 0) = true) ∧ ∀ j, j + 1 < xl X k → xL (xSg X k j) = true ∨ xL (xSg X k (j + 1)) = true
def vP (X : XS) : Prop := (∀ j, j < xp X → xOk (X 2 j) = true ∧ xOk (X 3 j) = true) ∧ ∀ i j, i < j → j < xp X → ¬ (X 2 i = X 2 j ∧ X 3 i = X 3 j)
def vF (X : XS) : Prop := ∀ k, k < xn X → xEb X k = true → xFits X k (X 5 7) = true
def vX (X : XS) : Prop := vN X ∧ vP X ∧ vF X
theorem vX.N {X : XS} (h : vX X) : vN X := h.1
theorem vX.P {X : XS} (h : vX X) : vP X := h.2.1
theorem vX.F {X : XS} (h : vX X) : vF X := h.2.2
theorem xU_cg {X X2 : XS} {k k2 : Nat} (hl16 : xl X k ≤ 16) (hl : xl X2 k2 = xl X k) (hs : ∀ j, j < 16 → xSg X2 k2 j = xSg X k j) (hp : ∀ j, j + 1 < xl X k → xAdj X2 (xSg X k j) (xSg X k (j + 1)) = xAdj X (xSg X k j) (xSg X k (j + 1))) : xU X2 k2 = xU X k := by
  unfold xU xUb
  rw [hl]
  refine sumI_congr (fun j hj => ?_)
  unfold xSt xSp
  rw [hl, hs j (by omega)]
  by_cases q : xl X k ≤ j + 1
  · rw [if_pos q, if_pos q]
  · rw [if_neg q, if_neg q, hs (j + 1) (by omega), hp j (by omega)]
theorem xAdj_cg {X X2 : XS} (h2 : X2 2 = X 2) (h3 : X2 3 = X 3) (h4 : X2 4 = X 4) (h5 : X2 5 1 = X 5 1) (a b : Int32) : xAdj X2 a b = xAdj X a b := by
  have e : xp X2 = xp X := by unfold xp; rw [h5]
  have e2 : xPl X2 a b = xPl X a b := by
    unfold xPl
    rw [e]
    refine fstN_congr (fun j _ => ?_)
    unfold xPq
    rw [h2, h3]
  unfold xAdj xAt
  rw [e, e2, h4]
theorem xFits_cg {X X2 : XS} {k : Nat} (hu : xU X2 k = xU X k) (h2 : X2 5 2 = X 5 2) (h3 : X2 5 3 = X 5 3) (h4 : X2 5 4 = X 5 4) (h5 : X2 5 5 = X 5 5) (z : Int32) : xFits X2 k z = xFits X k z := by
  unfold xFits xCw xRow
  rw [hu, h2, h3, h4, h5]
theorem xEb_cg {X X2 : XS} (h : X2 5 6 = X 5 6) (k : Nat) : xEb X2 k = xEb X k := by
  unfold xEb
  rw [h]
theorem vP_cg {X X2 : XS} (h : vP X) (h2 : X2 2 = X 2) (h3 : X2 3 = X 3) (h5 : X2 5 1 = X 5 1) : vP X2 := by
  have e : xp X2 = xp X := by unfold xp; rw [h5]
  unfold vP
  rw [e, h2, h3]
  exact h
/-- names in other seats, the pairs as they were -/
theorem vX_mv {X X2 : XS} {f : Nat → Int32} (hr : Rl X f) (h : vX X) (σ : Nat → Nat) (hs : ∀ k, k < xn X2 → σ k < xn X) (h2 : X2 2 = X 2) (h3 : X2 3 = X 3) (h4 : X2 4 = X 4) (h5 : ∀ j, j ≠ 0 → X2 5 j = X 5 j) (hl : ∀ k, k < xn X2 → xl X2 k = xl X (σ k)) (hg : ∀ k j, k < xn X2 → j < 16 → xSg X2 k j = xSg X (σ k) j) (hE : ∀ k, k < xn X2 → xEb X k = true → σ k = k) : vX X2 := by
  have hn := hr.x.n20
  refine ⟨fun k hk => ?_, vP_cg h.P h2 h3 (h5 1 (by decide)), fun k hk he => ?_⟩
  · have l16 := hr.x.l16 (show σ k < 20 from Nat.lt_of_lt_of_le (hs k hk) hn)
    obtain ⟨a1, a2⟩ := h.N (σ k) (hs k hk)
    rw [hl k hk, hg k 0 hk (by decide)]
    refine ⟨a1, fun j hj => ?_⟩
    rw [hg k j hk (by omega), hg k (j + 1) hk (by omega)]
    exact a2 j hj
  · rw [xEb_cg (h5 6 (by decide))] at he
    have e := hE k hk he
    have hk2 := hs k hk
    rw [e] at hk2
    have l16 := hr.x.l16 (show k < 20 from Nat.lt_of_lt_of_le hk2 hn)
    have hu : xU X2 k = xU X k := xU_cg l16 (by rw [hl k hk, e]) (fun j hj => by rw [hg k j hk hj, e]) (fun j _ => xAdj_cg h2 h3 h4 (h5 1 (by decide)) _ _)
    rw [xFits_cg hu (h5 2 (by decide)) (h5 3 (by decide)) (h5 4 (by decide)) (h5 5 (by decide)), h5 7 (by decide)]
    exact h.F k hk2 he
/-- nothing engraved -/
theorem vX_ne {X X2 : XS} {f2 : Nat → Int32} (hr2 : Rl X2 f2) (h : vX X) (h0 : X2 0 = X 0) (h1 : X2 1 = X 1) (h2 : X2 2 = X 2) (h3 : X2 3 = X 3) (hn : X2 5 0 = X 5 0) (hp : X2 5 1 = X 5 1) (he : X2 5 6 = 0) : vX X2 := by
  have en : xn X2 = xn X := by unfold xn; rw [hn]
  have el : ∀ k, xl X2 k = xl X k := fun k => by unfold xl; rw [h1]
  have es : ∀ k j, xSg X2 k j = xSg X k j := fun k j => by unfold xSg; rw [h0]
  refine ⟨fun k hk => ?_, vP_cg h.P h2 h3 hp, fun k hk q => ?_⟩
  · rw [en] at hk
    rw [el, es]
    obtain ⟨a1, a2⟩ := h.N k hk
    refine ⟨a1, fun j hj => ?_⟩
    rw [es, es]
    exact a2 j hj
  · rw [xEb_t hr2 hk] at q
    have e : xE X2 = 0 := by
      unfold xE
      rw [he]
      decide
    rw [e, Nat.zero_testBit] at q
    cases q
theorem vX_re {X : XS} {w hh : Int32} {f2 : Nat → Int32} (hr2 : Rl (xRe X w hh) f2) (h : vX X) : vX (xRe X w hh) := vX_ne hr2 h rfl rfl rfl rfl rfl rfl rfl
theorem vX_set {X : XS} {a : Nat} {v : Int32} {f2 : Nat → Int32} (ha : a = 4 ∨ a = 5) (hr2 : Rl (va_up X 5 (upd (X 5) a v)) f2) (h : vX X) (he : xEng X = false) : vX (va_up X 5 (upd (X 5) a v)) := by
  have e6 : X 5 6 = 0 := by
    unfold xEng at he
    simpa using he
  refine vX_ne hr2 h rfl rfl rfl rfl ?_ ?_ ?_
  · show upd (X 5) a v 0 = X 5 0
    exact upd_n (by omega)
  · show upd (X 5) a v 1 = X 5 1
    exact upd_n (by omega)
  · show upd (X 5) a v 6 = 0
    rw [upd_n (by omega)]
    exact e6
theorem vX_ex {X : XS} {f : Nat → Int32} (hr : Rl X f) (h : vX X) {i j : Nat} (hi : i < xn X) (hj : j < xn X) (hij : i ≠ j) (ei : xEb X i = false) (ej : xEb X j = false) : vX (xEx X i j) := by
  refine vX_mv hr h (sgS i j) (fun k hk => ?_) rfl rfl rfl (fun _ _ => rfl) (fun k _ => xl_ex X hij k) (fun k t _ ht => xSg_ex X hij k ht) (fun k hk he => ?_)
  · have hk2 : k < xn X := hk
    unfold sgS
    split
    · exact hj
    · split
      · exact hi
      · exact hk2
  · unfold sgS
    split
    · rename_i q
      rw [q, ei] at he
      cases he
    · split
      · rename_i q
        rw [q, ej] at he
        cases he
      · rfl
theorem xEb_f {X : XS} {f : Nat → Int32} (hr : Rl X f) {k : Nat} (hk : k < xn X) (he : xEf X k = false) {q : Nat} (hq : q < xn X) (hkq : k ≤ q) : xEb X q = false := by
  rw [xEf_e hr hk] at he
  have hlt : xE X < 2 ^ k := by simpa using he
  rw [xEb_t hr hq]
  exact Nat.testBit_lt_two_pow (Nat.lt_of_lt_of_le hlt (Nat.pow_le_pow_right (by decide) hkq))
theorem vX_to {X : XS} {f : Nat → Int32} (hr : Rl X f) (h : vX X) {k : Nat} (hk : k < xn X) (he : xEf X k = false) : vX (xTo X k) := by
  have hn := hr.x.n20
  have en : xn (xTo X k) = xn X - 1 := by
    show (nI (xn X - 1)).toNatClampNeg = _
    exact nI_clamp (by omega)
  have e5 : ∀ j, j ≠ 0 → xTo X k 5 j = X 5 j := fun j hj => by
    show upd (xRo X k (xn X - (k + 1)) 5) 0 _ j = _
    rw [upd_n hj, xRo_5]
  refine vX_mv hr h (sgR k (xn X - (k + 1))) (fun q hq => ?_) (xRo_2 X k _) (xRo_3 X k _) (xRo_4 X k _) e5 (fun q _ => xl_ro X k _ q) (fun q j _ hj => xSg_ro X k hj _ q) (fun q hq hE => ?_)
  · rw [en] at hq
    unfold sgR
    split
    · omega
    · rw [if_pos (by omega)]
      omega
  · rw [en] at hq
    unfold sgR
    rcases Nat.lt_or_ge q k with z | z
    · rw [if_pos z]
    · rw [xEb_f hr hk he (by omega) z] at hE
      cases hE
