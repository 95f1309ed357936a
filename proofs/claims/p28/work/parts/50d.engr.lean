/-! ===== what is engraved keeps fitting ===== -/
theorem xMe_6 (X : XS) (s z : Int32) : xMe X s z 5 6 = X 5 6 ||| s ∧ xMe X s z 5 7 = z := by
  constructor
  · show upd (upd (X 5) 6 (X 5 6 ||| s)) 7 z 6 = _
    rw [upd_n (by decide)]
    exact if_pos rfl
  · show upd (upd (X 5) 6 (X 5 6 ||| s)) 7 z 7 = z
    exact if_pos rfl
theorem xE_me {X : XS} {f : Nat → Int32} (hr : Rl X f) {a : Nat} (ha : a < 1048576) (z : Int32) : xE (xMe X (nI a) z) = xE X ||| a ∧ xMe X (nI a) z 5 6 = nI (xE X ||| a) := by
  have hlt := xE_lt hr
  have e : xMe X (nI a) z 5 6 = nI (xE X ||| a) := by
    rw [(xMe_6 X (nI a) z).1, hr.E.1, bor]
  have hl : xE X ||| a < 2 ^ 20 := Nat.or_lt_two_pow hlt ha
  refine ⟨?_, e⟩
  show (xMe X (nI a) z 5 6).toNatClampNeg = _
  rw [e, nI_clamp (by omega)]
theorem xEng_of {X : XS} {f : Nat → Int32} (hr : Rl X f) {k : Nat} (hk : k < xn X) (h : xEb X k = true) : xEng X = true := by
  rw [xEb_t hr hk] at h
  refine (rEng hr).1.mpr (fun q => ?_)
  rw [q, Nat.zero_testBit] at h
  cases h
theorem vX_me {X : XS} {f f2 : Nat → Int32} (hr : Rl X f) {a : Nat} {z : Int32} (hr2 : Rl (xMe X (nI a) z) f2) (h : vX X) (ha : a < 1048576) (hz : xEng X = true → z = X 5 7) (hf : ∀ k, k < xn X → a.testBit k = true → xFits X k z = true) : vX (xMe X (nI a) z) := by
  refine ⟨h.N, h.P, fun k hk q => ?_⟩
  have hk2 : k < xn X := hk
  have hn := hr.x.n20
  have hu : xU (xMe X (nI a) z) k = xU X k := xU_cg (hr.x.l16 (show k < 20 by omega)) rfl (fun _ _ => rfl) (fun j _ => xAdj_cg rfl rfl rfl rfl _ _)
  rw [xFits_cg hu rfl rfl rfl rfl, (xMe_6 X (nI a) z).2]
  rw [xEb_t hr2 hk, (xE_me hr ha z).1, Nat.testBit_or, Bool.or_eq_true] at q
  rcases q with q | q
  · rw [← xEb_t hr hk2] at q
    rw [hz (xEng_of hr hk2 q)]
    exact h.F k hk2 q
  · exact hf k hk2 q
theorem xSize_e {X : XS} (h : xEng X = true) : xSize X = X 5 7 := if_pos h
theorem vX_eng {X : XS} {f f2 : Nat → Int32} (hr : Rl X f) {k : Nat} (hk : k < xn X) (hr2 : Rl (xMe X (1 <<< (nI k &&& 31)) (xSize X)) f2) (h : vX X) (hf : xFits X k (xSize X) = true) : vX (xMe X (1 <<< (nI k &&& 31)) (xSize X)) := by
  have hn := hr.x.n20
  rw [shl_n k (by omega)] at hr2 ⊢
  refine vX_me hr hr2 h (Nat.lt_of_lt_of_le (Nat.pow_lt_pow_right (by decide) (show k < 20 by omega)) (by decide)) (fun q => xSize_e q) (fun q hq hb => ?_)
  rw [Nat.testBit_two_pow] at hb
  have : k = q := of_decide_eq_true hb
  rw [← this]
  exact hf
theorem sE_t (X : XS) (z : Int32) : ∀ {i q : Nat}, (sE X z i).testBit q = true → q < i ∧ xEb X q = false ∧ xFits X q z = true
  | 0, q, h => by
    rw [show sE X z 0 = 0 from rfl, Nat.zero_testBit] at h
    cases h
  | i + 1, q, h => by
    have ih := sE_t X z (i := i) (q := q)
    unfold sE at h
    split at h
    · rename_i c
      rw [Nat.testBit_or, Bool.or_eq_true, Nat.testBit_two_pow] at h
      rcases h with h | h
      · exact ⟨by have := (ih h).1; omega, (ih h).2⟩
      · have : i = q := of_decide_eq_true h
        subst this
        exact ⟨Nat.lt_succ_self _, c⟩
    · exact ⟨by have := (ih h).1; omega, (ih h).2⟩
theorem sE_20 {X : XS} {f : Nat → Int32} (hr : Rl X f) (z : Int32) : sE X z (xn X) < 1048576 := Nat.lt_of_lt_of_le (sE_lt X z (xn X)) (Nat.pow_le_pow_right (n := 2) (by decide) hr.x.n20)
theorem vX_engA {X : XS} {f f2 : Nat → Int32} (hr : Rl X f) (hr2 : Rl (xMe X (xEs X (xSize X) (xn X)) (xSize X)) f2) (h : vX X) : vX (xMe X (xEs X (xSize X) (xn X)) (xSize X)) := by
  rw [xEs_n X (xSize X) hr.x.n20] at hr2 ⊢
  exact vX_me hr hr2 h (sE_20 hr _) (fun q => xSize_e q) (fun q hq hb => (sE_t X _ hb).2.2)
/-! counts of what is engraved -/
def cF (X : XS) (z : Int32) : Nat → Nat
  | 0 => 0
  | i + 1 => cF X z i + (if xEb X i = false ∧ xFits X i z = true then 1 else 0)
theorem cF_le (X : XS) (z : Int32) : ∀ i, cF X z i ≤ i
  | 0 => Nat.le_refl _
  | i + 1 => by
    have := cF_le X z i
    unfold cF
    split <;> omega
theorem sE_n {X : XS} {z : Int32} : ∀ {i : Nat}, bitS (sE X z i) i = cF X z i
  | 0 => rfl
  | i + 1 => by
    have ih := sE_n (X := X) (z := z) (i := i)
    have hlt := sE_lt X z i
    show bitS (if xEb X i = false ∧ xFits X i z = true then sE X z i ||| 2 ^ i else sE X z i) (i + 1) = cF X z i + _
    by_cases q : xEb X i = false ∧ xFits X i z = true
    · rw [if_pos q, if_pos q, ← ih]
      show bitS _ i + (if (sE X z i ||| 2 ^ i).testBit i = true then 1 else 0) = _
      rw [bitS_c (a := sE X z i ||| 2 ^ i) (b := sE X z i) (fun t ht => by rw [Nat.testBit_or, Nat.testBit_two_pow, decide_eq_false (by omega), Bool.or_false]), Nat.testBit_or, Nat.testBit_two_pow, decide_eq_true rfl, Bool.or_true, if_pos rfl]
    · rw [if_neg q, if_neg q, ← ih]
      show bitS _ i + (if (sE X z i).testBit i = true then 1 else 0) = _
      rw [Nat.testBit_lt_two_pow hlt]
      rfl
theorem bitS_or {a b : Nat} : ∀ {n : Nat}, (∀ t, t < n → b.testBit t = true → a.testBit t = false) → bitS (a ||| b) n = bitS a n + bitS b n
  | 0, _ => rfl
  | n + 1, h => by
    have ih := bitS_or (a := a) (b := b) (n := n) (fun t ht => h t (by omega))
    show bitS (a ||| b) n + (if (a ||| b).testBit n = true then 1 else 0) = (bitS a n + (if a.testBit n = true then 1 else 0)) + (bitS b n + (if b.testBit n = true then 1 else 0))
    rw [ih, Nat.testBit_or]
    have := h n (Nat.lt_succ_self n)
    cases ea : a.testBit n <;> cases eb : b.testBit n
    · simp
    · simp; omega
    · simp; omega
    · rw [ea, eb] at this
      exact absurd (this rfl) (by decide)
theorem nEng {X : XS} {f : Nat → Int32} (hr : Rl X f) : bitc (X 5 6) = nI (bitS (xE X) (xn X)) := by
  rw [rBc hr, rEs hr]
theorem nEs {X : XS} {f : Nat → Int32} (hr : Rl X f) (z : Int32) : bitc (xEs X z (xn X)) = nI (cF X z (xn X)) := by
  have hn := hr.x.n20
  rw [xEs_n X z hn, bitc_pop (sE_20 hr z)]
  obtain ⟨d, hd⟩ : ∃ d, 20 = xn X + d := ⟨20 - xn X, by omega⟩
  rw [hd, bitS_hi (sE_lt X z (xn X)), sE_n]
theorem nEngA {X : XS} {f f2 : Nat → Int32} (hr : Rl X f) {z : Int32} (hr2 : Rl (xMe X (xEs X z (xn X)) z) f2) : bitc (xMe X (xEs X z (xn X)) z 5 6) = bitc (X 5 6) + nI (cF X z (xn X)) := by
  rw [nEng hr2, nEng hr, nI_add]
  rw [xEs_n X z hr.x.n20] at hr2 ⊢
  show nI (bitS (xE (xMe X (nI (sE X z (xn X))) z)) (xn X)) = _
  rw [(xE_me hr (sE_20 hr z) z).1, bitS_or (fun t ht hb => by
    rw [← xEb_t hr ht]
    exact (sE_t X z hb).2.1), sE_n]
theorem cF_0 {X : XS} {f : Nat → Int32} (hr : Rl X f) (z : Int32) : xEs X z (xn X) = 0 ↔ cF X z (xn X) = 0 := by
  have hn := hr.x.n20
  have h20 := sE_20 hr z
  rw [xEs_n X z hn, nI_z (by omega), ← sE_n]
  constructor
  · intro q
    rw [q]
    have : ∀ n, bitS 0 n = 0 := fun n => by
      induction n with
      | zero => rfl
      | succ n ih => show bitS 0 n + _ = 0; rw [ih, Nat.zero_testBit]; rfl
    exact this _
  · intro q
    exact bitS_0 (sE_lt X z (xn X)) q
theorem nEb_1 {X : XS} {f f2 : Nat → Int32} (hr : Rl X f) {k : Nat} (hk : k < xn X) {z : Int32} (hr2 : Rl (xMe X (1 <<< (nI k &&& 31)) z) f2) : xEb (xMe X (1 <<< (nI k &&& 31)) z) k = true := by
  have hn := hr.x.n20
  rw [xEb_t hr2 hk]
  rw [shl_n k (by omega)]
  rw [(xE_me hr (Nat.lt_of_lt_of_le (Nat.pow_lt_pow_right (by decide) (show k < 20 by omega)) (by decide)) z).1, Nat.testBit_or, Nat.testBit_two_pow, decide_eq_true rfl, Bool.or_true]
