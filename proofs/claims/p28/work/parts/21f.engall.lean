/-! ===== engraving all that fit keeps the two of one plate ===== -/
def sE (X : XS) (z : Int32) : Nat → Nat
  | 0 => 0
  | i + 1 => if xEb X i = false ∧ xFits X i z = true then sE X z i ||| 2 ^ i else sE X z i
theorem sE_lt (X : XS) (z : Int32) : ∀ i, sE X z i < 2 ^ i
  | 0 => Nat.zero_lt_one
  | i + 1 => by
    have h1 := sE_lt X z i
    have h2 : (2 : Nat) ^ i < 2 ^ (i + 1) := Nat.pow_lt_pow_right (by decide) (Nat.lt_succ_self i)
    unfold sE
    split
    · exact Nat.or_lt_two_pow (Nat.lt_trans h1 h2) h2
    · exact Nat.lt_trans h1 h2
theorem xEs_n (X : XS) (z : Int32) : ∀ {i : Nat}, i ≤ 20 → xEs X z i = nI (sE X z i)
  | 0, _ => rfl
  | i + 1, hi => by
    have ih := xEs_n X z (i := i) (by omega)
    unfold xEs sE
    split
    · rw [ih, shl_n i (by omega), bor]
    · exact ih
theorem sE_c {X : XS} {f : Nat → Int32} (h : Rl X f) (z : Int32) : ∀ {i : Nat}, i ≤ xn X → bitS (sE X z i) i = mEc f z i
  | 0, _ => rfl
  | i + 1, hi => by
    have ih := sE_c h z (i := i) (by omega)
    have hlt := sE_lt X z i
    have hk : i < xn X := by omega
    have hc : (xEb X i = false ∧ xFits X i z = true) ↔ (decide (mE f i = 1) = false ∧ mFits f i z = true) := by rw [(rEb h hk).2, rFits h hk]
    show bitS (if xEb X i = false ∧ xFits X i z = true then sE X z i ||| 2 ^ i else sE X z i) (i + 1) = mEc f z i + (if decide (mE f i = 1) = false ∧ mFits f i z = true then 1 else 0)
    by_cases q : xEb X i = false ∧ xFits X i z = true
    · rw [if_pos q, if_pos (hc.mp q), ← ih]
      show bitS _ i + (if (sE X z i ||| 2 ^ i).testBit i = true then 1 else 0) = _
      rw [bitS_c (a := sE X z i ||| 2 ^ i) (b := sE X z i) (fun t ht => by rw [Nat.testBit_or, Nat.testBit_two_pow, decide_eq_false (by omega), Bool.or_false]), Nat.testBit_or, Nat.testBit_two_pow, decide_eq_true rfl, Bool.or_true, if_pos rfl]
    · rw [if_neg q, if_neg (fun y => q (hc.mpr y)), ← ih]
      show bitS _ i + (if (sE X z i).testBit i = true then 1 else 0) = _
      rw [Nat.testBit_lt_two_pow hlt]
      rfl
def xEa (X : XS) (z : Int32) (t : Nat) : XS := if sE X z t = 0 then X else xMe X (nI (sE X z t)) z
theorem xMe_me (X : XS) (a b z : Int32) : xMe (xMe X a z) b z = xMe X (a ||| b) z := by
  unfold xMe
  rw [va_up_up]
  congr 1
  funext j
  show upd (upd (upd (upd (X 5) 6 (X 5 6 ||| a)) 7 z) 6 ((X 5 6 ||| a) ||| b)) 7 z j = upd (upd (X 5) 6 (X 5 6 ||| (a ||| b))) 7 z j
  unfold upd
  by_cases h7 : j = 7
  · rw [if_pos h7, if_pos h7]
  · rw [if_neg h7, if_neg h7]
    by_cases h6 : j = 6
    · rw [if_pos h6, if_neg h7, if_pos h6, Int32.or_assoc]
    · rw [if_neg h6, if_neg h6, if_neg h7, if_neg h6]
theorem xEa_go {X : XS} {z : Int32} {t : Nat} (ht : t < 20) (q : xEb X t = false ∧ xFits X t z = true) : xEa X z (t + 1) = xMe (xEa X z t) (1 <<< (nI t &&& 31)) z := by
  have e : sE X z (t + 1) = sE X z t ||| 2 ^ t := if_pos q
  have h1 : sE X z t ||| 2 ^ t ≠ 0 := fun y => by
    have y2 := congrArg (fun n => Nat.testBit n t) y
    simp only [Nat.testBit_or, Nat.testBit_two_pow, decide_true, Bool.or_true, Nat.zero_testBit] at y2
    cases y2
  unfold xEa
  rw [e, if_neg h1, shl_n t ht]
  by_cases y : sE X z t = 0
  · rw [if_pos y, y, Nat.zero_or]
  · rw [if_neg y, xMe_me, bor]
theorem xEa_no {X : XS} {z : Int32} {t : Nat} (q : ¬ (xEb X t = false ∧ xFits X t z = true)) : xEa X z (t + 1) = xEa X z t := by
  have e : sE X z (t + 1) = sE X z t := if_neg q
  unfold xEa
  rw [e]
theorem xEa_fits (X : XS) (z : Int32) (t k : Nat) (w : Int32) : xFits (xEa X z t) k w = xFits X k w := by
  unfold xEa
  split <;> rfl
theorem xEa_n (X : XS) (z : Int32) (t : Nat) : xn (xEa X z t) = xn X := by
  unfold xEa
  split <;> rfl
theorem rEa {X : XS} {f : Nat → Int32} (h : Rl X f) {z : Int32} (hz : z.toInt ≤ 40) : ∀ {t : Nat}, t ≤ xn X → Rl (xEa X z t) (mEa f z t) ∧ ∀ k, t ≤ k → k < xn X → xEb (xEa X z t) k = xEb X k
  | 0, _ => ⟨h, fun _ _ _ => rfl⟩
  | t + 1, ht => by
    have hn := h.x.n20
    obtain ⟨r, b⟩ := rEa h hz (t := t) (by omega)
    have hk : t < xn (xEa X z t) := by rw [xEa_n]; omega
    have hc : (xEb X t = false ∧ xFits X t z = true) ↔ (decide (mE (mEa f z t) t = 1) = false ∧ mFits (mEa f z t) t z = true) := by
      rw [← (rEb r hk).2, ← rFits r hk, xEa_fits, b t (Nat.le_refl t) (by omega)]
    by_cases q : xEb X t = false ∧ xFits X t z = true
    · have z1 : 1 ≤ z.toInt := by
        have q2 := q.2
        unfold xFits at q2
        simp only [Bool.and_eq_true, Bool.not_eq_true', decide_eq_false_iff_not, Int32.le_iff_toInt_le, Int32.toInt_zero] at q2
        omega
      have e : mEa f z (t + 1) = mEg (mEa f z t) t z := if_pos (hc.mp q)
      have r2 := rEngr r hk ⟨z1, hz⟩
      rw [e, xEa_go (by omega) q]
      refine ⟨r2, fun k hk1 hk2 => ?_⟩
      have hk3 : k < xn (xEa X z t) := by rw [xEa_n]; exact hk2
      rw [← b k (by omega) hk2, (rEb r2 hk3).2, (rEb r hk3).2]
      have e2 : mE (mEg (mEa f z t) t z) k = mE (mEa f z t) k := by unfold mE; exact mEg_ne (by omega) (by omega)
      rw [e2]
    · have e : mEa f z (t + 1) = mEa f z t := if_neg (fun y => q (hc.mpr y))
      rw [e, xEa_no q]
      exact ⟨r, fun k hk1 hk2 => b k (by omega) hk2⟩
theorem rEngA {X : XS} {f : Nat → Int32} (h : Rl X f) : (xEs X (xSize X) (xn X) = 0 ↔ mEc f (mSize f) (mn f) = 0) ∧ bitc (xEs X (xSize X) (xn X)) = nI (mEc f (mSize f) (mn f)) ∧ (¬ mEc f (mSize f) (mn f) = 0 → Rl (xMe X (xEs X (xSize X) (xn X)) (xSize X)) (mEa f (mSize f) (mn f))) := by
  have hn := h.x.n20
  have hlt := sE_lt X (mSize f) (xn X)
  have hle : (2 : Nat) ^ xn X ≤ 1048576 := Nat.pow_le_pow_right (n := 2) (by decide) hn
  have hc := sE_c h (mSize f) (Nat.le_refl (xn X))
  have hr := (rEa h (mSize_in h).2 (Nat.le_refl (xn X))).1
  rw [rSize h, xEs_n X (mSize f) hn, ← h.n, ← hc]
  have e0 : nI (sE X (mSize f) (xn X)) = 0 ↔ sE X (mSize f) (xn X) = 0 := by
    constructor
    · intro q
      have q2 := congrArg Int32.toInt q
      rw [nI_toInt (by omega), Int32.toInt_zero] at q2
      omega
    · intro q
      rw [q]
      rfl
  have e1 : sE X (mSize f) (xn X) = 0 ↔ bitS (sE X (mSize f) (xn X)) (xn X) = 0 := by
    constructor
    · intro q
      have q2 := bitS_c (a := sE X (mSize f) (xn X)) (b := 0) (n := xn X) (fun t _ => by rw [q])
      rw [q2]
      have z : ∀ n, bitS 0 n = 0 := fun n => by
        induction n with
        | zero => rfl
        | succ n ih =>
          show bitS 0 n + (if (0 : Nat).testBit n = true then 1 else 0) = 0
          rw [ih, Nat.zero_testBit]
          rfl
      exact z _
    · exact bitS_0 hlt
  refine ⟨e0.trans e1, ?_, fun q => ?_⟩
  · rw [bitc_pop (by omega)]
    obtain ⟨d, hd⟩ : ∃ d, 20 = xn X + d := ⟨20 - xn X, by omega⟩
    rw [hd, bitS_hi hlt]
  · have q2 : ¬ sE X (mSize f) (xn X) = 0 := fun y => q (e1.mp y)
    unfold xEa at hr
    rw [if_neg q2] at hr
    exact hr
