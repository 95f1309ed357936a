/-! ===== names that change seats keep the two of one plate ===== -/
theorem rlS {X X2 : XS} {f f2 : Nat → Int32} (σ : Nat → Nat) (h : Rl X f) (hX : okX X2) (hs : ∀ k, k < xn X2 → σ k < xn X) (h2 : X2 2 = X 2) (h3 : X2 3 = X 3) (h4 : X2 4 = X 4) (h5 : ∀ j, j ≠ 0 → X2 5 j = X 5 j) (hn : f2 4 = X2 5 0) (hf : ∀ q, q < 57 → q ≠ 4 → f2 q = f q) (hl : ∀ k, k < xn X2 → xl X2 k = xl X (σ k)) (hg : ∀ k j, k < xn X2 → j < 16 → xSg X2 k j = xSg X (σ k) j) (hm : ∀ k c, k < xn X2 → c < 18 → f2 (57 + 18 * k + c) = f (57 + 18 * σ k + c)) (hE : xE X < 2 ^ xn X2) (hb : ∀ k, k < xn X2 → (xE X).testBit (σ k) = (xE X).testBit k) : Rl X2 f2 := by
  have e4 : mn f2 = xn X2 := by unfold mn; rw [hn]; rfl
  have e8 : mp f2 = mp f := by unfold mp; rw [hf 8 (by omega) (by omega)]
  have ep : xp X2 = xp X := by unfold xp; rw [h5 1 (by decide)]
  have ee : xE X2 = xE X := by unfold xE; rw [h5 6 (by decide)]
  have em : ∀ k, k < xn X2 → f2 (57 + 18 * k) = f (57 + 18 * σ k) := fun k hk => hm k 0 hk (by decide)
  have eml : ∀ k, k < xn X2 → ml f2 k = ml f (σ k) := fun k hk => by unfold ml; rw [em k hk]
  have hM : okM f2 := by
    refine ⟨by rw [e4, hn]; exact hX.n, by rw [e4]; exact hX.n20, fun k hk => ?_, by rw [e8, hf 8 (by omega) (by omega)]; exact h.m.p, by rw [e8]; exact h.m.p16, by rw [hf 3 (by omega) (by omega)]; exact h.m.c⟩
    rw [e4] at hk
    rw [eml k hk, em k hk]
    exact h.m.2.2.1 _ (by rw [← h.n]; exact hs k hk)
  refine ⟨hX, hM, ⟨e4.symm, fun k hk => ?_, fun k j hk hj => ?_⟩, ⟨?_, by rw [ee]; exact hE, fun k hk => ?_, fun q => ?_⟩, ⟨?_, fun j hj => ?_⟩, ?_⟩
  · rw [hl k hk, eml k hk]
    exact h.l (hs k hk)
  · have hl16 := hX.l16 (show k < 20 from Nat.lt_of_lt_of_le hk hX.n20)
    have hj2 : j < 16 := Nat.lt_of_lt_of_le hj hl16
    rw [hl k hk] at hj
    have e : mSg f2 k j = mSg f (σ k) j := by unfold mSg; exact hm k (2 + j) hk (by omega)
    rw [hg k j hk hj2, e]
    exact h.N.2.2 _ j (hs k hk) hj
  · rw [ee, h5 6 (by decide)]; exact h.E.1
  · have e : mE f2 k = mE f (σ k) := hm k 1 hk (by decide)
    rw [e, ee, ← hb k hk]
    exact h.E.2.2.1 _ (hs k hk)
  · rw [ee] at q
    rw [h5 7 (by decide), hf 5 (by omega) (by omega)]
    exact h.E.2.2.2 q
  · rw [ep, e8]; exact h.P.1
  · rw [ep] at hj
    have h16 := h.x.p16
    rw [h2, h3, h4, hf _ (by omega) (by omega), hf _ (by omega) (by omega), hf _ (by omega) (by omega)]
    exact h.P.2 j hj
  · unfold rS
    rw [h5 2 (by decide), h5 3 (by decide), h5 4 (by decide), h5 5 (by decide), h5 8 (by decide), h5 9 (by decide), hf 0 (by omega) (by omega), hf 1 (by omega) (by omega), hf 2 (by omega) (by omega), hf 3 (by omega) (by omega), hf 6 (by omega) (by omega), hf 7 (by omega) (by omega)]
    exact h.S
/-! two seats swapped -/
def sgS (i j k : Nat) : Nat := if k = i then j else if k = j then i else k
theorem xl_ex (X : XS) {i j : Nat} (hij : i ≠ j) (k : Nat) : xl (xEx X i j) k = xl X (sgS i j k) := by
  show (upd (upd (X 1) i (X 1 j)) j (X 1 i) k).toNatClampNeg = (X 1 (sgS i j k)).toNatClampNeg
  unfold upd sgS
  by_cases h1 : k = j
  · rw [if_pos h1, if_neg (by omega), if_pos h1]
  · rw [if_neg h1]
    by_cases h2 : k = i
    · rw [if_pos h2, if_pos h2]
    · rw [if_neg h2, if_neg h2, if_neg h1]
theorem xSg_ex (X : XS) {i j : Nat} (hij : i ≠ j) (k : Nat) {t : Nat} (ht : t < 16) : xSg (xEx X i j) k t = xSg X (sgS i j k) t := by
  show swN (X 0) i j 16 (k * 16 + t) = X 0 (sgS i j k * 16 + t)
  unfold swN sgS
  by_cases h1 : k = i
  · rw [if_pos h1, if_pos (by omega), h1]
    congr 1
    omega
  · rw [if_neg h1, if_neg (by omega)]
    by_cases h2 : k = j
    · rw [if_pos h2, if_pos (by omega), h2]
      congr 1
      omega
    · rw [if_neg h2, if_neg (by omega)]
theorem swR_row {f : Nat → Int32} {i j : Nat} (hij : i ≠ j) (k : Nat) {c : Nat} (hc : c < 18) : swR f (57 + 18 * i) (57 + 18 * j) 18 (57 + 18 * k + c) = f (57 + 18 * sgS i j k + c) := by
  unfold swR sgS
  by_cases h1 : k = i
  · rw [if_pos h1, if_pos (by omega), h1]
    congr 1
    omega
  · rw [if_neg h1, if_neg (by omega)]
    by_cases h2 : k = j
    · rw [if_pos h2, if_pos (by omega), h2]
      congr 1
      omega
    · rw [if_neg h2, if_neg (by omega)]
theorem swR_lo {f : Nat → Int32} {i j q : Nat} (hq : q < 57) : swR f (57 + 18 * i) (57 + 18 * j) 18 q = f q := by
  unfold swR
  rw [if_neg (by omega), if_neg (by omega)]
theorem xEb_t {X : XS} {f : Nat → Int32} (h : Rl X f) {k : Nat} (hk : k < xn X) : xEb X k = (xE X).testBit k := by
  have e1 := (rEb h hk).1
  rw [h.E.2.2.1 k hk] at e1
  cases q : xEb X k <;> cases z : (xE X).testBit k <;> rw [q, z] at e1
  · exact absurd e1 (by decide)
  · exact absurd e1 (by decide)
theorem rSwap {X : XS} {f : Nat → Int32} (h : Rl X f) {i j : Nat} (hi : i < xn X) (hj : j < xn X) (hij : i ≠ j) (ei : xEb X i = false) (ej : xEb X j = false) : Rl (xEx X i j) (swR f (57 + 18 * i) (57 + 18 * j) 18) := by
  have hn := h.x.n20
  have ti := xEb_t h hi
  have tj := xEb_t h hj
  rw [ei] at ti
  rw [ej] at tj
  refine rlS (sgS i j) h (okX_ex h.x (by omega) (by omega)) (fun k hk => ?_) rfl rfl rfl (fun _ _ => rfl) ?_ (fun q hq _ => swR_lo hq) (fun k _ => xl_ex X hij k) (fun k t _ ht => xSg_ex X hij k ht) (fun k c _ hc => swR_row hij k hc) h.E.2.1 (fun k hk => ?_)
  · have hk2 : k < xn X := hk
    unfold sgS
    split
    · exact hj
    · split
      · exact hi
      · exact hk2
  · rw [swR_lo (by decide), h.m.n, ← h.n]
    exact h.x.n.symm
  · unfold sgS
    split
    · rename_i q
      rw [q, ← ti, ← tj]
    · split
      · rename_i q
        rw [q, ← ti, ← tj]
      · rfl
/-! a name taken out -/
def sgR (k t q : Nat) : Nat := if q < k then q else if q < k + t then q + 1 else if q = k + t then k else q
theorem sgR_0 (k q : Nat) : sgR k 0 q = q := by
  unfold sgR
  split
  · rfl
  · rw [if_neg (by omega)]
    split
    · omega
    · rfl
theorem sgR_s (k t q : Nat) : sgR k t (sgS (k + t) (k + 1 + t) q) = sgR k (t + 1) q := by
  unfold sgS sgR
  by_cases h1 : q = k + t
  · rw [if_pos h1, if_neg (by omega), if_neg (by omega), if_neg (by omega), if_neg (by omega), if_pos (by omega)]
    omega
  · rw [if_neg h1]
    by_cases h2 : q = k + 1 + t
    · rw [if_pos h2, if_neg (by omega), if_neg (by omega), if_pos rfl, if_neg (by omega), if_neg (by omega), if_pos (by omega)]
    · rw [if_neg h2]
      by_cases h3 : q < k
      · rw [if_pos h3, if_pos h3]
      · rw [if_neg h3, if_neg h3]
        by_cases h4 : q < k + t
        · rw [if_pos h4, if_pos (by omega)]
        · rw [if_neg h4, if_neg h1, if_neg (by omega), if_neg (by omega)]
theorem xl_ro (X : XS) (k : Nat) : ∀ t q, xl (xRo X k t) q = xl X (sgR k t q)
  | 0, q => by rw [sgR_0]; rfl
  | t + 1, q => by
    show xl (xEx (xRo X k t) (k + t) (k + 1 + t)) q = _
    rw [xl_ex _ (by omega), xl_ro X k t, sgR_s]
theorem xSg_ro (X : XS) (k : Nat) {j : Nat} (hj : j < 16) : ∀ t q, xSg (xRo X k t) q j = xSg X (sgR k t q) j
  | 0, q => by rw [sgR_0]; rfl
  | t + 1, q => by
    show xSg (xEx (xRo X k t) (k + t) (k + 1 + t)) q j = _
    rw [xSg_ex _ (by omega) _ hj, xSg_ro X k hj t, sgR_s]
theorem xRo_2 (X : XS) (k : Nat) : ∀ t, xRo X k t 2 = X 2
  | 0 => rfl
  | t + 1 => xRo_2 X k t
theorem xRo_3 (X : XS) (k : Nat) : ∀ t, xRo X k t 3 = X 3
  | 0 => rfl
  | t + 1 => xRo_3 X k t
theorem xRo_4 (X : XS) (k : Nat) : ∀ t, xRo X k t 4 = X 4
  | 0 => rfl
  | t + 1 => xRo_4 X k t
theorem xRo_5 (X : XS) (k : Nat) : ∀ t, xRo X k t 5 = X 5
  | 0 => rfl
  | t + 1 => xRo_5 X k t
theorem xEf_e {X : XS} {f : Nat → Int32} (h : Rl X f) {k : Nat} (hk : k < xn X) : xEf X k = !(decide (xE X < 2 ^ k)) := by
  have hn := h.x.n20
  have hlt := xE_lt h
  have hd : xE X / 2 ^ k ≤ xE X := Nat.div_le_self _ _
  have e : X 5 6 >>> (nI k &&& 31) = nI (xE X / 2 ^ k) := by
    have e := h.E.1
    rw [e, pk_shrN (by omega) (nI k &&& 31) k (by
      have : ∀ j, j < 32 → ((nI j &&& 31).toBitVec.smod 32).toNat = j := by decide +kernel
      exact this k (by omega))]
  unfold xEf
  rw [e]
  have e2 : (nI (xE X / 2 ^ k) = 0) ↔ xE X < 2 ^ k := by
    constructor
    · intro q
      have q2 := congrArg Int32.toInt q
      rw [nI_toInt (by omega), Int32.toInt_zero] at q2
      exact (Nat.div_eq_zero_iff_lt (Nat.two_pow_pos k)).mp (by omega)
    · intro q
      rw [Nat.div_eq_of_lt q]
      rfl
  by_cases q : xE X < 2 ^ k
  · rw [decide_eq_true q, decide_eq_true (e2.mpr q)]
  · rw [decide_eq_false q, decide_eq_false (fun z => q (e2.mp z))]
theorem b2i_1 (b : Bool) : decide (b2i b = 1) = b := by cases b <;> decide
theorem rEf {X : XS} {f : Nat → Int32} (h : Rl X f) {k : Nat} (hk : k < xn X) : xEf X k = mEf f k := by
  rw [xEf_e h hk]
  have hn := h.n
  have ebit : ∀ t, k + t < xn X → decide (mE f (k + t) = 1) = (xE X).testBit (k + t) := fun t ht => by rw [h.E.2.2.1 _ ht, b2i_1]
  unfold mEf
  by_cases q : xE X < 2 ^ k
  · have e : fstN (fun t => decide (mE f (k + t) = 1)) (mn f - k) = mn f - k := fstN_eq (Nat.le_refl _) (fun t ht => by
      show decide (mE f (k + t) = 1) = false
      rw [ebit t (by omega)]
      exact Nat.testBit_lt_two_pow (Nat.lt_of_lt_of_le q (Nat.pow_le_pow_right (by decide) (by omega)))) (fun z => absurd z (Nat.lt_irrefl _))
    rw [e, decide_eq_true q, decide_eq_false (Nat.lt_irrefl _)]
    rfl
  · rw [decide_eq_false q]
    have e : fstN (fun t => decide (mE f (k + t) = 1)) (mn f - k) < mn f - k := by
      rcases Nat.lt_or_ge (fstN (fun t => decide (mE f (k + t) = 1)) (mn f - k)) (mn f - k) with z | z
      · exact z
      · refine absurd (Nat.lt_pow_two_of_testBit (xE X) (fun i hi => ?_)) q
        rcases Nat.lt_or_ge i (xn X) with y | y
        · have := fstN_no (fun t => decide (mE f (k + t) = 1)) (mn f - k) (i - k) (by omega)
          have e3 := ebit (i - k) (by omega)
          rw [show k + (i - k) = i by omega] at e3
          have this2 : decide (mE f (k + (i - k)) = 1) = false := this
          rw [show k + (i - k) = i by omega] at this2
          rw [← e3, this2]
        · exact Nat.testBit_lt_two_pow (Nat.lt_of_lt_of_le h.E.2.1 (Nat.pow_le_pow_right (by decide) y))
    rw [decide_eq_true e]
    rfl
theorem rRemove {X : XS} {f : Nat → Int32} (h : Rl X f) {k : Nat} (hk : k < xn X) (he : xEf X k = false) : Rl (xTo X k) (mvN (upd f 4 (nI (mn f - 1))) 18 (57 + 18 * k) (18 * (mn f - 1 - k))) := by
  have hn := h.x.n20
  have hmn := h.n
  have hlt : xE X < 2 ^ k := by
    rw [xEf_e h hk] at he
    simpa using he
  have en : xn (xTo X k) = xn X - 1 := by
    show (nI (xn X - 1)).toNatClampNeg = _
    exact nI_clamp (by omega)
  have x5 : ∀ j, j ≠ 0 → xTo X k 5 j = X 5 j := fun j hj => by
    show upd (xRo X k (xn X - (k + 1)) 5) 0 _ j = _
    rw [upd_n hj, xRo_5]
  have hr := okX_ro (t := xn X - (k + 1)) h.x (k := k) (by omega)
  have hX : okX (xTo X k) := ⟨by rw [en]; rfl, by rw [en]; omega, hr.2.2.1, by
    have : xp (xTo X k) = xp X := by unfold xp; rw [x5 1 (by decide)]
    rw [this, x5 1 (by decide)]
    exact h.x.p, by
    have : xp (xTo X k) = xp X := by unfold xp; rw [x5 1 (by decide)]
    rw [this]
    exact h.x.p16, hr.2.2.2.2.2.1, hr.2.2.2.2.2.2⟩
  have sg : ∀ q, q < xn X - 1 → sgR k (xn X - (k + 1)) q = if q < k then q else q + 1 := fun q hq => by
    unfold sgR
    by_cases z : q < k
    · rw [if_pos z, if_pos z]
    · rw [if_neg z, if_neg z, if_pos (by omega)]
  refine rlS (sgR k (xn X - (k + 1))) h hX (fun q hq => ?_) (xRo_2 X k _) (xRo_3 X k _) (xRo_4 X k _) x5 ?_ (fun q hq h4 => ?_) (fun q hq => xl_ro X k _ q) (fun q j hq hj => xSg_ro X k hj _ q) (fun q c hq hc => ?_) ?_ (fun q hq => ?_)
  · rw [en] at hq
    rw [sg q hq]
    split <;> omega
  · rw [mvN_lo _ (by omega)]
    show nI (mn f - 1) = nI (xn X - 1)
    rw [hmn]
  · rw [mvN_lo _ (by omega), upd_n h4]
  · rw [en] at hq
    rw [sg q hq]
    unfold mvN upd
    by_cases z : q < k
    · rw [if_pos z, if_neg (by omega), if_neg (by omega)]
    · rw [if_neg z, if_pos (by omega), if_neg (by omega)]
      congr 1
      omega
  · rw [en]
    exact Nat.lt_of_lt_of_le hlt (Nat.pow_le_pow_right (by decide) (by omega))
  · rw [en] at hq
    rw [sg q hq]
    split
    · rfl
    · rw [Nat.testBit_lt_two_pow (Nat.lt_of_lt_of_le hlt (Nat.pow_le_pow_right (by decide) (by omega))), Nat.testBit_lt_two_pow (Nat.lt_of_lt_of_le hlt (Nat.pow_le_pow_right (by decide) (by omega)))]
