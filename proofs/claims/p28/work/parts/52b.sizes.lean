/-! ===== what the law reckons of sizes ===== -/
theorem s_in {X : XS} {f : Nat → Int32} (h : Rl X f) : (300 ≤ (X 5 2).toInt ∧ (X 5 2).toInt ≤ 6000) ∧ (100 ≤ (X 5 3).toInt ∧ (X 5 3).toInt ≤ 3000) ∧ (0 ≤ (X 5 4).toInt ∧ (X 5 4).toInt ≤ 100) ∧ 1 ≤ (X 5 5).toInt ∧ (X 5 5).toInt ≤ 3 := by
  obtain ⟨⟨s2, s3, s4, s5, -, -⟩, b⟩ := h.S
  rw [s2, s3, s4, s5]
  exact b
theorem col_ne {X : XS} {f : Nat → Int32} (h : Rl X f) : ¬ X 5 5 = 0 := fun q => by
  have := (s_in h).2.2.2
  rw [q, Int32.toInt_zero] at this
  omega
theorem l_wide {X : XS} {f : Nat → Int32} (h : Rl X f) : (X 5 2 - 2 * X 5 4) / X 5 5 = xCw X (X 5 2) := by
  rw [rCol h.S]
  unfold mCol mCw
  rw [h.S.1.1, h.S.1.2.2.1, h.S.1.2.2.2.1]
theorem l_left {X : XS} {f : Nat → Int32} (h : Rl X f) (k : Nat) : X 5 4 + irem (nI k) (X 5 5) * xCw X (X 5 2) = xCb X k := by
  unfold xCb
  rw [rCo h.S, h.S.1.2.2.2.1]
theorem l_co {X : XS} {f : Nat → Int32} (h : Rl X f) (k : Nat) : irem (nI k) (X 5 5) = xCo X k := by
  rw [rCo h.S, h.S.1.2.2.2.1]
theorem l_row {X : XS} {f : Nat → Int32} (h : Rl X f) {k : Nat} (hk : k < 2147483648) : nI k / X 5 5 = xRow X k := by
  rw [rRow h.S hk]
  unfold mRow
  rw [h.S.1.2.2.2.1]
theorem l_rows {X : XS} {f : Nat → Int32} (h : Rl X f) {n : Nat} (hn : n ≤ 1000) : (nI n + X 5 5 - 1) / X 5 5 = xRows X (nI n) := by
  rw [rRows h.S (by rw [nI_toInt (by omega)]; omega)]
  unfold mRows
  rw [h.S.1.2.2.2.1]
theorem l_isPl {X : XS} {f : Nat → Int32} (h : Rl X f) : isPl (X 5 2) (X 5 3) = true := by
  obtain ⟨b0, b1, -⟩ := s_in h
  unfold isPl
  simp only [Bool.and_eq_true, Bool.not_eq_true', decide_eq_false_iff_not, Int32.lt_iff_toInt_lt]
  rw [show (300 : Int32).toInt = 300 by decide, show (6000 : Int32).toInt = 6000 by decide, show (100 : Int32).toInt = 100 by decide, show (3000 : Int32).toInt = 3000 by decide]
  omega
/-- the size by the plate as it is, nothing engraved -/
def zF (X : XS) : Int32 := xGr X (X 5 2) (X 5 3) (nI (xn X)) (xMost X (-1))
theorem l_sizeBy {X : XS} {f : Nat → Int32} (h : Rl X f) : ySizeBy X (X 5 2) (X 5 3) = zF X := if_pos (l_isPl h)
theorem l_eng0 {X : XS} {f : Nat → Int32} (h : Rl X f) : bitc (X 5 6) = 0 ↔ xEng X = false := by
  have hn := h.x.n20
  have hle := bitS_le (xE X) (xn X)
  rw [nEng h, nI_z (by omega)]
  have e := (rEng h).1
  constructor
  · intro q
    cases z : xEng X with
    | false => rfl
    | true => exact absurd (bitS_0 h.E.2.1 q) (e.mp z)
  · intro q
    have : xE X = 0 := by
      rcases Nat.eq_zero_or_pos (xE X) with z | z
      · exact z
      · have := e.mpr (by omega)
        rw [q] at this
        cases this
    rw [this]
    have : ∀ n, bitS 0 n = 0 := fun n => by
      induction n with
      | zero => rfl
      | succ n ih => show bitS 0 n + _ = 0; rw [ih, Nat.zero_testBit]; rfl
    exact this _
theorem l_size0 {X : XS} {f : Nat → Int32} (h : Rl X f) (q : bitc (X 5 6) = 0) : xSize X = zF X := by
  have e := (l_eng0 h).mp q
  unfold xSize zF
  rw [if_neg (by rw [e]; decide)]
theorem l_size1 {X : XS} {f : Nat → Int32} (h : Rl X f) (q : ¬ bitc (X 5 6) = 0) : ¬ xSize X < 1 := by
  have e : xEng X = true := by
    cases z : xEng X with
    | true => rfl
    | false => exact absurd ((l_eng0 h).mpr z) q
  rw [xSize_e e, Int32.lt_iff_toInt_lt, show (1 : Int32).toInt = 1 by decide]
  obtain ⟨e1, e2, -⟩ := h.E.2.2.2 ((rEng h).1.mp e)
  rw [e1]
  omega
theorem l_bc {X : XS} {f : Nat → Int32} (h : Rl X f) : ¬ bitc (X 5 6) < 0 := by
  have hn := h.x.n20
  have hle := bitS_le (xE X) (xn X)
  rw [nEng h]
  exact nI_pos (by omega)
/-- the first of the longest names -/
def lA (X : XS) : Nat → Int32
  | 0 => -1005
  | i + 1 => if xMostN X (-1) i < xU X i then nI i else lA X i
theorem xMost_s (X : XS) {i : Nat} (hi : i < 2147483648) : xMostN X (-1) (i + 1) = imax (xMostN X (-1) i) (xU X i) := if_neg (nI_neg hi (by decide))
theorem lA_is {X : XS} : ∀ {i : Nat}, i ≤ 1000 → (∀ j, j < i → 2 ≤ (xU X j).toInt) → (i = 0 → lA X i = -1005) ∧ (0 < i → ∃ b, b < i ∧ lA X i = nI b ∧ xU X b = xMostN X (-1) i ∧ ∀ j, j < b → xU X j < xMostN X (-1) i)
  | 0, _, _ => ⟨fun _ => rfl, fun q => absurd q (Nat.lt_irrefl _)⟩
  | i + 1, hi, h => by
    obtain ⟨a1, a2⟩ := lA_is (X := X) (i := i) (by omega) (fun j hj => h j (by omega))
    refine ⟨fun q => absurd q (by omega), fun _ => ?_⟩
    rw [xMost_s X (by omega)]
    unfold imax
    have e : lA X (i + 1) = if xMostN X (-1) i < xU X i then nI i else lA X i := rfl
    rw [e]
    by_cases q : xMostN X (-1) i < xU X i
    · rw [if_pos q, if_pos q]
      refine ⟨i, Nat.lt_succ_self i, rfl, rfl, fun j hj => ?_⟩
      obtain ⟨b, b1, b2, b3, b4⟩ := a2 (by omega)
      have hle : ∀ t, t ≤ i → ∀ j, j < t → xU X j ≤ xMostN X (-1) t := fun t => by
        induction t with
        | zero => intro _ j hj; exact absurd hj (Nat.not_lt_zero _)
        | succ t ih =>
          intro ht j hj
          rw [xMost_s X (by omega)]
          unfold imax
          by_cases z : j = t
          · subst z
            split
            · exact Int32.le_refl _
            · rename_i y
              exact Int32.not_lt.mp y
          · have := ih (by omega) j (by omega)
            split
            · rename_i y
              exact Int32.le_of_lt (Int32.lt_of_le_of_lt this y)
            · exact this
      exact Int32.lt_of_le_of_lt (hle i (Nat.le_refl _) j hj) q
    · rw [if_neg q, if_neg q]
      rcases Nat.eq_zero_or_pos i with z | z
      · subst z
        exfalso
        have := h 0 (by omega)
        apply q
        rw [Int32.lt_iff_toInt_lt]
        show (0 : Int32).toInt < _
        rw [Int32.toInt_zero]
        omega
      · obtain ⟨b, b1, b2, b3, b4⟩ := a2 z
        exact ⟨b, by omega, b2, b3, b4⟩
theorem xU_in {X : XS} {f : Nat → Int32} (h : Rl X f) {k : Nat} (hk : k < xn X) : 2 ≤ (xU X k).toInt ∧ (xU X k).toInt ≤ 288 := by
  rw [rU h hk]
  exact mU_in h hk
theorem l_long {X : XS} {f : Nat → Int32} (h : Rl X f) : yLong X = lA X (xn X) := by
  have hn := h.x.n20
  obtain ⟨a1, a2⟩ := lA_is (X := X) (i := xn X) (by omega) (fun j hj => (xU_in h hj).1)
  unfold yLong
  rcases Nat.eq_zero_or_pos (xn X) with z | z
  · rw [a1 z, z]
    rfl
  · obtain ⟨b, b1, b2, b3, b4⟩ := a2 z
    have e : fstN (yLq X) (xn X) = b := by
      refine fstN_eq (Nat.le_of_lt b1) (fun j hj => ?_) (fun _ => ?_)
      · unfold yLq
        refine decide_eq_false (fun q => ?_)
        have := b4 j hj
        rw [q] at this
        exact Int32.lt_irrefl this
      · unfold yLq
        exact decide_eq_true b3
    rw [e, if_pos b1, b2]
theorem xMost_in {X : XS} {f : Nat → Int32} (h : Rl X f) (lo : Int32) : ∀ {i : Nat}, i ≤ xn X → 0 ≤ (xMostN X lo i).toInt ∧ (xMostN X lo i).toInt ≤ 288
  | 0, _ => by
    show 0 ≤ (0 : Int32).toInt ∧ (0 : Int32).toInt ≤ 288
    decide
  | i + 1, hi => by
    have ih := xMost_in h lo (i := i) (by omega)
    have hu := xU_in h (show i < xn X by omega)
    unfold xMostN imax
    split
    · exact ih
    · split
      · omega
      · exact ih
theorem imax_ti (a b : Int32) : (imax a b).toInt = if a.toInt < b.toInt then b.toInt else a.toInt := by
  unfold imax
  by_cases q : a < b
  · rw [if_pos q, if_pos (Int32.lt_iff_toInt_lt.mp q)]
  · rw [if_neg q, if_neg (fun z => q (Int32.lt_iff_toInt_lt.mpr z))]
theorem xMost_le {X : XS} {f : Nat → Int32} (h : Rl X f) (lo : Int32) : ∀ {i : Nat}, i ≤ xn X → (xMostN X lo i).toInt ≤ (xMostN X (-1) i).toInt
  | 0, _ => Int.le_refl _
  | i + 1, hi => by
    have hn := h.x.n20
    have ih := xMost_le h lo (i := i) (by omega)
    have e : xMostN X lo (i + 1) = if nI i = lo then xMostN X lo i else imax (xMostN X lo i) (xU X i) := rfl
    rw [xMost_s X (by omega), e, imax_ti]
    by_cases q : nI i = lo
    · rw [if_pos q]
      split <;> omega
    · rw [if_neg q, imax_ti]
      split <;> split <;> omega
theorem xRows_in {X : XS} {f : Nat → Int32} (h : Rl X f) {n : Nat} (hn : n ≤ 20) : (xRows X (nI n)).toInt = ((n : Int) + (X 5 5).toInt - 1) / (X 5 5).toInt := by
  obtain ⟨-, -, -, b3⟩ := s_in h
  have e := rows_ti h.S (n := nI n) (by rw [nI_toInt (by omega)]; omega)
  rw [rRows h.S (by rw [nI_toInt (by omega)]; omega), e, nI_toInt (by omega), h.S.1.2.2.2.1]
  rw [h.S.1.2.2.2.1] at b3
  exact Int.tdiv_eq_ediv_of_nonneg (by omega)
theorem rows_mono {c : Int} (hc : 1 ≤ c ∧ c ≤ 3) {a b : Int} (ha : 0 ≤ a) (hab : a ≤ b) (hb : b ≤ 20) : 0 ≤ (a + c - 1) / c ∧ (a + c - 1) / c ≤ (b + c - 1) / c ∧ (b + c - 1) / c ≤ 22 := by
  rcases (show c = 1 ∨ c = 2 ∨ c = 3 by omega) with rfl | rfl | rfl <;> omega
theorem xGrN_in (X : XS) (w h n u : Int32) : ∀ {i : Nat}, i ≤ 40 → ∃ s, s ≤ i ∧ xGrN X w h n u i = nI s
  | 0, _ => ⟨0, Nat.le_refl _, rfl⟩
  | i + 1, hi => by
    unfold xGrN
    split
    · exact ⟨i + 1, Nat.le_refl _, rfl⟩
    · obtain ⟨s, h1, h2⟩ := xGrN_in X w h n u (i := i) (by omega)
      exact ⟨s, by omega, h2⟩
theorem xGr_in (X : XS) (w h n u : Int32) : ∃ s, s ≤ 40 ∧ xGr X w h n u = nI s := by
  unfold xGr
  split
  · exact ⟨40, Nat.le_refl _, rfl⟩
  · exact xGrN_in X w h n u (Nat.le_refl _)
/-- where more names fit, fewer and shorter ones do -/
theorem xFt_mono {X : XS} {f : Nat → Int32} (h : Rl X f) {n n2 s : Nat} {u u2 : Int32} (hn : n2 ≤ n) (hn2 : n ≤ 20) (hs : s ≤ 40) (h0 : 0 ≤ u2.toInt) (hu : u2.toInt ≤ u.toInt) (h288 : u.toInt ≤ 288) (q : xFt X (X 5 2) (X 5 3) (nI n) u (nI s) = true) : xFt X (X 5 2) (X 5 3) (nI n2) u2 (nI s) = true := by
  obtain ⟨-, -, -, b3⟩ := s_in h
  have r1 := xRows_in h hn2
  have r2 := xRows_in h (show n2 ≤ 20 by omega)
  have m := rows_mono b3 (a := n2) (b := n) (by omega) (by omega) (by omega)
  unfold xFt at q ⊢
  simp only [Bool.and_eq_true, Bool.not_eq_true', decide_eq_false_iff_not, Int32.lt_iff_toInt_lt, Int.not_lt] at q ⊢
  have es : (nI s).toInt = s := nI_toInt (by omega)
  have t0 : ∀ v : Int32, 0 ≤ v.toInt → v.toInt ≤ 288 → (v * nI s).toInt = v.toInt * s := fun v v0 v1 => by
    have hb : v.toInt * (s : Int) ≤ 288 * 40 := Int.mul_le_mul v1 (by omega) (by omega) (by omega)
    have h0' : 0 ≤ v.toInt * (s : Int) := Int.mul_nonneg v0 (by omega)
    rw [Int32.toInt_mul, es, Int.bmod_eq_of_le (by omega) (by omega)]
  have t1 : ∀ v : Int32, 0 ≤ v.toInt → v.toInt ≤ 22 → (12 * v * nI s).toInt = 12 * v.toInt * s := fun v v0 v1 => by
    have e12 : (12 * v).toInt = 12 * v.toInt := by rw [Int32.toInt_mul, show (12 : Int32).toInt = 12 by decide, Int.bmod_eq_of_le (by omega) (by omega)]
    have hb : 12 * v.toInt * (s : Int) ≤ 264 * 40 := Int.mul_le_mul (by omega) (by omega) (by omega) (by omega)
    have h0' : 0 ≤ 12 * v.toInt * (s : Int) := Int.mul_nonneg (by omega) (by omega)
    rw [Int32.toInt_mul, e12, es, Int.bmod_eq_of_le (by omega) (by omega)]
  rw [t0 u (by omega) h288, t1 _ (by rw [r1]; omega) (by rw [r1]; omega)] at q
  rw [t0 u2 h0 (by omega), t1 _ (by rw [r2]; omega) (by rw [r2]; omega)]
  rw [r1] at q
  rw [r2]
  have g1 : u2.toInt * (s : Int) ≤ u.toInt * s := Int.mul_le_mul_of_nonneg_right hu (by omega)
  have g2 := Int.mul_le_mul_of_nonneg_right (show 12 * (((n2 : Int) + (X 5 5).toInt - 1) / (X 5 5).toInt) ≤ 12 * (((n : Int) + (X 5 5).toInt - 1) / (X 5 5).toInt) by omega) (show (0 : Int) ≤ (s : Int) by omega)
  exact ⟨Int.le_trans g1 q.1, Int.le_trans g2 q.2⟩
theorem xGrN_mono {X : XS} {w h n u n2 u2 : Int32} : ∀ {i : Nat}, i ≤ 40 → (∀ s, s ≤ i → xFt X w h n u (nI s) = true → xFt X w h n2 u2 (nI s) = true) → (xGrN X w h n u i).toInt ≤ (xGrN X w h n2 u2 i).toInt
  | 0, _, _ => Int.le_refl _
  | i + 1, hi, q => by
    have ih := xGrN_mono (X := X) (w := w) (h := h) (n := n) (u := u) (n2 := n2) (u2 := u2) (i := i) (by omega) (fun s hs => q s (by omega))
    unfold xGrN
    split
    · rename_i z
      rw [if_pos (q _ (Nat.le_refl _) z)]
      exact Int.le_refl _
    · obtain ⟨s, h1, h2⟩ := xGrN_in X w h n u (i := i) (by omega)
      split
      · rw [h2, nI_toInt (by omega), nI_toInt (by omega)]
        omega
      · exact ih
theorem l_without {X : XS} {f : Nat → Int32} (h : Rl X f) {k : Nat} (hk : k < xn X) : ¬ ySizeWo X (nI k) < zF X := by
  have hn := h.x.n20
  have e1 : nI (xn X) - 1 = nI (xn X - 1) := pk_sub (show 1 ≤ xn X by omega)
  unfold ySizeWo zF
  rw [xTk_in hn hk, if_neg (by decide), e1, Int32.lt_iff_toInt_lt, Int.not_lt]
  unfold xGr
  rw [if_neg (show ¬ nI (xn X) = 0 from fun q => by have := (nI_z (by omega)).mp q; omega)]
  by_cases z : nI (xn X - 1) = 0
  · rw [if_pos z]
    obtain ⟨s, h1, h2⟩ := xGrN_in X (X 5 2) (X 5 3) (nI (xn X)) (xMost X (-1)) (i := 40) (Nat.le_refl _)
    rw [h2, nI_toInt (by omega), show (40 : Int32).toInt = 40 by decide]
    omega
  · rw [if_neg z]
    exact xGrN_mono (Nat.le_refl _) (fun s hs q => xFt_mono h (Nat.sub_le _ _) hn hs (xMost_in h _ (Nat.le_refl _)).1 (xMost_le h _ (Nat.le_refl _)) (xMost_in h _ (Nat.le_refl _)).2 q)
theorem l_wo1 {X : XS} (h : okX X) : ySizeWo X (nI (xn X)) = -1001 := by
  have hn := h.n20
  unfold ySizeWo
  refine if_pos ?_
  unfold xTk
  have : nI (xn X) ≤ nI (xn X) := Int32.le_refl _
  rw [decide_eq_true this]
  simp
theorem l_tkO {X : XS} (h : okX X) : xTk (xn X) (nI (xn X)) = false := by
  unfold xTk
  have : nI (xn X) ≤ nI (xn X) := Int32.le_refl _
  rw [decide_eq_true this]
  simp
theorem l_least {X : XS} (x : Int32) : imax 300 x = if x < 300 then 300 else x := by
  unfold imax
  by_cases q : x < 300
  · rw [if_pos q, if_neg (fun z => Int32.lt_irrefl (Int32.lt_trans q z))]
  · rw [if_neg q]
    by_cases z : 300 < x
    · rw [if_pos z]
    · rw [if_neg z]
      exact Int32.le_antisymm (Int32.not_lt.mp q) (Int32.not_lt.mp z)
def lBig (X : XS) : Int32 := xMostN X (-1) (xn X) * 7 * X 5 5 + 2 * X 5 4
theorem l_big (X : XS) : yLeast X 7 = if xn X = 0 then (-1005) else if lBig X < 300 then 300 else lBig X := by
  have e : yLeast X 7 = if xn X = 0 then (-1005) else imax 300 (yLeastK X 7) := if_neg (by decide)
  have e2 : yLeastK X 7 = lBig X := by
    unfold yLeastK lBig xMost
    rw [Int32.add_comm, Int32.mul_comm (X 5 5), Int32.mul_assoc, Int32.mul_comm (X 5 5), ← Int32.mul_assoc]
  rw [e, e2, l_least (X := X)]
