/-! ===== what the law asks of each act ===== -/
theorem isPl_n {a b : Nat} (h1 : 300 ≤ a) (h2 : a ≤ 6000) (h3 : 100 ≤ b) (h4 : b ≤ 3000) : isPl (nI a) (nI b) = true := by
  unfold isPl
  simp only [Bool.and_eq_true, Bool.not_eq_true', decide_eq_false_iff_not, Int32.lt_iff_toInt_lt]
  rw [show (300 : Int32).toInt = 300 by decide, show (6000 : Int32).toInt = 6000 by decide, show (100 : Int32).toInt = 100 by decide, show (3000 : Int32).toInt = 3000 by decide, nI_toInt (by omega), nI_toInt (by omega)]
  omega
theorem f_recut {Y : Nat → XS} (h : Gd Y) {w hh : Int32} (hp : isPl w hh = true) : ∃ Y1, yRecut Y w hh = (bitc (Y 5 5 6), Y1) ∧ Sp Y Y1 ∧ bitc (Y1 5 5 6) = 0 ∧ Y1 5 5 9 = Y 5 5 9 + bitc (Y 5 5 6) ∧ Y1 5 5 2 = w := by
  have e : yRecut Y w hh = (bitc (Y 5 5 6), va_up (yRec Y) 5 (xRe (Y 5) w hh)) := if_pos hp
  have s := s_recut h w hh
  rw [e] at s
  exact ⟨_, e, s, (show bitc 0 = 0 by decide), rfl, rfl⟩
/-- what setMargin and setColumns answer in their range -/
def dS (Y : Nat → XS) (k : Nat) (v : Int32) : Int32 := if bitc (Y 5 5 6) ≤ 0 then (if Y 5 5 k = v then (-1005) else Y 5 5 k) else (-1004)
theorem eng_le {Y : Nat → XS} (h : Gd Y) : bitc (Y 5 5 6) ≤ 0 ↔ xEng (Y 5) = false := by
  obtain ⟨f, hr⟩ := h.r
  rw [← l_eng0 hr]
  have := l_bc hr
  constructor
  · intro q
    exact Int32.le_antisymm q (Int32.not_lt.mp this)
  · intro q
    rw [q]
    exact Int32.le_refl _
theorem f_set {Y : Nat → XS} (h : Gd Y) {lo hi v : Int32} {k : Nat} (hv : ¬ (v < lo ∨ ¬ v ≤ hi)) : (ySet Y lo hi k v).1 = dS Y k v := by
  have e := eng_le h
  unfold ySet dS
  rw [if_neg hv]
  by_cases q : xEng (Y 5) = true
  · rw [if_pos q, if_neg (fun z => by rw [e.mp z] at q; cases q)]
  · rw [if_neg q, if_pos (e.mpr (bnot q))]
    split <;> rfl
theorem f_mar {Y : Nat → XS} (h : Gd Y) {v : Int32} (hv : ¬ (v < 0 ∨ ¬ v ≤ 100)) : ∃ Y1, ySet Y 0 100 4 v = (dS Y 4 v, Y1) ∧ Sp Y Y1 := ⟨(ySet Y 0 100 4 v).2, by rw [← f_set h hv], s_mar h v⟩
theorem f_col {Y : Nat → XS} (h : Gd Y) {v : Int32} (hv : ¬ (v < 1 ∨ ¬ v ≤ 3)) : ∃ Y1, ySet Y 1 3 5 v = (dS Y 5 v, Y1) ∧ Sp Y Y1 := ⟨(ySet Y 1 3 5 v).2, by rw [← f_set h hv], s_col h v⟩
theorem rg_n {a b n : Nat} (h1 : a ≤ n) (h2 : n ≤ b) (hb : b < 2147483648) : ¬ (nI n < nI a ∨ ¬ nI n ≤ nI b) := by
  rintro (q | q)
  · rw [nI_ltI (by omega) (by omega)] at q
    omega
  · rw [nI_leI (by omega) (by omega)] at q
    omega
/-! adjust -/
theorem i2c_nn {n : Nat} (h : n < 65536) : i2c (nI n) = nI n := i2c_ok (chOk_n h)
theorem ok_n {n : Nat} (h : n = 46 ∨ (65 ≤ n ∧ n ≤ 69)) : xOk (nI n) = true := by
  rcases (show n = 46 ∨ n = 65 ∨ n = 66 ∨ n = 67 ∨ n = 68 ∨ n = 69 by omega) with rfl | rfl | rfl | rfl | rfl | rfl <;> decide
theorem ad_n {X : XS} {m n : Nat} (h : m = 46 ∨ (65 ≤ m ∧ m ≤ 69)) (h2 : n = 46 ∨ (65 ≤ n ∧ n ≤ 69)) : (if (xOk (nI m) && xOk (nI n)) = true then xAdj X (nI m) (nI n) else (-1001)) = xAdj X (nI m) (nI n) := adB (ok_n h) (ok_n h2)
theorem b2i_or (a b : Bool) : b2i a ||| b2i b = b2i (a || b) := by cases a <;> cases b <;> decide
theorem b2i_1' {b : Bool} (h : b2i b = 1) : b = true := by cases b with | true => rfl | false => exact absurd h (by decide)
theorem b2i_n1 {b : Bool} (h : ¬ b2i b = 1) : b = false := by cases b with | false => rfl | true => exact absurd rfl h
def hpN (X : XS) (a b : Int32) (k : Nat) : Nat → Bool
  | 0 => false
  | x + 1 => hpN X a b k x || xCq X a b k x
def ckN (X : XS) (a b : Int32) : Nat → Bool
  | 0 => false
  | k + 1 => ckN X a b k || xCk X a b k
theorem hpN_f {X : XS} {a b : Int32} {k : Nat} : ∀ {n : Nat}, hpN X a b k n = decide (fstN (xCq X a b k) n < n)
  | 0 => rfl
  | n + 1 => by
    have ih := hpN_f (X := X) (a := a) (b := b) (k := k) (n := n)
    have hle := fstN_le (xCq X a b k) n
    show (hpN X a b k n || xCq X a b k n) = decide ((if fstN (xCq X a b k) n < n then fstN (xCq X a b k) n else if xCq X a b k n = true then n else n + 1) < n + 1)
    rw [ih]
    by_cases q : fstN (xCq X a b k) n < n
    · rw [if_pos q, decide_eq_true q, decide_eq_true (by omega), Bool.true_or]
    · rw [if_neg q, decide_eq_false q, Bool.false_or]
      by_cases z : xCq X a b k n = true
      · rw [if_pos z, z, decide_eq_true (by omega)]
      · rw [if_neg z, bnot z, decide_eq_false (by omega)]
theorem ckN_f {X : XS} {a b : Int32} : ∀ {n : Nat}, ckN X a b n = decide (fstN (xCk X a b) n < n)
  | 0 => rfl
  | n + 1 => by
    have ih := ckN_f (X := X) (a := a) (b := b) (n := n)
    show (ckN X a b n || xCk X a b n) = decide ((if fstN (xCk X a b) n < n then fstN (xCk X a b) n else if xCk X a b n = true then n else n + 1) < n + 1)
    rw [ih]
    by_cases q : fstN (xCk X a b) n < n
    · rw [if_pos q, decide_eq_true q, decide_eq_true (by omega), Bool.true_or]
    · rw [if_neg q, decide_eq_false q, Bool.false_or]
      by_cases z : xCk X a b n = true
      · rw [if_pos z, z, decide_eq_true (by omega)]
      · rw [if_neg z, bnot z, decide_eq_false (by omega)]
theorem ck_n {X : XS} {a b : Int32} {k : Nat} (h : xEb X k = false) (x : Nat) (hx : x = 0 ∨ xEb X k = true) : b2i (ckN X a b (k + 1)) = b2i (ckN X a b k || hpN X a b k x) := by
  have hx0 : x = 0 := by
    rcases hx with q | q
    · exact q
    · rw [h] at q; cases q
  subst hx0
  congr 1
  show (ckN X a b k || xCk X a b k) = (ckN X a b k || false)
  unfold xCk
  rw [h, Bool.false_and]
theorem ck_y {X : XS} {a b : Int32} {k x : Nat} (h : xEb X k = true) (hx : x = xl X k - 1) : b2i (ckN X a b (k + 1)) = b2i (ckN X a b k || hpN X a b k x) := by
  congr 1
  show (ckN X a b k || xCk X a b k) = _
  unfold xCk xHp
  rw [h, Bool.true_and, hx, hpN_f]
theorem ck_cut (X : XS) (a b : Int32) : ckN X a b (xn X) = xCut X a b := ckN_f
/-- what adjust answers where both signs are known and the number is in its range -/
def dA (Y : Nat → XS) (a b v : Int32) : Int32 := if xCut (Y 5) a b = true then (-1004) else if xAdj (Y 5) a b = v then (-1005) else if xAdj (Y 5) a b = 0 ∧ 16 ≤ xp (Y 5) then (-1003) else xAdj (Y 5) a b
theorem xAdj_b {X : XS} {f : Nat → Int32} (h : Rl X f) (a b : Int32) : -3 ≤ (xAdj X a b).toInt ∧ (xAdj X a b).toInt ≤ 3 := by
  rw [rAdj h.P]
  exact mAdj_b h.P a b
theorem f_adj {Y : Nat → XS} (h : Gd Y) {a b v : Int32} (ha : xOk a = true) (hb : xOk b = true) (hv : ¬ (v < (-3) ∨ ¬ v ≤ 3)) : ∃ Y1, yAdj Y a b v = (dA Y a b v, Y1) ∧ Sp Y Y1 ∧ xAdj (Y1 5) a b = if dA Y a b v < -1000 then xAdj (Y 5) a b else v := by
  obtain ⟨f, hr⟩ := h.r
  have hs := s_adj h a b v
  have ok : ¬ (xOk a && xOk b) = false := by rw [ha, hb]; decide
  have hb9 := xAdj_b hr a b
  have n1000 : (-1000 : Int32).toInt = -1000 := by decide
  refine ⟨(yAdj Y a b v).2, ?_, hs, ?_⟩
  · have : (yAdj Y a b v).1 = dA Y a b v := by
      unfold yAdj dA
      rw [if_neg ok, if_neg hv]
      split
      · rfl
      · split
        · rfl
        · split <;> rfl
    rw [← this]
  · unfold yAdj dA
    rw [if_neg ok, if_neg hv]
    by_cases q3 : xCut (Y 5) a b = true
    · rw [if_pos q3, if_pos q3, if_pos (by decide)]
    · rw [if_neg q3, if_neg q3]
      by_cases q4 : xAdj (Y 5) a b = v
      · rw [if_pos q4, if_pos q4, if_pos (by decide)]
      · rw [if_neg q4, if_neg q4]
        by_cases q5 : xAdj (Y 5) a b = 0 ∧ 16 ≤ xp (Y 5)
        · rw [if_pos q5, if_pos q5, if_pos (by decide)]
        · rw [if_neg q5, if_neg q5, if_neg (by rw [Int32.lt_iff_toInt_lt, n1000]; omega)]
          show xAdj (xPut (Y 5) a b v) a b = v
          refine (put_all h.v.P ha hb h.ok.p16 ?_).2.1
          by_cases z : xAdj (Y 5) a b = 0
          · exact Or.inr (Or.inr (Nat.lt_of_not_le (fun y => q5 ⟨z, y⟩)))
          · exact Or.inl (xAdj_in z)
theorem dA_1 {Y : Nat → XS} {a b v : Int32} (h : xCut (Y 5) a b = true) : -1004 = dA Y a b v := (if_pos h).symm
theorem dA_2 {Y : Nat → XS} {a b v : Int32} (h : xCut (Y 5) a b = false) (h2 : xAdj (Y 5) a b = v) : -1005 = dA Y a b v := by
  unfold dA
  rw [if_neg (by rw [h]; decide), if_pos h2]
theorem dA_3 {Y : Nat → XS} {a b v : Int32} (h : xCut (Y 5) a b = false) (h2 : ¬ xAdj (Y 5) a b = v) (h3 : xAdj (Y 5) a b = 0) (h4 : xp (Y 5) = 16) : -1003 = dA Y a b v := by
  unfold dA
  rw [if_neg (by rw [h]; decide), if_neg h2, if_pos ⟨h3, by omega⟩]
theorem dA_4 {Y : Nat → XS} {a b v : Int32} (hp : xp (Y 5) ≤ 16) (h : xCut (Y 5) a b = false) (h2 : ¬ xAdj (Y 5) a b = v) (h4 : ¬ xp (Y 5) = 16) : xAdj (Y 5) a b = dA Y a b v := by
  unfold dA
  rw [if_neg (by rw [h]; decide), if_neg h2, if_neg (by omega)]
theorem dA_5 {Y : Nat → XS} {a b v : Int32} (h : xCut (Y 5) a b = false) (h2 : ¬ xAdj (Y 5) a b = v) (h3 : ¬ xAdj (Y 5) a b = 0) : xAdj (Y 5) a b = dA Y a b v := by
  unfold dA
  rw [if_neg (by rw [h]; decide), if_neg h2, if_neg (fun q => h3 q.1)]
theorem adj_4 {Y : Nat → XS} {a b : Int32} (ha : xOk a = true) (hb : xOk b = true) : yAdj Y a b 4 = (-1002, Y) := by
  unfold yAdj
  rw [if_neg (by rw [ha, hb]; decide), if_pos (by decide)]
theorem adj_a {Y : Nat → XS} (b : Int32) : yAdj Y 97 b 0 = (-1001, Y) := if_pos (by rw [show xOk 97 = false by decide]; rfl)
theorem by_in (v : Int32) : ¬ (nI (lowN v 7) - 3 < (-3) ∨ ¬ nI (lowN v 7) - 3 ≤ 3) := by
  have := lowN_lt v (m := 7) (by decide)
  generalize lowN v 7 = n at *
  rcases (show n = 0 ∨ n = 1 ∨ n = 2 ∨ n = 3 ∨ n = 4 ∨ n = 5 ∨ n = 6 by omega) with rfl | rfl | rfl | rfl | rfl | rfl | rfl <;> decide
/-! names taken out, swapped, engraved -/
def anyE (X : XS) (k : Nat) : Nat → Bool
  | 0 => false
  | t + 1 => anyE X k t || xEb X (k + t)
theorem anyE_t {X : XS} {k : Nat} : ∀ {n : Nat}, anyE X k n = true ↔ ∃ t, t < n ∧ xEb X (k + t) = true
  | 0 => ⟨(fun q => by cases q), fun ⟨t, h, _⟩ => absurd h (Nat.not_lt_zero _)⟩
  | n + 1 => by
    have ih := anyE_t (X := X) (k := k) (n := n)
    show (anyE X k n || xEb X (k + n)) = true ↔ _
    rw [Bool.or_eq_true, ih]
    constructor
    · rintro (⟨t, h1, h2⟩ | q)
      · exact ⟨t, by omega, h2⟩
      · exact ⟨n, by omega, q⟩
    · rintro ⟨t, h1, h2⟩
      by_cases z : t = n
      · subst z
        exact Or.inr h2
      · exact Or.inl ⟨t, by omega, h2⟩
theorem anyE_f {X : XS} {f : Nat → Int32} (h : Rl X f) {k : Nat} (hk : k < xn X) : anyE X k (xn X - k) = xEf X k := by
  cases q : xEf X k with
  | false =>
    rw [Bool.eq_false_iff]
    intro z
    obtain ⟨t, h1, h2⟩ := anyE_t.mp z
    rw [xEb_f h hk q (show k + t < xn X by omega) (by omega)] at h2
    cases h2
  | true =>
    refine anyE_t.mpr ?_
    rw [xEf_e h hk] at q
    have hge : 2 ^ k ≤ xE X := by
      simp only [Bool.not_eq_true', decide_eq_false_iff_not] at q
      omega
    obtain ⟨t, ht1, ht2⟩ := Nat.exists_ge_and_testBit_of_ge_two_pow hge
    have htn : t < xn X := by
      rcases Nat.lt_or_ge t (xn X) with w | w
      · exact w
      · rw [Nat.testBit_lt_two_pow (Nat.lt_of_lt_of_le h.E.2.1 (Nat.pow_le_pow_right (by decide) w))] at ht2
        cases ht2
    refine ⟨t - k, by omega, ?_⟩
    rw [show k + (t - k) = t by omega, xEb_t h htn]
    exact ht2
def dR (X : XS) (k : Nat) : Int32 := if xEf X k = true then (-1004) else nI (xn X - 1)
theorem f_remove {Y : Nat → XS} (h : Gd Y) {k : Nat} (hk : k < xn (Y 5)) : ∃ Y1, yRemove Y (nI k) = (dR (Y 5) k, Y1) ∧ Sp Y Y1 ∧ yRemove Y1 (nI (xn (Y 5))) = (-1001, Y1) := by
  have hn := h.ok.n20
  have hs := s_remove h hk
  have e : yRemove Y (nI k) = if xEf (Y 5) k = true then ((-1004), Y) else (nI (xn (Y 5) - 1), va_up (yRec Y) 5 (xTo (Y 5) k)) := by
    unfold yRemove
    rw [xTk_in hn hk, nI_clamp (show k < 2147483648 by omega), if_neg (by decide)]
  refine ⟨(yRemove Y (nI k)).2, ?_, hs, ?_⟩
  · rw [e]
    unfold dR
    split <;> rfl
  · refine if_pos ?_
    have key : xn ((yRemove Y (nI k)).2 5) ≤ xn (Y 5) := by
      rw [e]
      split
      · exact Nat.le_refl _
      · show (nI (xn (Y 5) - 1)).toNatClampNeg ≤ _
        rw [nI_clamp (by omega)]
        omega
    unfold xTk
    have : nI (xn ((yRemove Y (nI k)).2 5)) ≤ nI (xn (Y 5)) := by
      rw [nI_leI (by omega) (by omega)]
      exact key
    rw [decide_eq_true this]
    simp
theorem f_swap {Y : Nat → XS} (h : Gd Y) {i j : Nat} (hi : i < xn (Y 5)) (hj : j < xn (Y 5)) : ∃ r Y1, ySwap Y (nI i) (nI j) = (r, Y1) ∧ Sp Y Y1 ∧ ((xEb (Y 5) i = true ∨ xEb (Y 5) j = true) → r = -1004) ∧ (xEb (Y 5) i = false → xEb (Y 5) j = false → i = j → r = -1005) ∧ (xEb (Y 5) i = false → xEb (Y 5) j = false → ¬ i = j → r = xSize (Y1 5) ∧ xn (Y1 5) = xn (Y 5) ∧ xU (Y1 5) j = xU (Y 5) i) := by
  have hn := h.ok.n20
  obtain ⟨f, hr⟩ := h.r
  have hs := s_swap h hi hj
  have e : ySwap Y (nI i) (nI j) = ySwapK Y i j := by
    unfold ySwap
    rw [xTk_in hn hi, xTk_in hn hj, nI_clamp (show i < 2147483648 by omega), nI_clamp (show j < 2147483648 by omega), if_neg (by decide)]
  refine ⟨(ySwap Y (nI i) (nI j)).1, (ySwap Y (nI i) (nI j)).2, rfl, hs, ?_, ?_, ?_⟩
  · intro q
    rw [e, ySwapK, if_pos q]
  · intro q1 q2 q3
    rw [e, ySwapK, if_neg (by rw [q1, q2]; decide), if_pos q3]
  · intro q1 q2 q3
    rw [e, ySwapK, if_neg (by rw [q1, q2]; decide), if_neg q3]
    refine ⟨rfl, rfl, ?_⟩
    show xU (xEx (Y 5) i j) j = xU (Y 5) i
    have ej : sgS i j j = i := by
      unfold sgS
      rw [if_neg (fun z => q3 z.symm), if_pos rfl]
    refine xU_cg (hr.x.l16 (show i < 20 by omega)) ?_ (fun t ht => ?_) (fun t _ => xAdj_cg rfl rfl rfl rfl _ _)
    · rw [xl_ex _ q3, ej]
    · rw [xSg_ex _ q3 _ ht, ej]
def dE (X : XS) (k : Nat) : Int32 := if xFits X k (xSize X) = false then (-1004) else if xEb X k = true then (-1005) else yName X (nI k) 5
theorem fits_z {X : XS} {k : Nat} {z : Int32} (h : xFits X k z = true) : ¬ z = 0 := by
  intro q
  unfold xFits at h
  rw [q, decide_eq_true (Int32.le_refl 0)] at h
  cases h
theorem bitc_me {X : XS} {f f2 : Nat → Int32} (hr : Rl X f) {k : Nat} (hk : k < xn X) {z : Int32} (hr2 : Rl (xMe X (1 <<< (nI k &&& 31)) z) f2) : xSize (xMe X (1 <<< (nI k &&& 31)) z) = z := by
  have e := xEng_of hr2 (k := k) hk (nEb_1 hr hk hr2)
  rw [xSize_e e]
  exact (xMe_6 X _ z).2
theorem beg_me (X : XS) (s z : Int32) (k : Nat) (w : Int32) : xBeg (xMe X s z) k w = xBeg X k w := rfl
theorem f_eng {Y : Nat → XS} (h : Gd Y) {k : Nat} (hk : k < xn (Y 5)) : ∃ Y1, yEng Y (nI k) = (dE (Y 5) k, Y1) ∧ Sp Y Y1 ∧ xSize (Y1 5) = xSize (Y 5) ∧ xn (Y1 5) = xn (Y 5) ∧ (xFits (Y 5) k (xSize (Y 5)) = true → xEb (Y1 5) k = true ∧ yName (Y1 5) (nI k) 5 = yName (Y 5) (nI k) 5) := by
  have hn := h.ok.n20
  obtain ⟨f, hr⟩ := h.r
  have hs := s_eng h hk
  have e : yEng Y (nI k) = yEngK Y k := by
    unfold yEng
    rw [xTk_in hn hk, nI_clamp (show k < 2147483648 by omega), if_neg (by decide)]
  rw [e] at hs ⊢
  unfold yEngK at hs ⊢
  unfold dE
  by_cases q : xFits (Y 5) k (xSize (Y 5)) = false
  · rw [if_pos q] at hs
    rw [if_pos q, if_pos q]
    exact ⟨Y, rfl, hs, rfl, rfl, fun z => by rw [q] at z; cases z⟩
  · rw [if_neg q] at hs
    rw [if_neg q, if_neg q]
    by_cases q2 : xEb (Y 5) k = true
    · rw [if_pos q2] at hs
      rw [if_pos q2, if_pos q2]
      exact ⟨Y, rfl, hs, rfl, rfl, fun _ => ⟨q2, rfl⟩⟩
    · rw [if_neg q2] at hs
      rw [if_neg q2, if_neg q2]
      have hz : ¬ xSize (Y 5) = 0 := fits_z (by cases z : xFits (Y 5) k (xSize (Y 5)) with | true => rfl | false => exact absurd z q)
      obtain ⟨f2, hr2⟩ := hs.1.r
      have hr2 : Rl (xMe (Y 5) (1 <<< (nI k &&& 31)) (xSize (Y 5))) f2 := hr2
      have es := bitc_me hr hk hr2
      refine ⟨_, ?_, hs, es, rfl, fun _ => ⟨nEb_1 hr hk hr2, ?_⟩⟩
      · rw [nm5 h.ok hk, if_neg hz]
        rfl
      · rw [nm5 hs.1.ok hk, nm5 h.ok hk, if_neg hz]
        show (if xSize (xMe (Y 5) (1 <<< (nI k &&& 31)) (xSize (Y 5))) = 0 then (-1005) else xBeg (xMe (Y 5) (1 <<< (nI k &&& 31)) (xSize (Y 5))) k (xSize (xMe (Y 5) (1 <<< (nI k &&& 31)) (xSize (Y 5))))) = _
        rw [es, if_neg hz]
        rfl
def dG (X : XS) : Int32 := if cF X (xSize X) (xn X) = 0 then (-1005) else nI (cF X (xSize X) (xn X))
theorem f_engA {Y : Nat → XS} (h : Gd Y) : ∃ Y1, yEngA Y = (dG (Y 5), Y1) ∧ Sp Y Y1 ∧ bitc (Y1 5 5 6) = bitc (Y 5 5 6) + nI (cF (Y 5) (xSize (Y 5)) (xn (Y 5))) := by
  obtain ⟨f, hr⟩ := h.r
  have hs := s_engA h
  have h0 := cF_0 hr (xSize (Y 5))
  unfold yEngA at hs ⊢
  unfold dG
  by_cases q : xEs (Y 5) (xSize (Y 5)) (xn (Y 5)) = 0
  · rw [if_pos q] at hs
    rw [if_pos q, if_pos (h0.mp q)]
    exact ⟨Y, rfl, hs, by rw [h0.mp q]; exact (Int32.add_zero _).symm⟩
  · rw [if_neg q] at hs
    rw [if_neg q, if_neg (fun z => q (h0.mpr z)), nEs hr]
    obtain ⟨f2, hr2⟩ := hs.1.r
    exact ⟨_, rfl, hs, nEngA hr hr2⟩
