/-! ===== the text that the law types ===== -/
def TS (Y Yv : Nat → XS) (m sg : Nat) (bl : Bool) : Prop := Gd Yv ∧ (∀ i, i < 7 → Yv i = Y i) ∧ (yq Yv = yq Y ∧ yo Yv = yo Y) ∧ (∀ j, j < yt Yv → xBad Yv j = false) ∧ xNmN Yv (yt Yv) = m ∧ (xSc Yv (yt Yv)).1 = sg ∧ (xSc Yv (yt Yv)).2 = bl
theorem xSc_pre {Y Z : Nat → XS} : ∀ {i : Nat}, (∀ j, j < i → Z 7 0 j = Y 7 0 j) → xSc Z i = xSc Y i
  | 0, _ => rfl
  | i + 1, h => by
    rw [xSc_s, xSc_s, h i (Nat.lt_succ_self i), xSc_pre (fun j hj => h j (by omega))]
theorem xNmN_pre {Y Z : Nat → XS} : ∀ {i : Nat}, (∀ j, j < i → Z 7 0 j = Y 7 0 j) → xNmN Z i = xNmN Y i
  | 0, _ => rfl
  | i + 1, h => by
    unfold xNmN
    rw [h i (Nat.lt_succ_self i), xNmN_pre (fun j hj => h j (by omega))]
theorem xBad_pre {Y Z : Nat → XS} {i : Nat} (h : ∀ j, j < i + 1 → Z 7 0 j = Y 7 0 j) : xBad Z i = xBad Y i := by
  unfold xBad
  rw [h i (Nat.lt_succ_self i), xSc_pre (fun j hj => h j (by omega))]
theorem TS_0 {Y : Nat → XS} (h : Gd Y) : TS Y (yClear Y).2 1 0 false ∧ yt (yClear Y).2 = 0 := by
  obtain ⟨h1, h2, h3⟩ := g_clear h
  have e : yt (yClear Y).2 = 0 := by
    show ((0 : Int32)).toNatClampNeg = 0
    decide
  refine ⟨⟨h1, fun i hi => va_up_ne _ _ (by omega), ⟨h2, h3⟩, fun j hj => ?_, ?_, ?_, ?_⟩, e⟩
  · rw [e] at hj
    exact absurd hj (Nat.not_lt_zero j)
  · rw [e]; rfl
  · rw [e]; rfl
  · rw [e]; rfl
theorem TS_ty {Y Yv : Nat → XS} {m sg : Nat} {bl : Bool} (h : TS Y Yv m sg bl) {c : Int32} (hc : chOk c) (hal : xAl c sg bl = true) (hl : yt Yv < 60) : TS Y (yTy Yv c) (if c = 59 then m + 1 else m) (if c = 59 then 0 else sg + 1) (xL c) ∧ yt (yTy Yv c) = yt Yv + 1 ∧ yType Yv c = (nI (yt Yv + 1), yTy Yv c) := by
  obtain ⟨g, hs, ⟨q1, q2⟩, hb, hm, h1, h2⟩ := h
  obtain ⟨g1, g2, g3⟩ := g_type g hc hl
  have et : yt (yTy Yv c) = yt Yv + 1 := by
    show (nI (yt Yv + 1)).toNatClampNeg = _
    exact nI_clamp (by omega)
  have e0 : ∀ j, j < yt Yv → yTy Yv c 7 0 j = Yv 7 0 j := fun j hj => by
    show upd (Yv 7 0) (yt Yv) c j = _
    exact upd_n (by omega)
  have ec : yTy Yv c 7 0 (yt Yv) = c := by
    show upd (Yv 7 0) (yt Yv) c (yt Yv) = _
    exact if_pos rfl
  have esc := xSc_pre (Y := Yv) (Z := yTy Yv c) e0
  refine ⟨⟨g1, fun i hi => ?_, ⟨g2.trans q1, g3.trans q2⟩, fun j hj => ?_, ?_, ?_, ?_⟩, et, if_neg (by omega)⟩
  · show va_up Yv 7 _ i = Y i
    rw [va_up_ne _ _ (by omega)]
    exact hs i hi
  · rw [et] at hj
    by_cases z : j = yt Yv
    · subst z
      unfold xBad
      rw [ec, esc, h1, h2, hal]
      rfl
    · rw [xBad_pre (Y := Yv) (fun i hi => e0 i (by omega))]
      exact hb j (by omega)
  · rw [et]
    unfold xNmN
    rw [ec, xNmN_pre (Y := Yv) e0, hm]
  · rw [et, xSc_s, ec, esc, h1]
  · rw [et, xSc_s, ec]
def TN (Y Yv : Nat → XS) (k : Nat) : Prop := TS Y Yv (k + 1) 0 false ∧ yt Yv ≤ 17 * k + 1
def TI (Y Yv : Nat → XS) (k x sn : Nat) : Prop := ∃ sg bl, TS Y Yv (k + 1) sg bl ∧ sg ≤ 2 * x ∧ yt Yv ≤ 17 * k + 1 + 2 * x ∧ (x = sn → bl = true)
def TL (Y Yv : Nat → XS) (k x : Nat) : Prop := ∃ sg, TS Y Yv (k + 1) sg true ∧ sg ≤ 2 * x + 1 ∧ yt Yv ≤ 17 * k + 1 + (2 * x + 1)
def TO (Y Yv : Nat → XS) (k : Nat) : Prop := (k = 0 → TS Y Yv 1 0 false) ∧ (0 < k → ∃ sg, TS Y Yv k sg true) ∧ yt Yv ≤ 17 * k
theorem to_0 {Y : Nat → XS} (h : Gd Y) : TO Y (yClear Y).2 0 := by
  obtain ⟨a1, a2⟩ := TS_0 h
  exact ⟨fun _ => a1, fun q => absurd q (Nat.lt_irrefl _), by rw [a2]; exact Nat.zero_le _⟩
theorem to_g {Y Yv : Nat → XS} {k : Nat} (h : TO Y Yv k) : Gd Yv := by
  rcases Nat.eq_zero_or_pos k with z | z
  · exact (h.1 z).1
  · obtain ⟨sg, hs⟩ := h.2.1 z
    exact hs.1
theorem tn_0 {Y Yv : Nat → XS} {k : Nat} (h : TO Y Yv k) (hk : k = 0) : TN Y Yv k := by
  have h1 := h.1 hk
  have h3 := h.2.2
  subst hk
  exact ⟨h1, by omega⟩
theorem t_sep {Y Yv : Nat → XS} {k : Nat} (h : TO Y Yv k) (hk : 0 < k) (hk3 : k < 3) : ∃ r, yType Yv 59 = (r, yTy Yv 59) ∧ TN Y (yTy Yv 59) k := by
  obtain ⟨sg, hs⟩ := h.2.1 hk
  have h3 := h.2.2
  obtain ⟨a1, a2, a3⟩ := TS_ty hs (c := 59) (chOk_n (q := 59) (by decide)) (by unfold xAl; rw [if_pos rfl]) (by omega)
  rw [if_pos rfl, if_pos rfl] at a1
  exact ⟨_, a3, a1, by rw [a2]; omega⟩
theorem ti_0 {Y Yv : Nat → XS} {k sn : Nat} (h : TN Y Yv k) (hs : 1 ≤ sn) : TI Y Yv k 0 sn := ⟨0, false, h.1, Nat.le_refl _, h.2, fun q => by omega⟩
theorem ti_g {Y Yv : Nat → XS} {k x sn : Nat} (h : TI Y Yv k x sn) : Gd Yv := h.choose_spec.choose_spec.1.1
theorem tl_g {Y Yv : Nat → XS} {k x : Nat} (h : TL Y Yv k x) : Gd Yv := h.choose_spec.1.1
theorem let_L {n : Nat} (h1 : 65 ≤ n) (h2 : n ≤ 69) : xL (nI n) = true ∧ ¬ nI n = 59 := by
  rcases (show n = 65 ∨ n = 66 ∨ n = 67 ∨ n = 68 ∨ n = 69 by omega) with rfl | rfl | rfl | rfl | rfl <;> decide
theorem t_let {Y Yv : Nat → XS} {k x sn n : Nat} (h : TI Y Yv k x sn) (hx : x < sn) (hs : sn ≤ 8) (hk : k < 3) (h1 : 65 ≤ n) (h2 : n ≤ 69) : ∃ r, yType Yv (nI n) = (r, yTy Yv (nI n)) ∧ TL Y (yTy Yv (nI n)) k x := by
  obtain ⟨sg, bl, ht, b1, b2, b3⟩ := h
  obtain ⟨l1, l2⟩ := let_L h1 h2
  obtain ⟨a1, a2, a3⟩ := TS_ty ht (c := nI n) (chOk_n (by omega)) (by unfold xAl; rw [if_neg l2, if_neg (by omega), l1, Bool.true_or]) (by omega)
  rw [if_neg l2, if_neg l2, l1] at a1
  exact ⟨_, a3, sg + 1, a1, by omega, by rw [a2]; omega⟩
theorem tl_i {Y Yv : Nat → XS} {k x sn : Nat} (h : TL Y Yv k x) : TI Y Yv k (x + 1) sn := by
  obtain ⟨sg, ht, b1, b2⟩ := h
  exact ⟨sg, true, ht, by omega, by omega, fun _ => rfl⟩
theorem t_mark {Y Yv : Nat → XS} {k x sn mk : Nat} (h : TL Y Yv k x) (hx : x + 1 < sn) (hs : sn ≤ 8) (hk : k < 3) (hm : mk = 46 ∨ mk = 45) : ∃ r, yType Yv (nI mk) = (r, yTy Yv (nI mk)) ∧ TI Y (yTy Yv (nI mk)) k (x + 1) sn := by
  obtain ⟨sg, ht, b1, b2⟩ := h
  have m1 : xMk (nI mk) = true ∧ ¬ nI mk = 59 := by rcases hm with rfl | rfl <;> decide
  obtain ⟨a1, a2, a3⟩ := TS_ty ht (c := nI mk) (chOk_n (by omega)) (by unfold xAl; rw [if_neg m1.2, if_neg (by omega), m1.1, Bool.true_and, Bool.or_true]) (by omega)
  rw [if_neg m1.2, if_neg m1.2] at a1
  exact ⟨_, a3, sg + 1, _, a1, by omega, by rw [a2]; omega, fun q => by omega⟩
theorem to_s {Y Yv : Nat → XS} {k x sn : Nat} (h : TI Y Yv k x sn) (e : x = sn) (hs : sn ≤ 8) : TO Y Yv (k + 1) := by
  obtain ⟨sg, bl, ht, b1, b2, b3⟩ := h
  rw [b3 e] at ht
  exact ⟨fun q => absurd q (Nat.succ_ne_zero k), fun _ => ⟨sg, ht⟩, by omega⟩
theorem and7 (v : Int32) : ∃ s, s ≤ 7 ∧ v &&& 7 = nI s := by
  refine ⟨v.toUInt32.toNat &&& 7, Nat.and_le_right, ?_⟩
  have h := bnd v.toUInt32.toNat 7
  rw [← of32 v] at h
  exact h
theorem let_n (v : Int32) : ∃ cl, 65 ≤ cl ∧ cl ≤ 69 ∧ i2c (nI (65 + lowN v 5)) = nI cl := by
  have := lowN_lt v (m := 5) (by decide)
  exact ⟨65 + lowN v 5, by omega, by omega, i2c_nn (by omega)⟩
def dT (X : XS) (n : Nat) : Int32 := if xn X + n ≤ 20 then nI n else -1003
theorem f_read {Y Y2 : Nat → XS} {n : Nat} (hn : 0 < n) (h : TO Y Y2 n) : ∃ Y3, yReadN Y2 = (dT (Y 5) n, Y3) ∧ Sp Y Y3 := by
  obtain ⟨sg, g, hs, ⟨q1, q2⟩, hb, hm, h1, h2⟩ := h.2.1 hn
  have e5 : Y2 5 = Y 5 := hs 5 (by decide)
  have hf : xFault Y2 = (-1) := by
    have e : xFl Y2 = yt Y2 := fstN_eq (Nat.le_refl _) hb (fun q => absurd q (Nat.lt_irrefl _))
    unfold xFault
    rw [e, if_neg (Nat.lt_irrefl _), if_pos h2]
  obtain ⟨s1, s2⟩ := s_read g
  refine ⟨(yReadN Y2).2, ?_, s1, ?_⟩
  · have : (yReadN Y2).1 = dT (Y 5) n := by
      unfold dT
      by_cases q : xn (Y2 5) + xNmN Y2 (yt Y2) ≤ 20
      · rw [yReadN_go hf q]
        rw [e5, hm] at q
        rw [if_pos q]
        exact congrArg nI hm
      · rw [yReadN_n hf q]
        rw [e5, hm] at q
        rw [if_neg q]
    rw [← this]
  · rw [e5, q1] at s2
    exact s2
