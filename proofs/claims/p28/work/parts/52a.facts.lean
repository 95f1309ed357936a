/-! ===== what the law reads, in few words ===== -/
theorem i2c_ok {c : Int32} (h : chOk c) : i2c c = c := by
  have h1 := h.1
  unfold narrow at h1
  injection h1
theorem ct0 (Y : Nat → XS) : yCount Y 0 = Y 5 5 2 := rfl
theorem ct1 (Y : Nat → XS) : yCount Y 1 = Y 5 5 3 := rfl
theorem ct2 (Y : Nat → XS) : yCount Y 2 = Y 5 5 4 := rfl
theorem ct3 (Y : Nat → XS) : yCount Y 3 = Y 5 5 5 := rfl
theorem ct4 {Y : Nat → XS} (h : okX (Y 5)) : yCount Y 4 = nI (xn (Y 5)) := h.n
theorem ct5 (Y : Nat → XS) : yCount Y 5 = bitc (Y 5 5 6) := rfl
theorem ct6 {Y : Nat → XS} (h : okX (Y 5)) : yCount Y 6 = xRows (Y 5) (nI (xn (Y 5))) := by
  show xRows (Y 5) (Y 5 5 0) = _
  rw [h.n]
theorem ct8 (Y : Nat → XS) : yCount Y 8 = Y 5 5 9 := rfl
theorem ct9 {Y : Nat → XS} (h : okX (Y 5)) : yCount Y 9 = nI (xp (Y 5)) := h.p
theorem ct10 {Y : Nat → XS} (h : okH Y) : yCount Y 10 = nI (yq Y) := h.q
theorem nmK {X : XS} (h : okX X) {k : Nat} (hk : k < xn X) (w : Int32) : yName X (nI k) w = yNameK X k w := by
  have hn := h.n20
  unfold yName
  rw [xTk_in hn hk, if_neg (by decide), nI_clamp (show k < 2147483648 by omega)]
theorem nm0 {X : XS} (h : okX X) {k : Nat} (hk : k < xn X) : yName X (nI k) 0 = nI (xl X k) := nmK h hk 0
theorem nm1 {X : XS} (h : okX X) {k : Nat} (hk : k < xn X) : yName X (nI k) 1 = xU X k := nmK h hk 1
theorem nm2 {X : XS} (h : okX X) {k : Nat} (hk : k < xn X) : yName X (nI k) 2 = b2i (xEb X k) := nmK h hk 2
theorem nm3 {X : XS} (h : okX X) {k : Nat} (hk : k < xn X) : yName X (nI k) 3 = xRow X k := nmK h hk 3
theorem nm4 {X : XS} (h : okX X) {k : Nat} (hk : k < xn X) : yName X (nI k) 4 = xCo X k := nmK h hk 4
theorem nm10 {X : XS} (h : okX X) {k : Nat} (hk : k < xn X) : yName X (nI k) 10 = xInk X k := nmK h hk 10
theorem nm7 {X : XS} (h : okX X) {k : Nat} (hk : k < xn X) : yName X (nI k) 7 = b2i (xFits X k (xSize X)) := nmK h hk 7
theorem nm5 {X : XS} (h : okX X) {k : Nat} (hk : k < xn X) : yName X (nI k) 5 = if xSize X = 0 then (-1005) else xBeg X k (xSize X) := nmK h hk 5
theorem nm6 {X : XS} (h : okX X) {k : Nat} (hk : k < xn X) : yName X (nI k) 6 = if xSize X = 0 then (-1005) else xRb X k (xSize X) := nmK h hk 6
theorem nm8 {X : XS} (h : okX X) {k : Nat} (hk : k < xn X) : yName X (nI k) 8 = if xSize X = 0 then (-1005) else xU X k * xSize X := nmK h hk 8
theorem nm9 {X : XS} (h : okX X) {k : Nat} (hk : k < xn X) : yName X (nI k) 9 = if xSize X = 0 then (-1005) else xMid X k (xSize X) := nmK h hk 9
theorem sgK {X : XS} (h : okX X) {k j : Nat} (hk : k < xn X) (hj : j < xl X k) (w : Int32) : ySign X (nI k) (nI j) w = ySignK X k j w := by
  have hn := h.n20
  have hl := h.l16 (show k < 20 by omega)
  unfold ySign
  rw [xIn_in h hk hj, if_neg (by decide), nI_clamp (show k < 2147483648 by omega), nI_clamp (show j < 2147483648 by omega)]
theorem sg0 {X : XS} (h : okX X) {k j : Nat} (hk : k < xn X) (hj : j < xl X k) : ySign X (nI k) (nI j) 0 = xSg X k j := sgK h hk hj 0
theorem sg1 {X : XS} (h : okX X) {k j : Nat} (hk : k < xn X) (hj : j < xl X k) : ySign X (nI k) (nI j) 1 = xUb X k j := sgK h hk hj 1
theorem sg2 {X : XS} (h : okX X) {k j : Nat} (hk : k < xn X) (hj : j < xl X k) : ySign X (nI k) (nI j) 2 = xW (xSg X k j) := sgK h hk hj 2
theorem sg3 {X : XS} (h : okX X) {k j : Nat} (hk : k < xn X) (hj : j < xl X k) : ySign X (nI k) (nI j) 3 = if j = xl X k - 1 then (-1005) else xSp X k j := sgK h hk hj 3
theorem sg4 {X : XS} (h : okX X) {k j : Nat} (hk : k < xn X) (hj : j < xl X k) : ySign X (nI k) (nI j) 4 = if j = xl X k - 1 then (-1005) else xMs X k j := sgK h hk hj 4
theorem sg5 {X : XS} (h : okX X) {k j : Nat} (hk : k < xn X) (hj : j < xl X k) : ySign X (nI k) (nI j) 5 = ySb X k j (xSize X) := sgK h hk hj 5
theorem sgO {X : XS} (h : okX X) {k : Nat} (hk : k < xn X) (w : Int32) : ySign X (nI k) (nI (xl X k)) w = -1001 := by
  have hn := h.n20
  have hl := h.l16 (show k < 20 by omega)
  unfold ySign
  refine if_pos ?_
  unfold xIn
  rw [nI_clamp (show k < 2147483648 by omega)]
  have : nI (xl X k) ≤ nI (xl X k) := Int32.le_refl _
  rw [decide_eq_true this]
  simp
theorem prK {X : XS} (h : okX X) {q : Nat} (hq : q < xp X) : yPair X (nI q) 0 = X 2 q ∧ yPair X (nI q) 1 = X 3 q ∧ yPair X (nI q) 2 = X 4 q := by
  have h16 := h.p16
  have c := nI_clamp (show q < 2147483648 by omega)
  have e : ∀ w : Int32, ¬ (w < 0 ∨ ¬ w ≤ 2) → yPair X (nI q) w = if w = 0 then X 2 q else if w = 1 then X 3 q else X 4 q := fun w hw => by
    unfold yPair
    rw [if_neg (fun z => z.elim (fun y => nI_pos (show q < 2147483648 by omega) y) hw), xIp_in h16 hq, if_neg (by decide), c]
  refine ⟨?_, ?_, ?_⟩
  · rw [e 0 (by decide)]; rfl
  · rw [e 1 (by decide)]; rfl
  · rw [e 2 (by decide)]; rfl
theorem pr0 {X : XS} (h : okX X) {q : Nat} (hq : q < xp X) : yPair X (nI q) 0 = X 2 q := (prK h hq).1
theorem pr1 {X : XS} (h : okX X) {q : Nat} (hq : q < xp X) : yPair X (nI q) 1 = X 3 q := (prK h hq).2.1
theorem pr2 {X : XS} (h : okX X) {q : Nat} (hq : q < xp X) : yPair X (nI q) 2 = X 4 q := (prK h hq).2.2
theorem prO {X : XS} (h : okX X) : yPair X (nI (xp X)) 0 = -1005 := by
  have h16 := h.p16
  unfold yPair
  rw [if_neg (fun z => z.elim (fun y => nI_pos (show xp X < 2147483648 by omega) y) (by decide)), xIp_out h16 (Nat.le_refl _) (by omega), if_pos rfl]
theorem adA {X : XS} (h : vP X) {j : Nat} (hj : j < xp X) : (if (xOk (X 2 j) && xOk (X 3 j)) = true then xAdj X (X 2 j) (X 3 j) else (-1001)) = X 4 j := by
  rw [if_pos (by rw [(h.1 j hj).1, (h.1 j hj).2]; rfl), adj_at h hj]
/-! low and down -/
def lowN (v : Int32) (m : Nat) : Nat := (v.toUInt32.toNat &&& 2147483647) % m
theorem lowN_lt (v : Int32) {m : Nat} (h : 0 < m) : lowN v m < m := Nat.mod_lt _ h
theorem of32 (v : Int32) : v = nI v.toUInt32.toNat := by
  show v = (UInt32.ofNat v.toUInt32.toNat).toInt32
  rw [UInt32.ofNat_toNat]
  rfl
theorem and_lo (v : Int32) : v &&& 2147483647 = nI (v.toUInt32.toNat &&& 2147483647) := by
  have h := bnd v.toUInt32.toNat 2147483647
  rw [← of32 v] at h
  exact h
theorem and_lt (v : Int32) : v.toUInt32.toNat &&& 2147483647 < 2147483648 := Nat.lt_of_le_of_lt Nat.and_le_right (by decide)
theorem low_e (v : Int32) {m : Nat} (h0 : 0 < m) (hm : m < 2147483648) : irem (nI (v.toUInt32.toNat &&& 2147483647)) (nI m) = nI (lowN v m) := irem_n (and_lt v) h0 hm
/-! the digest -/
def dgA (Y : Nat → XS) : Nat → Int64
  | 0 => 107
  | i + 1 => 31 * dgA Y i + Int32.toInt64 (yCount Y (nI i))
def dgB (X : XS) (h : Int64) : Nat → Int64
  | 0 => h
  | i + 1 => 31 * dgB X h i + Int32.toInt64 (xU X i)
def dgC (X : XS) (h : Int64) : Nat → Int64
  | 0 => h
  | i + 1 => 31 * dgC X h i + 49 * Int32.toInt64 (X 2 i) + 7 * Int32.toInt64 (X 3 i) + Int32.toInt64 (X 4 i)
def dig (Y : Nat → XS) : Int64 := 31 * dgC (Y 5) (dgB (Y 5) (dgA Y 10) (xn (Y 5))) (xp (Y 5)) + Int32.toInt64 (xSize (Y 5))
theorem dgA_cg {Y Z : Nat → XS} (h : Z 5 = Y 5) : ∀ {i : Nat}, i ≤ 10 → dgA Z i = dgA Y i
  | 0, _ => rfl
  | i + 1, hi => by
    have ih := dgA_cg h (i := i) (by omega)
    have e : yCount Z (nI i) = yCount Y (nI i) := by
      rcases (show i = 0 ∨ i = 1 ∨ i = 2 ∨ i = 3 ∨ i = 4 ∨ i = 5 ∨ i = 6 ∨ i = 7 ∨ i = 8 ∨ i = 9 by omega) with rfl | rfl | rfl | rfl | rfl | rfl | rfl | rfl | rfl | rfl
      · show Z 5 5 2 = Y 5 5 2; rw [h]
      · show Z 5 5 3 = Y 5 5 3; rw [h]
      · show Z 5 5 4 = Y 5 5 4; rw [h]
      · show Z 5 5 5 = Y 5 5 5; rw [h]
      · show Z 5 5 0 = Y 5 5 0; rw [h]
      · show bitc (Z 5 5 6) = bitc (Y 5 5 6); rw [h]
      · show xRows (Z 5) (Z 5 5 0) = xRows (Y 5) (Y 5 5 0); rw [h]
      · show Z 5 5 8 = Y 5 5 8; rw [h]
      · show Z 5 5 9 = Y 5 5 9; rw [h]
      · show Z 5 5 1 = Y 5 5 1; rw [h]
    show 31 * dgA Z i + _ = 31 * dgA Y i + _
    rw [ih, e]
theorem dig_cg {Y Z : Nat → XS} (h : Z 5 = Y 5) : dig Z = dig Y := by
  unfold dig
  rw [h, dgA_cg h (Nat.le_refl _)]
