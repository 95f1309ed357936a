/-! ===== the names of the text, laid behind the plate's names ===== -/
def xAd (X : XS) (tx : Nat → Int32) : Nat → XS
  | 0 => xBg X
  | i + 1 => if tx i = 59 then xBg (xAd X tx i) else xAp (xAd X tx i) (tx i)
theorem xAd_p {X : XS} {tx : Nat → Int32} {i : Nat} (h : tx i = 59) : xAd X tx (i + 1) = xBg (xAd X tx i) := if_pos h
theorem xAd_n {X : XS} {tx : Nat → Int32} {i : Nat} (h : ¬ tx i = 59) : xAd X tx (i + 1) = xAp (xAd X tx i) (tx i) := if_neg h
theorem xl_up {X : XS} {k j : Nat} {n : Nat} (hn : n < 2147483648) : (upd (X 1) k (nI n) j).toNatClampNeg = if j = k then n else xl X j := by
  unfold upd xl
  split
  · exact nI_clamp hn
  · rfl
theorem xn_bg {X : XS} (h : xn X < 20) : xn (xBg X) = xn X + 1 := by
  show (nI (xn X + 1)).toNatClampNeg = xn X + 1
  exact nI_clamp (by omega)
theorem xl_bg {X : XS} (j : Nat) : xl (xBg X) j = if j = xn X then 0 else xl X j := xl_up (n := 0) (by decide)
theorem xl_ap {X : XS} {c : Int32} (h : xl X (xn X - 1) < 16) (j : Nat) : xl (xAp X c) j = if j = xn X - 1 then xl X (xn X - 1) + 1 else xl X j := xl_up (by omega)
theorem okX_bg {X : XS} (hok : okX X) (h : xn X < 20) : okX (xBg X) := by
  refine ⟨by rw [xn_bg h]; rfl, by rw [xn_bg h]; omega, fun k hk => ?_, hok.p, hok.p16, hok.2.2.2.2.2.1, hok.2.2.2.2.2.2⟩
  rw [xl_bg]
  show upd (X 1) (xn X) 0 k = _ ∧ _
  unfold upd
  split
  · exact ⟨rfl, by omega⟩
  · exact ⟨hok.l hk, hok.l16 hk⟩
theorem okX_ap {X : XS} {c : Int32} (hok : okX X) (h0 : 0 < xn X) (h : xl X (xn X - 1) < 16) (hc : chOk c) : okX (xAp X c) := by
  refine ⟨hok.n, hok.n20, fun k hk => ?_, hok.p, hok.p16, fun j hj => ?_, hok.2.2.2.2.2.2⟩
  · rw [xl_ap h]
    show upd (X 1) (xn X - 1) _ k = _ ∧ _
    unfold upd
    split
    · exact ⟨rfl, by omega⟩
    · exact ⟨hok.l hk, hok.l16 hk⟩
  · show chOk (upd (X 0) _ c j)
    unfold upd
    split
    · exact hc
    · exact hok.c hj
theorem xNmN_mono (Y : Nat → XS) {i : Nat} : ∀ {j : Nat}, i ≤ j → xNmN Y i ≤ xNmN Y j
  | 0, h => by
    have : i = 0 := by omega
    subst this
    exact Nat.le_refl _
  | j + 1, h => by
    rcases Nat.lt_or_ge i (j + 1) with q | q
    · have := xNmN_mono Y (show i ≤ j by omega)
      have e : xNmN Y (j + 1) = if Y 7 0 j = 59 then xNmN Y j + 1 else xNmN Y j := rfl
      rw [e]
      split <;> omega
    · have : i = j + 1 := by omega
      subst this
      exact Nat.le_refl _
theorem xNmN_p {Y : Nat → XS} {i : Nat} (h : Y 7 0 i = 59) : xNmN Y (i + 1) = xNmN Y i + 1 := if_pos h
theorem xNmN_n {Y : Nat → XS} {i : Nat} (h : ¬ Y 7 0 i = 59) : xNmN Y (i + 1) = xNmN Y i := if_neg h
theorem xSc_s (Y : Nat → XS) (i : Nat) : xSc Y (i + 1) = (if Y 7 0 i = 59 then 0 else (xSc Y i).1 + 1, xL (Y 7 0 i)) := rfl
theorem xSc16 {Y : Nat → XS} {i : Nat} (hb : xBad Y i = false) (h : ¬ Y 7 0 i = 59) : (xSc Y i).1 < 16 := by
  unfold xBad xAl at hb
  rw [if_neg h] at hb
  split at hb
  · cases hb
  · omega
theorem xAd_ok {Y : Nat → XS} (hok : okX (Y 5)) (hot : okT Y) (hno : ∀ j, j < yt Y → xBad Y j = false) (h20 : xn (Y 5) + xNmN Y (yt Y) ≤ 20) : ∀ i, i ≤ yt Y → okX (xAd (Y 5) (Y 7 0) i) ∧ xn (xAd (Y 5) (Y 7 0) i) = xn (Y 5) + xNmN Y i ∧ xl (xAd (Y 5) (Y 7 0) i) (xn (xAd (Y 5) (Y 7 0) i) - 1) = (xSc Y i).1
  | 0, _ => by
    have h1 : 1 ≤ xNmN Y (yt Y) := xNmN_mono Y (Nat.zero_le _)
    have hn : xn (Y 5) < 20 := by omega
    refine ⟨okX_bg hok hn, xn_bg hn, ?_⟩
    show xl (xBg (Y 5)) (xn (xBg (Y 5)) - 1) = 0
    rw [xl_bg, xn_bg hn, if_pos (by omega)]
  | i + 1, hi => by
    obtain ⟨a1, a2, a3⟩ := xAd_ok hok hot hno h20 i (by omega)
    have hm := xNmN_mono Y hi
    have h60 := hot.n60
    have hb := hno i (by omega)
    by_cases h : Y 7 0 i = 59
    · rw [xNmN_p h] at hm
      have hn : xn (xAd (Y 5) (Y 7 0) i) < 20 := by omega
      rw [xAd_p h, xNmN_p h, xSc_s, if_pos h]
      refine ⟨okX_bg a1 hn, by rw [xn_bg hn]; omega, ?_⟩
      rw [xl_bg, xn_bg hn, if_pos (by omega)]
    · have hs := xSc16 hb h
      have h1 : 1 ≤ xNmN Y i := xNmN_mono Y (Nat.zero_le _)
      rw [xAd_n h, xNmN_n h, xSc_s, if_neg h]
      have hl : xl (xAd (Y 5) (Y 7 0) i) (xn (xAd (Y 5) (Y 7 0) i) - 1) < 16 := by omega
      refine ⟨okX_ap a1 (by omega) hl (hot.c (by omega)), a2, ?_⟩
      rw [xl_ap hl]
      show (if xn (xAd (Y 5) (Y 7 0) i) - 1 = xn (xAd (Y 5) (Y 7 0) i) - 1 then _ else _) = _
      rw [if_pos rfl, a3]
theorem va_up_up {α : Type} (f : Nat → α) (i : Nat) (u v : α) : va_up (va_up f i u) i v = va_up f i v := by
  funext j
  unfold va_up
  split
  · rfl
  · rfl
theorem xNmN_c {Y Z : Nat → XS} (h : Z 7 0 = Y 7 0) : ∀ i, xNmN Z i = xNmN Y i
  | 0 => rfl
  | i + 1 => by
    unfold xNmN
    rw [h, xNmN_c h i]
theorem xSc_c {Y Z : Nat → XS} (h : Z 7 0 = Y 7 0) : ∀ i, xSc Z i = xSc Y i
  | 0 => rfl
  | i + 1 => by
    rw [xSc_s, xSc_s, h, xSc_c h i]
theorem xBad_c {Y Z : Nat → XS} (h : Z 7 0 = Y 7 0) (i : Nat) : xBad Z i = xBad Y i := by
  unfold xBad
  rw [h, xSc_c h i]
theorem nI_m1 {n : Nat} (h : n < 2147483648) : ¬ nI n = (-1) := by
  intro q
  have h2 := congrArg Int32.toInt q
  rw [nI_toInt h] at h2
  have h3 : Int32.toInt (-1) = -1 := by decide
  omega
theorem xFault_no {Y : Nat → XS} (h60 : yt Y ≤ 60) (h : xFault Y = (-1)) : ∀ j, j < yt Y → xBad Y j = false := by
  unfold xFault at h
  have hle : xFl Y ≤ yt Y := fstN_le _ _
  split at h
  · exact absurd h (nI_m1 (by omega))
  · rename_i hq
    intro j hj
    exact fstN_no (xBad Y) (yt Y) j (Nat.lt_of_lt_of_le hj (Nat.le_of_not_lt hq))
def yReadN (Y : Nat → XS) : yR := if ¬ xFault Y = (-1) then ((-100) - xFault Y, Y) else if ¬ xn (Y 5) + xNmN Y (yt Y) ≤ 20 then ((-1003), Y) else (nI (xNmN Y (yt Y)), va_up (yRec Y) 5 (xAd (Y 5) (Y 7 0) (yt Y)))
theorem yReadN_f {Y : Nat → XS} (h : ¬ xFault Y = (-1)) : yReadN Y = ((-100) - xFault Y, Y) := if_pos h
theorem yReadN_n {Y : Nat → XS} (h : xFault Y = (-1)) (h2 : ¬ xn (Y 5) + xNmN Y (yt Y) ≤ 20) : yReadN Y = ((-1003), Y) := by
  unfold yReadN
  rw [if_neg (fun q => q h), if_pos h2]
theorem yReadN_go {Y : Nat → XS} (h : xFault Y = (-1)) (h2 : xn (Y 5) + xNmN Y (yt Y) ≤ 20) : yReadN Y = (nI (xNmN Y (yt Y)), va_up (yRec Y) 5 (xAd (Y 5) (Y 7 0) (yt Y))) := by
  unfold yReadN
  rw [if_neg (fun q => q h), if_neg (fun q => q h2)]
