/-! ===== what the plate's acts leave ===== -/
def yo (Y : Nat → XS) : Nat := (Y 7 5 0).toNatClampNeg
def yq (Y : Nat → XS) : Nat := (Y 7 5 1).toNatClampNeg
def okH (Y : Nat → XS) : Prop := Y 7 5 0 = nI (yo Y) ∧ yo Y < 5 ∧ Y 7 5 1 = nI (yq Y) ∧ yq Y ≤ 5
theorem okH.o {Y : Nat → XS} (h : okH Y) : Y 7 5 0 = nI (yo Y) := h.1
theorem okH.o5 {Y : Nat → XS} (h : okH Y) : yo Y < 5 := h.2.1
theorem okH.q {Y : Nat → XS} (h : okH Y) : Y 7 5 1 = nI (yq Y) := h.2.2.1
theorem okH.q5 {Y : Nat → XS} (h : okH Y) : yq Y ≤ 5 := h.2.2.2
theorem irem_n {a d : Nat} (ha : a < 2147483648) (h0 : 0 < d) (hd : d < 2147483648) : irem (nI a) (nI d) = nI (a % d) := pk_rem ha h0 hd
def ysH (Y : Nat → XS) (s : Nat) (X : XS) : Nat → XS := fun j => if j = 7 then Y 7 else if j = 5 then Y 5 else if j = 6 then Y 6 else if j = s then X else Y j
theorem ysH_up {Y : Nat → XS} {s : Nat} {X : XS} (hs : s < 5) : ysH Y s X = va_up Y s X := by
  funext j
  unfold ysH va_up
  by_cases h7 : j = 7
  · rw [if_pos h7, if_neg (by omega), h7]
  · rw [if_neg h7]
    by_cases h5 : j = 5
    · rw [if_pos h5, if_neg (by omega), h5]
    · rw [if_neg h5]
      by_cases h6 : j = 6
      · rw [if_pos h6, if_neg (by omega), h6]
      · rw [if_neg h6]
theorem pl_put2H {G : GG} {a : Nat → Nat} {AD : Nat → Nat → Nat} {Y : Nat → XS} {H H1 : Heap} {A : Nat → Prop} {i j : Nat} {X : XS} (hP : va_P G.1 vwCl (plC G a AD Y) H) (hD : va_D A (plC G a AD Y)) (hi : i < 5) (hj : j < 7) (hk : ∀ q : Nat, q < H.size → ¬ wA (stC G (AD i) (Y i) ++ stC G (AD j) (Y j)) q → H1[q]? = H[q]?) (hP1 : va_P G.1 vwCl (stC G (AD i) X ++ stC G (AD j) (Y j)) H1) : va_P G.1 vwCl (plC G a AD (ysH Y i X)) H1 := by
  rw [ysH_up hi]
  exact pl_put2 hP hD (by omega) hj hk hP1
theorem pl_wA0 {G : GG} {a : Nat → Nat} {AD : Nat → Nat → Nat} {Y Y2 : Nat → XS} {q : Nat} (h : wA (plC G a AD Y) q) : wA (plC G a AD Y2) q := h
theorem pl_wAx {G : GG} {a : Nat → Nat} {AD : Nat → Nat → Nat} {Y : Nat → XS} {i : Nat} {X : XS} (hi : i < 7) {q : Nat} (h : wA (stC G (AD i) X) q) : wA (plC G a AD Y) q := pl_wA (Y := Y) (i := i) hi h
theorem pl_Dx {G : GG} {a : Nat → Nat} {AD : Nat → Nat → Nat} {Y : Nat → XS} {A : Nat → Prop} {i : Nat} {X : XS} (hD : va_D A (plC G a AD Y)) (hi : i < 7) : va_D (wA (stC G (AD i) X)) (stC G (AD i) X) := (pl_D hD hi).fst rfl
theorem pl_wA2x {G : GG} {a : Nat → Nat} {AD : Nat → Nat → Nat} {Y : Nat → XS} {i j : Nat} {X X2 : XS} (hi : i < 7) (hj : j < 7) {q : Nat} (h : wA (stC G (AD i) X ++ stC G (AD j) X2) q) : wA (plC G a AD Y) q := pl_wA2 (Y := Y) (i := i) (j := j) hi hj h
theorem pl_D2x {G : GG} {a : Nat → Nat} {AD : Nat → Nat → Nat} {Y : Nat → XS} {A : Nat → Prop} {i j : Nat} {X X2 : XS} (hD : va_D A (plC G a AD Y)) (hi : i < 7) (hj : j < 7) (hij : i ≠ j) : va_D (wA (stC G (AD i) X ++ stC G (AD j) X2)) (stC G (AD i) X ++ stC G (AD j) X2) := (pl_D2 hD hi hj hij).fst rfl
def yRz (Y : Nat → XS) : Nat → Int32 := fun j => if j = 0 then (if yq Y < 5 then Y 7 5 0 else nI ((yo Y + 1) % 5)) else if j = 1 then (if yq Y < 5 then nI (yq Y + 1) else nI (yq Y - 1 + 1)) else Y 7 5 j
def yRs (Y : Nat → XS) : Nat := if yq Y < 5 then (yo Y + yq Y) % 5 else ((yo Y + 1) % 5 + (yq Y - 1)) % 5
def yRec (Y : Nat → XS) : Nat → XS := va_up (ysH Y (yRs Y) (Y 5)) 7 (va_up (Y 7) 5 (yRz Y))
theorem yRec_lt {Y : Nat → XS} (h : yq Y < 5) : yRec Y = va_up (ysH Y ((yo Y + yq Y) % 5) (Y 5)) 7 (va_up (Y 7) 5 (upd (Y 7 5) 1 (nI (yq Y + 1)))) := by
  unfold yRec
  have e : yRz Y = upd (Y 7 5) 1 (nI (yq Y + 1)) := by
    funext j
    unfold yRz upd
    rw [if_pos h, if_pos h]
    by_cases h0 : j = 0
    · rw [if_pos h0, if_neg (by omega), h0]
    · rw [if_neg h0]
  rw [e, yRs, if_pos h]
theorem yRec_ge {Y : Nat → XS} (h : 5 ≤ yq Y) : yRec Y = va_up (ysH Y (((yo Y + 1) % 5 + (yq Y - 1)) % 5) (Y 5)) 7 (va_up (Y 7) 5 (upd (upd (Y 7 5) 0 (nI ((yo Y + 1) % 5))) 1 (nI (yq Y - 1 + 1)))) := by
  unfold yRec
  have e : yRz Y = upd (upd (Y 7 5) 0 (nI ((yo Y + 1) % 5))) 1 (nI (yq Y - 1 + 1)) := by
    funext j
    unfold yRz upd
    rw [if_neg (Nat.not_lt.mpr h), if_neg (Nat.not_lt.mpr h)]
    by_cases h1 : j = 1
    · rw [if_neg (by omega), if_pos h1, if_pos h1]
    · rw [if_neg h1, if_neg h1]
  rw [e, yRs, if_neg (Nat.not_lt.mpr h)]
def yTl (Y : Nat → XS) : Nat → XS := va_up (va_up Y 5 (Y ((yo Y + (yq Y - 1)) % 5))) 7 (va_up (Y 7) 5 (upd (Y 7 5) 1 (nI (yq Y - 1))))
def yTy (Y : Nat → XS) (c : Int32) : Nat → XS := va_up Y 7 (va_up (va_up (Y 7) 0 (upd (Y 7 0) (yt Y) c)) 5 (upd (Y 7 5) 2 (nI (yt Y + 1))))
abbrev yR : Type := Int32 × (Nat → XS)
def yRecut (Y : Nat → XS) (w h : Int32) : yR := if isPl w h = true then (bitc (Y 5 5 6), va_up (yRec Y) 5 (xRe (Y 5) w h)) else ((-1002), Y)
def ySet (Y : Nat → XS) (lo hi : Int32) (k : Nat) (v : Int32) : yR := if v < lo ∨ ¬ v ≤ hi then ((-1002), Y) else if xEng (Y 5) = true then ((-1004), Y) else if Y 5 5 k = v then ((-1005), Y) else (Y 5 5 k, va_up (yRec Y) 5 (va_up (Y 5) 5 (upd (Y 5 5) k v)))
def yAdj (Y : Nat → XS) (a b v : Int32) : yR := if (xOk a && xOk b) = false then ((-1001), Y) else if v < (-3) ∨ ¬ v ≤ 3 then ((-1002), Y) else if xCut (Y 5) a b = true then ((-1004), Y) else if xAdj (Y 5) a b = v then ((-1005), Y) else if xAdj (Y 5) a b = 0 ∧ 16 ≤ xp (Y 5) then ((-1003), Y) else (xAdj (Y 5) a b, va_up (yRec Y) 5 (xPut (Y 5) a b v))
def yType (Y : Nat → XS) (c : Int32) : yR := if 60 ≤ yt Y then ((-1003), Y) else (nI (yt Y + 1), yTy Y c)
def yClear (Y : Nat → XS) : yR := (Y 7 5 2, va_up Y 7 (va_up (Y 7) 5 (upd (Y 7 5) 2 0)))
def yRemove (Y : Nat → XS) (seat : Int32) : yR := if xTk (xn (Y 5)) seat = false then ((-1001), Y) else if xEf (Y 5) seat.toNatClampNeg = true then ((-1004), Y) else (nI (xn (Y 5) - 1), va_up (yRec Y) 5 (xTo (Y 5) seat.toNatClampNeg))
def ySwapK (Y : Nat → XS) (i j : Nat) : yR := if xEb (Y 5) i = true ∨ xEb (Y 5) j = true then ((-1004), Y) else if i = j then ((-1005), Y) else (xSize (xEx (Y 5) i j), va_up (yRec Y) 5 (xEx (Y 5) i j))
def ySwap (Y : Nat → XS) (seat other : Int32) : yR := if xTk (xn (Y 5)) seat = false ∨ xTk (xn (Y 5)) other = false then ((-1001), Y) else ySwapK Y seat.toNatClampNeg other.toNatClampNeg
def yEngK (Y : Nat → XS) (k : Nat) : yR := if xFits (Y 5) k (xSize (Y 5)) = false then ((-1004), Y) else if xEb (Y 5) k = true then ((-1005), Y) else (xBeg (xMe (Y 5) (1 <<< (nI k &&& 31)) (xSize (Y 5))) k (xSize (Y 5)), va_up (yRec Y) 5 (xMe (Y 5) (1 <<< (nI k &&& 31)) (xSize (Y 5))))
def yEng (Y : Nat → XS) (seat : Int32) : yR := if xTk (xn (Y 5)) seat = false then ((-1001), Y) else yEngK Y seat.toNatClampNeg
def yEngA (Y : Nat → XS) : yR := if xEs (Y 5) (xSize (Y 5)) (xn (Y 5)) = 0 then ((-1005), Y) else (bitc (xEs (Y 5) (xSize (Y 5)) (xn (Y 5))), va_up (yRec Y) 5 (xMe (Y 5) (xEs (Y 5) (xSize (Y 5)) (xn (Y 5))) (xSize (Y 5))))
def yUndo (Y : Nat → XS) : yR := if yq Y = 0 then ((-1005), Y) else (nI (yq Y - 1), yTl Y)
def yKeep (Y : Nat → XS) : yR := (Y 5 5 0, va_up (va_up Y 6 (Y 5)) 7 (va_up (Y 7) 5 (upd (Y 7 5) 3 1)))
def yRest (Y : Nat → XS) : yR := if Y 7 5 3 = 0 then ((-1005), Y) else (Y 6 5 0, va_up (yRec Y) 5 (Y 6))
theorem chOk_n {q : Nat} (h : q < 65536) : chOk (nI q) := pk_charN h
theorem chOk_ok {c : Int32} (h : xOk c = true) : chOk c := by
  unfold xOk xL xMk at h
  simp only [Bool.or_eq_true, Bool.and_eq_true, Bool.not_eq_true', decide_eq_false_iff_not, decide_eq_true_eq, Int32.lt_iff_toInt_lt] at h
  have e1 : (65 : Int32).toInt = 65 := by decide
  have e2 : (90 : Int32).toInt = 90 := by decide
  rw [e1, e2] at h
  rcases h with h | h | h
  · have : c = nI c.toInt.toNat := by
      apply Int32.toInt_inj.mp
      rw [nI_toInt (by omega)]
      omega
    rw [this]
    exact chOk_n (by omega)
  · subst h; exact chOk_n (q := 46) (by decide)
  · subst h; exact chOk_n (q := 45) (by decide)
theorem xAdj_in {X : XS} {a b : Int32} (h : ¬ xAdj X a b = 0) : xPl X a b < xp X := by
  unfold xAdj xAt at h
  split at h
  · assumption
  · exact absurd rfl h
