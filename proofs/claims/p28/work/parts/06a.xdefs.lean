/-! ===== what the class's reads answer: a State's rows are X 0 .. X 4 (codes, lengths, lefts, rights, adjustments), its numbers X 5 ===== -/
def chOk (v : Int32) : Prop := narrow .char (.int v) = .int v ∧ fits .char (.int v) = true
def xn (X : XS) : Nat := (X 5 0).toNatClampNeg
def xl (X : XS) (k : Nat) : Nat := (X 1 k).toNatClampNeg
def xp (X : XS) : Nat := (X 5 1).toNatClampNeg
def okX (X : XS) : Prop := X 5 0 = nI (xn X) ∧ xn X ≤ 20 ∧ (∀ k, k < 20 → X 1 k = nI (xl X k) ∧ xl X k ≤ 16) ∧ X 5 1 = nI (xp X) ∧ xp X ≤ 16 ∧ (∀ j, j < 320 → chOk (X 0 j)) ∧ ∀ j, j < 16 → chOk (X 2 j) ∧ chOk (X 3 j)
theorem okX.n {X : XS} (h : okX X) : X 5 0 = nI (xn X) := h.1
theorem okX.n20 {X : XS} (h : okX X) : xn X ≤ 20 := h.2.1
theorem okX.l {X : XS} (h : okX X) {k : Nat} (hk : k < 20) : X 1 k = nI (xl X k) := (h.2.2.1 k hk).1
theorem okX.l16 {X : XS} (h : okX X) {k : Nat} (hk : k < 20) : xl X k ≤ 16 := (h.2.2.1 k hk).2
theorem okX.p {X : XS} (h : okX X) : X 5 1 = nI (xp X) := h.2.2.2.1
theorem okX.p16 {X : XS} (h : okX X) : xp X ≤ 16 := h.2.2.2.2.1
theorem okX.c {X : XS} (h : okX X) {j : Nat} (hj : j < 320) : chOk (X 0 j) := h.2.2.2.2.2.1 j hj
theorem okX.lc {X : XS} (h : okX X) {j : Nat} (hj : j < 16) : chOk (X 2 j) := (h.2.2.2.2.2.2 j hj).1
theorem okX.rc {X : XS} (h : okX X) {j : Nat} (hj : j < 16) : chOk (X 3 j) := (h.2.2.2.2.2.2 j hj).2
theorem nI_dec {n : Nat} (h : 1 ≤ n) : nI n + Int32.ofInt (-1) = nI (n - 1) := by
  have e := pk_m1 (n - 1)
  rw [show n - 1 + 1 = n by omega] at e
  exact e
def xL (c : Int32) : Bool := !(decide (c < 65)) && !(decide (90 < c))
def xMk (c : Int32) : Bool := decide (c = 46) || decide (c = 45)
def xOk (c : Int32) : Bool := xL c || xMk c
def xW (c : Int32) : Int32 := if c = 46 then 2 else if c = 45 then 4 else 3 + irem ((c - 65) * 5) 7
def xO (c : Int32) : Int32 := if c = 46 ∨ c = 45 then 2 else irem (c - 65) 3
def xI (c : Int32) : Int32 := if c = 46 then 1 else if c = 45 then 2 else 1 + irem ((c - 65) * 3) 5
def xTk (n : Nat) (seat : Int32) : Bool := !(decide (seat < 0)) && (!(decide (nI n ≤ seat)) && !(decide (20 ≤ seat)))
def xIp (n : Nat) (p : Int32) : Bool := !(decide (p < 0)) && (!(decide (nI n ≤ p)) && !(decide (16 ≤ p)))
theorem xTk_of {n : Nat} (hn : n < 2147483648) {seat : Int32} (h : xTk n seat = true) : ∃ k, k < n ∧ seat = nI k := by
  unfold xTk at h
  simp only [Bool.and_eq_true, Bool.not_eq_true', decide_eq_false_iff_not] at h
  obtain ⟨j, hj, rfl⟩ := nI_of h.1
  refine ⟨j, ?_, rfl⟩
  have := h.2.1
  rw [nI_leI hn hj] at this
  omega
theorem xTk_in {n k : Nat} (hn : n ≤ 20) (hk : k < n) : xTk n (nI k) = true := by
  unfold xTk
  simp only [Bool.and_eq_true, Bool.not_eq_true', decide_eq_false_iff_not]
  exact ⟨nI_pos (by omega), fun q => by rw [nI_leI (by omega) (by omega)] at q; omega, fun q => by rw [show (20 : Int32) = nI 20 from rfl, nI_leI (by omega) (by omega)] at q; omega⟩
theorem xIp_of {n : Nat} (hn : n < 2147483648) {p : Int32} (h : xIp n p = true) : ∃ k, k < n ∧ p = nI k := by
  unfold xIp at h
  simp only [Bool.and_eq_true, Bool.not_eq_true', decide_eq_false_iff_not] at h
  obtain ⟨j, hj, rfl⟩ := nI_of h.1
  refine ⟨j, ?_, rfl⟩
  have := h.2.1
  rw [nI_leI hn hj] at this
  omega
theorem xIp_in {n k : Nat} (hn : n ≤ 16) (hk : k < n) : xIp n (nI k) = true := by
  unfold xIp
  simp only [Bool.and_eq_true, Bool.not_eq_true', decide_eq_false_iff_not]
  exact ⟨nI_pos (by omega), fun q => by rw [nI_leI (by omega) (by omega)] at q; omega, fun q => by rw [show (16 : Int32) = nI 16 from rfl, nI_leI (by omega) (by omega)] at q; omega⟩
theorem xIp_out {n k : Nat} (hn : n ≤ 16) (hk : n ≤ k) (hk2 : k < 2147483648) : xIp n (nI k) = false := by
  unfold xIp
  have : nI n ≤ nI k := by rw [nI_leI (by omega) (by omega)]; exact hk
  simp [this]
def xSg (X : XS) (k j : Nat) : Int32 := X 0 (k * 16 + j)
def xPq (X : XS) (a b : Int32) (j : Nat) : Bool := decide (X 2 j = a) && decide (X 3 j = b)
def xPl (X : XS) (a b : Int32) : Nat := fstN (xPq X a b) (xp X)
def xAt (X : XS) (p : Nat) : Int32 := if p < xp X then X 4 p else 0
def xAdj (X : XS) (a b : Int32) : Int32 := xAt X (xPl X a b)
def xSp (X : XS) (k j : Nat) : Int32 := if xl X k ≤ j + 1 then 0 else imax 1 (6 - xO (xSg X k j) - xO (xSg X k (j + 1)) + xAdj X (xSg X k j) (xSg X k (j + 1)))
def xMs (X : XS) (k j : Nat) : Int32 := xSp X k j + xO (xSg X k j) + xO (xSg X k (j + 1))
def xSt (X : XS) (k j : Nat) : Int32 := xW (xSg X k j) + xSp X k j
def xUb (X : XS) (k i : Nat) : Int32 := sumI (xSt X k) i
def xU (X : XS) (k : Nat) : Int32 := xUb X k (xl X k)
def xInk (X : XS) (k : Nat) : Int32 := sumI (fun j => xI (xSg X k j)) (xl X k)
def xMostN (X : XS) (lo : Int32) : Nat → Int32
  | 0 => 0
  | i + 1 => if nI i = lo then xMostN X lo i else imax (xMostN X lo i) (xU X i)
def xMost (X : XS) (lo : Int32) : Int32 := xMostN X lo (xn X)
def fdiv (a b : Int32) : Int32 := if 0 ≤ a ^^^ b then a / b else if a / b * b = a then a / b else a / b - 1
def xq (a b : Int32) : Int32 := if b ≤ 0 then 0 else fdiv a b
def xRow (X : XS) (k : Nat) : Int32 := xq (nI k) (X 5 5)
def xCo (X : XS) (k : Nat) : Int32 := if X 5 5 ≤ 0 then 0 else irem (nI k) (X 5 5)
def xRows (X : XS) (n : Int32) : Int32 := xq (n + X 5 5 - 1) (X 5 5)
def xRb (X : XS) (k : Nat) (z : Int32) : Int32 := X 5 4 + 12 * z * xRow X k
def xCw (X : XS) (w : Int32) : Int32 := xq (w - 2 * X 5 4) (X 5 5)
def xCb (X : XS) (k : Nat) : Int32 := X 5 4 + xCo X k * xCw X (X 5 2)
def xFt (X : XS) (w h seats uw s : Int32) : Bool := !(decide (xCw X w < uw * s)) && !(decide (h - 2 * X 5 4 < 12 * xRows X seats * s))
def xGrN (X : XS) (w h seats uw : Int32) : Nat → Int32
  | 0 => 0
  | s + 1 => if xFt X w h seats uw (nI (s + 1)) = true then nI (s + 1) else xGrN X w h seats uw s
def xGr (X : XS) (w h seats uw : Int32) : Int32 := if seats = 0 then 40 else xGrN X w h seats uw 40
def xEng (X : XS) : Bool := !(decide (X 5 6 = 0))
def xEb (X : XS) (k : Nat) : Bool := !(decide ((X 5 6 >>> (nI k &&& 31)) &&& 1 = 0))
def xEf (X : XS) (k : Nat) : Bool := !(decide (X 5 6 >>> (nI k &&& 31) = 0))
def xSize (X : XS) : Int32 := if xEng X = true then X 5 7 else xGr X (X 5 2) (X 5 3) (nI (xn X)) (xMost X (-1))
def xFits (X : XS) (k : Nat) (z : Int32) : Bool := !(decide (z ≤ 0)) && (!(decide (xCw X (X 5 2) < xU X k * z)) && !(decide (X 5 3 - 2 * X 5 4 < 12 * z * (xRow X k + 1))))
def xMt (X : XS) (k j : Nat) : Int32 := xI (xSg X k j) * (2 * xUb X k j + xW (xSg X k j))
def xMom (X : XS) (k : Nat) : Int32 := sumI (xMt X k) (xl X k)
def xBeg (X : XS) (k : Nat) (z : Int32) : Int32 := imax (xCb X k) (imin (xq (xInk X k * (2 * xCb X k + xCw X (X 5 2)) - z * xMom X k) (2 * xInk X k)) (xCb X k + xCw X (X 5 2) - xU X k * z))
def xMid (X : XS) (k : Nat) (z : Int32) : Int32 := imax (xCb X k) (xCb X k + fdiv (xCw X (X 5 2) - xU X k * z) 2)
def xFr (X : XS) (k : Nat) (z : Int32) : Nat → Int32
  | 0 => xBeg X k z
  | i + 1 => xFr X k z i + xW (xSg X k i) * z + xSp X k i * z
def xHt (X : XS) (k : Nat) (x z : Int32) (i : Nat) : Bool := !(decide (x < xFr X k z i)) && !(decide (xFr X k z i + xW (xSg X k i) * z ≤ x))
def xIx (X : XS) (k : Nat) (x z : Int32) : Int32 := if fstN (xHt X k x z) (xl X k) < xl X k then nI (fstN (xHt X k x z) (xl X k)) else (-1)
def xCq (X : XS) (a b : Int32) (k j : Nat) : Bool := decide (xSg X k j = a) && decide (xSg X k (j + 1) = b)
def xHp (X : XS) (k : Nat) (a b : Int32) : Bool := decide (fstN (xCq X a b k) (xl X k - 1) < xl X k - 1)
def xCk (X : XS) (a b : Int32) (k : Nat) : Bool := xEb X k && xHp X k a b
def xCut (X : XS) (a b : Int32) : Bool := decide (fstN (xCk X a b) (xn X) < xn X)
def xEs (X : XS) (z : Int32) : Nat → Int32
  | 0 => 0
  | i + 1 => if xEb X i = false ∧ xFits X i z = true then xEs X z i ||| (1 <<< (nI i &&& 31)) else xEs X z i
def bc1 (x : Int32) : Int32 := x - (iushr x 1 &&& 1431655765)
def bc2 (x : Int32) : Int32 := (x &&& 858993459) + (iushr x 2 &&& 858993459)
def bc3 (x : Int32) : Int32 := (x + iushr x 4) &&& 252645135
def bc4 (x : Int32) : Int32 := x + iushr x 8
def bc5 (x : Int32) : Int32 := x + iushr x 16
def bitc (x : Int32) : Int32 := bc5 (bc4 (bc3 (bc2 (bc1 x)))) &&& 63
theorem RO.startF {l : Launch} {y : MethodName} {wsy : List Cond} {fr lo : Nat} {G : GG} {ws : va_W} {av : List Value} {v : Int32} {cc : ByteArray} {maxL : Nat} {ret : Option FieldType} {ws' : List Cond} (hy : plainFor y = true) (hw : wsy = Cond.code y cc maxL ret :: ws') (hlen : (lg_sl av).length ≤ maxL)
    (body : ∀ (p : Program) (e : Env) (s : State) (m : MethodId) (below : List Frame) (meth : Method) (c : Code) (ls : Array Slot), CallFix p m c cc maxL s av.toArray wsy y.cls → meth.sig.returnType = ret → meth.locks = false → va_K G.1 vwCl (T3 G) s → Nst s → va_P G.1 vwCl ws s.heap → lv_has ls maxL (lv_args 0 av) →
      W p l e ({ frames := fr, cells := 0, slots := 0, locals := lo } : Room) s m av.toArray below meth c s.heap [] 0 0 (MQ below (vp_Si (fun r => r = v)) av.toArray s 0 0 (fun _ => False)) (F0 m 0 ls [])) : RO l y wsy fr lo G ws av v := by
  refine va_MetF hy hw ?_
  intro p e s m args below meth c s₁ B hml hv
  obtain ⟨rfl, hP, hK, hN⟩ := hv
  have hown : s.vm.findClass y.cls = some m.cls := findClass_of_methodNamed B.named
  rw [lg_entry_eq]
  exact body p e s m below meth c _ ⟨B.exec, B.bytes, hml, hown, atoms_spec (ws := wsy) B.pre⟩ B.returns B.notSynchronized hK hN hP (lv_entry av hlen)
theorem floorPlain : plainFor yJ9_floorDiv_7cf53 = true := by decide +kernel
