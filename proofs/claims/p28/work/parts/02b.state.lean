/-! ===== the worlds, and the words in which the methods' answers are said ===== -/
abbrev XS : Type := Nat → Nat → Int32
def stC (G : GG) (ad : Nat → Nat) (X : XS) : va_W := [(ad 0, .inr (3, [.ref (ad 1), .ref (ad 2), .int (X 5 2), .int (X 5 3), .int (X 5 4), .int (X 5 5), .int (X 5 6), .int (X 5 7), .int (X 5 8), .int (X 5 9)])), (ad 1, .inr (1, [.ref (ad 3), .ref (ad 4), .int (X 5 0)])), (ad 2, .inr (2, [.ref (ad 5), .ref (ad 6), .ref (ad 7), .int (X 5 1)])), (ad 3, .inl (G.2.1, 320, .inl (X 0))), (ad 4, .inl (G.2.2.1, 20, .inl (X 1))), (ad 5, .inl (G.2.1, 16, .inl (X 2))), (ad 6, .inl (G.2.1, 16, .inl (X 3))), (ad 7, .inl (G.2.2.1, 16, .inl (X 4)))]
def mdC (G : GG) (ad : Nat → Nat) (M : XS) : va_W := [(ad 0, .inr (6, [.ref (ad 1), .ref (ad 2), .int (M 4 0), .ref (ad 3), .int (M 4 1), .int (M 4 2), .ref (ad 4)])), (ad 1, .inl (G.2.2.1, 417, .inl (M 0))), (ad 2, .inl (G.2.2.1, 2085, .inl (M 1))), (ad 3, .inl (G.2.2.1, 417, .inl (M 2))), (ad 4, .inl (G.2.1, 60, .inl (M 3)))]
def plH (G : GG) (a : Nat → Nat) (AD : Nat → Nat → Nat) (Y : Nat → XS) : va_W := [(a 0, .inr (5, [.ref (AD 5 0), .ref (AD 6 0), .ref (a 1), .ref (a 3), .int (Y 7 5 3)])), (a 1, .inr (0, [.ref (a 2), .int (Y 7 5 0), .int (Y 7 5 1)])), (a 2, .inl (G.2.2.2, 5, .inr (.inr (.inr (.inr (fun i => some (AD i 0))))))), (a 3, .inr (4, [.ref (a 4), .int (Y 7 5 2)])), (a 4, .inl (G.2.1, 60, .inl (Y 7 0)))]
def plT (G : GG) (AD : Nat → Nat → Nat) (Y : Nat → XS) : Nat → va_W
  | 0 => []
  | n + 1 => plT G AD Y n ++ stC G (AD n) (Y n)
def plC (G : GG) (a : Nat → Nat) (AD : Nat → Nat → Nat) (Y : Nat → XS) : va_W := plH G a AD Y ++ plT G AD Y 7
theorem va_P.nil {D : va_G} {cl : List vw_C} {H : Heap} : va_P D cl [] H := fun k q h => by simp at h
def irem (x y : Int32) : Int32 := x - x / y * y
def iushr (x y : Int32) : Int32 := (x.toUInt32 >>> (y.toUInt32 &&& Int32.toUInt32 31)).toInt32
def i2c (x : Int32) : Int32 := (x.toUInt32 % 65536).toInt32
def imax (x y : Int32) : Int32 := if x < y then y else x
def imin (x y : Int32) : Int32 := if y < x then y else x
/-- sums, greatest ones, first ones -/
def sumI (g : Nat → Int32) : Nat → Int32
  | 0 => 0
  | n + 1 => sumI g n + g n
theorem sumI_congr {g h : Nat → Int32} : ∀ {n : Nat}, (∀ j, j < n → g j = h j) → sumI g n = sumI h n
  | 0, _ => rfl
  | n + 1, q => by
    show sumI g n + g n = sumI h n + h n
    rw [sumI_congr (fun j hj => q j (Nat.lt_succ_of_lt hj)), q n (Nat.lt_succ_self n)]
def fstN (p : Nat → Bool) : Nat → Nat
  | 0 => 0
  | n + 1 => if fstN p n < n then fstN p n else if p n then n else n + 1
theorem fstN_le (p : Nat → Bool) : ∀ n, fstN p n ≤ n
  | 0 => Nat.le_refl 0
  | n + 1 => by
    have ih := fstN_le p n
    unfold fstN
    split
    · omega
    · split <;> omega
theorem fstN_no (p : Nat → Bool) : ∀ n k, k < fstN p n → p k = false
  | 0, k, h => absurd h (Nat.not_lt_zero k)
  | n + 1, k, h => by
    have ih := fstN_no p n k
    have hle := fstN_le p n
    unfold fstN at h
    split at h
    · exact ih h
    · rename_i hn
      have he : fstN p n = n := by omega
      split at h
      · exact ih (by omega)
      · rename_i hp
        rcases Nat.lt_or_ge k n with q | q
        · exact ih (by omega)
        · have : k = n := by omega
          subst this
          simpa using hp
theorem fstN_yes (p : Nat → Bool) : ∀ n, fstN p n < n → p (fstN p n) = true
  | 0, h => absurd h (Nat.not_lt_zero _)
  | n + 1, h => by
    have ih := fstN_yes p n
    have hle := fstN_le p n
    unfold fstN at h ⊢
    split
    · rename_i hn; exact ih hn
    · rename_i hn
      rw [if_neg hn] at h
      split
      · rename_i hp; exact hp
      · rename_i hp
        rw [if_neg hp] at h
        omega
theorem fstN_eq {p : Nat → Bool} {n i : Nat} (hi : i ≤ n) (h : ∀ j, j < i → p j = false) (h2 : i < n → p i = true) : fstN p n = i := by
  have hle := fstN_le p n
  rcases Nat.lt_trichotomy (fstN p n) i with q | q | q
  · have := fstN_yes p n (by omega)
    rw [h _ q] at this
    cases this
  · exact q
  · have := fstN_no p n i q
    rw [h2 (by omega)] at this
    cases this
theorem fstN_congr {p q : Nat → Bool} {n : Nat} (h : ∀ j, j < n → p j = q j) : fstN p n = fstN q n :=
  fstN_eq (fstN_le q n) (fun j hj => by rw [h j (Nat.lt_of_lt_of_le hj (fstN_le q n))]; exact fstN_no q n j hj) (fun hl => by rw [h _ hl]; exact fstN_yes q n hl)
theorem sw_out (x : Int32) (ks : List Int) (h : ∀ k ∈ ks, ¬ x.toInt = k) {lo hi : Int} (hk : ∀ z : Int, lo ≤ z → z ≤ hi → z ∈ ks) : x.toInt < lo ∨ hi < x.toInt := by
  rcases Int.lt_or_le x.toInt lo with q | q
  · exact Or.inl q
  · rcases Int.lt_or_le hi x.toInt with q2 | q2
    · exact Or.inr q2
    · exact absurd rfl (h _ (hk _ q q2))
theorem sw_ne {x k : Int32} {z : Int} (h : ¬ x = k) (hz : k.toInt = z) : ¬ x.toInt = z := fun q => h (Int32.toInt_inj.mp (q.trans hz.symm))
section AAL
variable {p : Program} {l : Launch} {e : Env} {R : Room} {s : State} {m : MethodId} {args : Array Value} {below : List Frame} {meth : Method} {c : Code} {H : Heap} {locs : List Loc} {cells slots : Nat} {Q : State → Prop}
variable {cc : ByteArray} {pc nL : Nat} {ls : Array Slot} {rest : List Value} {Ts : List Cond} {own : String} {G : GG} {ws : va_W} {a : Nat}
theorem nv_aald (cx : CallFix p m c cc nL s args Ts own) (hK : va_K G.1 vwCl (T3 G) s) (hP : va_P G.1 vwCl ws H) (q0 : Nat) {n : Nat} {f : Nat → Nat} (ha : ws[q0]? = some (a, .inl (G.2.2.2, n, .inr (.inr (.inr (.inr (fun i => some (f i)))))))) {j : Nat} (hj : j < n) (hn : n < 2147483648) (hdg : decode cc pc = .ok (.aaload, 1))
    (kk : W p l e R s m args below meth c H locs cells slots Q (F0 m (pc + 1) ls (.ref (f j) :: rest))) : W p l e R s m args below meth c H locs cells slots Q (F0 m pc ls (.int (nI j) :: .ref a :: rest)) :=
  va_aldq cx.1 cx.2.1 hK hP q0 2 ha rfl (vp_in_nI hj hn) hdg (by rw [nI_clamp (Nat.lt_trans hj hn)]; exact kk)
end AAL
/-! the model's row of numbers -/
def mn (f : Nat → Int32) : Nat := (f 4).toNatClampNeg
def ml (f : Nat → Int32) (k : Nat) : Nat := (f (57 + 18 * k)).toNatClampNeg
def mp (f : Nat → Int32) : Nat := (f 8).toNatClampNeg
def okM (f : Nat → Int32) : Prop := f 4 = nI (mn f) ∧ mn f ≤ 20 ∧ (∀ k, k < mn f → f (57 + 18 * k) = nI (ml f k) ∧ 1 ≤ ml f k ∧ ml f k ≤ 16) ∧ f 8 = nI (mp f) ∧ mp f ≤ 16 ∧ ¬ f 3 = 0
theorem okM.n {f : Nat → Int32} (h : okM f) : f 4 = nI (mn f) := h.1
theorem okM.n20 {f : Nat → Int32} (h : okM f) : mn f ≤ 20 := h.2.1
theorem okM.l {f : Nat → Int32} (h : okM f) {k : Nat} (hk : k < mn f) : f (57 + 18 * k) = nI (ml f k) := (h.2.2.1 k hk).1
theorem okM.l1 {f : Nat → Int32} (h : okM f) {k : Nat} (hk : k < mn f) : 1 ≤ ml f k := (h.2.2.1 k hk).2.1
theorem okM.l16 {f : Nat → Int32} (h : okM f) {k : Nat} (hk : k < mn f) : ml f k ≤ 16 := (h.2.2.1 k hk).2.2
theorem okM.p {f : Nat → Int32} (h : okM f) : f 8 = nI (mp f) := h.2.2.2.1
theorem okM.p16 {f : Nat → Int32} (h : okM f) : mp f ≤ 16 := h.2.2.2.2.1
theorem okM.c {f : Nat → Int32} (h : okM f) : ¬ f 3 = 0 := h.2.2.2.2.2
def inR (v a b : Int32) : Bool := !(decide (v < a)) && !(decide (b < v))
def mL (c : Int32) : Bool := inR c 65 90
def mPt (c : Int32) : Bool := decide (c = 46) || decide (c = 45)
def mW (c : Int32) : Int32 := if mL c then 3 + irem ((c - 65) * 5) 7 else if c = 46 then 2 else 4
def mO (c : Int32) : Int32 := if mL c then irem (c - 65) 3 else 2
def mI (c : Int32) : Int32 := if mL c then 1 + irem ((c - 65) * 3) 5 else if c = 46 then 1 else 2
def mPq (f : Nat → Int32) (a b : Int32) (k : Nat) : Bool := decide (f (9 + 3 * k) = a) && decide (f (9 + 3 * k + 1) = b)
def mPl (f : Nat → Int32) (a b : Int32) : Nat := fstN (mPq f a b) (mp f)
def mPlI (f : Nat → Int32) (a b : Int32) : Int32 := if mPl f a b < mp f then nI (mPl f a b) else (-1005)
def mAdj (f : Nat → Int32) (a b : Int32) : Int32 := if mPl f a b < mp f then f (9 + 3 * mPl f a b + 2) else 0
def mSpace (f : Nat → Int32) (a b : Int32) : Int32 := if 6 - mO a - mO b + mAdj f a b < 1 then 1 else 6 - mO a - mO b + mAdj f a b
def mSg (f : Nat → Int32) (k j : Nat) : Int32 := f (57 + 18 * k + (2 + j))
def mE (f : Nat → Int32) (k : Nat) : Int32 := f (57 + 18 * k + 1)
def mEs (f : Nat → Int32) : Int32 := sumI (mE f) (mn f)
def mSt (f : Nat → Int32) (k j : Nat) : Int32 := mW (mSg f k j) + mSpace f (mSg f k j) (mSg f k (j + 1))
def mUt (f : Nat → Int32) (k i : Nat) : Int32 := sumI (mSt f k) i
def mU (f : Nat → Int32) (k : Nat) : Int32 := mUt f k (ml f k - 1) + mW (mSg f k (ml f k - 1))
def mInk (f : Nat → Int32) (k : Nat) : Int32 := sumI (fun j => mI (mSg f k j)) (ml f k)
theorem nI_m1005 {n : Nat} (h : n < 2147483648) : ¬ nI n = (-1005) := by
  intro q
  have h2 := congrArg Int32.toInt q
  rw [nI_toInt h] at h2
  have h3 : Int32.toInt (-1005) = -1005 := by decide
  omega
