/-! ===== bits of an int, and how many there are ===== -/
theorem bnd (a b : Nat) : nI a &&& nI b = nI (a &&& b) := by
  apply Int32.toBitVec_inj.mp
  show BitVec.ofNat 32 a &&& BitVec.ofNat 32 b = BitVec.ofNat 32 (a &&& b)
  apply BitVec.eq_of_getLsbD_eq
  intro i hi
  simp [hi]
theorem bor (a b : Nat) : nI a ||| nI b = nI (a ||| b) := by
  apply Int32.toBitVec_inj.mp
  show BitVec.ofNat 32 a ||| BitVec.ofNat 32 b = BitVec.ofNat 32 (a ||| b)
  apply BitVec.eq_of_getLsbD_eq
  intro i hi
  simp [hi]
theorem bcnt : ∀ j : Fin 32, (UInt32.ofNat j.val &&& Int32.toUInt32 31).toNat % 32 = j.val := by decide +kernel
theorem bush {k j : Nat} (hk : k < 2147483648) (hj : j < 32) : iushr (nI k) (nI j) = nI (k >>> j) := by
  have hs : k >>> j ≤ k := by rw [Nat.shiftRight_eq_div_pow]; exact Nat.div_le_self _ _
  have e2 : UInt32.ofNat k >>> (UInt32.ofNat j &&& Int32.toUInt32 31) = UInt32.ofNat (k >>> j) := by
    apply UInt32.toNat_inj.mp
    have h1 : (UInt32.ofNat k).toNat = k := Nat.mod_eq_of_lt (by omega)
    have h2 : (UInt32.ofNat (k >>> j)).toNat = k >>> j := Nat.mod_eq_of_lt (by omega)
    rw [UInt32.toNat_shiftRight, bcnt ⟨j, hj⟩, h1, h2]
  show (UInt32.ofNat k >>> (UInt32.ofNat j &&& Int32.toUInt32 31)).toInt32 = _
  rw [e2]
  rfl
def bn1 (e : Nat) : Nat := Nat.sub e (Nat.land (Nat.shiftRight e 1) 1431655765)
def bn2 (a : Nat) : Nat := Nat.add (Nat.land a 858993459) (Nat.land (Nat.shiftRight a 2) 858993459)
def bn3 (a : Nat) : Nat := Nat.land (Nat.add a (Nat.shiftRight a 4)) 252645135
def bn4 (a : Nat) : Nat := Nat.add a (Nat.shiftRight a 8)
def bn5 (a : Nat) : Nat := Nat.add a (Nat.shiftRight a 16)
def bN (e : Nat) : Nat := Nat.land (bn5 (bn4 (bn3 (bn2 (bn1 e))))) 63
def bchk : Nat → Nat → Nat → Bool
  | 0, e, c => Nat.beq (bN e) c
  | d + 1, e, c => bchk d (Nat.mul 2 e) c && bchk d (Nat.add (Nat.mul 2 e) 1) (Nat.add c 1)
def bitS (e : Nat) : Nat → Nat
  | 0 => 0
  | n + 1 => bitS e n + (if e.testBit n = true then 1 else 0)
theorem bitS_c {a b : Nat} : ∀ {n : Nat}, (∀ t, t < n → a.testBit t = b.testBit t) → bitS a n = bitS b n
  | 0, _ => rfl
  | n + 1, h => by
    show bitS a n + _ = bitS b n + _
    rw [bitS_c (fun t ht => h t (Nat.lt_succ_of_lt ht)), h n (Nat.lt_succ_self n)]
theorem bchk_ok : ∀ {d e c : Nat}, bchk d e c = true → ∀ i, i < 2 ^ d → bN (e * 2 ^ d + i) = c + bitS i d
  | 0, e, c, h, i, hi => by
    have h0 : i = 0 := by omega
    subst h0
    have := Nat.eq_of_beq_eq_true h
    rw [Nat.pow_zero, Nat.mul_one]
    exact this
  | d + 1, e, c, h, i, hi => by
    have h2 : (bchk d (2 * e) c && bchk d (2 * e + 1) (c + 1)) = true := h
    rw [Bool.and_eq_true] at h2
    have hp : 2 ^ (d + 1) = 2 ^ d + 2 ^ d := by rw [Nat.pow_succ]; omega
    have he : e * 2 ^ (d + 1) = 2 * e * 2 ^ d := by rw [Nat.pow_succ, Nat.mul_comm (2 ^ d) 2, ← Nat.mul_assoc, Nat.mul_comm e 2]
    show _ = c + (bitS i d + _)
    rcases Nat.lt_or_ge i (2 ^ d) with q | q
    · rw [he, bchk_ok h2.1 i q, Nat.testBit_lt_two_pow q]
      rfl
    · obtain ⟨j, rfl⟩ : ∃ j, i = 2 ^ d + j := ⟨i - 2 ^ d, by omega⟩
      have hj : j < 2 ^ d := by omega
      have e1 : 2 * e * 2 ^ d + (2 ^ d + j) = (2 * e + 1) * 2 ^ d + j := by rw [Nat.add_mul, Nat.one_mul]; omega
      rw [he, e1, bchk_ok h2.2 j hj, bitS_c (fun t ht => Nat.testBit_two_pow_add_gt ht j), Nat.testBit_two_pow_add_eq, Nat.testBit_lt_two_pow hj]
      show c + 1 + bitS j d = c + (bitS j d + 1)
      omega
