/-! ===== the bits of 20 seats, counted: by the kernel, sixteen times 65536 ===== -/
theorem bk16_0 : bchk 16 0 0 = true := by decide +kernel
theorem bk16_1 : bchk 16 1 1 = true := by decide +kernel
theorem bk16_2 : bchk 16 2 1 = true := by decide +kernel
theorem bk16_3 : bchk 16 3 2 = true := by decide +kernel
theorem bk16_4 : bchk 16 4 1 = true := by decide +kernel
theorem bk16_5 : bchk 16 5 2 = true := by decide +kernel
theorem bk16_6 : bchk 16 6 2 = true := by decide +kernel
theorem bk16_7 : bchk 16 7 3 = true := by decide +kernel
theorem bk16_8 : bchk 16 8 1 = true := by decide +kernel
theorem bk16_9 : bchk 16 9 2 = true := by decide +kernel
theorem bk16_10 : bchk 16 10 2 = true := by decide +kernel
theorem bk16_11 : bchk 16 11 3 = true := by decide +kernel
theorem bk16_12 : bchk 16 12 2 = true := by decide +kernel
theorem bk16_13 : bchk 16 13 3 = true := by decide +kernel
theorem bk16_14 : bchk 16 14 3 = true := by decide +kernel
theorem bk16_15 : bchk 16 15 4 = true := by decide +kernel
theorem bchk_s {d e c : Nat} (h1 : bchk d (Nat.mul 2 e) c = true) (h2 : bchk d (Nat.add (Nat.mul 2 e) 1) (Nat.add c 1) = true) : bchk (d + 1) e c = true := by
  show (bchk d (Nat.mul 2 e) c && bchk d (Nat.add (Nat.mul 2 e) 1) (Nat.add c 1)) = true
  rw [h1, h2]
  rfl
theorem bk17_0 : bchk 17 0 0 = true := bchk_s (d := 16) bk16_0 bk16_1
theorem bk17_1 : bchk 17 1 1 = true := bchk_s (d := 16) bk16_2 bk16_3
theorem bk17_2 : bchk 17 2 1 = true := bchk_s (d := 16) bk16_4 bk16_5
theorem bk17_3 : bchk 17 3 2 = true := bchk_s (d := 16) bk16_6 bk16_7
theorem bk17_4 : bchk 17 4 1 = true := bchk_s (d := 16) bk16_8 bk16_9
theorem bk17_5 : bchk 17 5 2 = true := bchk_s (d := 16) bk16_10 bk16_11
theorem bk17_6 : bchk 17 6 2 = true := bchk_s (d := 16) bk16_12 bk16_13
theorem bk17_7 : bchk 17 7 3 = true := bchk_s (d := 16) bk16_14 bk16_15
theorem bk18_0 : bchk 18 0 0 = true := bchk_s (d := 17) bk17_0 bk17_1
theorem bk18_1 : bchk 18 1 1 = true := bchk_s (d := 17) bk17_2 bk17_3
theorem bk18_2 : bchk 18 2 1 = true := bchk_s (d := 17) bk17_4 bk17_5
theorem bk18_3 : bchk 18 3 2 = true := bchk_s (d := 17) bk17_6 bk17_7
theorem bk19_0 : bchk 19 0 0 = true := bchk_s (d := 18) bk18_0 bk18_1
theorem bk19_1 : bchk 19 1 1 = true := bchk_s (d := 18) bk18_2 bk18_3
theorem bk20_0 : bchk 20 0 0 = true := bchk_s (d := 19) bk19_0 bk19_1
theorem bN_pop {e : Nat} (h : e < 1048576) : bN e = bitS e 20 := by
  have := bchk_ok bk20_0 e (show e < 2 ^ 20 from h)
  rw [Nat.zero_mul, Nat.zero_add, Nat.zero_add] at this
  exact this
theorem land_le (a b : Nat) : a &&& b ≤ a := Nat.and_le_left
theorem bitc_N {e : Nat} (h : e < 1048576) : bitc (nI e) = nI (bN e) := by
  have s1 : e >>> 1 ≤ e := by rw [Nat.shiftRight_eq_div_pow]; exact Nat.div_le_self _ _
  have l1 : bn1 e ≤ e := Nat.sub_le _ _
  have e1 : bc1 (nI e) = nI (bn1 e) := by
    unfold bc1
    rw [show (1 : Int32) = nI 1 from rfl, bush (by omega) (by decide), show (1431655765 : Int32) = nI 1431655765 from rfl, bnd, pk_sub (Nat.le_trans (land_le _ _) s1)]
    rfl
  have s2 : bn1 e >>> 2 ≤ bn1 e := by rw [Nat.shiftRight_eq_div_pow]; exact Nat.div_le_self _ _
  have e2 : bc2 (nI (bn1 e)) = nI (bn2 (bn1 e)) := by
    unfold bc2
    rw [show (2 : Int32) = nI 2 from rfl, bush (by omega) (by decide), show (858993459 : Int32) = nI 858993459 from rfl, bnd, bnd, nI_add]
    rfl
  have l2 : bn2 (bn1 e) ≤ e + e := Nat.add_le_add (Nat.le_trans (land_le _ _) l1) (Nat.le_trans (land_le _ _) (Nat.le_trans s2 l1))
  have e3 : bc3 (nI (bn2 (bn1 e))) = nI (bn3 (bn2 (bn1 e))) := by
    unfold bc3
    rw [show (4 : Int32) = nI 4 from rfl, bush (by omega) (by decide), show (252645135 : Int32) = nI 252645135 from rfl, nI_add, bnd]
    rfl
  have s3 : bn2 (bn1 e) >>> 4 ≤ bn2 (bn1 e) := by rw [Nat.shiftRight_eq_div_pow]; exact Nat.div_le_self _ _
  have l3 : bn3 (bn2 (bn1 e)) ≤ 4 * e := Nat.le_trans (land_le _ _) (show bn2 (bn1 e) + bn2 (bn1 e) >>> 4 ≤ 4 * e by omega)
  have e4 : bc4 (nI (bn3 (bn2 (bn1 e)))) = nI (bn4 (bn3 (bn2 (bn1 e)))) := by
    unfold bc4
    rw [show (8 : Int32) = nI 8 from rfl, bush (by omega) (by decide), nI_add]
    rfl
  have s4 : bn3 (bn2 (bn1 e)) >>> 8 ≤ bn3 (bn2 (bn1 e)) := by rw [Nat.shiftRight_eq_div_pow]; exact Nat.div_le_self _ _
  have l4 : bn4 (bn3 (bn2 (bn1 e))) ≤ 8 * e := show bn3 (bn2 (bn1 e)) + bn3 (bn2 (bn1 e)) >>> 8 ≤ 8 * e by omega
  have e5 : bc5 (nI (bn4 (bn3 (bn2 (bn1 e))))) = nI (bn5 (bn4 (bn3 (bn2 (bn1 e))))) := by
    unfold bc5
    rw [show (16 : Int32) = nI 16 from rfl, bush (by omega) (by decide), nI_add]
    rfl
  unfold bitc
  rw [e1, e2, e3, e4, e5, show (63 : Int32) = nI 63 from rfl, bnd]
  rfl
theorem bitc_pop {e : Nat} (h : e < 1048576) : bitc (nI e) = nI (bitS e 20) := by rw [bitc_N h, bN_pop h]
