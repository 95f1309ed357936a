/-! ===== m1: laid by program ===== -/
set_option maxHeartbeats 4000000 in
set_option maxRecDepth 100000 in
theorem c_X7_in (l : Launch) (G : GG)  (v : Int32) (a : Int32) (b : Int32)  : RO l yX7_in wsX7_in 0 0 G ([]) [.int v, .int a, .int b] (b2i (inR v a b)) := by
  refine RO.start (cc := cX7_in) (maxL := 3) (ret := (some .boolean)) (by decide) rfl (Nat.le_of_ble_eq_true rfl) ?_
  intro p e s m below meth c ls cx hr hlocks hK hN hP hl
  have cx : CallFix p m c cX7_in 3 s [.int v, .int a, .int b].toArray wsX7_in RX7 := cx
  have hl : lv_has ls 3 [(0, .int v), (1, .int a), (2, .int b)] := hl
  refine lv_iload_n cx.1 cx.2.1 dX7_in_0 rfl (lv_at hl 0 rfl) ?_
  refine lv_iload_n cx.1 cx.2.1 dX7_in_1 rfl (lv_at hl 1 rfl) ?_
  refine lv_icmp_lt (x := v) (y := a) (tgt := 14) cx.1 cx.2.1 dX7_in_2 (by decide) (fun c_1 => ?_) (fun c_1 => ?_)
  · refine lv_iconst (v := nI 0) cx.1 cx.2.1 dX7_in_14 (by decide) ?_
    exact RO.retz (b := inR v a b) (x := 0) cx hr hlocks dX7_in_15 (by simp [inR, b2i, c_1]) rfl
  · refine lv_iload_n cx.1 cx.2.1 dX7_in_5 rfl (lv_at hl 0 rfl) ?_
    refine lv_iload_n cx.1 cx.2.1 dX7_in_6 rfl (lv_at hl 2 rfl) ?_
    refine lv_icmp_gt (x := v) (y := b) (tgt := 14) cx.1 cx.2.1 dX7_in_7 (by decide) (fun c_2 => ?_) (fun c_2 => ?_)
    · refine lv_iconst (v := nI 0) cx.1 cx.2.1 dX7_in_14 (by decide) ?_
      exact RO.retz (b := inR v a b) (x := 0) cx hr hlocks dX7_in_15 (by simp [inR, b2i, c_1, c_2]) rfl
    · refine lv_iconst (v := nI 1) cx.1 cx.2.1 dX7_in_10 (by decide) ?_
      refine lv_goto (tgt := 15) cx.1 cx.2.1 dX7_in_11 (by decide) ?_
      exact RO.retz (b := inR v a b) (x := 1) cx hr hlocks dX7_in_15 (by simp [inR, b2i, c_1, c_2]) rfl

set_option maxHeartbeats 4000000 in
set_option maxRecDepth 100000 in
theorem c_X7_isLetter (l : Launch) (G : GG)  (c0 : Int32)  : RO l yX7_isLetter wsX7_isLetter 1 22 G ([]) [.int c0] (b2i (mL c0)) := by
  refine RO.start (cc := cX7_isLetter) (maxL := 1) (ret := (some .boolean)) (by decide) rfl (Nat.le_of_ble_eq_true rfl) ?_
  intro p e s m below meth c ls cx hr hlocks hK hN hP hl
  have cx : CallFix p m c cX7_isLetter 1 s [.int c0].toArray wsX7_isLetter RX7 := cx
  have hl : lv_has ls 1 [(0, .int c0)] := hl
  refine lv_iload_n cx.1 cx.2.1 dX7_isLetter_0 rfl (lv_at hl 0 rfl) ?_
  refine lv_bipush (v := nI 65) cx.1 cx.2.1 dX7_isLetter_1 (by decide) ?_
  refine lv_bipush (v := nI 90) cx.1 cx.2.1 dX7_isLetter_3 (by decide) ?_
  refine RO.callS (As := [.int c0, .int 65, .int 90]) (rest := []) cx (c_X7_in l G c0 65 90) gX7_isLetter_X7_in rfl hd_X7_in ⟨Nat.le_of_ble_eq_true rfl, Nat.le_of_ble_eq_true rfl⟩ hK hN va_P.nil rfl hl.1 rfl (Nat.le_of_ble_eq_true rfl) dX7_isLetter_5 ⟨Nat.zero_le _, Nat.zero_le _⟩ ?_
  exact RO.retz (b := mL c0) (x := b2i (inR c0 65 90)) cx hr hlocks dX7_isLetter_8 (by rfl) rfl

set_option maxHeartbeats 4000000 in
set_option maxRecDepth 100000 in
theorem c_X7_isPoint (l : Launch) (G : GG)  (c0 : Int32)  : RO l yX7_isPoint wsX7_isPoint 0 0 G ([]) [.int c0] (b2i (mPt c0)) := by
  refine RO.start (cc := cX7_isPoint) (maxL := 1) (ret := (some .boolean)) (by decide) rfl (Nat.le_of_ble_eq_true rfl) ?_
  intro p e s m below meth c ls cx hr hlocks hK hN hP hl
  have cx : CallFix p m c cX7_isPoint 1 s [.int c0].toArray wsX7_isPoint RX7 := cx
  have hl : lv_has ls 1 [(0, .int c0)] := hl
  refine lv_iload_n cx.1 cx.2.1 dX7_isPoint_0 rfl (lv_at hl 0 rfl) ?_
  refine lv_bipush (v := nI 46) cx.1 cx.2.1 dX7_isPoint_1 (by decide) ?_
  refine lv_icmp_eq (x := c0) (y := 46) (tgt := 12) cx.1 cx.2.1 dX7_isPoint_3 (by decide) (fun c_1 => ?_) (fun c_1 => ?_)
  · refine lv_iconst (v := nI 1) cx.1 cx.2.1 dX7_isPoint_12 (by decide) ?_
    refine lv_goto (tgt := 17) cx.1 cx.2.1 dX7_isPoint_13 (by decide) ?_
    exact RO.retz (b := mPt c0) (x := 1) cx hr hlocks dX7_isPoint_17 (by simp [mPt, b2i, c_1]) rfl
  · refine lv_iload_n cx.1 cx.2.1 dX7_isPoint_6 rfl (lv_at hl 0 rfl) ?_
    refine lv_bipush (v := nI 45) cx.1 cx.2.1 dX7_isPoint_7 (by decide) ?_
    refine lv_icmp_ne (x := c0) (y := 45) (tgt := 16) cx.1 cx.2.1 dX7_isPoint_9 (by decide) (fun c_2 => ?_) (fun c_2 => ?_)
    · refine lv_iconst (v := nI 0) cx.1 cx.2.1 dX7_isPoint_16 (by decide) ?_
      exact RO.retz (b := mPt c0) (x := 0) cx hr hlocks dX7_isPoint_17 (by simp [mPt, b2i, c_1, c_2]) rfl
    · refine lv_iconst (v := nI 1) cx.1 cx.2.1 dX7_isPoint_12 (by decide) ?_
      refine lv_goto (tgt := 17) cx.1 cx.2.1 dX7_isPoint_13 (by decide) ?_
      exact RO.retz (b := mPt c0) (x := 1) cx hr hlocks dX7_isPoint_17 (by simp [mPt, b2i, c_1, c_2]) rfl

set_option maxHeartbeats 4000000 in
set_option maxRecDepth 100000 in
theorem c_X7_wide (l : Launch) (G : GG)  (c0 : Int32)  : RO l yX7_wide wsX7_wide 2 42 G ([]) [.int c0] (mW c0) := by
  refine RO.start (cc := cX7_wide) (maxL := 1) (ret := (some .int)) (by decide) rfl (Nat.le_of_ble_eq_true rfl) ?_
  intro p e s m below meth c ls cx hr hlocks hK hN hP hl
  have cx : CallFix p m c cX7_wide 1 s [.int c0].toArray wsX7_wide RX7 := cx
  have hl : lv_has ls 1 [(0, .int c0)] := hl
  refine lv_iload_n cx.1 cx.2.1 dX7_wide_0 rfl (lv_at hl 0 rfl) ?_
  refine RO.callS (As := [.int c0]) (rest := []) cx (c_X7_isLetter l G c0) gX7_wide_X7_isLetter rfl hd_X7_isLetter ⟨Nat.le_of_ble_eq_true rfl, Nat.le_of_ble_eq_true rfl⟩ hK hN va_P.nil rfl hl.1 rfl (Nat.le_of_ble_eq_true rfl) dX7_wide_1 ⟨Nat.zero_le _, Nat.zero_le _⟩ ?_
  refine nv_ifz (b := mL c0) (tgt := 21) cx dX7_wide_4 (by decide) (fun c_1 => ?_) (fun c_1 => ?_)
  · refine lv_iload_n cx.1 cx.2.1 dX7_wide_21 rfl (lv_at hl 0 rfl) ?_
    refine lv_bipush (v := nI 46) cx.1 cx.2.1 dX7_wide_22 (by decide) ?_
    refine lv_icmp_ne (x := c0) (y := 46) (tgt := 31) cx.1 cx.2.1 dX7_wide_24 (by decide) (fun c_2 => ?_) (fun c_2 => ?_)
    · refine lv_iconst (v := nI 4) cx.1 cx.2.1 dX7_wide_31 (by decide) ?_
      exact RO.ret (x := 4) cx hr hlocks dX7_wide_32 (by unfold mW; rw [c_1]; simp [c_1, c_2])
    · refine lv_iconst (v := nI 2) cx.1 cx.2.1 dX7_wide_27 (by decide) ?_
      refine lv_goto (tgt := 32) cx.1 cx.2.1 dX7_wide_28 (by decide) ?_
      exact RO.ret (x := 2) cx hr hlocks dX7_wide_32 (by unfold mW; rw [c_1]; simp [c_1, c_2])
  · refine lv_iconst (v := nI 3) cx.1 cx.2.1 dX7_wide_7 (by decide) ?_
    refine lv_iload_n cx.1 cx.2.1 dX7_wide_8 rfl (lv_at hl 0 rfl) ?_
    refine lv_bipush (v := nI 65) cx.1 cx.2.1 dX7_wide_9 (by decide) ?_
    refine lv_isub (x := c0) (y := 65) cx.1 cx.2.1 dX7_wide_11 ?_
    refine lv_iconst (v := nI 5) cx.1 cx.2.1 dX7_wide_12 (by decide) ?_
    refine lv_imul (x := c0 - 65) (y := 5) cx.1 cx.2.1 dX7_wide_13 ?_
    refine lv_bipush (v := nI 7) cx.1 cx.2.1 dX7_wide_14 (by decide) ?_
    refine lv_irem (x := (c0 - 65) * 5) (y := 7) cx.1 cx.2.1 dX7_wide_16 (by decide) ?_
    refine nv_eqi (y := irem ((c0 - 65) * 5) 7) rfl ?_
    refine lv_iadd (x := 3) (y := irem ((c0 - 65) * 5) 7) cx.1 cx.2.1 dX7_wide_17 ?_
    refine lv_goto (tgt := 32) cx.1 cx.2.1 dX7_wide_18 (by decide) ?_
    exact RO.ret (x := 3 + (irem ((c0 - 65) * 5) 7)) cx hr hlocks dX7_wide_32 (by unfold mW; rw [c_1]; simp [c_1])

set_option maxHeartbeats 4000000 in
set_option maxRecDepth 100000 in
theorem c_X7_open (l : Launch) (G : GG)  (c0 : Int32)  : RO l yX7_open wsX7_open 2 42 G ([]) [.int c0] (mO c0) := by
  refine RO.start (cc := cX7_open) (maxL := 1) (ret := (some .int)) (by decide) rfl (Nat.le_of_ble_eq_true rfl) ?_
  intro p e s m below meth c ls cx hr hlocks hK hN hP hl
  have cx : CallFix p m c cX7_open 1 s [.int c0].toArray wsX7_open RX7 := cx
  have hl : lv_has ls 1 [(0, .int c0)] := hl
  refine lv_iload_n cx.1 cx.2.1 dX7_open_0 rfl (lv_at hl 0 rfl) ?_
  refine RO.callS (As := [.int c0]) (rest := []) cx (c_X7_isLetter l G c0) gX7_open_X7_isLetter rfl hd_X7_isLetter ⟨Nat.le_of_ble_eq_true rfl, Nat.le_of_ble_eq_true rfl⟩ hK hN va_P.nil rfl hl.1 rfl (Nat.le_of_ble_eq_true rfl) dX7_open_1 ⟨Nat.zero_le _, Nat.zero_le _⟩ ?_
  refine nv_ifz (b := mL c0) (tgt := 16) cx dX7_open_4 (by decide) (fun c_1 => ?_) (fun c_1 => ?_)
  · refine lv_iconst (v := nI 2) cx.1 cx.2.1 dX7_open_16 (by decide) ?_
    exact RO.ret (x := 2) cx hr hlocks dX7_open_17 (by unfold mO; rw [c_1]; simp [c_1])
  · refine lv_iload_n cx.1 cx.2.1 dX7_open_7 rfl (lv_at hl 0 rfl) ?_
    refine lv_bipush (v := nI 65) cx.1 cx.2.1 dX7_open_8 (by decide) ?_
    refine lv_isub (x := c0) (y := 65) cx.1 cx.2.1 dX7_open_10 ?_
    refine lv_iconst (v := nI 3) cx.1 cx.2.1 dX7_open_11 (by decide) ?_
    refine lv_irem (x := c0 - 65) (y := 3) cx.1 cx.2.1 dX7_open_12 (by decide) ?_
    refine nv_eqi (y := irem (c0 - 65) 3) rfl ?_
    refine lv_goto (tgt := 17) cx.1 cx.2.1 dX7_open_13 (by decide) ?_
    exact RO.ret (x := irem (c0 - 65) 3) cx hr hlocks dX7_open_17 (by unfold mO; rw [c_1]; simp [c_1])

set_option maxHeartbeats 4000000 in
set_option maxRecDepth 100000 in
theorem c_X7_ink (l : Launch) (G : GG)  (c0 : Int32)  : RO l yX7_ink wsX7_ink 2 42 G ([]) [.int c0] (mI c0) := by
  refine RO.start (cc := cX7_ink) (maxL := 1) (ret := (some .int)) (by decide) rfl (Nat.le_of_ble_eq_true rfl) ?_
  intro p e s m below meth c ls cx hr hlocks hK hN hP hl
  have cx : CallFix p m c cX7_ink 1 s [.int c0].toArray wsX7_ink RX7 := cx
  have hl : lv_has ls 1 [(0, .int c0)] := hl
  refine lv_iload_n cx.1 cx.2.1 dX7_ink_0 rfl (lv_at hl 0 rfl) ?_
  refine RO.callS (As := [.int c0]) (rest := []) cx (c_X7_isLetter l G c0) gX7_ink_X7_isLetter rfl hd_X7_isLetter ⟨Nat.le_of_ble_eq_true rfl, Nat.le_of_ble_eq_true rfl⟩ hK hN va_P.nil rfl hl.1 rfl (Nat.le_of_ble_eq_true rfl) dX7_ink_1 ⟨Nat.zero_le _, Nat.zero_le _⟩ ?_
  refine nv_ifz (b := mL c0) (tgt := 20) cx dX7_ink_4 (by decide) (fun c_1 => ?_) (fun c_1 => ?_)
  · refine lv_iload_n cx.1 cx.2.1 dX7_ink_20 rfl (lv_at hl 0 rfl) ?_
    refine lv_bipush (v := nI 46) cx.1 cx.2.1 dX7_ink_21 (by decide) ?_
    refine lv_icmp_ne (x := c0) (y := 46) (tgt := 30) cx.1 cx.2.1 dX7_ink_23 (by decide) (fun c_2 => ?_) (fun c_2 => ?_)
    · refine lv_iconst (v := nI 2) cx.1 cx.2.1 dX7_ink_30 (by decide) ?_
      exact RO.ret (x := 2) cx hr hlocks dX7_ink_31 (by unfold mI; rw [c_1]; simp [c_1, c_2])
    · refine lv_iconst (v := nI 1) cx.1 cx.2.1 dX7_ink_26 (by decide) ?_
      refine lv_goto (tgt := 31) cx.1 cx.2.1 dX7_ink_27 (by decide) ?_
      exact RO.ret (x := 1) cx hr hlocks dX7_ink_31 (by unfold mI; rw [c_1]; simp [c_1, c_2])
  · refine lv_iconst (v := nI 1) cx.1 cx.2.1 dX7_ink_7 (by decide) ?_
    refine lv_iload_n cx.1 cx.2.1 dX7_ink_8 rfl (lv_at hl 0 rfl) ?_
    refine lv_bipush (v := nI 65) cx.1 cx.2.1 dX7_ink_9 (by decide) ?_
    refine lv_isub (x := c0) (y := 65) cx.1 cx.2.1 dX7_ink_11 ?_
    refine lv_iconst (v := nI 3) cx.1 cx.2.1 dX7_ink_12 (by decide) ?_
    refine lv_imul (x := c0 - 65) (y := 3) cx.1 cx.2.1 dX7_ink_13 ?_
    refine lv_iconst (v := nI 5) cx.1 cx.2.1 dX7_ink_14 (by decide) ?_
    refine lv_irem (x := (c0 - 65) * 3) (y := 5) cx.1 cx.2.1 dX7_ink_15 (by decide) ?_
    refine nv_eqi (y := irem ((c0 - 65) * 3) 5) rfl ?_
    refine lv_iadd (x := 1) (y := irem ((c0 - 65) * 3) 5) cx.1 cx.2.1 dX7_ink_16 ?_
    refine lv_goto (tgt := 31) cx.1 cx.2.1 dX7_ink_17 (by decide) ?_
    exact RO.ret (x := 1 + (irem ((c0 - 65) * 3) 5)) cx hr hlocks dX7_ink_31 (by unfold mI; rw [c_1]; simp [c_1])

theorem iw_X7_of_X7 : ∀ w ∈ wsX70, w ∈ wsX7_of := fun _ h => List.mem_cons_of_mem _ (List.mem_append_right _ h)
theorem fw_X7_of_f7 : (Cond.fieldLink RX7 7 "NamePlateModel" "now" "[I") ∈ wsX7_of := List.mem_of_getElem? (i := 1) rfl
set_option maxHeartbeats 4000000 in
set_option maxRecDepth 100000 in
theorem c_X7_of (l : Launch) (G : GG) (ad : Nat → Nat) (M : XS) (k : Nat) (w : Nat) (hb : 57 + 18 * k + w < 417) : RO l yX7_of wsX7_of 0 0 G (mdC G ad M) [.ref (ad 0), .int (nI k), .int (nI w)] (M 0 (57 + 18 * k + w)) := by
  refine RO.start (cc := cX7_of) (maxL := 3) (ret := (some .int)) (by decide) rfl (Nat.le_of_ble_eq_true rfl) ?_
  intro p e s m below meth c ls cx hr hlocks hK hN hP hl
  have cx : CallFix p m c cX7_of 3 s [.ref (ad 0), .int (nI k), .int (nI w)].toArray wsX7_of RX7 := cx
  have hl : lv_has ls 3 [(0, .ref (ad 0)), (1, .int (nI k)), (2, .int (nI w))] := hl
  refine lv_aload_n cx.1 cx.2.1 dX7_of_0 rfl (lv_at hl 0 rfl) ?_
  refine va_get (ci := 6) (C := RX7) (T := TX7) (N := 7) (v := .ref (ad 1)) cx.1 cx.2.1 cx.2.2.2.2 iw_X7_of_X7 cx.2.2.2.1 hK hP 0 rfl rfl 0 (by decide) (cx.2.2.2.2 _ fw_X7_of_f7) (fun _ h9 => h9) rfl dX7_of_1 ?_
  refine lv_bipush (v := nI 57) cx.1 cx.2.1 dX7_of_4 (by decide) ?_
  refine lv_bipush (v := nI 18) cx.1 cx.2.1 dX7_of_6 (by decide) ?_
  refine lv_iload_n cx.1 cx.2.1 dX7_of_8 rfl (lv_at hl 1 rfl) ?_
  refine nv_imul cx (a := 18) (b := k) dX7_of_9 ?_
  refine nv_iadd cx (a := 57) (b := 18 * k) dX7_of_10 ?_
  refine lv_iload_n cx.1 cx.2.1 dX7_of_11 rfl (lv_at hl 2 rfl) ?_
  refine nv_iadd cx (a := 57 + (18 * k)) (b := w) dX7_of_12 ?_
  refine nv_iald (j := 57 + (18 * k) + w) cx hK hP 1 1 rfl rfl (by omega) (by decide) dX7_of_13 ?_
  exact RO.ret (x := M 0 (57 + (18 * k) + w)) cx hr hlocks dX7_of_14 rfl

set_option maxHeartbeats 4000000 in
set_option maxRecDepth 100000 in
theorem c_X7_signOf (l : Launch) (G : GG) (ad : Nat → Nat) (M : XS) (k : Nat) (j : Nat) (hb : 57 + 18 * k + (2 + j) < 417) : RO l yX7_signOf wsX7_signOf 1 22 G (mdC G ad M) [.ref (ad 0), .int (nI k), .int (nI j)] (mSg (M 0) k j) := by
  refine RO.start (cc := cX7_signOf) (maxL := 3) (ret := (some .int)) (by decide) rfl (Nat.le_of_ble_eq_true rfl) ?_
  intro p e s m below meth c ls cx hr hlocks hK hN hP hl
  have cx : CallFix p m c cX7_signOf 3 s [.ref (ad 0), .int (nI k), .int (nI j)].toArray wsX7_signOf RX7 := cx
  have hl : lv_has ls 3 [(0, .ref (ad 0)), (1, .int (nI k)), (2, .int (nI j))] := hl
  refine lv_aload_n cx.1 cx.2.1 dX7_signOf_0 rfl (lv_at hl 0 rfl) ?_
  refine lv_iload_n cx.1 cx.2.1 dX7_signOf_1 rfl (lv_at hl 1 rfl) ?_
  refine lv_iconst (v := nI 2) cx.1 cx.2.1 dX7_signOf_2 (by decide) ?_
  refine lv_iload_n cx.1 cx.2.1 dX7_signOf_3 rfl (lv_at hl 2 rfl) ?_
  refine nv_iadd cx (a := 2) (b := j) dX7_signOf_4 ?_
  refine RO.callV (As := [.int (nI k), .int (nI (2 + j))]) (rest := []) cx (c_X7_of l G ad M k (2 + j) (by omega)) gX7_signOf_X7_of rfl hd_X7_of ⟨Nat.le_of_ble_eq_true rfl, Nat.le_of_ble_eq_true rfl⟩ (va_recv hK hP (ci := 6) (q0 := 0) rfl rfl) hK hN hP rfl hl.1 rfl (Nat.le_of_ble_eq_true rfl) dX7_signOf_5 ⟨Nat.zero_le _, Nat.zero_le _⟩ ?_
  exact RO.ret (x := M 0 (57 + 18 * k + (2 + j))) cx hr hlocks dX7_signOf_8 rfl

set_option maxHeartbeats 4000000 in
set_option maxRecDepth 100000 in
theorem c_X7_isEngraved (l : Launch) (G : GG) (ad : Nat → Nat) (M : XS) (k : Nat) (hb : k < 20) : RO l yX7_isEngraved wsX7_isEngraved 1 22 G (mdC G ad M) [.ref (ad 0), .int (nI k)] (b2i (decide (mE (M 0) k = 1))) := by
  refine RO.start (cc := cX7_isEngraved) (maxL := 2) (ret := (some .boolean)) (by decide) rfl (Nat.le_of_ble_eq_true rfl) ?_
  intro p e s m below meth c ls cx hr hlocks hK hN hP hl
  have cx : CallFix p m c cX7_isEngraved 2 s [.ref (ad 0), .int (nI k)].toArray wsX7_isEngraved RX7 := cx
  have hl : lv_has ls 2 [(0, .ref (ad 0)), (1, .int (nI k))] := hl
  refine lv_aload_n cx.1 cx.2.1 dX7_isEngraved_0 rfl (lv_at hl 0 rfl) ?_
  refine lv_iload_n cx.1 cx.2.1 dX7_isEngraved_1 rfl (lv_at hl 1 rfl) ?_
  refine lv_iconst (v := nI 1) cx.1 cx.2.1 dX7_isEngraved_2 (by decide) ?_
  refine RO.callV (As := [.int (nI k), .int (nI 1)]) (rest := []) cx (c_X7_of l G ad M k 1 (by omega)) gX7_isEngraved_X7_of rfl hd_X7_of ⟨Nat.le_of_ble_eq_true rfl, Nat.le_of_ble_eq_true rfl⟩ (va_recv hK hP (ci := 6) (q0 := 0) rfl rfl) hK hN hP rfl hl.1 rfl (Nat.le_of_ble_eq_true rfl) dX7_isEngraved_3 ⟨Nat.zero_le _, Nat.zero_le _⟩ ?_
  refine lv_iconst (v := nI 1) cx.1 cx.2.1 dX7_isEngraved_6 (by decide) ?_
  refine lv_icmp_ne (x := M 0 (57 + 18 * k + 1)) (y := 1) (tgt := 14) cx.1 cx.2.1 dX7_isEngraved_7 (by decide) (fun c_1 => ?_) (fun c_1 => ?_)
  · refine lv_iconst (v := nI 0) cx.1 cx.2.1 dX7_isEngraved_14 (by decide) ?_
    exact RO.retz (b := decide (mE (M 0) k = 1)) (x := 0) cx hr hlocks dX7_isEngraved_15 (by have e : mE (M 0) k = M 0 (57 + 18 * k + 1) := rfl; simp [e, b2i, c_1]) rfl
  · refine lv_iconst (v := nI 1) cx.1 cx.2.1 dX7_isEngraved_10 (by decide) ?_
    refine lv_goto (tgt := 15) cx.1 cx.2.1 dX7_isEngraved_11 (by decide) ?_
    exact RO.retz (b := decide (mE (M 0) k = 1)) (x := 1) cx hr hlocks dX7_isEngraved_15 (by have e : mE (M 0) k = M 0 (57 + 18 * k + 1) := rfl; simp [e, b2i, c_1]) rfl

theorem iw_X7_placeOf_X7 : ∀ w ∈ wsX70, w ∈ wsX7_placeOf := fun _ h => List.mem_cons_of_mem _ (List.mem_append_right _ h)
theorem fw_X7_placeOf_f7 : (Cond.fieldLink RX7 7 "NamePlateModel" "now" "[I") ∈ wsX7_placeOf := List.mem_of_getElem? (i := 1) rfl
set_option maxHeartbeats 4000000 in
set_option maxRecDepth 100000 in
theorem c_X7_placeOf (l : Launch) (G : GG) (ad : Nat → Nat) (M : XS) (a : Int32) (b : Int32) (hok : okM (M 0)) : RO l yX7_placeOf wsX7_placeOf 0 0 G (mdC G ad M) [.ref (ad 0), .int a, .int b] (mPlI (M 0) a b) := by
  refine RO.start (cc := cX7_placeOf) (maxL := 4) (ret := (some .int)) (by decide) rfl (Nat.le_of_ble_eq_true rfl) ?_
  intro p e s m below meth c ls cx hr hlocks hK hN hP hl
  have cx : CallFix p m c cX7_placeOf 4 s [.ref (ad 0), .int a, .int b].toArray wsX7_placeOf RX7 := cx
  have hl : lv_has ls 4 [(0, .ref (ad 0)), (1, .int a), (2, .int b)] := hl
  have hp16 := hok.p16
  refine lv_iconst (v := nI 0) cx.1 cx.2.1 dX7_placeOf_0 (by decide) ?_
  refine lv_istore_n (lv' := [(3, .int (nI 0)), (0, .ref (ad 0)), (1, .int a), (2, .int b)]) cx.1 cx.2.1 dX7_placeOf_1 rfl hl (by decide) rfl (fun ls hl => ?_)
  have lp2 : ∀ (r : Nat) (i : Nat) (hr9 : mp (M 0) - i < r) (hi : i ≤ mp (M 0)) (hno : ∀ j, j < i → mPq (M 0) a b j = false) (ls : Array Slot), lv_has ls 4 [(3, .int (nI i)), (0, .ref (ad 0)), (1, .int a), (2, .int b)] → W p l e ({ frames := 0, cells := 0, slots := 0, locals := 0 } : Room) s m [.ref (ad 0), .int a, .int b].toArray below meth c s.heap [] 0 0 (MQ below (vp_Si (fun r => r = (mPlI (M 0) a b))) [.ref (ad 0), .int a, .int b].toArray s 0 0 (fun _ => False)) (F0 m 2 ls []) := by
    intro r
    induction r with
    | zero => intro i hr9; exact absurd hr9 (Nat.not_lt_zero _)
    | succ r ih2 =>
      intro i hr9 hi hno ls hl
      refine lv_iload_n cx.1 cx.2.1 dX7_placeOf_2 rfl (lv_at hl 0 rfl) ?_
      refine lv_aload_n cx.1 cx.2.1 dX7_placeOf_3 rfl (lv_at hl 1 rfl) ?_
      refine va_get (ci := 6) (C := RX7) (T := TX7) (N := 7) (v := .ref (ad 1)) cx.1 cx.2.1 cx.2.2.2.2 iw_X7_placeOf_X7 cx.2.2.2.1 hK hP 0 rfl rfl 0 (by decide) (cx.2.2.2.2 _ fw_X7_placeOf_f7) (fun _ h9 => h9) rfl dX7_placeOf_4 ?_
      refine lv_bipush (v := nI 8) cx.1 cx.2.1 dX7_placeOf_7 (by decide) ?_
      refine nv_iald (j := 8) cx hK hP 1 1 rfl rfl (by omega) (by decide) dX7_placeOf_9 ?_
      refine nv_eqi (y := nI (mp (M 0))) hok.p ?_
      refine nv_icmp_ge (a := i) (b := mp (M 0)) (tgt := 53) cx dX7_placeOf_10 (by decide) (by omega) (by omega) (fun c_1 => ?_) (fun c_1 => ?_)
      · refine lv_sipush (v := (-1005)) cx.1 cx.2.1 dX7_placeOf_53 (by decide) ?_
        exact RO.ret (x := (-1005)) cx hr hlocks dX7_placeOf_56 (by have e : mPl (M 0) a b = i := fstN_eq hi hno (fun q => absurd q (by omega)); simp only [mPlI, e]; rw [if_neg (by omega)])
      · refine lv_aload_n cx.1 cx.2.1 dX7_placeOf_13 rfl (lv_at hl 1 rfl) ?_
        refine va_get (ci := 6) (C := RX7) (T := TX7) (N := 7) (v := .ref (ad 1)) cx.1 cx.2.1 cx.2.2.2.2 iw_X7_placeOf_X7 cx.2.2.2.1 hK hP 0 rfl rfl 0 (by decide) (cx.2.2.2.2 _ fw_X7_placeOf_f7) (fun _ h9 => h9) rfl dX7_placeOf_14 ?_
        refine lv_bipush (v := nI 9) cx.1 cx.2.1 dX7_placeOf_17 (by decide) ?_
        refine lv_iconst (v := nI 3) cx.1 cx.2.1 dX7_placeOf_19 (by decide) ?_
        refine lv_iload_n cx.1 cx.2.1 dX7_placeOf_20 rfl (lv_at hl 0 rfl) ?_
        refine nv_imul cx (a := 3) (b := i) dX7_placeOf_21 ?_
        refine nv_iadd cx (a := 9) (b := 3 * i) dX7_placeOf_22 ?_
        refine nv_iald (j := 9 + (3 * i)) cx hK hP 1 1 rfl rfl (by omega) (by decide) dX7_placeOf_23 ?_
        refine lv_iload_n cx.1 cx.2.1 dX7_placeOf_24 rfl (lv_at hl 2 rfl) ?_
        refine lv_icmp_ne (x := M 0 (9 + (3 * i))) (y := a) (tgt := 47) cx.1 cx.2.1 dX7_placeOf_25 (by decide) (fun c_2 => ?_) (fun c_2 => ?_)
        · refine lv_iinc (v := nI (i + 1)) (lv' := [(3, .int (nI (i + 1))), (0, .ref (ad 0)), (1, .int a), (2, .int b)]) cx.1 cx.2.1 dX7_placeOf_47 hl (k := 0) rfl (show nI i + Int32.ofInt 1 = nI (i + 1) from nI_add i 1) (by decide) rfl (fun ls hl => ?_)
          refine lv_goto (tgt := 2) cx.1 cx.2.1 dX7_placeOf_50 (by decide) ?_
          have hno2 : ∀ j, j < i + 1 → mPq (M 0) a b j = false := lt_s hno (by simp [mPq, c_1, c_2])
          exact ih2 (i + 1) (by omega) (by omega) hno2 ls (lv_sub hl [0, 1, 2, 3] rfl)
        · refine lv_aload_n cx.1 cx.2.1 dX7_placeOf_28 rfl (lv_at hl 1 rfl) ?_
          refine va_get (ci := 6) (C := RX7) (T := TX7) (N := 7) (v := .ref (ad 1)) cx.1 cx.2.1 cx.2.2.2.2 iw_X7_placeOf_X7 cx.2.2.2.1 hK hP 0 rfl rfl 0 (by decide) (cx.2.2.2.2 _ fw_X7_placeOf_f7) (fun _ h9 => h9) rfl dX7_placeOf_29 ?_
          refine lv_bipush (v := nI 9) cx.1 cx.2.1 dX7_placeOf_32 (by decide) ?_
          refine lv_iconst (v := nI 3) cx.1 cx.2.1 dX7_placeOf_34 (by decide) ?_
          refine lv_iload_n cx.1 cx.2.1 dX7_placeOf_35 rfl (lv_at hl 0 rfl) ?_
          refine nv_imul cx (a := 3) (b := i) dX7_placeOf_36 ?_
          refine nv_iadd cx (a := 9) (b := 3 * i) dX7_placeOf_37 ?_
          refine lv_iconst (v := nI 1) cx.1 cx.2.1 dX7_placeOf_38 (by decide) ?_
          refine nv_iadd cx (a := 9 + (3 * i)) (b := 1) dX7_placeOf_39 ?_
          refine nv_iald (j := 9 + (3 * i) + 1) cx hK hP 1 1 rfl rfl (by omega) (by decide) dX7_placeOf_40 ?_
          refine lv_iload_n cx.1 cx.2.1 dX7_placeOf_41 rfl (lv_at hl 3 rfl) ?_
          refine lv_icmp_ne (x := M 0 (9 + (3 * i) + 1)) (y := b) (tgt := 47) cx.1 cx.2.1 dX7_placeOf_42 (by decide) (fun c_3 => ?_) (fun c_3 => ?_)
          · refine lv_iinc (v := nI (i + 1)) (lv' := [(3, .int (nI (i + 1))), (0, .ref (ad 0)), (1, .int a), (2, .int b)]) cx.1 cx.2.1 dX7_placeOf_47 hl (k := 0) rfl (show nI i + Int32.ofInt 1 = nI (i + 1) from nI_add i 1) (by decide) rfl (fun ls hl => ?_)
            refine lv_goto (tgt := 2) cx.1 cx.2.1 dX7_placeOf_50 (by decide) ?_
            have hno2 : ∀ j, j < i + 1 → mPq (M 0) a b j = false := lt_s hno (by simp [mPq, c_1, c_2, c_3])
            exact ih2 (i + 1) (by omega) (by omega) hno2 ls (lv_sub hl [0, 1, 2, 3] rfl)
          · refine lv_iload_n cx.1 cx.2.1 dX7_placeOf_45 rfl (lv_at hl 0 rfl) ?_
            exact RO.ret (x := nI i) cx hr hlocks dX7_placeOf_46 (by have e : mPl (M 0) a b = i := fstN_eq hi hno (fun _ => by simp [mPq, c_1, c_2, c_3]); simp only [mPlI, e]; rw [if_pos (by omega)])
  exact lp2 _ 0 (Nat.lt_succ_self _) (by omega) (fun j hj => absurd hj (Nat.not_lt_zero _)) ls (lv_sub hl [0, 1, 2, 3] rfl)

theorem iw_X7_adjusted_X7 : ∀ w ∈ wsX70, w ∈ wsX7_adjusted := fun _ h => List.mem_cons_of_mem _ (List.mem_append_right _ h)
theorem fw_X7_adjusted_f7 : (Cond.fieldLink RX7 7 "NamePlateModel" "now" "[I") ∈ wsX7_adjusted := List.mem_of_getElem? (i := 1) rfl
set_option maxHeartbeats 4000000 in
set_option maxRecDepth 100000 in
theorem c_X7_adjusted (l : Launch) (G : GG) (ad : Nat → Nat) (M : XS) (a : Int32) (b : Int32) (hok : okM (M 0)) : RO l yX7_adjusted wsX7_adjusted 1 23 G (mdC G ad M) [.ref (ad 0), .int a, .int b] (mAdj (M 0) a b) := by
  refine RO.start (cc := cX7_adjusted) (maxL := 4) (ret := (some .int)) (by decide) rfl (Nat.le_of_ble_eq_true rfl) ?_
  intro p e s m below meth c ls cx hr hlocks hK hN hP hl
  have cx : CallFix p m c cX7_adjusted 4 s [.ref (ad 0), .int a, .int b].toArray wsX7_adjusted RX7 := cx
  have hl : lv_has ls 4 [(0, .ref (ad 0)), (1, .int a), (2, .int b)] := hl
  have hp16 := hok.p16
  refine lv_aload_n cx.1 cx.2.1 dX7_adjusted_0 rfl (lv_at hl 0 rfl) ?_
  refine lv_iload_n cx.1 cx.2.1 dX7_adjusted_1 rfl (lv_at hl 1 rfl) ?_
  refine lv_iload_n cx.1 cx.2.1 dX7_adjusted_2 rfl (lv_at hl 2 rfl) ?_
  refine RO.callV (As := [.int a, .int b]) (rest := []) cx (c_X7_placeOf l G ad M a b hok) gX7_adjusted_X7_placeOf rfl hd_X7_placeOf ⟨Nat.le_of_ble_eq_true rfl, Nat.le_of_ble_eq_true rfl⟩ (va_recv hK hP (ci := 6) (q0 := 0) rfl rfl) hK hN hP rfl hl.1 rfl (Nat.le_of_ble_eq_true rfl) dX7_adjusted_3 ⟨Nat.zero_le _, Nat.zero_le _⟩ ?_
  rcases Nat.lt_or_ge (mPl (M 0) a b) (mp (M 0)) with hq | hq
  · refine nv_eqi (y := nI (mPl (M 0) a b)) (if_pos hq) ?_
    refine lv_istore_n (lv' := [(3, .int (nI (mPl (M 0) a b))), (0, .ref (ad 0)), (1, .int a), (2, .int b)]) cx.1 cx.2.1 dX7_adjusted_6 rfl hl (by decide) rfl (fun ls hl => ?_)
    refine lv_iload_n cx.1 cx.2.1 dX7_adjusted_7 rfl (lv_at hl 0 rfl) ?_
    refine lv_sipush (v := (-1005)) cx.1 cx.2.1 dX7_adjusted_8 (by decide) ?_
    refine lv_icmp_ne (x := nI (mPl (M 0) a b)) (y := (-1005)) (tgt := 18) cx.1 cx.2.1 dX7_adjusted_11 (by decide) (fun c_1 => ?_) (fun c_1 => ?_)
    · refine lv_aload_n cx.1 cx.2.1 dX7_adjusted_18 rfl (lv_at hl 1 rfl) ?_
      refine va_get (ci := 6) (C := RX7) (T := TX7) (N := 7) (v := .ref (ad 1)) cx.1 cx.2.1 cx.2.2.2.2 iw_X7_adjusted_X7 cx.2.2.2.1 hK hP 0 rfl rfl 0 (by decide) (cx.2.2.2.2 _ fw_X7_adjusted_f7) (fun _ h9 => h9) rfl dX7_adjusted_19 ?_
      refine lv_bipush (v := nI 9) cx.1 cx.2.1 dX7_adjusted_22 (by decide) ?_
      refine lv_iconst (v := nI 3) cx.1 cx.2.1 dX7_adjusted_24 (by decide) ?_
      refine lv_iload_n cx.1 cx.2.1 dX7_adjusted_25 rfl (lv_at hl 0 rfl) ?_
      refine nv_imul cx (a := 3) (b := mPl (M 0) a b) dX7_adjusted_26 ?_
      refine nv_iadd cx (a := 9) (b := 3 * (mPl (M 0) a b)) dX7_adjusted_27 ?_
      refine lv_iconst (v := nI 2) cx.1 cx.2.1 dX7_adjusted_28 (by decide) ?_
      refine nv_iadd cx (a := 9 + (3 * (mPl (M 0) a b))) (b := 2) dX7_adjusted_29 ?_
      refine nv_iald (j := 9 + (3 * (mPl (M 0) a b)) + 2) cx hK hP 1 1 rfl rfl (by omega) (by decide) dX7_adjusted_30 ?_
      exact RO.ret (x := M 0 (9 + (3 * (mPl (M 0) a b)) + 2)) cx hr hlocks dX7_adjusted_31 (by first | exact (if_pos hq).symm | exact (if_neg (Nat.not_lt.mpr hq)).symm)
    · exact absurd c_1 (nI_m1005 (by omega))
  · refine nv_eqi (y := (-1005)) (if_neg (Nat.not_lt.mpr hq)) ?_
    refine lv_istore_n (lv' := [(3, .int (-1005)), (0, .ref (ad 0)), (1, .int a), (2, .int b)]) cx.1 cx.2.1 dX7_adjusted_6 rfl hl (by decide) rfl (fun ls hl => ?_)
    refine lv_iload_n cx.1 cx.2.1 dX7_adjusted_7 rfl (lv_at hl 0 rfl) ?_
    refine lv_sipush (v := (-1005)) cx.1 cx.2.1 dX7_adjusted_8 (by decide) ?_
    refine lv_icmp_ne (x := (-1005)) (y := (-1005)) (tgt := 18) cx.1 cx.2.1 dX7_adjusted_11 (by decide) (fun c_2 => ?_) (fun c_2 => ?_)
    · exact absurd rfl c_2
    · refine lv_iconst (v := nI 0) cx.1 cx.2.1 dX7_adjusted_14 (by decide) ?_
      refine lv_goto (tgt := 31) cx.1 cx.2.1 dX7_adjusted_15 (by decide) ?_
      exact RO.ret (x := 0) cx hr hlocks dX7_adjusted_31 (by first | exact (if_pos hq).symm | exact (if_neg (Nat.not_lt.mpr hq)).symm)

set_option maxHeartbeats 4000000 in
set_option maxRecDepth 100000 in
theorem c_X7_space (l : Launch) (G : GG) (ad : Nat → Nat) (M : XS) (a : Int32) (b : Int32) (hok : okM (M 0)) : RO l yX7_space wsX7_space 3 62 G (mdC G ad M) [.ref (ad 0), .int a, .int b] (mSpace (M 0) a b) := by
  refine RO.start (cc := cX7_space) (maxL := 4) (ret := (some .int)) (by decide) rfl (Nat.le_of_ble_eq_true rfl) ?_
  intro p e s m below meth c ls cx hr hlocks hK hN hP hl
  have cx : CallFix p m c cX7_space 4 s [.ref (ad 0), .int a, .int b].toArray wsX7_space RX7 := cx
  have hl : lv_has ls 4 [(0, .ref (ad 0)), (1, .int a), (2, .int b)] := hl
  refine lv_bipush (v := nI 6) cx.1 cx.2.1 dX7_space_0 (by decide) ?_
  refine lv_iload_n cx.1 cx.2.1 dX7_space_2 rfl (lv_at hl 1 rfl) ?_
  refine RO.callS (As := [.int a]) (rest := [.int (nI 6)]) cx (c_X7_open l G a) gX7_space_X7_open rfl hd_X7_open ⟨Nat.le_of_ble_eq_true rfl, Nat.le_of_ble_eq_true rfl⟩ hK hN va_P.nil rfl hl.1 rfl (Nat.le_of_ble_eq_true rfl) dX7_space_3 ⟨Nat.zero_le _, Nat.zero_le _⟩ ?_
  refine lv_isub (x := 6) (y := mO a) cx.1 cx.2.1 dX7_space_6 ?_
  refine lv_iload_n cx.1 cx.2.1 dX7_space_7 rfl (lv_at hl 2 rfl) ?_
  refine RO.callS (As := [.int b]) (rest := [.int (6 - (mO a))]) cx (c_X7_open l G b) gX7_space_X7_open rfl hd_X7_open ⟨Nat.le_of_ble_eq_true rfl, Nat.le_of_ble_eq_true rfl⟩ hK hN va_P.nil rfl hl.1 rfl (Nat.le_of_ble_eq_true rfl) dX7_space_8 ⟨Nat.zero_le _, Nat.zero_le _⟩ ?_
  refine lv_isub (x := 6 - (mO a)) (y := mO b) cx.1 cx.2.1 dX7_space_11 ?_
  refine lv_aload_n cx.1 cx.2.1 dX7_space_12 rfl (lv_at hl 0 rfl) ?_
  refine lv_iload_n cx.1 cx.2.1 dX7_space_13 rfl (lv_at hl 1 rfl) ?_
  refine lv_iload_n cx.1 cx.2.1 dX7_space_14 rfl (lv_at hl 2 rfl) ?_
  refine RO.callV (As := [.int a, .int b]) (rest := [.int ((6 - (mO a)) - (mO b))]) cx (c_X7_adjusted l G ad M a b hok) gX7_space_X7_adjusted rfl hd_X7_adjusted ⟨Nat.le_of_ble_eq_true rfl, Nat.le_of_ble_eq_true rfl⟩ (va_recv hK hP (ci := 6) (q0 := 0) rfl rfl) hK hN hP rfl hl.1 rfl (Nat.le_of_ble_eq_true rfl) dX7_space_15 ⟨Nat.zero_le _, Nat.zero_le _⟩ ?_
  refine lv_iadd (x := (6 - (mO a)) - (mO b)) (y := mAdj (M 0) a b) cx.1 cx.2.1 dX7_space_18 ?_
  refine lv_istore_n (lv' := [(3, .int (((6 - (mO a)) - (mO b)) + (mAdj (M 0) a b))), (0, .ref (ad 0)), (1, .int a), (2, .int b)]) cx.1 cx.2.1 dX7_space_19 rfl hl (by decide) rfl (fun ls hl => ?_)
  refine lv_iload_n cx.1 cx.2.1 dX7_space_20 rfl (lv_at hl 0 rfl) ?_
  refine lv_iconst (v := nI 1) cx.1 cx.2.1 dX7_space_21 (by decide) ?_
  refine lv_icmp_ge (x := ((6 - (mO a)) - (mO b)) + (mAdj (M 0) a b)) (y := 1) (tgt := 29) cx.1 cx.2.1 dX7_space_22 (by decide) (fun c_1 => ?_) (fun c_1 => ?_)
  · refine lv_iload_n cx.1 cx.2.1 dX7_space_29 rfl (lv_at hl 0 rfl) ?_
    exact RO.ret (x := ((6 - (mO a)) - (mO b)) + (mAdj (M 0) a b)) cx hr hlocks dX7_space_30 (by first | exact (if_neg (Int32.not_lt.mpr c_1)).symm | exact (if_pos (Int32.not_le.mp c_1)).symm)
  · refine lv_iconst (v := nI 1) cx.1 cx.2.1 dX7_space_25 (by decide) ?_
    refine lv_goto (tgt := 30) cx.1 cx.2.1 dX7_space_26 (by decide) ?_
    exact RO.ret (x := 1) cx hr hlocks dX7_space_30 (by first | exact (if_neg (Int32.not_lt.mpr c_1)).symm | exact (if_pos (Int32.not_le.mp c_1)).symm)

set_option maxHeartbeats 4000000 in
set_option maxRecDepth 100000 in
theorem c_X7_unitsTo (l : Launch) (G : GG) (ad : Nat → Nat) (M : XS) (k : Nat) (n : Nat) (hok : okM (M 0)) (hk : k < 20) (hn : n < 16) : RO l yX7_unitsTo wsX7_unitsTo 4 85 G (mdC G ad M) [.ref (ad 0), .int (nI k), .int (nI n)] (mUt (M 0) k n) := by
  refine RO.start (cc := cX7_unitsTo) (maxL := 5) (ret := (some .int)) (by decide) rfl (Nat.le_of_ble_eq_true rfl) ?_
  intro p e s m below meth c ls cx hr hlocks hK hN hP hl
  have cx : CallFix p m c cX7_unitsTo 5 s [.ref (ad 0), .int (nI k), .int (nI n)].toArray wsX7_unitsTo RX7 := cx
  have hl : lv_has ls 5 [(0, .ref (ad 0)), (1, .int (nI k)), (2, .int (nI n))] := hl
  refine lv_iconst (v := nI 0) cx.1 cx.2.1 dX7_unitsTo_0 (by decide) ?_
  refine lv_istore_n (lv' := [(3, .int (nI 0)), (0, .ref (ad 0)), (1, .int (nI k)), (2, .int (nI n))]) cx.1 cx.2.1 dX7_unitsTo_1 rfl hl (by decide) rfl (fun ls hl => ?_)
  refine lv_iconst (v := nI 0) cx.1 cx.2.1 dX7_unitsTo_2 (by decide) ?_
  refine lv_istore (lv' := [(4, .int (nI 0)), (3, .int (nI 0)), (0, .ref (ad 0)), (1, .int (nI k)), (2, .int (nI n))]) cx.1 cx.2.1 dX7_unitsTo_3 hl (by decide) rfl (fun ls hl => ?_)
  have lp5 : ∀ (r : Nat) (i : Nat) (hr9 : n - i < r) (hi : i ≤ n) (ls : Array Slot), lv_has ls 5 [(4, .int (nI i)), (3, .int (mUt (M 0) k i)), (0, .ref (ad 0)), (1, .int (nI k)), (2, .int (nI n))] → W p l e ({ frames := 4, cells := 0, slots := 0, locals := 85 } : Room) s m [.ref (ad 0), .int (nI k), .int (nI n)].toArray below meth c s.heap [] 0 0 (MQ below (vp_Si (fun r => r = (mUt (M 0) k n))) [.ref (ad 0), .int (nI k), .int (nI n)].toArray s 0 0 (fun _ => False)) (F0 m 5 ls []) := by
    intro r
    induction r with
    | zero => intro i hr9; exact absurd hr9 (Nat.not_lt_zero _)
    | succ r ih5 =>
      intro i hr9 hi ls hl
      refine lv_iload cx.1 cx.2.1 dX7_unitsTo_5 (lv_at hl 0 rfl) ?_
      refine lv_iload_n cx.1 cx.2.1 dX7_unitsTo_7 rfl (lv_at hl 4 rfl) ?_
      refine nv_icmp_ge (a := i) (b := n) (tgt := 51) cx dX7_unitsTo_8 (by decide) (by omega) (by omega) (fun c_1 => ?_) (fun c_1 => ?_)
      · refine lv_iload_n cx.1 cx.2.1 dX7_unitsTo_51 rfl (lv_at hl 1 rfl) ?_
        exact RO.ret (x := mUt (M 0) k i) cx hr hlocks dX7_unitsTo_52 (by have e : i = n := (by omega); rw [e])
      · refine lv_iload_n cx.1 cx.2.1 dX7_unitsTo_11 rfl (lv_at hl 1 rfl) ?_
        refine lv_aload_n cx.1 cx.2.1 dX7_unitsTo_12 rfl (lv_at hl 2 rfl) ?_
        refine lv_iload_n cx.1 cx.2.1 dX7_unitsTo_13 rfl (lv_at hl 3 rfl) ?_
        refine lv_iload cx.1 cx.2.1 dX7_unitsTo_14 (lv_at hl 0 rfl) ?_
        refine RO.callV (As := [.int (nI k), .int (nI i)]) (rest := [.int (mUt (M 0) k i)]) cx (c_X7_signOf l G ad M k i (by omega)) gX7_unitsTo_X7_signOf rfl hd_X7_signOf ⟨Nat.le_of_ble_eq_true rfl, Nat.le_of_ble_eq_true rfl⟩ (va_recv hK hP (ci := 6) (q0 := 0) rfl rfl) hK hN hP rfl hl.1 rfl (Nat.le_of_ble_eq_true rfl) dX7_unitsTo_16 ⟨Nat.zero_le _, Nat.zero_le _⟩ ?_
        refine RO.callS (As := [.int (mSg (M 0) k i)]) (rest := [.int (mUt (M 0) k i)]) cx (c_X7_wide l G (mSg (M 0) k i)) gX7_unitsTo_X7_wide rfl hd_X7_wide ⟨Nat.le_of_ble_eq_true rfl, Nat.le_of_ble_eq_true rfl⟩ hK hN va_P.nil rfl hl.1 rfl (Nat.le_of_ble_eq_true rfl) dX7_unitsTo_19 ⟨Nat.zero_le _, Nat.zero_le _⟩ ?_
        refine lv_aload_n cx.1 cx.2.1 dX7_unitsTo_22 rfl (lv_at hl 2 rfl) ?_
        refine lv_aload_n cx.1 cx.2.1 dX7_unitsTo_23 rfl (lv_at hl 2 rfl) ?_
        refine lv_iload_n cx.1 cx.2.1 dX7_unitsTo_24 rfl (lv_at hl 3 rfl) ?_
        refine lv_iload cx.1 cx.2.1 dX7_unitsTo_25 (lv_at hl 0 rfl) ?_
        refine RO.callV (As := [.int (nI k), .int (nI i)]) (rest := [.ref (ad 0), .int (mW (mSg (M 0) k i)), .int (mUt (M 0) k i)]) cx (c_X7_signOf l G ad M k i (by omega)) gX7_unitsTo_X7_signOf rfl hd_X7_signOf ⟨Nat.le_of_ble_eq_true rfl, Nat.le_of_ble_eq_true rfl⟩ (va_recv hK hP (ci := 6) (q0 := 0) rfl rfl) hK hN hP rfl hl.1 rfl (Nat.le_of_ble_eq_true rfl) dX7_unitsTo_27 ⟨Nat.zero_le _, Nat.zero_le _⟩ ?_
        refine lv_aload_n cx.1 cx.2.1 dX7_unitsTo_30 rfl (lv_at hl 2 rfl) ?_
        refine lv_iload_n cx.1 cx.2.1 dX7_unitsTo_31 rfl (lv_at hl 3 rfl) ?_
        refine lv_iload cx.1 cx.2.1 dX7_unitsTo_32 (lv_at hl 0 rfl) ?_
        refine lv_iconst (v := nI 1) cx.1 cx.2.1 dX7_unitsTo_34 (by decide) ?_
        refine nv_iadd cx (a := i) (b := 1) dX7_unitsTo_35 ?_
        refine RO.callV (As := [.int (nI k), .int (nI (i + 1))]) (rest := [.int (mSg (M 0) k i), .ref (ad 0), .int (mW (mSg (M 0) k i)), .int (mUt (M 0) k i)]) cx (c_X7_signOf l G ad M k (i + 1) (by omega)) gX7_unitsTo_X7_signOf rfl hd_X7_signOf ⟨Nat.le_of_ble_eq_true rfl, Nat.le_of_ble_eq_true rfl⟩ (va_recv hK hP (ci := 6) (q0 := 0) rfl rfl) hK hN hP rfl hl.1 rfl (Nat.le_of_ble_eq_true rfl) dX7_unitsTo_36 ⟨Nat.zero_le _, Nat.zero_le _⟩ ?_
        refine RO.callV (As := [.int (mSg (M 0) k i), .int (mSg (M 0) k (i + 1))]) (rest := [.int (mW (mSg (M 0) k i)), .int (mUt (M 0) k i)]) cx (c_X7_space l G ad M (mSg (M 0) k i) (mSg (M 0) k (i + 1)) hok) gX7_unitsTo_X7_space rfl hd_X7_space ⟨Nat.le_of_ble_eq_true rfl, Nat.le_of_ble_eq_true rfl⟩ (va_recv hK hP (ci := 6) (q0 := 0) rfl rfl) hK hN hP rfl hl.1 rfl (Nat.le_of_ble_eq_true rfl) dX7_unitsTo_39 ⟨Nat.zero_le _, Nat.zero_le _⟩ ?_
        refine lv_iadd (x := mW (mSg (M 0) k i)) (y := mSpace (M 0) (mSg (M 0) k i) (mSg (M 0) k (i + 1))) cx.1 cx.2.1 dX7_unitsTo_42 ?_
        refine lv_iadd (x := mUt (M 0) k i) (y := (mW (mSg (M 0) k i)) + (mSpace (M 0) (mSg (M 0) k i) (mSg (M 0) k (i + 1)))) cx.1 cx.2.1 dX7_unitsTo_43 ?_
        refine lv_istore_n (lv' := [(3, .int ((mUt (M 0) k i) + ((mW (mSg (M 0) k i)) + (mSpace (M 0) (mSg (M 0) k i) (mSg (M 0) k (i + 1)))))), (4, .int (nI i)), (0, .ref (ad 0)), (1, .int (nI k)), (2, .int (nI n))]) cx.1 cx.2.1 dX7_unitsTo_44 rfl hl (by decide) rfl (fun ls hl => ?_)
        refine lv_iinc (v := nI (i + 1)) (lv' := [(4, .int (nI (i + 1))), (3, .int ((mUt (M 0) k i) + ((mW (mSg (M 0) k i)) + (mSpace (M 0) (mSg (M 0) k i) (mSg (M 0) k (i + 1)))))), (0, .ref (ad 0)), (1, .int (nI k)), (2, .int (nI n))]) cx.1 cx.2.1 dX7_unitsTo_45 hl (k := 1) rfl (show nI i + Int32.ofInt 1 = nI (i + 1) from nI_add i 1) (by decide) rfl (fun ls hl => ?_)
        refine lv_goto (tgt := 5) cx.1 cx.2.1 dX7_unitsTo_48 (by decide) ?_
        exact ih5 (i + 1) (by omega) (by omega) ls (lv_sub hl [0, 1, 2, 3, 4] rfl)
  exact lp5 _ 0 (Nat.lt_succ_self _) (by omega) ls (lv_sub hl [0, 1, 2, 3, 4] rfl)

set_option maxHeartbeats 4000000 in
set_option maxRecDepth 100000 in
theorem c_X7_units (l : Launch) (G : GG) (ad : Nat → Nat) (M : XS) (k : Nat) (hok : okM (M 0)) (hk : k < mn (M 0)) : RO l yX7_units wsX7_units 5 109 G (mdC G ad M) [.ref (ad 0), .int (nI k)] (mU (M 0) k) := by
  refine RO.start (cc := cX7_units) (maxL := 3) (ret := (some .int)) (by decide) rfl (Nat.le_of_ble_eq_true rfl) ?_
  intro p e s m below meth c ls cx hr hlocks hK hN hP hl
  have cx : CallFix p m c cX7_units 3 s [.ref (ad 0), .int (nI k)].toArray wsX7_units RX7 := cx
  have hl : lv_has ls 3 [(0, .ref (ad 0)), (1, .int (nI k))] := hl
  have hl1 := hok.l1 hk
  have hl16 := hok.l16 hk
  have hn20 := hok.n20
  refine lv_aload_n cx.1 cx.2.1 dX7_units_0 rfl (lv_at hl 0 rfl) ?_
  refine lv_iload_n cx.1 cx.2.1 dX7_units_1 rfl (lv_at hl 1 rfl) ?_
  refine lv_iconst (v := nI 0) cx.1 cx.2.1 dX7_units_2 (by decide) ?_
  refine RO.callV (As := [.int (nI k), .int (nI 0)]) (rest := []) cx (c_X7_of l G ad M k 0 (by omega)) gX7_units_X7_of rfl hd_X7_of ⟨Nat.le_of_ble_eq_true rfl, Nat.le_of_ble_eq_true rfl⟩ (va_recv hK hP (ci := 6) (q0 := 0) rfl rfl) hK hN hP rfl hl.1 rfl (Nat.le_of_ble_eq_true rfl) dX7_units_3 ⟨Nat.zero_le _, Nat.zero_le _⟩ ?_
  refine nv_eqi (y := nI (ml (M 0) k)) (hok.l (by omega)) ?_
  refine lv_iconst (v := nI 1) cx.1 cx.2.1 dX7_units_6 (by decide) ?_
  refine nv_isub cx (a := ml (M 0) k) (b := 1) (by omega) dX7_units_7 ?_
  refine lv_istore_n (lv' := [(2, .int (nI (ml (M 0) k - 1))), (0, .ref (ad 0)), (1, .int (nI k))]) cx.1 cx.2.1 dX7_units_8 rfl hl (by decide) rfl (fun ls hl => ?_)
  refine lv_aload_n cx.1 cx.2.1 dX7_units_9 rfl (lv_at hl 1 rfl) ?_
  refine lv_iload_n cx.1 cx.2.1 dX7_units_10 rfl (lv_at hl 2 rfl) ?_
  refine lv_iload_n cx.1 cx.2.1 dX7_units_11 rfl (lv_at hl 0 rfl) ?_
  refine RO.callV (As := [.int (nI k), .int (nI (ml (M 0) k - 1))]) (rest := []) cx (c_X7_unitsTo l G ad M k (ml (M 0) k - 1) hok (by omega) (by omega)) gX7_units_X7_unitsTo rfl hd_X7_unitsTo ⟨Nat.le_of_ble_eq_true rfl, Nat.le_of_ble_eq_true rfl⟩ (va_recv hK hP (ci := 6) (q0 := 0) rfl rfl) hK hN hP rfl hl.1 rfl (Nat.le_of_ble_eq_true rfl) dX7_units_12 ⟨Nat.zero_le _, Nat.zero_le _⟩ ?_
  refine lv_aload_n cx.1 cx.2.1 dX7_units_15 rfl (lv_at hl 1 rfl) ?_
  refine lv_iload_n cx.1 cx.2.1 dX7_units_16 rfl (lv_at hl 2 rfl) ?_
  refine lv_iload_n cx.1 cx.2.1 dX7_units_17 rfl (lv_at hl 0 rfl) ?_
  refine RO.callV (As := [.int (nI k), .int (nI (ml (M 0) k - 1))]) (rest := [.int (mUt (M 0) k (ml (M 0) k - 1))]) cx (c_X7_signOf l G ad M k (ml (M 0) k - 1) (by omega)) gX7_units_X7_signOf rfl hd_X7_signOf ⟨Nat.le_of_ble_eq_true rfl, Nat.le_of_ble_eq_true rfl⟩ (va_recv hK hP (ci := 6) (q0 := 0) rfl rfl) hK hN hP rfl hl.1 rfl (Nat.le_of_ble_eq_true rfl) dX7_units_18 ⟨Nat.zero_le _, Nat.zero_le _⟩ ?_
  refine RO.callS (As := [.int (mSg (M 0) k (ml (M 0) k - 1))]) (rest := [.int (mUt (M 0) k (ml (M 0) k - 1))]) cx (c_X7_wide l G (mSg (M 0) k (ml (M 0) k - 1))) gX7_units_X7_wide rfl hd_X7_wide ⟨Nat.le_of_ble_eq_true rfl, Nat.le_of_ble_eq_true rfl⟩ hK hN va_P.nil rfl hl.1 rfl (Nat.le_of_ble_eq_true rfl) dX7_units_21 ⟨Nat.zero_le _, Nat.zero_le _⟩ ?_
  refine lv_iadd (x := mUt (M 0) k (ml (M 0) k - 1)) (y := mW (mSg (M 0) k (ml (M 0) k - 1))) cx.1 cx.2.1 dX7_units_24 ?_
  exact RO.ret (x := (mUt (M 0) k (ml (M 0) k - 1)) + (mW (mSg (M 0) k (ml (M 0) k - 1)))) cx hr hlocks dX7_units_25 rfl

set_option maxHeartbeats 4000000 in
set_option maxRecDepth 100000 in
theorem c_X7_inkOf (l : Launch) (G : GG) (ad : Nat → Nat) (M : XS) (k : Nat) (hok : okM (M 0)) (hk : k < mn (M 0)) : RO l yX7_inkOf wsX7_inkOf 3 62 G (mdC G ad M) [.ref (ad 0), .int (nI k)] (mInk (M 0) k) := by
  refine RO.start (cc := cX7_inkOf) (maxL := 4) (ret := (some .int)) (by decide) rfl (Nat.le_of_ble_eq_true rfl) ?_
  intro p e s m below meth c ls cx hr hlocks hK hN hP hl
  have cx : CallFix p m c cX7_inkOf 4 s [.ref (ad 0), .int (nI k)].toArray wsX7_inkOf RX7 := cx
  have hl : lv_has ls 4 [(0, .ref (ad 0)), (1, .int (nI k))] := hl
  have hl1 := hok.l1 hk
  have hl16 := hok.l16 hk
  have hn20 := hok.n20
  refine lv_iconst (v := nI 0) cx.1 cx.2.1 dX7_inkOf_0 (by decide) ?_
  refine lv_istore_n (lv' := [(2, .int (nI 0)), (0, .ref (ad 0)), (1, .int (nI k))]) cx.1 cx.2.1 dX7_inkOf_1 rfl hl (by decide) rfl (fun ls hl => ?_)
  refine lv_iconst (v := nI 0) cx.1 cx.2.1 dX7_inkOf_2 (by decide) ?_
  refine lv_istore_n (lv' := [(3, .int (nI 0)), (2, .int (nI 0)), (0, .ref (ad 0)), (1, .int (nI k))]) cx.1 cx.2.1 dX7_inkOf_3 rfl hl (by decide) rfl (fun ls hl => ?_)
  have lp4 : ∀ (r : Nat) (i : Nat) (hr9 : ml (M 0) k - i < r) (hi : i ≤ ml (M 0) k) (ls : Array Slot), lv_has ls 4 [(3, .int (nI i)), (2, .int (sumI (fun j => mI (mSg (M 0) k j)) i)), (0, .ref (ad 0)), (1, .int (nI k))] → W p l e ({ frames := 3, cells := 0, slots := 0, locals := 62 } : Room) s m [.ref (ad 0), .int (nI k)].toArray below meth c s.heap [] 0 0 (MQ below (vp_Si (fun r => r = (mInk (M 0) k))) [.ref (ad 0), .int (nI k)].toArray s 0 0 (fun _ => False)) (F0 m 4 ls []) := by
    intro r
    induction r with
    | zero => intro i hr9; exact absurd hr9 (Nat.not_lt_zero _)
    | succ r ih4 =>
      intro i hr9 hi ls hl
      refine lv_iload_n cx.1 cx.2.1 dX7_inkOf_4 rfl (lv_at hl 0 rfl) ?_
      refine lv_aload_n cx.1 cx.2.1 dX7_inkOf_5 rfl (lv_at hl 2 rfl) ?_
      refine lv_iload_n cx.1 cx.2.1 dX7_inkOf_6 rfl (lv_at hl 3 rfl) ?_
      refine lv_iconst (v := nI 0) cx.1 cx.2.1 dX7_inkOf_7 (by decide) ?_
      refine RO.callV (As := [.int (nI k), .int (nI 0)]) (rest := [.int (nI i)]) cx (c_X7_of l G ad M k 0 (by omega)) gX7_inkOf_X7_of rfl hd_X7_of ⟨Nat.le_of_ble_eq_true rfl, Nat.le_of_ble_eq_true rfl⟩ (va_recv hK hP (ci := 6) (q0 := 0) rfl rfl) hK hN hP rfl hl.1 rfl (Nat.le_of_ble_eq_true rfl) dX7_inkOf_8 ⟨Nat.zero_le _, Nat.zero_le _⟩ ?_
      refine nv_eqi (y := nI (ml (M 0) k)) (hok.l (by omega)) ?_
      refine nv_icmp_ge (a := i) (b := ml (M 0) k) (tgt := 32) cx dX7_inkOf_11 (by decide) (by omega) (by omega) (fun c_1 => ?_) (fun c_1 => ?_)
      · refine lv_iload_n cx.1 cx.2.1 dX7_inkOf_32 rfl (lv_at hl 1 rfl) ?_
        exact RO.ret (x := sumI (fun j => mI (mSg (M 0) k j)) i) cx hr hlocks dX7_inkOf_33 (by have e : i = ml (M 0) k := (by omega); rw [e]; rfl)
      · refine lv_iload_n cx.1 cx.2.1 dX7_inkOf_14 rfl (lv_at hl 1 rfl) ?_
        refine lv_aload_n cx.1 cx.2.1 dX7_inkOf_15 rfl (lv_at hl 2 rfl) ?_
        refine lv_iload_n cx.1 cx.2.1 dX7_inkOf_16 rfl (lv_at hl 3 rfl) ?_
        refine lv_iload_n cx.1 cx.2.1 dX7_inkOf_17 rfl (lv_at hl 0 rfl) ?_
        refine RO.callV (As := [.int (nI k), .int (nI i)]) (rest := [.int (sumI (fun j => mI (mSg (M 0) k j)) i)]) cx (c_X7_signOf l G ad M k i (by omega)) gX7_inkOf_X7_signOf rfl hd_X7_signOf ⟨Nat.le_of_ble_eq_true rfl, Nat.le_of_ble_eq_true rfl⟩ (va_recv hK hP (ci := 6) (q0 := 0) rfl rfl) hK hN hP rfl hl.1 rfl (Nat.le_of_ble_eq_true rfl) dX7_inkOf_18 ⟨Nat.zero_le _, Nat.zero_le _⟩ ?_
        refine RO.callS (As := [.int (mSg (M 0) k i)]) (rest := [.int (sumI (fun j => mI (mSg (M 0) k j)) i)]) cx (c_X7_ink l G (mSg (M 0) k i)) gX7_inkOf_X7_ink rfl hd_X7_ink ⟨Nat.le_of_ble_eq_true rfl, Nat.le_of_ble_eq_true rfl⟩ hK hN va_P.nil rfl hl.1 rfl (Nat.le_of_ble_eq_true rfl) dX7_inkOf_21 ⟨Nat.zero_le _, Nat.zero_le _⟩ ?_
        refine lv_iadd (x := sumI (fun j => mI (mSg (M 0) k j)) i) (y := mI (mSg (M 0) k i)) cx.1 cx.2.1 dX7_inkOf_24 ?_
        refine lv_istore_n (lv' := [(2, .int ((sumI (fun j => mI (mSg (M 0) k j)) i) + (mI (mSg (M 0) k i)))), (3, .int (nI i)), (0, .ref (ad 0)), (1, .int (nI k))]) cx.1 cx.2.1 dX7_inkOf_25 rfl hl (by decide) rfl (fun ls hl => ?_)
        refine lv_iinc (v := nI (i + 1)) (lv' := [(3, .int (nI (i + 1))), (2, .int ((sumI (fun j => mI (mSg (M 0) k j)) i) + (mI (mSg (M 0) k i)))), (0, .ref (ad 0)), (1, .int (nI k))]) cx.1 cx.2.1 dX7_inkOf_26 hl (k := 1) rfl (show nI i + Int32.ofInt 1 = nI (i + 1) from nI_add i 1) (by decide) rfl (fun ls hl => ?_)
        refine lv_goto (tgt := 4) cx.1 cx.2.1 dX7_inkOf_29 (by decide) ?_
        exact ih4 (i + 1) (by omega) (by omega) ls (lv_sub hl [0, 1, 2, 3] rfl)
  exact lp4 _ 0 (Nat.lt_succ_self _) (by omega) ls (lv_sub hl [0, 1, 2, 3] rfl)

theorem iw_X7_engraved_X7 : ∀ w ∈ wsX70, w ∈ wsX7_engraved := fun _ h => List.mem_cons_of_mem _ (List.mem_append_right _ h)
theorem fw_X7_engraved_f7 : (Cond.fieldLink RX7 7 "NamePlateModel" "now" "[I") ∈ wsX7_engraved := List.mem_of_getElem? (i := 1) rfl
set_option maxHeartbeats 4000000 in
set_option maxRecDepth 100000 in
theorem c_X7_engraved (l : Launch) (G : GG) (ad : Nat → Nat) (M : XS)  (hok : okM (M 0)) : RO l yX7_engraved wsX7_engraved 1 22 G (mdC G ad M) [.ref (ad 0)] (mEs (M 0)) := by
  refine RO.start (cc := cX7_engraved) (maxL := 3) (ret := (some .int)) (by decide) rfl (Nat.le_of_ble_eq_true rfl) ?_
  intro p e s m below meth c ls cx hr hlocks hK hN hP hl
  have cx : CallFix p m c cX7_engraved 3 s [.ref (ad 0)].toArray wsX7_engraved RX7 := cx
  have hl : lv_has ls 3 [(0, .ref (ad 0))] := hl
  have hn20 := hok.n20
  refine lv_iconst (v := nI 0) cx.1 cx.2.1 dX7_engraved_0 (by decide) ?_
  refine lv_istore_n (lv' := [(1, .int (nI 0)), (0, .ref (ad 0))]) cx.1 cx.2.1 dX7_engraved_1 rfl hl (by decide) rfl (fun ls hl => ?_)
  refine lv_iconst (v := nI 0) cx.1 cx.2.1 dX7_engraved_2 (by decide) ?_
  refine lv_istore_n (lv' := [(2, .int (nI 0)), (1, .int (nI 0)), (0, .ref (ad 0))]) cx.1 cx.2.1 dX7_engraved_3 rfl hl (by decide) rfl (fun ls hl => ?_)
  have lp4 : ∀ (r : Nat) (i : Nat) (hr9 : mn (M 0) - i < r) (hi : i ≤ mn (M 0)) (ls : Array Slot), lv_has ls 3 [(2, .int (nI i)), (1, .int (sumI (mE (M 0)) i)), (0, .ref (ad 0))] → W p l e ({ frames := 1, cells := 0, slots := 0, locals := 22 } : Room) s m [.ref (ad 0)].toArray below meth c s.heap [] 0 0 (MQ below (vp_Si (fun r => r = (mEs (M 0)))) [.ref (ad 0)].toArray s 0 0 (fun _ => False)) (F0 m 4 ls []) := by
    intro r
    induction r with
    | zero => intro i hr9; exact absurd hr9 (Nat.not_lt_zero _)
    | succ r ih4 =>
      intro i hr9 hi ls hl
      refine lv_iload_n cx.1 cx.2.1 dX7_engraved_4 rfl (lv_at hl 0 rfl) ?_
      refine lv_aload_n cx.1 cx.2.1 dX7_engraved_5 rfl (lv_at hl 2 rfl) ?_
      refine va_get (ci := 6) (C := RX7) (T := TX7) (N := 7) (v := .ref (ad 1)) cx.1 cx.2.1 cx.2.2.2.2 iw_X7_engraved_X7 cx.2.2.2.1 hK hP 0 rfl rfl 0 (by decide) (cx.2.2.2.2 _ fw_X7_engraved_f7) (fun _ h9 => h9) rfl dX7_engraved_6 ?_
      refine lv_iconst (v := nI 4) cx.1 cx.2.1 dX7_engraved_9 (by decide) ?_
      refine nv_iald (j := 4) cx hK hP 1 1 rfl rfl (by omega) (by decide) dX7_engraved_10 ?_
      refine nv_eqi (y := nI (mn (M 0))) hok.n ?_
      refine nv_icmp_ge (a := i) (b := mn (M 0)) (tgt := 29) cx dX7_engraved_11 (by decide) (by omega) (by omega) (fun c_1 => ?_) (fun c_1 => ?_)
      · refine lv_iload_n cx.1 cx.2.1 dX7_engraved_29 rfl (lv_at hl 1 rfl) ?_
        exact RO.ret (x := sumI (mE (M 0)) i) cx hr hlocks dX7_engraved_30 (by have e : i = mn (M 0) := (by omega); rw [e]; rfl)
      · refine lv_iload_n cx.1 cx.2.1 dX7_engraved_14 rfl (lv_at hl 1 rfl) ?_
        refine lv_aload_n cx.1 cx.2.1 dX7_engraved_15 rfl (lv_at hl 2 rfl) ?_
        refine lv_iload_n cx.1 cx.2.1 dX7_engraved_16 rfl (lv_at hl 0 rfl) ?_
        refine lv_iconst (v := nI 1) cx.1 cx.2.1 dX7_engraved_17 (by decide) ?_
        refine RO.callV (As := [.int (nI i), .int (nI 1)]) (rest := [.int (sumI (mE (M 0)) i)]) cx (c_X7_of l G ad M i 1 (by omega)) gX7_engraved_X7_of rfl hd_X7_of ⟨Nat.le_of_ble_eq_true rfl, Nat.le_of_ble_eq_true rfl⟩ (va_recv hK hP (ci := 6) (q0 := 0) rfl rfl) hK hN hP rfl hl.1 rfl (Nat.le_of_ble_eq_true rfl) dX7_engraved_18 ⟨Nat.zero_le _, Nat.zero_le _⟩ ?_
        refine lv_iadd (x := sumI (mE (M 0)) i) (y := M 0 (57 + 18 * i + 1)) cx.1 cx.2.1 dX7_engraved_21 ?_
        refine lv_istore_n (lv' := [(1, .int ((sumI (mE (M 0)) i) + (M 0 (57 + 18 * i + 1)))), (2, .int (nI i)), (0, .ref (ad 0))]) cx.1 cx.2.1 dX7_engraved_22 rfl hl (by decide) rfl (fun ls hl => ?_)
        refine lv_iinc (v := nI (i + 1)) (lv' := [(2, .int (nI (i + 1))), (1, .int ((sumI (mE (M 0)) i) + (M 0 (57 + 18 * i + 1)))), (0, .ref (ad 0))]) cx.1 cx.2.1 dX7_engraved_23 hl (k := 1) rfl (show nI i + Int32.ofInt 1 = nI (i + 1) from nI_add i 1) (by decide) rfl (fun ls hl => ?_)
        refine lv_goto (tgt := 4) cx.1 cx.2.1 dX7_engraved_26 (by decide) ?_
        exact ih4 (i + 1) (by omega) (by omega) ls (lv_sub hl [0, 1, 2] rfl)
  exact lp4 _ 0 (Nat.lt_succ_self _) (by omega) ls (lv_sub hl [0, 1, 2] rfl)
