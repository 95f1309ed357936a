/-! ===== x1: laid by program ===== -/
set_option maxHeartbeats 4000000 in
set_option maxRecDepth 100000 in
theorem c_X3_isLetter (l : Launch) (G : GG)  (c0 : Int32)  : RO l yX3_isLetter wsX3_isLetter 0 0 G ([]) [.int c0] (b2i (xL c0)) := by
  refine RO.start (cc := cX3_isLetter) (maxL := 1) (ret := (some .boolean)) (by decide) rfl (Nat.le_of_ble_eq_true rfl) ?_
  intro p e s m below meth c ls cx hr hlocks hK hN hP hl
  have cx : CallFix p m c cX3_isLetter 1 s [.int c0].toArray wsX3_isLetter RX3 := cx
  have hl : lv_has ls 1 [(0, .int c0)] := hl
  refine lv_iload_n cx.1 cx.2.1 dX3_isLetter_0 rfl (lv_at hl 0 rfl) ?_
  refine lv_bipush (v := nI 65) cx.1 cx.2.1 dX3_isLetter_1 (by decide) ?_
  refine lv_icmp_lt (x := c0) (y := 65) (tgt := 16) cx.1 cx.2.1 dX3_isLetter_3 (by decide) (fun c_1 => ?_) (fun c_1 => ?_)
  · refine lv_iconst (v := nI 0) cx.1 cx.2.1 dX3_isLetter_16 (by decide) ?_
    exact RO.retz (b := xL c0) (x := 0) cx hr hlocks dX3_isLetter_17 (by simp [xL, b2i, c_1]) rfl
  · refine lv_iload_n cx.1 cx.2.1 dX3_isLetter_6 rfl (lv_at hl 0 rfl) ?_
    refine lv_bipush (v := nI 90) cx.1 cx.2.1 dX3_isLetter_7 (by decide) ?_
    refine lv_icmp_gt (x := c0) (y := 90) (tgt := 16) cx.1 cx.2.1 dX3_isLetter_9 (by decide) (fun c_2 => ?_) (fun c_2 => ?_)
    · refine lv_iconst (v := nI 0) cx.1 cx.2.1 dX3_isLetter_16 (by decide) ?_
      exact RO.retz (b := xL c0) (x := 0) cx hr hlocks dX3_isLetter_17 (by simp [xL, b2i, c_1, c_2]) rfl
    · refine lv_iconst (v := nI 1) cx.1 cx.2.1 dX3_isLetter_12 (by decide) ?_
      refine lv_goto (tgt := 17) cx.1 cx.2.1 dX3_isLetter_13 (by decide) ?_
      exact RO.retz (b := xL c0) (x := 1) cx hr hlocks dX3_isLetter_17 (by simp [xL, b2i, c_1, c_2]) rfl

set_option maxHeartbeats 4000000 in
set_option maxRecDepth 100000 in
theorem c_X3_isMark (l : Launch) (G : GG)  (c0 : Int32)  : RO l yX3_isMark wsX3_isMark 0 0 G ([]) [.int c0] (b2i (xMk c0)) := by
  refine RO.start (cc := cX3_isMark) (maxL := 1) (ret := (some .boolean)) (by decide) rfl (Nat.le_of_ble_eq_true rfl) ?_
  intro p e s m below meth c ls cx hr hlocks hK hN hP hl
  have cx : CallFix p m c cX3_isMark 1 s [.int c0].toArray wsX3_isMark RX3 := cx
  have hl : lv_has ls 1 [(0, .int c0)] := hl
  refine lv_iload_n cx.1 cx.2.1 dX3_isMark_0 rfl (lv_at hl 0 rfl) ?_
  refine lv_bipush (v := nI 46) cx.1 cx.2.1 dX3_isMark_1 (by decide) ?_
  refine lv_icmp_eq (x := c0) (y := 46) (tgt := 12) cx.1 cx.2.1 dX3_isMark_3 (by decide) (fun c_1 => ?_) (fun c_1 => ?_)
  · refine lv_iconst (v := nI 1) cx.1 cx.2.1 dX3_isMark_12 (by decide) ?_
    refine lv_goto (tgt := 17) cx.1 cx.2.1 dX3_isMark_13 (by decide) ?_
    exact RO.retz (b := xMk c0) (x := 1) cx hr hlocks dX3_isMark_17 (by simp [xMk, b2i, c_1]) rfl
  · refine lv_iload_n cx.1 cx.2.1 dX3_isMark_6 rfl (lv_at hl 0 rfl) ?_
    refine lv_bipush (v := nI 45) cx.1 cx.2.1 dX3_isMark_7 (by decide) ?_
    refine lv_icmp_ne (x := c0) (y := 45) (tgt := 16) cx.1 cx.2.1 dX3_isMark_9 (by decide) (fun c_2 => ?_) (fun c_2 => ?_)
    · refine lv_iconst (v := nI 0) cx.1 cx.2.1 dX3_isMark_16 (by decide) ?_
      exact RO.retz (b := xMk c0) (x := 0) cx hr hlocks dX3_isMark_17 (by simp [xMk, b2i, c_1, c_2]) rfl
    · refine lv_iconst (v := nI 1) cx.1 cx.2.1 dX3_isMark_12 (by decide) ?_
      refine lv_goto (tgt := 17) cx.1 cx.2.1 dX3_isMark_13 (by decide) ?_
      exact RO.retz (b := xMk c0) (x := 1) cx hr hlocks dX3_isMark_17 (by simp [xMk, b2i, c_1, c_2]) rfl

set_option maxHeartbeats 4000000 in
set_option maxRecDepth 100000 in
theorem c_X3_isKnown (l : Launch) (G : GG)  (c0 : Int32)  : RO l yX3_isKnown wsX3_isKnown 1 20 G ([]) [.int c0] (b2i (xOk c0)) := by
  refine RO.start (cc := cX3_isKnown) (maxL := 1) (ret := (some .boolean)) (by decide) rfl (Nat.le_of_ble_eq_true rfl) ?_
  intro p e s m below meth c ls cx hr hlocks hK hN hP hl
  have cx : CallFix p m c cX3_isKnown 1 s [.int c0].toArray wsX3_isKnown RX3 := cx
  have hl : lv_has ls 1 [(0, .int c0)] := hl
  refine lv_iload_n cx.1 cx.2.1 dX3_isKnown_0 rfl (lv_at hl 0 rfl) ?_
  refine RO.callS (As := [.int c0]) (rest := []) cx (c_X3_isLetter l G c0) gX3_isKnown_X3_isLetter rfl hd_X3_isLetter ⟨Nat.le_of_ble_eq_true rfl, Nat.le_of_ble_eq_true rfl⟩ hK hN va_P.nil rfl hl.1 rfl (Nat.le_of_ble_eq_true rfl) dX3_isKnown_1 ⟨Nat.zero_le _, Nat.zero_le _⟩ ?_
  refine nv_ifnz (b := xL c0) (tgt := 14) cx dX3_isKnown_4 (by decide) (fun c_1 => ?_) (fun c_1 => ?_)
  · refine lv_iconst (v := nI 1) cx.1 cx.2.1 dX3_isKnown_14 (by decide) ?_
    refine lv_goto (tgt := 19) cx.1 cx.2.1 dX3_isKnown_15 (by decide) ?_
    exact RO.retz (b := xOk c0) (x := 1) cx hr hlocks dX3_isKnown_19 (by simp [xOk, b2i, c_1]) rfl
  · refine lv_iload_n cx.1 cx.2.1 dX3_isKnown_7 rfl (lv_at hl 0 rfl) ?_
    refine RO.callS (As := [.int c0]) (rest := []) cx (c_X3_isMark l G c0) gX3_isKnown_X3_isMark rfl hd_X3_isMark ⟨Nat.le_of_ble_eq_true rfl, Nat.le_of_ble_eq_true rfl⟩ hK hN va_P.nil rfl hl.1 rfl (Nat.le_of_ble_eq_true rfl) dX3_isKnown_8 ⟨Nat.zero_le _, Nat.zero_le _⟩ ?_
    refine nv_ifz (b := xMk c0) (tgt := 18) cx dX3_isKnown_11 (by decide) (fun c_2 => ?_) (fun c_2 => ?_)
    · refine lv_iconst (v := nI 0) cx.1 cx.2.1 dX3_isKnown_18 (by decide) ?_
      exact RO.retz (b := xOk c0) (x := 0) cx hr hlocks dX3_isKnown_19 (by simp [xOk, b2i, c_1, c_2]) rfl
    · refine lv_iconst (v := nI 1) cx.1 cx.2.1 dX3_isKnown_14 (by decide) ?_
      refine lv_goto (tgt := 19) cx.1 cx.2.1 dX3_isKnown_15 (by decide) ?_
      exact RO.retz (b := xOk c0) (x := 1) cx hr hlocks dX3_isKnown_19 (by simp [xOk, b2i, c_1, c_2]) rfl

set_option maxHeartbeats 4000000 in
set_option maxRecDepth 100000 in
theorem c_X3_width (l : Launch) (G : GG)  (c0 : Int32)  : RO l yX3_width wsX3_width 0 0 G ([]) [.int c0] (xW c0) := by
  refine RO.start (cc := cX3_width) (maxL := 1) (ret := (some .int)) (by decide) rfl (Nat.le_of_ble_eq_true rfl) ?_
  intro p e s m below meth c ls cx hr hlocks hK hN hP hl
  have cx : CallFix p m c cX3_width 1 s [.int c0].toArray wsX3_width RX3 := cx
  have hl : lv_has ls 1 [(0, .int c0)] := hl
  refine lv_iload_n cx.1 cx.2.1 dX3_width_0 rfl (lv_at hl 0 rfl) ?_
  refine lv_bipush (v := nI 46) cx.1 cx.2.1 dX3_width_1 (by decide) ?_
  refine lv_icmp_ne (x := c0) (y := 46) (tgt := 8) cx.1 cx.2.1 dX3_width_3 (by decide) (fun c_1 => ?_) (fun c_1 => ?_)
  · refine lv_iload_n cx.1 cx.2.1 dX3_width_8 rfl (lv_at hl 0 rfl) ?_
    refine lv_bipush (v := nI 45) cx.1 cx.2.1 dX3_width_9 (by decide) ?_
    refine lv_icmp_ne (x := c0) (y := 45) (tgt := 16) cx.1 cx.2.1 dX3_width_11 (by decide) (fun c_2 => ?_) (fun c_2 => ?_)
    · refine lv_iconst (v := nI 3) cx.1 cx.2.1 dX3_width_16 (by decide) ?_
      refine lv_iload_n cx.1 cx.2.1 dX3_width_17 rfl (lv_at hl 0 rfl) ?_
      refine lv_bipush (v := nI 65) cx.1 cx.2.1 dX3_width_18 (by decide) ?_
      refine lv_isub (x := c0) (y := 65) cx.1 cx.2.1 dX3_width_20 ?_
      refine lv_iconst (v := nI 5) cx.1 cx.2.1 dX3_width_21 (by decide) ?_
      refine lv_imul (x := c0 - 65) (y := 5) cx.1 cx.2.1 dX3_width_22 ?_
      refine lv_bipush (v := nI 7) cx.1 cx.2.1 dX3_width_23 (by decide) ?_
      refine lv_irem (x := (c0 - 65) * 5) (y := 7) cx.1 cx.2.1 dX3_width_25 (by decide) ?_
      refine nv_eqi (y := irem ((c0 - 65) * 5) 7) rfl ?_
      refine lv_iadd (x := 3) (y := irem ((c0 - 65) * 5) 7) cx.1 cx.2.1 dX3_width_26 ?_
      exact RO.ret (x := 3 + (irem ((c0 - 65) * 5) 7)) cx hr hlocks dX3_width_27 (by simp [xW, c_1, c_2])
    · refine lv_iconst (v := nI 4) cx.1 cx.2.1 dX3_width_14 (by decide) ?_
      exact RO.ret (x := 4) cx hr hlocks dX3_width_15 (by simp [xW, c_1, c_2])
  · refine lv_iconst (v := nI 2) cx.1 cx.2.1 dX3_width_6 (by decide) ?_
    exact RO.ret (x := 2) cx hr hlocks dX3_width_7 (by simp [xW, c_1])

set_option maxHeartbeats 4000000 in
set_option maxRecDepth 100000 in
theorem c_X3_ink (l : Launch) (G : GG)  (c0 : Int32)  : RO l yX3_ink wsX3_ink 0 0 G ([]) [.int c0] (xI c0) := by
  refine RO.start (cc := cX3_ink) (maxL := 1) (ret := (some .int)) (by decide) rfl (Nat.le_of_ble_eq_true rfl) ?_
  intro p e s m below meth c ls cx hr hlocks hK hN hP hl
  have cx : CallFix p m c cX3_ink 1 s [.int c0].toArray wsX3_ink RX3 := cx
  have hl : lv_has ls 1 [(0, .int c0)] := hl
  refine lv_iload_n cx.1 cx.2.1 dX3_ink_0 rfl (lv_at hl 0 rfl) ?_
  refine lv_bipush (v := nI 46) cx.1 cx.2.1 dX3_ink_1 (by decide) ?_
  refine lv_icmp_ne (x := c0) (y := 46) (tgt := 8) cx.1 cx.2.1 dX3_ink_3 (by decide) (fun c_1 => ?_) (fun c_1 => ?_)
  · refine lv_iload_n cx.1 cx.2.1 dX3_ink_8 rfl (lv_at hl 0 rfl) ?_
    refine lv_bipush (v := nI 45) cx.1 cx.2.1 dX3_ink_9 (by decide) ?_
    refine lv_icmp_ne (x := c0) (y := 45) (tgt := 16) cx.1 cx.2.1 dX3_ink_11 (by decide) (fun c_2 => ?_) (fun c_2 => ?_)
    · refine lv_iconst (v := nI 1) cx.1 cx.2.1 dX3_ink_16 (by decide) ?_
      refine lv_iload_n cx.1 cx.2.1 dX3_ink_17 rfl (lv_at hl 0 rfl) ?_
      refine lv_bipush (v := nI 65) cx.1 cx.2.1 dX3_ink_18 (by decide) ?_
      refine lv_isub (x := c0) (y := 65) cx.1 cx.2.1 dX3_ink_20 ?_
      refine lv_iconst (v := nI 3) cx.1 cx.2.1 dX3_ink_21 (by decide) ?_
      refine lv_imul (x := c0 - 65) (y := 3) cx.1 cx.2.1 dX3_ink_22 ?_
      refine lv_iconst (v := nI 5) cx.1 cx.2.1 dX3_ink_23 (by decide) ?_
      refine lv_irem (x := (c0 - 65) * 3) (y := 5) cx.1 cx.2.1 dX3_ink_24 (by decide) ?_
      refine nv_eqi (y := irem ((c0 - 65) * 3) 5) rfl ?_
      refine lv_iadd (x := 1) (y := irem ((c0 - 65) * 3) 5) cx.1 cx.2.1 dX3_ink_25 ?_
      exact RO.ret (x := 1 + (irem ((c0 - 65) * 3) 5)) cx hr hlocks dX3_ink_26 (by simp [xI, c_1, c_2])
    · refine lv_iconst (v := nI 2) cx.1 cx.2.1 dX3_ink_14 (by decide) ?_
      exact RO.ret (x := 2) cx hr hlocks dX3_ink_15 (by simp [xI, c_1, c_2])
  · refine lv_iconst (v := nI 1) cx.1 cx.2.1 dX3_ink_6 (by decide) ?_
    exact RO.ret (x := 1) cx hr hlocks dX3_ink_7 (by simp [xI, c_1])

set_option maxHeartbeats 4000000 in
set_option maxRecDepth 100000 in
theorem c_X3_openness (l : Launch) (G : GG)  (c0 : Int32)  : RO l yX3_openness wsX3_openness 0 0 G ([]) [.int c0] (xO c0) := by
  refine RO.start (cc := cX3_openness) (maxL := 1) (ret := (some .int)) (by decide) rfl (Nat.le_of_ble_eq_true rfl) ?_
  intro p e s m below meth c ls cx hr hlocks hK hN hP hl
  have cx : CallFix p m c cX3_openness 1 s [.int c0].toArray wsX3_openness RX3 := cx
  have hl : lv_has ls 1 [(0, .int c0)] := hl
  refine lv_iload_n cx.1 cx.2.1 dX3_openness_0 rfl (lv_at hl 0 rfl) ?_
  refine lv_bipush (v := nI 46) cx.1 cx.2.1 dX3_openness_1 (by decide) ?_
  refine lv_icmp_eq (x := c0) (y := 46) (tgt := 12) cx.1 cx.2.1 dX3_openness_3 (by decide) (fun c_1 => ?_) (fun c_1 => ?_)
  · refine lv_iconst (v := nI 2) cx.1 cx.2.1 dX3_openness_12 (by decide) ?_
    exact RO.ret (x := 2) cx hr hlocks dX3_openness_13 (by simp [xO, c_1])
  · refine lv_iload_n cx.1 cx.2.1 dX3_openness_6 rfl (lv_at hl 0 rfl) ?_
    refine lv_bipush (v := nI 45) cx.1 cx.2.1 dX3_openness_7 (by decide) ?_
    refine lv_icmp_ne (x := c0) (y := 45) (tgt := 14) cx.1 cx.2.1 dX3_openness_9 (by decide) (fun c_2 => ?_) (fun c_2 => ?_)
    · refine lv_iload_n cx.1 cx.2.1 dX3_openness_14 rfl (lv_at hl 0 rfl) ?_
      refine lv_bipush (v := nI 65) cx.1 cx.2.1 dX3_openness_15 (by decide) ?_
      refine lv_isub (x := c0) (y := 65) cx.1 cx.2.1 dX3_openness_17 ?_
      refine lv_iconst (v := nI 3) cx.1 cx.2.1 dX3_openness_18 (by decide) ?_
      refine lv_irem (x := c0 - 65) (y := 3) cx.1 cx.2.1 dX3_openness_19 (by decide) ?_
      refine nv_eqi (y := irem (c0 - 65) 3) rfl ?_
      exact RO.ret (x := irem (c0 - 65) 3) cx hr hlocks dX3_openness_20 (by simp [xO, c_1, c_2])
    · refine lv_iconst (v := nI 2) cx.1 cx.2.1 dX3_openness_12 (by decide) ?_
      exact RO.ret (x := 2) cx hr hlocks dX3_openness_13 (by simp [xO, c_1, c_2])

set_option maxHeartbeats 4000000 in
set_option maxRecDepth 100000 in
theorem c_J9_floorDiv_7cf53 (l : Launch) (G : GG)  (a : Int32) (b : Int32) (hd : ¬ b = 0) : RO l yJ9_floorDiv_7cf53 wsJ9_floorDiv_7cf53 0 0 G ([]) [.int a, .int b] (fdiv a b) := by
  refine RO.startF (cc := cJ9_floorDiv_7cf53) (maxL := 3) (ret := (some .int)) floorPlain rfl (Nat.le_of_ble_eq_true rfl) ?_
  intro p e s m below meth c ls cx hr hlocks hK hN hP hl
  have cx : CallFix p m c cJ9_floorDiv_7cf53 3 s [.int a, .int b].toArray wsJ9_floorDiv_7cf53 RJ9 := cx
  have hl : lv_has ls 3 [(0, .int a), (1, .int b)] := hl
  refine lv_iload_n cx.1 cx.2.1 dJ9_floorDiv_7cf53_0 rfl (lv_at hl 0 rfl) ?_
  refine lv_iload_n cx.1 cx.2.1 dJ9_floorDiv_7cf53_1 rfl (lv_at hl 1 rfl) ?_
  refine lv_idiv (x := a) (y := b) cx.1 cx.2.1 dJ9_floorDiv_7cf53_2 hd ?_
  refine lv_istore_n (lv' := [(2, .int (a / b)), (0, .int a), (1, .int b)]) cx.1 cx.2.1 dJ9_floorDiv_7cf53_3 rfl hl (by decide) rfl (fun ls hl => ?_)
  refine lv_iload_n cx.1 cx.2.1 dJ9_floorDiv_7cf53_4 rfl (lv_at hl 1 rfl) ?_
  refine lv_iload_n cx.1 cx.2.1 dJ9_floorDiv_7cf53_5 rfl (lv_at hl 2 rfl) ?_
  refine lv_ixor (x := a) (y := b) cx.1 cx.2.1 dJ9_floorDiv_7cf53_6 ?_
  refine lv_if_ge (x := a ^^^ b) (tgt := 21) cx.1 cx.2.1 dJ9_floorDiv_7cf53_7 (by decide) (fun c_1 => ?_) (fun c_1 => ?_)
  · refine lv_iload_n cx.1 cx.2.1 dJ9_floorDiv_7cf53_21 rfl (lv_at hl 0 rfl) ?_
    exact RO.ret (x := a / b) cx hr hlocks dJ9_floorDiv_7cf53_22 (by simp [fdiv, c_1])
  · refine lv_iload_n cx.1 cx.2.1 dJ9_floorDiv_7cf53_10 rfl (lv_at hl 0 rfl) ?_
    refine lv_iload_n cx.1 cx.2.1 dJ9_floorDiv_7cf53_11 rfl (lv_at hl 2 rfl) ?_
    refine lv_imul (x := a / b) (y := b) cx.1 cx.2.1 dJ9_floorDiv_7cf53_12 ?_
    refine lv_iload_n cx.1 cx.2.1 dJ9_floorDiv_7cf53_13 rfl (lv_at hl 1 rfl) ?_
    refine lv_icmp_eq (x := (a / b) * b) (y := a) (tgt := 21) cx.1 cx.2.1 dJ9_floorDiv_7cf53_14 (by decide) (fun c_2 => ?_) (fun c_2 => ?_)
    · refine lv_iload_n cx.1 cx.2.1 dJ9_floorDiv_7cf53_21 rfl (lv_at hl 0 rfl) ?_
      exact RO.ret (x := a / b) cx hr hlocks dJ9_floorDiv_7cf53_22 (by simp [fdiv, c_1, c_2])
    · refine lv_iload_n cx.1 cx.2.1 dJ9_floorDiv_7cf53_17 rfl (lv_at hl 0 rfl) ?_
      refine lv_iconst (v := nI 1) cx.1 cx.2.1 dJ9_floorDiv_7cf53_18 (by decide) ?_
      refine lv_isub (x := a / b) (y := 1) cx.1 cx.2.1 dJ9_floorDiv_7cf53_19 ?_
      exact RO.ret (x := (a / b) - 1) cx hr hlocks dJ9_floorDiv_7cf53_20 (by simp [fdiv, c_1, c_2])

theorem fw_J6_bitCount_0f7a4_k265 : (Cond.constant RJ6 265 (1431655765)) ∈ wsJ6_bitCount_0f7a4 := List.mem_of_getElem? (i := 1) rfl
theorem fw_J6_bitCount_0f7a4_k266 : (Cond.constant RJ6 266 (858993459)) ∈ wsJ6_bitCount_0f7a4 := List.mem_of_getElem? (i := 2) rfl
theorem fw_J6_bitCount_0f7a4_k267 : (Cond.constant RJ6 267 (252645135)) ∈ wsJ6_bitCount_0f7a4 := List.mem_of_getElem? (i := 3) rfl
set_option maxHeartbeats 4000000 in
set_option maxRecDepth 100000 in
theorem c_J6_bitCount_0f7a4 (l : Launch) (G : GG)  (x : Int32)  : RO l yJ6_bitCount_0f7a4 wsJ6_bitCount_0f7a4 0 0 G ([]) [.int x] (bitc x) := by
  refine RO.start (cc := cJ6_bitCount_0f7a4) (maxL := 1) (ret := (some .int)) (by decide) rfl (Nat.le_of_ble_eq_true rfl) ?_
  intro p e s m below meth c ls cx hr hlocks hK hN hP hl
  have cx : CallFix p m c cJ6_bitCount_0f7a4 1 s [.int x].toArray wsJ6_bitCount_0f7a4 RJ6 := cx
  have hl : lv_has ls 1 [(0, .int x)] := hl
  refine lv_iload_n cx.1 cx.2.1 dJ6_bitCount_0f7a4_0 rfl (lv_at hl 0 rfl) ?_
  refine lv_iload_n cx.1 cx.2.1 dJ6_bitCount_0f7a4_1 rfl (lv_at hl 0 rfl) ?_
  refine lv_iconst (v := nI 1) cx.1 cx.2.1 dJ6_bitCount_0f7a4_2 (by decide) ?_
  refine lv_iushr (x := x) (y := 1) (v := iushr x 1) cx.1 cx.2.1 dJ6_bitCount_0f7a4_3 rfl ?_
  refine lv_ldcw (v := (1431655765)) cx.1 cx.2.1 cx.2.2.2.1 (cx.2.2.2.2 _ fw_J6_bitCount_0f7a4_k265) dJ6_bitCount_0f7a4_4 ?_
  refine lv_iand (x := iushr x 1) (y := (1431655765)) cx.1 cx.2.1 dJ6_bitCount_0f7a4_7 ?_
  refine lv_isub (x := x) (y := (iushr x 1) &&& (1431655765)) cx.1 cx.2.1 dJ6_bitCount_0f7a4_8 ?_
  refine nv_eqi (y := bc1 x) rfl ?_
  refine lv_istore_n (lv' := [(0, .int (bc1 x))]) cx.1 cx.2.1 dJ6_bitCount_0f7a4_9 rfl hl (by decide) rfl (fun ls hl => ?_)
  refine lv_iload_n cx.1 cx.2.1 dJ6_bitCount_0f7a4_10 rfl (lv_at hl 0 rfl) ?_
  refine lv_ldcw (v := (858993459)) cx.1 cx.2.1 cx.2.2.2.1 (cx.2.2.2.2 _ fw_J6_bitCount_0f7a4_k266) dJ6_bitCount_0f7a4_11 ?_
  refine lv_iand (x := bc1 x) (y := (858993459)) cx.1 cx.2.1 dJ6_bitCount_0f7a4_14 ?_
  refine lv_iload_n cx.1 cx.2.1 dJ6_bitCount_0f7a4_15 rfl (lv_at hl 0 rfl) ?_
  refine lv_iconst (v := nI 2) cx.1 cx.2.1 dJ6_bitCount_0f7a4_16 (by decide) ?_
  refine lv_iushr (x := bc1 x) (y := 2) (v := iushr (bc1 x) 2) cx.1 cx.2.1 dJ6_bitCount_0f7a4_17 rfl ?_
  refine lv_ldcw (v := (858993459)) cx.1 cx.2.1 cx.2.2.2.1 (cx.2.2.2.2 _ fw_J6_bitCount_0f7a4_k266) dJ6_bitCount_0f7a4_18 ?_
  refine lv_iand (x := iushr (bc1 x) 2) (y := (858993459)) cx.1 cx.2.1 dJ6_bitCount_0f7a4_21 ?_
  refine lv_iadd (x := (bc1 x) &&& (858993459)) (y := (iushr (bc1 x) 2) &&& (858993459)) cx.1 cx.2.1 dJ6_bitCount_0f7a4_22 ?_
  refine nv_eqi (y := bc2 (bc1 x)) rfl ?_
  refine lv_istore_n (lv' := [(0, .int (bc2 (bc1 x)))]) cx.1 cx.2.1 dJ6_bitCount_0f7a4_23 rfl hl (by decide) rfl (fun ls hl => ?_)
  refine lv_iload_n cx.1 cx.2.1 dJ6_bitCount_0f7a4_24 rfl (lv_at hl 0 rfl) ?_
  refine lv_iload_n cx.1 cx.2.1 dJ6_bitCount_0f7a4_25 rfl (lv_at hl 0 rfl) ?_
  refine lv_iconst (v := nI 4) cx.1 cx.2.1 dJ6_bitCount_0f7a4_26 (by decide) ?_
  refine lv_iushr (x := bc2 (bc1 x)) (y := 4) (v := iushr (bc2 (bc1 x)) 4) cx.1 cx.2.1 dJ6_bitCount_0f7a4_27 rfl ?_
  refine lv_iadd (x := bc2 (bc1 x)) (y := iushr (bc2 (bc1 x)) 4) cx.1 cx.2.1 dJ6_bitCount_0f7a4_28 ?_
  refine lv_ldcw (v := (252645135)) cx.1 cx.2.1 cx.2.2.2.1 (cx.2.2.2.2 _ fw_J6_bitCount_0f7a4_k267) dJ6_bitCount_0f7a4_29 ?_
  refine lv_iand (x := (bc2 (bc1 x)) + (iushr (bc2 (bc1 x)) 4)) (y := (252645135)) cx.1 cx.2.1 dJ6_bitCount_0f7a4_32 ?_
  refine nv_eqi (y := bc3 (bc2 (bc1 x))) rfl ?_
  refine lv_istore_n (lv' := [(0, .int (bc3 (bc2 (bc1 x))))]) cx.1 cx.2.1 dJ6_bitCount_0f7a4_33 rfl hl (by decide) rfl (fun ls hl => ?_)
  refine lv_iload_n cx.1 cx.2.1 dJ6_bitCount_0f7a4_34 rfl (lv_at hl 0 rfl) ?_
  refine lv_iload_n cx.1 cx.2.1 dJ6_bitCount_0f7a4_35 rfl (lv_at hl 0 rfl) ?_
  refine lv_bipush (v := nI 8) cx.1 cx.2.1 dJ6_bitCount_0f7a4_36 (by decide) ?_
  refine lv_iushr (x := bc3 (bc2 (bc1 x))) (y := 8) (v := iushr (bc3 (bc2 (bc1 x))) 8) cx.1 cx.2.1 dJ6_bitCount_0f7a4_38 rfl ?_
  refine lv_iadd (x := bc3 (bc2 (bc1 x))) (y := iushr (bc3 (bc2 (bc1 x))) 8) cx.1 cx.2.1 dJ6_bitCount_0f7a4_39 ?_
  refine nv_eqi (y := bc4 (bc3 (bc2 (bc1 x)))) rfl ?_
  refine lv_istore_n (lv' := [(0, .int (bc4 (bc3 (bc2 (bc1 x)))))]) cx.1 cx.2.1 dJ6_bitCount_0f7a4_40 rfl hl (by decide) rfl (fun ls hl => ?_)
  refine lv_iload_n cx.1 cx.2.1 dJ6_bitCount_0f7a4_41 rfl (lv_at hl 0 rfl) ?_
  refine lv_iload_n cx.1 cx.2.1 dJ6_bitCount_0f7a4_42 rfl (lv_at hl 0 rfl) ?_
  refine lv_bipush (v := nI 16) cx.1 cx.2.1 dJ6_bitCount_0f7a4_43 (by decide) ?_
  refine lv_iushr (x := bc4 (bc3 (bc2 (bc1 x)))) (y := 16) (v := iushr (bc4 (bc3 (bc2 (bc1 x)))) 16) cx.1 cx.2.1 dJ6_bitCount_0f7a4_45 rfl ?_
  refine lv_iadd (x := bc4 (bc3 (bc2 (bc1 x)))) (y := iushr (bc4 (bc3 (bc2 (bc1 x)))) 16) cx.1 cx.2.1 dJ6_bitCount_0f7a4_46 ?_
  refine nv_eqi (y := bc5 (bc4 (bc3 (bc2 (bc1 x))))) rfl ?_
  refine lv_istore_n (lv' := [(0, .int (bc5 (bc4 (bc3 (bc2 (bc1 x))))))]) cx.1 cx.2.1 dJ6_bitCount_0f7a4_47 rfl hl (by decide) rfl (fun ls hl => ?_)
  refine lv_iload_n cx.1 cx.2.1 dJ6_bitCount_0f7a4_48 rfl (lv_at hl 0 rfl) ?_
  refine lv_bipush (v := nI 63) cx.1 cx.2.1 dJ6_bitCount_0f7a4_49 (by decide) ?_
  refine lv_iand (x := bc5 (bc4 (bc3 (bc2 (bc1 x))))) (y := 63) cx.1 cx.2.1 dJ6_bitCount_0f7a4_51 ?_
  exact RO.ret (x := (bc5 (bc4 (bc3 (bc2 (bc1 x))))) &&& 63) cx hr hlocks dJ6_bitCount_0f7a4_52 rfl

theorem iw_X1_isTaken_X1 : ∀ w ∈ wsX10, w ∈ wsX1_isTaken := fun _ h => List.mem_cons_of_mem _ (List.mem_append_right _ h)
theorem fw_X1_isTaken_f19 : (Cond.fieldLink RX1 19 "NamePlate$Names" "number" "I") ∈ wsX1_isTaken := List.mem_of_getElem? (i := 1) rfl
set_option maxHeartbeats 4000000 in
set_option maxRecDepth 100000 in
theorem c_X1_isTaken (l : Launch) (G : GG) (ad : Nat → Nat) (X : XS) (seat : Int32) (hok : okX X) : RO l yX1_isTaken wsX1_isTaken 0 0 G (stC G ad X) [.ref (ad 1), .int seat] (b2i (xTk (xn X) seat)) := by
  refine RO.start (cc := cX1_isTaken) (maxL := 2) (ret := (some .boolean)) (by decide) rfl (Nat.le_of_ble_eq_true rfl) ?_
  intro p e s m below meth c ls cx hr hlocks hK hN hP hl
  have cx : CallFix p m c cX1_isTaken 2 s [.ref (ad 1), .int seat].toArray wsX1_isTaken RX1 := cx
  have hl : lv_has ls 2 [(0, .ref (ad 1)), (1, .int seat)] := hl
  refine lv_iload_n cx.1 cx.2.1 dX1_isTaken_0 rfl (lv_at hl 1 rfl) ?_
  refine lv_if_lt (x := seat) (tgt := 22) cx.1 cx.2.1 dX1_isTaken_1 (by decide) (fun c_1 => ?_) (fun c_1 => ?_)
  · refine lv_iconst (v := nI 0) cx.1 cx.2.1 dX1_isTaken_22 (by decide) ?_
    exact RO.retz (b := xTk (xn X) seat) (x := 0) cx hr hlocks dX1_isTaken_23 (by simp [xTk, b2i, c_1]) rfl
  · refine lv_iload_n cx.1 cx.2.1 dX1_isTaken_4 rfl (lv_at hl 1 rfl) ?_
    refine lv_aload_n cx.1 cx.2.1 dX1_isTaken_5 rfl (lv_at hl 0 rfl) ?_
    refine va_get (ci := 1) (C := RX1) (T := TX1) (N := 3) (v := .int (X 5 0)) cx.1 cx.2.1 cx.2.2.2.2 iw_X1_isTaken_X1 cx.2.2.2.1 hK hP 1 rfl rfl 2 (by decide) (cx.2.2.2.2 _ fw_X1_isTaken_f19) (fun _ h9 => h9) rfl dX1_isTaken_6 ?_
    refine nv_eqi (y := nI (xn X)) hok.n ?_
    refine lv_icmp_ge (x := seat) (y := nI (xn X)) (tgt := 22) cx.1 cx.2.1 dX1_isTaken_9 (by decide) (fun c_2 => ?_) (fun c_2 => ?_)
    · refine lv_iconst (v := nI 0) cx.1 cx.2.1 dX1_isTaken_22 (by decide) ?_
      exact RO.retz (b := xTk (xn X) seat) (x := 0) cx hr hlocks dX1_isTaken_23 (by simp [xTk, b2i, c_1, c_2]) rfl
    · refine lv_iload_n cx.1 cx.2.1 dX1_isTaken_12 rfl (lv_at hl 1 rfl) ?_
      refine lv_bipush (v := nI 20) cx.1 cx.2.1 dX1_isTaken_13 (by decide) ?_
      refine lv_icmp_ge (x := seat) (y := 20) (tgt := 22) cx.1 cx.2.1 dX1_isTaken_15 (by decide) (fun c_3 => ?_) (fun c_3 => ?_)
      · refine lv_iconst (v := nI 0) cx.1 cx.2.1 dX1_isTaken_22 (by decide) ?_
        exact RO.retz (b := xTk (xn X) seat) (x := 0) cx hr hlocks dX1_isTaken_23 (by simp [xTk, b2i, c_1, c_2, c_3]) rfl
      · refine lv_iconst (v := nI 1) cx.1 cx.2.1 dX1_isTaken_18 (by decide) ?_
        refine lv_goto (tgt := 23) cx.1 cx.2.1 dX1_isTaken_19 (by decide) ?_
        exact RO.retz (b := xTk (xn X) seat) (x := 1) cx hr hlocks dX1_isTaken_23 (by simp [xTk, b2i, c_1, c_2, c_3]) rfl

theorem iw_X1_lengthOf_X1 : ∀ w ∈ wsX10, w ∈ wsX1_lengthOf := fun _ h => List.mem_cons_of_mem _ (List.mem_append_right _ h)
theorem fw_X1_lengthOf_f15 : (Cond.fieldLink RX1 15 "NamePlate$Names" "lengths" "[I") ∈ wsX1_lengthOf := List.mem_of_getElem? (i := 1) rfl
set_option maxHeartbeats 4000000 in
set_option maxRecDepth 100000 in
theorem c_X1_lengthOf (l : Launch) (G : GG) (ad : Nat → Nat) (X : XS) (k : Nat) (hok : okX X) (hk : k < 20) : RO l yX1_lengthOf wsX1_lengthOf 0 0 G (stC G ad X) [.ref (ad 1), .int (nI k)] (nI (xl X k)) := by
  refine RO.start (cc := cX1_lengthOf) (maxL := 2) (ret := (some .int)) (by decide) rfl (Nat.le_of_ble_eq_true rfl) ?_
  intro p e s m below meth c ls cx hr hlocks hK hN hP hl
  have cx : CallFix p m c cX1_lengthOf 2 s [.ref (ad 1), .int (nI k)].toArray wsX1_lengthOf RX1 := cx
  have hl : lv_has ls 2 [(0, .ref (ad 1)), (1, .int (nI k))] := hl
  refine lv_iload_n cx.1 cx.2.1 dX1_lengthOf_0 rfl (lv_at hl 1 rfl) ?_
  refine nv_if_lt (a := k) cx dX1_lengthOf_1 (tgt := 22) (by decide) (by omega) ?_
  refine lv_iload_n cx.1 cx.2.1 dX1_lengthOf_4 rfl (lv_at hl 1 rfl) ?_
  refine lv_aload_n cx.1 cx.2.1 dX1_lengthOf_5 rfl (lv_at hl 0 rfl) ?_
  refine va_get (ci := 1) (C := RX1) (T := TX1) (N := 3) (v := .ref (ad 4)) cx.1 cx.2.1 cx.2.2.2.2 iw_X1_lengthOf_X1 cx.2.2.2.1 hK hP 1 rfl rfl 1 (by decide) (cx.2.2.2.2 _ fw_X1_lengthOf_f15) (fun _ h9 => h9) rfl dX1_lengthOf_6 ?_
  refine va_alen (v := nI 20) cx.1 cx.2.1 hK hP 4 1 rfl rfl rfl dX1_lengthOf_9 ?_
  refine nv_icmp_ge (a := k) (b := 20) (tgt := 22) cx dX1_lengthOf_10 (by decide) (by omega) (by omega) (fun c_1 => ?_) (fun c_1 => ?_)
  · exact absurd c_1 (by omega)
  · refine lv_aload_n cx.1 cx.2.1 dX1_lengthOf_13 rfl (lv_at hl 0 rfl) ?_
    refine va_get (ci := 1) (C := RX1) (T := TX1) (N := 3) (v := .ref (ad 4)) cx.1 cx.2.1 cx.2.2.2.2 iw_X1_lengthOf_X1 cx.2.2.2.1 hK hP 1 rfl rfl 1 (by decide) (cx.2.2.2.2 _ fw_X1_lengthOf_f15) (fun _ h9 => h9) rfl dX1_lengthOf_14 ?_
    refine lv_iload_n cx.1 cx.2.1 dX1_lengthOf_17 rfl (lv_at hl 1 rfl) ?_
    refine nv_iald (j := k) cx hK hP 4 1 rfl rfl (by omega) (by decide) dX1_lengthOf_18 ?_
    refine nv_eqi (y := nI (xl X k)) (hok.l (by omega)) ?_
    refine lv_goto (tgt := 23) cx.1 cx.2.1 dX1_lengthOf_19 (by decide) ?_
    exact RO.ret (x := nI (xl X k)) cx hr hlocks dX1_lengthOf_23 rfl

theorem iw_X1_codeAt_X1 : ∀ w ∈ wsX10, w ∈ wsX1_codeAt := fun _ h => List.mem_cons_of_mem _ (List.mem_append_right _ h)
theorem fw_X1_codeAt_f9 : (Cond.fieldLink RX1 9 "NamePlate$Names" "codes" "[C") ∈ wsX1_codeAt := List.mem_of_getElem? (i := 1) rfl
set_option maxHeartbeats 4000000 in
set_option maxRecDepth 100000 in
theorem c_X1_codeAt (l : Launch) (G : GG) (ad : Nat → Nat) (X : XS) (k : Nat) (j : Nat) (hok : okX X) (hb : k * 16 + j < 320) : RO l yX1_codeAt wsX1_codeAt 0 0 G (stC G ad X) [.ref (ad 1), .int (nI k), .int (nI j)] (xSg X k j) := by
  refine RO.start (cc := cX1_codeAt) (maxL := 4) (ret := (some .char)) (by decide) rfl (Nat.le_of_ble_eq_true rfl) ?_
  intro p e s m below meth c ls cx hr hlocks hK hN hP hl
  have cx : CallFix p m c cX1_codeAt 4 s [.ref (ad 1), .int (nI k), .int (nI j)].toArray wsX1_codeAt RX1 := cx
  have hl : lv_has ls 4 [(0, .ref (ad 1)), (1, .int (nI k)), (2, .int (nI j))] := hl
  refine lv_iload_n cx.1 cx.2.1 dX1_codeAt_0 rfl (lv_at hl 1 rfl) ?_
  refine lv_bipush (v := nI 16) cx.1 cx.2.1 dX1_codeAt_1 (by decide) ?_
  refine nv_imul cx (a := k) (b := 16) dX1_codeAt_3 ?_
  refine lv_iload_n cx.1 cx.2.1 dX1_codeAt_4 rfl (lv_at hl 2 rfl) ?_
  refine nv_iadd cx (a := k * 16) (b := j) dX1_codeAt_5 ?_
  refine lv_istore_n (lv' := [(3, .int (nI (k * 16 + j))), (0, .ref (ad 1)), (1, .int (nI k)), (2, .int (nI j))]) cx.1 cx.2.1 dX1_codeAt_6 rfl hl (by decide) rfl (fun ls hl => ?_)
  refine lv_iload_n cx.1 cx.2.1 dX1_codeAt_7 rfl (lv_at hl 0 rfl) ?_
  refine nv_if_lt (a := k * 16 + j) cx dX1_codeAt_8 (tgt := 29) (by decide) (by omega) ?_
  refine lv_iload_n cx.1 cx.2.1 dX1_codeAt_11 rfl (lv_at hl 0 rfl) ?_
  refine lv_aload_n cx.1 cx.2.1 dX1_codeAt_12 rfl (lv_at hl 1 rfl) ?_
  refine va_get (ci := 1) (C := RX1) (T := TX1) (N := 3) (v := .ref (ad 3)) cx.1 cx.2.1 cx.2.2.2.2 iw_X1_codeAt_X1 cx.2.2.2.1 hK hP 1 rfl rfl 0 (by decide) (cx.2.2.2.2 _ fw_X1_codeAt_f9) (fun _ h9 => h9) rfl dX1_codeAt_13 ?_
  refine va_alen (v := nI 320) cx.1 cx.2.1 hK hP 3 0 rfl rfl rfl dX1_codeAt_16 ?_
  refine nv_icmp_ge (a := k * 16 + j) (b := 320) (tgt := 29) cx dX1_codeAt_17 (by decide) (by omega) (by omega) (fun c_1 => ?_) (fun c_1 => ?_)
  · exact absurd c_1 (by omega)
  · refine lv_aload_n cx.1 cx.2.1 dX1_codeAt_20 rfl (lv_at hl 1 rfl) ?_
    refine va_get (ci := 1) (C := RX1) (T := TX1) (N := 3) (v := .ref (ad 3)) cx.1 cx.2.1 cx.2.2.2.2 iw_X1_codeAt_X1 cx.2.2.2.1 hK hP 1 rfl rfl 0 (by decide) (cx.2.2.2.2 _ fw_X1_codeAt_f9) (fun _ h9 => h9) rfl dX1_codeAt_21 ?_
    refine lv_iload_n cx.1 cx.2.1 dX1_codeAt_24 rfl (lv_at hl 0 rfl) ?_
    refine nv_cald (j := k * 16 + j) cx hK hP 3 0 rfl rfl (by omega) (by decide) dX1_codeAt_25 ?_
    refine lv_goto (tgt := 31) cx.1 cx.2.1 dX1_codeAt_26 (by decide) ?_
    exact RO.retc (x := X 0 (k * 16 + j)) cx hr hlocks dX1_codeAt_31 (hok.c hb).1 rfl

set_option maxHeartbeats 4000000 in
set_option maxRecDepth 100000 in
theorem c_X1_isIn (l : Launch) (G : GG) (ad : Nat → Nat) (X : XS) (seat : Int32) (index : Int32) (hok : okX X) : RO l yX1_isIn wsX1_isIn 1 21 G (stC G ad X) [.ref (ad 1), .int seat, .int index] (b2i (xTk (xn X) seat && (!(decide (index < 0)) && !(decide (nI (xl X seat.toNatClampNeg) ≤ index))))) := by
  refine RO.start (cc := cX1_isIn) (maxL := 3) (ret := (some .boolean)) (by decide) rfl (Nat.le_of_ble_eq_true rfl) ?_
  intro p e s m below meth c ls cx hr hlocks hK hN hP hl
  have cx : CallFix p m c cX1_isIn 3 s [.ref (ad 1), .int seat, .int index].toArray wsX1_isIn RX1 := cx
  have hl : lv_has ls 3 [(0, .ref (ad 1)), (1, .int seat), (2, .int index)] := hl
  refine lv_aload_n cx.1 cx.2.1 dX1_isIn_0 rfl (lv_at hl 0 rfl) ?_
  refine lv_iload_n cx.1 cx.2.1 dX1_isIn_1 rfl (lv_at hl 1 rfl) ?_
  refine RO.callV (As := [.int seat]) (rest := []) cx (c_X1_isTaken l G ad X seat hok) gX1_isIn_X1_isTaken rfl hd_X1_isTaken ⟨Nat.le_of_ble_eq_true rfl, Nat.le_of_ble_eq_true rfl⟩ (va_recv hK hP (ci := 1) (q0 := 1) rfl rfl) hK hN hP rfl hl.1 rfl (Nat.le_of_ble_eq_true rfl) dX1_isIn_2 ⟨Nat.zero_le _, Nat.zero_le _⟩ ?_
  refine nv_ifz (b := xTk (xn X) seat) (tgt := 25) cx dX1_isIn_5 (by decide) (fun c_1 => ?_) (fun c_1 => ?_)
  · refine lv_iconst (v := nI 0) cx.1 cx.2.1 dX1_isIn_25 (by decide) ?_
    exact RO.retz (b := (xTk (xn X) seat && (!(decide (index < 0)) && !(decide (nI (xl X seat.toNatClampNeg) ≤ index))))) (x := 0) cx hr hlocks dX1_isIn_26 (by first | (simp [b2i, c_1]; done) | simp [b2i, nI_clamp (show k < 2147483648 by omega), c_1]) rfl
  · obtain ⟨k, hk, rfl⟩ := xTk_of (Nat.lt_of_le_of_lt hok.n20 (by decide)) c_1
    have hn20 := hok.n20
    refine lv_iload_n cx.1 cx.2.1 dX1_isIn_8 rfl (lv_at hl 2 rfl) ?_
    refine lv_if_lt (x := index) (tgt := 25) cx.1 cx.2.1 dX1_isIn_9 (by decide) (fun c_2 => ?_) (fun c_2 => ?_)
    · refine lv_iconst (v := nI 0) cx.1 cx.2.1 dX1_isIn_25 (by decide) ?_
      exact RO.retz (b := (xTk (xn X) (nI k) && (!(decide (index < 0)) && !(decide (nI (xl X (nI k).toNatClampNeg) ≤ index))))) (x := 0) cx hr hlocks dX1_isIn_26 (by first | (simp [b2i, c_1, c_2]; done) | simp [b2i, nI_clamp (show k < 2147483648 by omega), c_1, c_2]) rfl
    · refine lv_iload_n cx.1 cx.2.1 dX1_isIn_12 rfl (lv_at hl 2 rfl) ?_
      refine lv_aload_n cx.1 cx.2.1 dX1_isIn_13 rfl (lv_at hl 0 rfl) ?_
      refine lv_iload_n cx.1 cx.2.1 dX1_isIn_14 rfl (lv_at hl 1 rfl) ?_
      refine RO.callV (As := [.int (nI k)]) (rest := [.int index]) cx (c_X1_lengthOf l G ad X k hok (by omega)) gX1_isIn_X1_lengthOf rfl hd_X1_lengthOf ⟨Nat.le_of_ble_eq_true rfl, Nat.le_of_ble_eq_true rfl⟩ (va_recv hK hP (ci := 1) (q0 := 1) rfl rfl) hK hN hP rfl hl.1 rfl (Nat.le_of_ble_eq_true rfl) dX1_isIn_15 ⟨Nat.zero_le _, Nat.zero_le _⟩ ?_
      refine lv_icmp_ge (x := index) (y := nI (xl X k)) (tgt := 25) cx.1 cx.2.1 dX1_isIn_18 (by decide) (fun c_3 => ?_) (fun c_3 => ?_)
      · refine lv_iconst (v := nI 0) cx.1 cx.2.1 dX1_isIn_25 (by decide) ?_
        exact RO.retz (b := (xTk (xn X) (nI k) && (!(decide (index < 0)) && !(decide (nI (xl X (nI k).toNatClampNeg) ≤ index))))) (x := 0) cx hr hlocks dX1_isIn_26 (by first | (simp [b2i, c_1, c_2, c_3]; done) | simp [b2i, nI_clamp (show k < 2147483648 by omega), c_1, c_2, c_3]) rfl
      · refine lv_iconst (v := nI 1) cx.1 cx.2.1 dX1_isIn_21 (by decide) ?_
        refine lv_goto (tgt := 26) cx.1 cx.2.1 dX1_isIn_22 (by decide) ?_
        exact RO.retz (b := (xTk (xn X) (nI k) && (!(decide (index < 0)) && !(decide (nI (xl X (nI k).toNatClampNeg) ≤ index))))) (x := 1) cx hr hlocks dX1_isIn_26 (by first | (simp [b2i, c_1, c_2, c_3]; done) | simp [b2i, nI_clamp (show k < 2147483648 by omega), c_1, c_2, c_3]) rfl

set_option maxHeartbeats 4000000 in
set_option maxRecDepth 100000 in
theorem c_X1_isLast (l : Launch) (G : GG) (ad : Nat → Nat) (X : XS) (k : Nat) (j : Nat) (hok : okX X) (hk : k < 20) (hj : j < xl X k) : RO l yX1_isLast wsX1_isLast 1 21 G (stC G ad X) [.ref (ad 1), .int (nI k), .int (nI j)] (b2i (decide (j = xl X k - 1))) := by
  refine RO.start (cc := cX1_isLast) (maxL := 3) (ret := (some .boolean)) (by decide) rfl (Nat.le_of_ble_eq_true rfl) ?_
  intro p e s m below meth c ls cx hr hlocks hK hN hP hl
  have cx : CallFix p m c cX1_isLast 3 s [.ref (ad 1), .int (nI k), .int (nI j)].toArray wsX1_isLast RX1 := cx
  have hl : lv_has ls 3 [(0, .ref (ad 1)), (1, .int (nI k)), (2, .int (nI j))] := hl
  have hl16 := hok.l16 hk
  refine lv_iload_n cx.1 cx.2.1 dX1_isLast_0 rfl (lv_at hl 2 rfl) ?_
  refine lv_aload_n cx.1 cx.2.1 dX1_isLast_1 rfl (lv_at hl 0 rfl) ?_
  refine lv_iload_n cx.1 cx.2.1 dX1_isLast_2 rfl (lv_at hl 1 rfl) ?_
  refine RO.callV (As := [.int (nI k)]) (rest := [.int (nI j)]) cx (c_X1_lengthOf l G ad X k hok (by omega)) gX1_isLast_X1_lengthOf rfl hd_X1_lengthOf ⟨Nat.le_of_ble_eq_true rfl, Nat.le_of_ble_eq_true rfl⟩ (va_recv hK hP (ci := 1) (q0 := 1) rfl rfl) hK hN hP rfl hl.1 rfl (Nat.le_of_ble_eq_true rfl) dX1_isLast_3 ⟨Nat.zero_le _, Nat.zero_le _⟩ ?_
  refine lv_iconst (v := nI 1) cx.1 cx.2.1 dX1_isLast_6 (by decide) ?_
  refine nv_isub cx (a := xl X k) (b := 1) (by omega) dX1_isLast_7 ?_
  refine nv_icmp_ne (a := j) (b := xl X k - 1) (tgt := 15) cx dX1_isLast_8 (by decide) (by omega) (by omega) (fun c_1 => ?_) (fun c_1 => ?_)
  · refine lv_iconst (v := nI 0) cx.1 cx.2.1 dX1_isLast_15 (by decide) ?_
    exact RO.retz (b := decide (j = xl X k - 1)) (x := 0) cx hr hlocks dX1_isLast_16 (by simp [b2i, c_1]) rfl
  · refine lv_iconst (v := nI 1) cx.1 cx.2.1 dX1_isLast_11 (by decide) ?_
    refine lv_goto (tgt := 16) cx.1 cx.2.1 dX1_isLast_12 (by decide) ?_
    exact RO.retz (b := decide (j = xl X k - 1)) (x := 1) cx hr hlocks dX1_isLast_16 (by simp [b2i, c_1]) rfl

theorem iw_X2_isFull_X2 : ∀ w ∈ wsX20, w ∈ wsX2_isFull := fun _ h => List.mem_cons_of_mem _ (List.mem_append_right _ h)
theorem fw_X2_isFull_f22 : (Cond.fieldLink RX2 22 "NamePlate$Pairs" "number" "I") ∈ wsX2_isFull := List.mem_of_getElem? (i := 1) rfl
set_option maxHeartbeats 4000000 in
set_option maxRecDepth 100000 in
theorem c_X2_isFull (l : Launch) (G : GG) (ad : Nat → Nat) (X : XS)  (hok : okX X) : RO l yX2_isFull wsX2_isFull 0 0 G (stC G ad X) [.ref (ad 2)] (b2i (decide (16 ≤ xp X))) := by
  refine RO.start (cc := cX2_isFull) (maxL := 1) (ret := (some .boolean)) (by decide) rfl (Nat.le_of_ble_eq_true rfl) ?_
  intro p e s m below meth c ls cx hr hlocks hK hN hP hl
  have cx : CallFix p m c cX2_isFull 1 s [.ref (ad 2)].toArray wsX2_isFull RX2 := cx
  have hl : lv_has ls 1 [(0, .ref (ad 2))] := hl
  have hp16 := hok.p16
  refine lv_aload_n cx.1 cx.2.1 dX2_isFull_0 rfl (lv_at hl 0 rfl) ?_
  refine va_get (ci := 2) (C := RX2) (T := TX2) (N := 4) (v := .int (X 5 1)) cx.1 cx.2.1 cx.2.2.2.2 iw_X2_isFull_X2 cx.2.2.2.1 hK hP 2 rfl rfl 3 (by decide) (cx.2.2.2.2 _ fw_X2_isFull_f22) (fun _ h9 => h9) rfl dX2_isFull_1 ?_
  refine nv_eqi (y := nI (xp X)) hok.p ?_
  refine lv_bipush (v := nI 16) cx.1 cx.2.1 dX2_isFull_4 (by decide) ?_
  refine nv_icmp_lt (a := xp X) (b := 16) (tgt := 13) cx dX2_isFull_6 (by decide) (by omega) (by omega) (fun c_1 => ?_) (fun c_1 => ?_)
  · refine lv_iconst (v := nI 0) cx.1 cx.2.1 dX2_isFull_13 (by decide) ?_
    exact RO.retz (b := decide (16 ≤ xp X)) (x := 0) cx hr hlocks dX2_isFull_14 (by simp [b2i, Nat.not_le.mpr, c_1]) rfl
  · refine lv_iconst (v := nI 1) cx.1 cx.2.1 dX2_isFull_9 (by decide) ?_
    refine lv_goto (tgt := 14) cx.1 cx.2.1 dX2_isFull_10 (by decide) ?_
    exact RO.retz (b := decide (16 ≤ xp X)) (x := 1) cx hr hlocks dX2_isFull_14 (by simp [b2i, Nat.not_le.mpr, c_1]) rfl

theorem iw_X2_isPlace_X2 : ∀ w ∈ wsX20, w ∈ wsX2_isPlace := fun _ h => List.mem_cons_of_mem _ (List.mem_append_right _ h)
theorem fw_X2_isPlace_f22 : (Cond.fieldLink RX2 22 "NamePlate$Pairs" "number" "I") ∈ wsX2_isPlace := List.mem_of_getElem? (i := 1) rfl
set_option maxHeartbeats 4000000 in
set_option maxRecDepth 100000 in
theorem c_X2_isPlace (l : Launch) (G : GG) (ad : Nat → Nat) (X : XS) (pp : Int32) (hok : okX X) : RO l yX2_isPlace wsX2_isPlace 0 0 G (stC G ad X) [.ref (ad 2), .int pp] (b2i (xIp (xp X) pp)) := by
  refine RO.start (cc := cX2_isPlace) (maxL := 2) (ret := (some .boolean)) (by decide) rfl (Nat.le_of_ble_eq_true rfl) ?_
  intro p e s m below meth c ls cx hr hlocks hK hN hP hl
  have cx : CallFix p m c cX2_isPlace 2 s [.ref (ad 2), .int pp].toArray wsX2_isPlace RX2 := cx
  have hl : lv_has ls 2 [(0, .ref (ad 2)), (1, .int pp)] := hl
  refine lv_iload_n cx.1 cx.2.1 dX2_isPlace_0 rfl (lv_at hl 1 rfl) ?_
  refine lv_if_lt (x := pp) (tgt := 22) cx.1 cx.2.1 dX2_isPlace_1 (by decide) (fun c_1 => ?_) (fun c_1 => ?_)
  · refine lv_iconst (v := nI 0) cx.1 cx.2.1 dX2_isPlace_22 (by decide) ?_
    exact RO.retz (b := xIp (xp X) pp) (x := 0) cx hr hlocks dX2_isPlace_23 (by simp [xIp, b2i, c_1]) rfl
  · refine lv_iload_n cx.1 cx.2.1 dX2_isPlace_4 rfl (lv_at hl 1 rfl) ?_
    refine lv_aload_n cx.1 cx.2.1 dX2_isPlace_5 rfl (lv_at hl 0 rfl) ?_
    refine va_get (ci := 2) (C := RX2) (T := TX2) (N := 4) (v := .int (X 5 1)) cx.1 cx.2.1 cx.2.2.2.2 iw_X2_isPlace_X2 cx.2.2.2.1 hK hP 2 rfl rfl 3 (by decide) (cx.2.2.2.2 _ fw_X2_isPlace_f22) (fun _ h9 => h9) rfl dX2_isPlace_6 ?_
    refine nv_eqi (y := nI (xp X)) hok.p ?_
    refine lv_icmp_ge (x := pp) (y := nI (xp X)) (tgt := 22) cx.1 cx.2.1 dX2_isPlace_9 (by decide) (fun c_2 => ?_) (fun c_2 => ?_)
    · refine lv_iconst (v := nI 0) cx.1 cx.2.1 dX2_isPlace_22 (by decide) ?_
      exact RO.retz (b := xIp (xp X) pp) (x := 0) cx hr hlocks dX2_isPlace_23 (by simp [xIp, b2i, c_1, c_2]) rfl
    · refine lv_iload_n cx.1 cx.2.1 dX2_isPlace_12 rfl (lv_at hl 1 rfl) ?_
      refine lv_bipush (v := nI 16) cx.1 cx.2.1 dX2_isPlace_13 (by decide) ?_
      refine lv_icmp_ge (x := pp) (y := 16) (tgt := 22) cx.1 cx.2.1 dX2_isPlace_15 (by decide) (fun c_3 => ?_) (fun c_3 => ?_)
      · refine lv_iconst (v := nI 0) cx.1 cx.2.1 dX2_isPlace_22 (by decide) ?_
        exact RO.retz (b := xIp (xp X) pp) (x := 0) cx hr hlocks dX2_isPlace_23 (by simp [xIp, b2i, c_1, c_2, c_3]) rfl
      · refine lv_iconst (v := nI 1) cx.1 cx.2.1 dX2_isPlace_18 (by decide) ?_
        refine lv_goto (tgt := 23) cx.1 cx.2.1 dX2_isPlace_19 (by decide) ?_
        exact RO.retz (b := xIp (xp X) pp) (x := 1) cx hr hlocks dX2_isPlace_23 (by simp [xIp, b2i, c_1, c_2, c_3]) rfl

theorem iw_X2_leftAt_X2 : ∀ w ∈ wsX20, w ∈ wsX2_leftAt := fun _ h => List.mem_cons_of_mem _ (List.mem_append_right _ h)
theorem fw_X2_leftAt_f9 : (Cond.fieldLink RX2 9 "NamePlate$Pairs" "lefts" "[C") ∈ wsX2_leftAt := List.mem_of_getElem? (i := 1) rfl
set_option maxHeartbeats 4000000 in
set_option maxRecDepth 100000 in
theorem c_X2_leftAt (l : Launch) (G : GG) (ad : Nat → Nat) (X : XS) (q : Nat) (hok : okX X) (hp : q < xp X) : RO l yX2_leftAt wsX2_leftAt 1 21 G (stC G ad X) [.ref (ad 2), .int (nI q)] (X 2 q) := by
  refine RO.start (cc := cX2_leftAt) (maxL := 2) (ret := (some .char)) (by decide) rfl (Nat.le_of_ble_eq_true rfl) ?_
  intro p e s m below meth c ls cx hr hlocks hK hN hP hl
  have cx : CallFix p m c cX2_leftAt 2 s [.ref (ad 2), .int (nI q)].toArray wsX2_leftAt RX2 := cx
  have hl : lv_has ls 2 [(0, .ref (ad 2)), (1, .int (nI q))] := hl
  have hp16 := hok.p16
  refine lv_aload_n cx.1 cx.2.1 dX2_leftAt_0 rfl (lv_at hl 0 rfl) ?_
  refine lv_iload_n cx.1 cx.2.1 dX2_leftAt_1 rfl (lv_at hl 1 rfl) ?_
  refine RO.callV (As := [.int (nI q)]) (rest := []) cx (c_X2_isPlace l G ad X (nI q) hok) gX2_leftAt_X2_isPlace rfl hd_X2_isPlace ⟨Nat.le_of_ble_eq_true rfl, Nat.le_of_ble_eq_true rfl⟩ (va_recv hK hP (ci := 2) (q0 := 2) rfl rfl) hK hN hP rfl hl.1 rfl (Nat.le_of_ble_eq_true rfl) dX2_leftAt_2 ⟨Nat.zero_le _, Nat.zero_le _⟩ ?_
  refine nv_eqi (y := b2i true) (by rw [xIp_in hok.p16 hp]) ?_
  refine nv_ifz (b := true) (tgt := 17) cx dX2_leftAt_5 (by decide) (fun c_1 => ?_) (fun c_1 => ?_)
  · exact absurd c_1 (by decide)
  · refine lv_aload_n cx.1 cx.2.1 dX2_leftAt_8 rfl (lv_at hl 0 rfl) ?_
    refine va_get (ci := 2) (C := RX2) (T := TX2) (N := 4) (v := .ref (ad 5)) cx.1 cx.2.1 cx.2.2.2.2 iw_X2_leftAt_X2 cx.2.2.2.1 hK hP 2 rfl rfl 0 (by decide) (cx.2.2.2.2 _ fw_X2_leftAt_f9) (fun _ h9 => h9) rfl dX2_leftAt_9 ?_
    refine lv_iload_n cx.1 cx.2.1 dX2_leftAt_12 rfl (lv_at hl 1 rfl) ?_
    refine nv_cald (j := q) cx hK hP 5 0 rfl rfl (by omega) (by decide) dX2_leftAt_13 ?_
    refine lv_goto (tgt := 19) cx.1 cx.2.1 dX2_leftAt_14 (by decide) ?_
    exact RO.retc (x := X 2 q) cx hr hlocks dX2_leftAt_19 (hok.lc (by omega)).1 rfl

theorem iw_X2_rightAt_X2 : ∀ w ∈ wsX20, w ∈ wsX2_rightAt := fun _ h => List.mem_cons_of_mem _ (List.mem_append_right _ h)
theorem fw_X2_rightAt_f15 : (Cond.fieldLink RX2 15 "NamePlate$Pairs" "rights" "[C") ∈ wsX2_rightAt := List.mem_of_getElem? (i := 1) rfl
set_option maxHeartbeats 4000000 in
set_option maxRecDepth 100000 in
theorem c_X2_rightAt (l : Launch) (G : GG) (ad : Nat → Nat) (X : XS) (q : Nat) (hok : okX X) (hp : q < xp X) : RO l yX2_rightAt wsX2_rightAt 1 21 G (stC G ad X) [.ref (ad 2), .int (nI q)] (X 3 q) := by
  refine RO.start (cc := cX2_rightAt) (maxL := 2) (ret := (some .char)) (by decide) rfl (Nat.le_of_ble_eq_true rfl) ?_
  intro p e s m below meth c ls cx hr hlocks hK hN hP hl
  have cx : CallFix p m c cX2_rightAt 2 s [.ref (ad 2), .int (nI q)].toArray wsX2_rightAt RX2 := cx
  have hl : lv_has ls 2 [(0, .ref (ad 2)), (1, .int (nI q))] := hl
  have hp16 := hok.p16
  refine lv_aload_n cx.1 cx.2.1 dX2_rightAt_0 rfl (lv_at hl 0 rfl) ?_
  refine lv_iload_n cx.1 cx.2.1 dX2_rightAt_1 rfl (lv_at hl 1 rfl) ?_
  refine RO.callV (As := [.int (nI q)]) (rest := []) cx (c_X2_isPlace l G ad X (nI q) hok) gX2_rightAt_X2_isPlace rfl hd_X2_isPlace ⟨Nat.le_of_ble_eq_true rfl, Nat.le_of_ble_eq_true rfl⟩ (va_recv hK hP (ci := 2) (q0 := 2) rfl rfl) hK hN hP rfl hl.1 rfl (Nat.le_of_ble_eq_true rfl) dX2_rightAt_2 ⟨Nat.zero_le _, Nat.zero_le _⟩ ?_
  refine nv_eqi (y := b2i true) (by rw [xIp_in hok.p16 hp]) ?_
  refine nv_ifz (b := true) (tgt := 17) cx dX2_rightAt_5 (by decide) (fun c_1 => ?_) (fun c_1 => ?_)
  · exact absurd c_1 (by decide)
  · refine lv_aload_n cx.1 cx.2.1 dX2_rightAt_8 rfl (lv_at hl 0 rfl) ?_
    refine va_get (ci := 2) (C := RX2) (T := TX2) (N := 4) (v := .ref (ad 6)) cx.1 cx.2.1 cx.2.2.2.2 iw_X2_rightAt_X2 cx.2.2.2.1 hK hP 2 rfl rfl 1 (by decide) (cx.2.2.2.2 _ fw_X2_rightAt_f15) (fun _ h9 => h9) rfl dX2_rightAt_9 ?_
    refine lv_iload_n cx.1 cx.2.1 dX2_rightAt_12 rfl (lv_at hl 1 rfl) ?_
    refine nv_cald (j := q) cx hK hP 6 0 rfl rfl (by omega) (by decide) dX2_rightAt_13 ?_
    refine lv_goto (tgt := 19) cx.1 cx.2.1 dX2_rightAt_14 (by decide) ?_
    exact RO.retc (x := X 3 q) cx hr hlocks dX2_rightAt_19 (hok.rc (by omega)).1 rfl

theorem iw_X2_adjustmentAt_X2 : ∀ w ∈ wsX20, w ∈ wsX2_adjustmentAt := fun _ h => List.mem_cons_of_mem _ (List.mem_append_right _ h)
theorem fw_X2_adjustmentAt_f22 : (Cond.fieldLink RX2 22 "NamePlate$Pairs" "number" "I") ∈ wsX2_adjustmentAt := List.mem_of_getElem? (i := 1) rfl
theorem fw_X2_adjustmentAt_f18 : (Cond.fieldLink RX2 18 "NamePlate$Pairs" "adjustments" "[I") ∈ wsX2_adjustmentAt := List.mem_of_getElem? (i := 2) rfl
set_option maxHeartbeats 4000000 in
set_option maxRecDepth 100000 in
theorem c_X2_adjustmentAt (l : Launch) (G : GG) (ad : Nat → Nat) (X : XS) (q : Nat) (hok : okX X) (hq : q < 2147483648) : RO l yX2_adjustmentAt wsX2_adjustmentAt 0 0 G (stC G ad X) [.ref (ad 2), .int (nI q)] (xAt X q) := by
  refine RO.start (cc := cX2_adjustmentAt) (maxL := 2) (ret := (some .int)) (by decide) rfl (Nat.le_of_ble_eq_true rfl) ?_
  intro p e s m below meth c ls cx hr hlocks hK hN hP hl
  have cx : CallFix p m c cX2_adjustmentAt 2 s [.ref (ad 2), .int (nI q)].toArray wsX2_adjustmentAt RX2 := cx
  have hl : lv_has ls 2 [(0, .ref (ad 2)), (1, .int (nI q))] := hl
  have hp16 := hok.p16
  refine lv_iload_n cx.1 cx.2.1 dX2_adjustmentAt_0 rfl (lv_at hl 1 rfl) ?_
  refine nv_if_lt (a := q) cx dX2_adjustmentAt_1 (tgt := 27) (by decide) (by omega) ?_
  refine lv_iload_n cx.1 cx.2.1 dX2_adjustmentAt_4 rfl (lv_at hl 1 rfl) ?_
  refine lv_aload_n cx.1 cx.2.1 dX2_adjustmentAt_5 rfl (lv_at hl 0 rfl) ?_
  refine va_get (ci := 2) (C := RX2) (T := TX2) (N := 4) (v := .int (X 5 1)) cx.1 cx.2.1 cx.2.2.2.2 iw_X2_adjustmentAt_X2 cx.2.2.2.1 hK hP 2 rfl rfl 3 (by decide) (cx.2.2.2.2 _ fw_X2_adjustmentAt_f22) (fun _ h9 => h9) rfl dX2_adjustmentAt_6 ?_
  refine nv_eqi (y := nI (xp X)) hok.p ?_
  refine nv_icmp_ge (a := q) (b := xp X) (tgt := 27) cx dX2_adjustmentAt_9 (by decide) (by omega) (by omega) (fun c_1 => ?_) (fun c_1 => ?_)
  · refine lv_iconst (v := nI 0) cx.1 cx.2.1 dX2_adjustmentAt_27 (by decide) ?_
    exact RO.ret (x := 0) cx hr hlocks dX2_adjustmentAt_28 (by first | exact (if_pos (by omega)).symm | exact (if_neg (by omega)).symm)
  · refine lv_iload_n cx.1 cx.2.1 dX2_adjustmentAt_12 rfl (lv_at hl 1 rfl) ?_
    refine lv_bipush (v := nI 16) cx.1 cx.2.1 dX2_adjustmentAt_13 (by decide) ?_
    refine nv_icmp_ge (a := q) (b := 16) (tgt := 27) cx dX2_adjustmentAt_15 (by decide) (by omega) (by omega) (fun c_2 => ?_) (fun c_2 => ?_)
    · exact absurd c_2 (by omega)
    · refine lv_aload_n cx.1 cx.2.1 dX2_adjustmentAt_18 rfl (lv_at hl 0 rfl) ?_
      refine va_get (ci := 2) (C := RX2) (T := TX2) (N := 4) (v := .ref (ad 7)) cx.1 cx.2.1 cx.2.2.2.2 iw_X2_adjustmentAt_X2 cx.2.2.2.1 hK hP 2 rfl rfl 2 (by decide) (cx.2.2.2.2 _ fw_X2_adjustmentAt_f18) (fun _ h9 => h9) rfl dX2_adjustmentAt_19 ?_
      refine lv_iload_n cx.1 cx.2.1 dX2_adjustmentAt_22 rfl (lv_at hl 1 rfl) ?_
      refine nv_iald (j := q) cx hK hP 7 1 rfl rfl (by omega) (by decide) dX2_adjustmentAt_23 ?_
      refine lv_goto (tgt := 28) cx.1 cx.2.1 dX2_adjustmentAt_24 (by decide) ?_
      exact RO.ret (x := X 4 q) cx hr hlocks dX2_adjustmentAt_28 (by first | exact (if_pos (by omega)).symm | exact (if_neg (by omega)).symm)

theorem iw_X2_placeOf_X2 : ∀ w ∈ wsX20, w ∈ wsX2_placeOf := fun _ h => List.mem_cons_of_mem _ (List.mem_append_right _ h)
theorem fw_X2_placeOf_f22 : (Cond.fieldLink RX2 22 "NamePlate$Pairs" "number" "I") ∈ wsX2_placeOf := List.mem_of_getElem? (i := 1) rfl
theorem fw_X2_placeOf_f9 : (Cond.fieldLink RX2 9 "NamePlate$Pairs" "lefts" "[C") ∈ wsX2_placeOf := List.mem_of_getElem? (i := 2) rfl
theorem fw_X2_placeOf_f15 : (Cond.fieldLink RX2 15 "NamePlate$Pairs" "rights" "[C") ∈ wsX2_placeOf := List.mem_of_getElem? (i := 3) rfl
set_option maxHeartbeats 4000000 in
set_option maxRecDepth 100000 in
theorem c_X2_placeOf (l : Launch) (G : GG) (ad : Nat → Nat) (X : XS) (a : Int32) (b : Int32) (hok : okX X) : RO l yX2_placeOf wsX2_placeOf 0 0 G (stC G ad X) [.ref (ad 2), .int a, .int b] (nI (xPl X a b)) := by
  refine RO.start (cc := cX2_placeOf) (maxL := 4) (ret := (some .int)) (by decide) rfl (Nat.le_of_ble_eq_true rfl) ?_
  intro p e s m below meth c ls cx hr hlocks hK hN hP hl
  have cx : CallFix p m c cX2_placeOf 4 s [.ref (ad 2), .int a, .int b].toArray wsX2_placeOf RX2 := cx
  have hl : lv_has ls 4 [(0, .ref (ad 2)), (1, .int a), (2, .int b)] := hl
  have hp16 := hok.p16
  refine lv_iconst (v := nI 0) cx.1 cx.2.1 dX2_placeOf_0 (by decide) ?_
  refine lv_istore_n (lv' := [(3, .int (nI 0)), (0, .ref (ad 2)), (1, .int a), (2, .int b)]) cx.1 cx.2.1 dX2_placeOf_1 rfl hl (by decide) rfl (fun ls hl => ?_)
  have lp2 : ∀ (r : Nat) (i : Nat) (hr9 : xp X - i < r) (hi : i ≤ xp X) (hno : ∀ j, j < i → xPq X a b j = false) (ls : Array Slot), lv_has ls 4 [(3, .int (nI i)), (0, .ref (ad 2)), (1, .int a), (2, .int b)] → W p l e ({ frames := 0, cells := 0, slots := 0, locals := 0 } : Room) s m [.ref (ad 2), .int a, .int b].toArray below meth c s.heap [] 0 0 (MQ below (vp_Si (fun r => r = (nI (xPl X a b)))) [.ref (ad 2), .int a, .int b].toArray s 0 0 (fun _ => False)) (F0 m 2 ls []) := by
    intro r
    induction r with
    | zero => intro i hr9; exact absurd hr9 (Nat.not_lt_zero _)
    | succ r ih2 =>
      intro i hr9 hi hno ls hl
      refine lv_iload_n cx.1 cx.2.1 dX2_placeOf_2 rfl (lv_at hl 0 rfl) ?_
      refine lv_aload_n cx.1 cx.2.1 dX2_placeOf_3 rfl (lv_at hl 1 rfl) ?_
      refine va_get (ci := 2) (C := RX2) (T := TX2) (N := 4) (v := .int (X 5 1)) cx.1 cx.2.1 cx.2.2.2.2 iw_X2_placeOf_X2 cx.2.2.2.1 hK hP 2 rfl rfl 3 (by decide) (cx.2.2.2.2 _ fw_X2_placeOf_f22) (fun _ h9 => h9) rfl dX2_placeOf_4 ?_
      refine nv_eqi (y := nI (xp X)) hok.p ?_
      refine nv_icmp_ge (a := i) (b := xp X) (tgt := 44) cx dX2_placeOf_7 (by decide) (by omega) (by omega) (fun c_1 => ?_) (fun c_1 => ?_)
      · refine lv_aload_n cx.1 cx.2.1 dX2_placeOf_44 rfl (lv_at hl 1 rfl) ?_
        refine va_get (ci := 2) (C := RX2) (T := TX2) (N := 4) (v := .int (X 5 1)) cx.1 cx.2.1 cx.2.2.2.2 iw_X2_placeOf_X2 cx.2.2.2.1 hK hP 2 rfl rfl 3 (by decide) (cx.2.2.2.2 _ fw_X2_placeOf_f22) (fun _ h9 => h9) rfl dX2_placeOf_45 ?_
        refine nv_eqi (y := nI (xp X)) hok.p ?_
        exact RO.ret (x := nI (xp X)) cx hr hlocks dX2_placeOf_48 (by have e : xPl X a b = i := fstN_eq hi hno (fun q => absurd q (by omega)); rw [e, show i = xp X by omega])
      · refine lv_iload_n cx.1 cx.2.1 dX2_placeOf_10 rfl (lv_at hl 0 rfl) ?_
        refine lv_bipush (v := nI 16) cx.1 cx.2.1 dX2_placeOf_11 (by decide) ?_
        refine nv_icmp_ge (a := i) (b := 16) (tgt := 44) cx dX2_placeOf_13 (by decide) (by omega) (by omega) (fun c_2 => ?_) (fun c_2 => ?_)
        · exact absurd c_2 (by omega)
        · refine lv_aload_n cx.1 cx.2.1 dX2_placeOf_16 rfl (lv_at hl 1 rfl) ?_
          refine va_get (ci := 2) (C := RX2) (T := TX2) (N := 4) (v := .ref (ad 5)) cx.1 cx.2.1 cx.2.2.2.2 iw_X2_placeOf_X2 cx.2.2.2.1 hK hP 2 rfl rfl 0 (by decide) (cx.2.2.2.2 _ fw_X2_placeOf_f9) (fun _ h9 => h9) rfl dX2_placeOf_17 ?_
          refine lv_iload_n cx.1 cx.2.1 dX2_placeOf_20 rfl (lv_at hl 0 rfl) ?_
          refine nv_cald (j := i) cx hK hP 5 0 rfl rfl (by omega) (by decide) dX2_placeOf_21 ?_
          refine lv_iload_n cx.1 cx.2.1 dX2_placeOf_22 rfl (lv_at hl 2 rfl) ?_
          refine lv_icmp_ne (x := X 2 i) (y := a) (tgt := 38) cx.1 cx.2.1 dX2_placeOf_23 (by decide) (fun c_3 => ?_) (fun c_3 => ?_)
          · refine lv_iinc (v := nI (i + 1)) (lv' := [(3, .int (nI (i + 1))), (0, .ref (ad 2)), (1, .int a), (2, .int b)]) cx.1 cx.2.1 dX2_placeOf_38 hl (k := 0) rfl (show nI i + Int32.ofInt 1 = nI (i + 1) from nI_add i 1) (by decide) rfl (fun ls hl => ?_)
            refine lv_goto (tgt := 2) cx.1 cx.2.1 dX2_placeOf_41 (by decide) ?_
            have hno2 : ∀ j, j < i + 1 → xPq X a b j = false := lt_s hno (by simp [xPq, c_1, c_2, c_3])
            exact ih2 (i + 1) (by omega) (by omega) hno2 ls (lv_sub hl [0, 1, 2, 3] rfl)
          · refine lv_aload_n cx.1 cx.2.1 dX2_placeOf_26 rfl (lv_at hl 1 rfl) ?_
            refine va_get (ci := 2) (C := RX2) (T := TX2) (N := 4) (v := .ref (ad 6)) cx.1 cx.2.1 cx.2.2.2.2 iw_X2_placeOf_X2 cx.2.2.2.1 hK hP 2 rfl rfl 1 (by decide) (cx.2.2.2.2 _ fw_X2_placeOf_f15) (fun _ h9 => h9) rfl dX2_placeOf_27 ?_
            refine lv_iload_n cx.1 cx.2.1 dX2_placeOf_30 rfl (lv_at hl 0 rfl) ?_
            refine nv_cald (j := i) cx hK hP 6 0 rfl rfl (by omega) (by decide) dX2_placeOf_31 ?_
            refine lv_iload_n cx.1 cx.2.1 dX2_placeOf_32 rfl (lv_at hl 3 rfl) ?_
            refine lv_icmp_ne (x := X 3 i) (y := b) (tgt := 38) cx.1 cx.2.1 dX2_placeOf_33 (by decide) (fun c_4 => ?_) (fun c_4 => ?_)
            · refine lv_iinc (v := nI (i + 1)) (lv' := [(3, .int (nI (i + 1))), (0, .ref (ad 2)), (1, .int a), (2, .int b)]) cx.1 cx.2.1 dX2_placeOf_38 hl (k := 0) rfl (show nI i + Int32.ofInt 1 = nI (i + 1) from nI_add i 1) (by decide) rfl (fun ls hl => ?_)
              refine lv_goto (tgt := 2) cx.1 cx.2.1 dX2_placeOf_41 (by decide) ?_
              have hno2 : ∀ j, j < i + 1 → xPq X a b j = false := lt_s hno (by simp [xPq, c_1, c_2, c_3, c_4])
              exact ih2 (i + 1) (by omega) (by omega) hno2 ls (lv_sub hl [0, 1, 2, 3] rfl)
            · refine lv_iload_n cx.1 cx.2.1 dX2_placeOf_36 rfl (lv_at hl 0 rfl) ?_
              exact RO.ret (x := nI i) cx hr hlocks dX2_placeOf_37 (by have e : xPl X a b = i := fstN_eq hi hno (fun _ => by simp [xPq, c_1, c_2, c_3, c_4]); rw [e])
  exact lp2 _ 0 (Nat.lt_succ_self _) (by omega) (fun j hj => absurd hj (Nat.not_lt_zero _)) ls (lv_sub hl [0, 1, 2, 3] rfl)

theorem iw_X4_hasEngraved_X4 : ∀ w ∈ wsX40, w ∈ wsX4_hasEngraved := fun _ h => List.mem_cons_of_mem _ (List.mem_append_right _ h)
theorem fw_X4_hasEngraved_f38 : (Cond.fieldLink RX4 38 "NamePlate$State" "engraved" "I") ∈ wsX4_hasEngraved := List.mem_of_getElem? (i := 1) rfl
set_option maxHeartbeats 4000000 in
set_option maxRecDepth 100000 in
theorem c_X4_hasEngraved (l : Launch) (G : GG) (ad : Nat → Nat) (X : XS)   : RO l yX4_hasEngraved wsX4_hasEngraved 0 0 G (stC G ad X) [.ref (ad 0)] (b2i (xEng X)) := by
  refine RO.start (cc := cX4_hasEngraved) (maxL := 1) (ret := (some .boolean)) (by decide) rfl (Nat.le_of_ble_eq_true rfl) ?_
  intro p e s m below meth c ls cx hr hlocks hK hN hP hl
  have cx : CallFix p m c cX4_hasEngraved 1 s [.ref (ad 0)].toArray wsX4_hasEngraved RX4 := cx
  have hl : lv_has ls 1 [(0, .ref (ad 0))] := hl
  refine lv_aload_n cx.1 cx.2.1 dX4_hasEngraved_0 rfl (lv_at hl 0 rfl) ?_
  refine va_get (ci := 3) (C := RX4) (T := TX4) (N := 10) (v := .int (X 5 6)) cx.1 cx.2.1 cx.2.2.2.2 iw_X4_hasEngraved_X4 cx.2.2.2.1 hK hP 0 rfl rfl 6 (by decide) (cx.2.2.2.2 _ fw_X4_hasEngraved_f38) (fun _ h9 => h9) rfl dX4_hasEngraved_1 ?_
  refine lv_if_eq (x := X 5 6) (tgt := 11) cx.1 cx.2.1 dX4_hasEngraved_4 (by decide) (fun c_1 => ?_) (fun c_1 => ?_)
  · refine lv_iconst (v := nI 0) cx.1 cx.2.1 dX4_hasEngraved_11 (by decide) ?_
    exact RO.retz (b := xEng X) (x := 0) cx hr hlocks dX4_hasEngraved_12 (by simp [xEng, b2i, c_1]) rfl
  · refine lv_iconst (v := nI 1) cx.1 cx.2.1 dX4_hasEngraved_7 (by decide) ?_
    refine lv_goto (tgt := 12) cx.1 cx.2.1 dX4_hasEngraved_8 (by decide) ?_
    exact RO.retz (b := xEng X) (x := 1) cx hr hlocks dX4_hasEngraved_12 (by simp [xEng, b2i, c_1]) rfl

theorem iw_X4_engravedNames_X4 : ∀ w ∈ wsX40, w ∈ wsX4_engravedNames := fun _ h => List.mem_cons_of_mem _ (List.mem_append_right _ h)
theorem fw_X4_engravedNames_f38 : (Cond.fieldLink RX4 38 "NamePlate$State" "engraved" "I") ∈ wsX4_engravedNames := List.mem_of_getElem? (i := 1) rfl
set_option maxHeartbeats 4000000 in
set_option maxRecDepth 100000 in
theorem c_X4_engravedNames (l : Launch) (G : GG) (ad : Nat → Nat) (X : XS)   : RO l yX4_engravedNames wsX4_engravedNames 1 20 G (stC G ad X) [.ref (ad 0)] (bitc (X 5 6)) := by
  refine RO.start (cc := cX4_engravedNames) (maxL := 1) (ret := (some .int)) (by decide) rfl (Nat.le_of_ble_eq_true rfl) ?_
  intro p e s m below meth c ls cx hr hlocks hK hN hP hl
  have cx : CallFix p m c cX4_engravedNames 1 s [.ref (ad 0)].toArray wsX4_engravedNames RX4 := cx
  have hl : lv_has ls 1 [(0, .ref (ad 0))] := hl
  refine lv_aload_n cx.1 cx.2.1 dX4_engravedNames_0 rfl (lv_at hl 0 rfl) ?_
  refine va_get (ci := 3) (C := RX4) (T := TX4) (N := 10) (v := .int (X 5 6)) cx.1 cx.2.1 cx.2.2.2.2 iw_X4_engravedNames_X4 cx.2.2.2.1 hK hP 0 rfl rfl 6 (by decide) (cx.2.2.2.2 _ fw_X4_engravedNames_f38) (fun _ h9 => h9) rfl dX4_engravedNames_1 ?_
  refine RO.callS (As := [.int (X 5 6)]) (rest := []) cx (c_J6_bitCount_0f7a4 l G (X 5 6)) gX4_engravedNames_J6_bitCount_0f7a4 rfl hd_J6_bitCount_0f7a4 ⟨Nat.le_of_ble_eq_true rfl, Nat.le_of_ble_eq_true rfl⟩ hK hN va_P.nil rfl hl.1 rfl (Nat.le_of_ble_eq_true rfl) dX4_engravedNames_4 ⟨Nat.zero_le _, Nat.zero_le _⟩ ?_
  exact RO.ret (x := bitc (X 5 6)) cx hr hlocks dX4_engravedNames_7 rfl

theorem iw_X4_isEngraved_X4 : ∀ w ∈ wsX40, w ∈ wsX4_isEngraved := fun _ h => List.mem_cons_of_mem _ (List.mem_append_right _ h)
theorem fw_X4_isEngraved_f38 : (Cond.fieldLink RX4 38 "NamePlate$State" "engraved" "I") ∈ wsX4_isEngraved := List.mem_of_getElem? (i := 1) rfl
set_option maxHeartbeats 4000000 in
set_option maxRecDepth 100000 in
theorem c_X4_isEngraved (l : Launch) (G : GG) (ad : Nat → Nat) (X : XS) (k : Nat)  : RO l yX4_isEngraved wsX4_isEngraved 0 0 G (stC G ad X) [.ref (ad 0), .int (nI k)] (b2i (xEb X k)) := by
  refine RO.start (cc := cX4_isEngraved) (maxL := 2) (ret := (some .boolean)) (by decide) rfl (Nat.le_of_ble_eq_true rfl) ?_
  intro p e s m below meth c ls cx hr hlocks hK hN hP hl
  have cx : CallFix p m c cX4_isEngraved 2 s [.ref (ad 0), .int (nI k)].toArray wsX4_isEngraved RX4 := cx
  have hl : lv_has ls 2 [(0, .ref (ad 0)), (1, .int (nI k))] := hl
  refine lv_aload_n cx.1 cx.2.1 dX4_isEngraved_0 rfl (lv_at hl 0 rfl) ?_
  refine va_get (ci := 3) (C := RX4) (T := TX4) (N := 10) (v := .int (X 5 6)) cx.1 cx.2.1 cx.2.2.2.2 iw_X4_isEngraved_X4 cx.2.2.2.1 hK hP 0 rfl rfl 6 (by decide) (cx.2.2.2.2 _ fw_X4_isEngraved_f38) (fun _ h9 => h9) rfl dX4_isEngraved_1 ?_
  refine lv_iload_n cx.1 cx.2.1 dX4_isEngraved_4 rfl (lv_at hl 1 rfl) ?_
  refine lv_ishr (x := X 5 6) (y := nI k) cx.1 cx.2.1 dX4_isEngraved_5 ?_
  refine lv_iconst (v := nI 1) cx.1 cx.2.1 dX4_isEngraved_6 (by decide) ?_
  refine lv_iand (x := (X 5 6) >>> ((nI k) &&& 31)) (y := 1) cx.1 cx.2.1 dX4_isEngraved_7 ?_
  refine lv_if_eq (x := ((X 5 6) >>> ((nI k) &&& 31)) &&& 1) (tgt := 15) cx.1 cx.2.1 dX4_isEngraved_8 (by decide) (fun c_1 => ?_) (fun c_1 => ?_)
  · refine lv_iconst (v := nI 0) cx.1 cx.2.1 dX4_isEngraved_15 (by decide) ?_
    exact RO.retz (b := xEb X k) (x := 0) cx hr hlocks dX4_isEngraved_16 (by simp [xEb, b2i, c_1]) rfl
  · refine lv_iconst (v := nI 1) cx.1 cx.2.1 dX4_isEngraved_11 (by decide) ?_
    refine lv_goto (tgt := 16) cx.1 cx.2.1 dX4_isEngraved_12 (by decide) ?_
    exact RO.retz (b := xEb X k) (x := 1) cx hr hlocks dX4_isEngraved_16 (by simp [xEb, b2i, c_1]) rfl

theorem iw_X4_isEngravedFrom_X4 : ∀ w ∈ wsX40, w ∈ wsX4_isEngravedFrom := fun _ h => List.mem_cons_of_mem _ (List.mem_append_right _ h)
theorem fw_X4_isEngravedFrom_f38 : (Cond.fieldLink RX4 38 "NamePlate$State" "engraved" "I") ∈ wsX4_isEngravedFrom := List.mem_of_getElem? (i := 1) rfl
set_option maxHeartbeats 4000000 in
set_option maxRecDepth 100000 in
theorem c_X4_isEngravedFrom (l : Launch) (G : GG) (ad : Nat → Nat) (X : XS) (k : Nat)  : RO l yX4_isEngravedFrom wsX4_isEngravedFrom 0 0 G (stC G ad X) [.ref (ad 0), .int (nI k)] (b2i (xEf X k)) := by
  refine RO.start (cc := cX4_isEngravedFrom) (maxL := 2) (ret := (some .boolean)) (by decide) rfl (Nat.le_of_ble_eq_true rfl) ?_
  intro p e s m below meth c ls cx hr hlocks hK hN hP hl
  have cx : CallFix p m c cX4_isEngravedFrom 2 s [.ref (ad 0), .int (nI k)].toArray wsX4_isEngravedFrom RX4 := cx
  have hl : lv_has ls 2 [(0, .ref (ad 0)), (1, .int (nI k))] := hl
  refine lv_aload_n cx.1 cx.2.1 dX4_isEngravedFrom_0 rfl (lv_at hl 0 rfl) ?_
  refine va_get (ci := 3) (C := RX4) (T := TX4) (N := 10) (v := .int (X 5 6)) cx.1 cx.2.1 cx.2.2.2.2 iw_X4_isEngravedFrom_X4 cx.2.2.2.1 hK hP 0 rfl rfl 6 (by decide) (cx.2.2.2.2 _ fw_X4_isEngravedFrom_f38) (fun _ h9 => h9) rfl dX4_isEngravedFrom_1 ?_
  refine lv_iload_n cx.1 cx.2.1 dX4_isEngravedFrom_4 rfl (lv_at hl 1 rfl) ?_
  refine lv_ishr (x := X 5 6) (y := nI k) cx.1 cx.2.1 dX4_isEngravedFrom_5 ?_
  refine lv_if_eq (x := (X 5 6) >>> ((nI k) &&& 31)) (tgt := 13) cx.1 cx.2.1 dX4_isEngravedFrom_6 (by decide) (fun c_1 => ?_) (fun c_1 => ?_)
  · refine lv_iconst (v := nI 0) cx.1 cx.2.1 dX4_isEngravedFrom_13 (by decide) ?_
    exact RO.retz (b := xEf X k) (x := 0) cx hr hlocks dX4_isEngravedFrom_14 (by simp [xEf, b2i, c_1]) rfl
  · refine lv_iconst (v := nI 1) cx.1 cx.2.1 dX4_isEngravedFrom_9 (by decide) ?_
    refine lv_goto (tgt := 14) cx.1 cx.2.1 dX4_isEngravedFrom_10 (by decide) ?_
    exact RO.retz (b := xEf X k) (x := 1) cx hr hlocks dX4_isEngravedFrom_14 (by simp [xEf, b2i, c_1]) rfl

theorem iw_X4_adjustmentOf_X4 : ∀ w ∈ wsX40, w ∈ wsX4_adjustmentOf := fun _ h => List.mem_cons_of_mem _ (List.mem_append_left _ (List.mem_append_right _ h))
theorem fw_X4_adjustmentOf_f21 : (Cond.fieldLink RX4 21 "NamePlate$State" "pairs" "LNamePlate$Pairs;") ∈ wsX4_adjustmentOf := List.mem_of_getElem? (i := 1) rfl
set_option maxHeartbeats 4000000 in
set_option maxRecDepth 100000 in
theorem c_X4_adjustmentOf (l : Launch) (G : GG) (ad : Nat → Nat) (X : XS) (a : Int32) (b : Int32) (hok : okX X) : RO l yX4_adjustmentOf wsX4_adjustmentOf 1 23 G (stC G ad X) [.ref (ad 0), .int a, .int b] (xAdj X a b) := by
  refine RO.start (cc := cX4_adjustmentOf) (maxL := 3) (ret := (some .int)) (by decide) rfl (Nat.le_of_ble_eq_true rfl) ?_
  intro p e s m below meth c ls cx hr hlocks hK hN hP hl
  have cx : CallFix p m c cX4_adjustmentOf 3 s [.ref (ad 0), .int a, .int b].toArray wsX4_adjustmentOf RX4 := cx
  have hl : lv_has ls 3 [(0, .ref (ad 0)), (1, .int a), (2, .int b)] := hl
  have hp16 := hok.p16
  have hpl : ∀ a b, xPl X a b ≤ xp X := fun a b => fstN_le _ _
  refine lv_aload_n cx.1 cx.2.1 dX4_adjustmentOf_0 rfl (lv_at hl 0 rfl) ?_
  refine va_get (ci := 3) (C := RX4) (T := TX4) (N := 10) (v := .ref (ad 2)) cx.1 cx.2.1 cx.2.2.2.2 iw_X4_adjustmentOf_X4 cx.2.2.2.1 hK hP 0 rfl rfl 1 (by decide) (cx.2.2.2.2 _ fw_X4_adjustmentOf_f21) (fun _ h9 => h9) rfl dX4_adjustmentOf_1 ?_
  refine lv_aload_n cx.1 cx.2.1 dX4_adjustmentOf_4 rfl (lv_at hl 0 rfl) ?_
  refine va_get (ci := 3) (C := RX4) (T := TX4) (N := 10) (v := .ref (ad 2)) cx.1 cx.2.1 cx.2.2.2.2 iw_X4_adjustmentOf_X4 cx.2.2.2.1 hK hP 0 rfl rfl 1 (by decide) (cx.2.2.2.2 _ fw_X4_adjustmentOf_f21) (fun _ h9 => h9) rfl dX4_adjustmentOf_5 ?_
  refine lv_iload_n cx.1 cx.2.1 dX4_adjustmentOf_8 rfl (lv_at hl 1 rfl) ?_
  refine lv_iload_n cx.1 cx.2.1 dX4_adjustmentOf_9 rfl (lv_at hl 2 rfl) ?_
  refine RO.callV (As := [.int a, .int b]) (rest := [.ref (ad 2)]) cx (c_X2_placeOf l G ad X a b hok) gX4_adjustmentOf_X2_placeOf rfl hd_X2_placeOf ⟨Nat.le_of_ble_eq_true rfl, Nat.le_of_ble_eq_true rfl⟩ (va_recv hK hP (ci := 2) (q0 := 2) rfl rfl) hK hN hP rfl hl.1 rfl (Nat.le_of_ble_eq_true rfl) dX4_adjustmentOf_10 ⟨Nat.zero_le _, Nat.zero_le _⟩ ?_
  refine RO.callV (As := [.int (nI (xPl X a b))]) (rest := []) cx (c_X2_adjustmentAt l G ad X (xPl X a b) hok (Nat.lt_of_le_of_lt (hpl _ _) (by omega))) gX4_adjustmentOf_X2_adjustmentAt rfl hd_X2_adjustmentAt ⟨Nat.le_of_ble_eq_true rfl, Nat.le_of_ble_eq_true rfl⟩ (va_recv hK hP (ci := 2) (q0 := 2) rfl rfl) hK hN hP rfl hl.1 rfl (Nat.le_of_ble_eq_true rfl) dX4_adjustmentOf_13 ⟨Nat.zero_le _, Nat.zero_le _⟩ ?_
  exact RO.ret (x := xAt X (xPl X a b)) cx hr hlocks dX4_adjustmentOf_16 rfl

theorem iw_X4_spaceBehind_X4 : ∀ w ∈ wsX40, w ∈ wsX4_spaceBehind := fun _ h => List.mem_cons_of_mem _ (List.mem_append_left _ (List.mem_append_left _ (List.mem_append_right _ h)))
theorem fw_X4_spaceBehind_f12 : (Cond.fieldLink RX4 12 "NamePlate$State" "names" "LNamePlate$Names;") ∈ wsX4_spaceBehind := List.mem_of_getElem? (i := 1) rfl
theorem fw_X4_spaceBehind_f21 : (Cond.fieldLink RX4 21 "NamePlate$State" "pairs" "LNamePlate$Pairs;") ∈ wsX4_spaceBehind := List.mem_of_getElem? (i := 2) rfl
theorem fw_X4_spaceBehind_m102 : (Cond.methodLink RX4 102 Lib.Math.max.name) ∈ wsX4_spaceBehind := List.mem_of_getElem? (i := 3) rfl
theorem fw_X4_spaceBehind_smax : (Cond.static Lib.Math.max.name) ∈ wsX4_spaceBehind := List.mem_of_getElem? (i := 4) rfl
theorem fw_X4_spaceBehind_iMath : (Cond.initialized "java/lang/Math") ∈ wsX4_spaceBehind := List.mem_of_getElem? (i := 5) rfl
theorem fw_X4_spaceBehind_cmax : (Cond.code Lib.Math.max.name Lib.Math.max.code 2 (some .int)) ∈ wsX4_spaceBehind := List.mem_of_getElem? (i := 6) rfl
set_option maxHeartbeats 4000000 in
set_option maxRecDepth 100000 in
theorem c_X4_spaceBehind (l : Launch) (G : GG) (ad : Nat → Nat) (X : XS) (k : Nat) (j : Nat) (hok : okX X) (hk : k < 20) (hj : j < 16) : RO l yX4_spaceBehind wsX4_spaceBehind 1 23 G (stC G ad X) [.ref (ad 0), .int (nI k), .int (nI j)] (xSp X k j) := by
  refine RO.start (cc := cX4_spaceBehind) (maxL := 6) (ret := (some .int)) (by decide) rfl (Nat.le_of_ble_eq_true rfl) ?_
  intro p e s m below meth c ls cx hr hlocks hK hN hP hl
  have cx : CallFix p m c cX4_spaceBehind 6 s [.ref (ad 0), .int (nI k), .int (nI j)].toArray wsX4_spaceBehind RX4 := cx
  have hl : lv_has ls 6 [(0, .ref (ad 0)), (1, .int (nI k)), (2, .int (nI j))] := hl
  have hp16 := hok.p16
  have hpl : ∀ a b, xPl X a b ≤ xp X := fun a b => fstN_le _ _
  have hl16 := hok.l16 hk
  refine lv_iload_n cx.1 cx.2.1 dX4_spaceBehind_0 rfl (lv_at hl 2 rfl) ?_
  refine lv_iconst (v := nI 1) cx.1 cx.2.1 dX4_spaceBehind_1 (by decide) ?_
  refine nv_iadd cx (a := j) (b := 1) dX4_spaceBehind_2 ?_
  refine lv_aload_n cx.1 cx.2.1 dX4_spaceBehind_3 rfl (lv_at hl 0 rfl) ?_
  refine va_get (ci := 3) (C := RX4) (T := TX4) (N := 10) (v := .ref (ad 1)) cx.1 cx.2.1 cx.2.2.2.2 iw_X4_spaceBehind_X4 cx.2.2.2.1 hK hP 0 rfl rfl 0 (by decide) (cx.2.2.2.2 _ fw_X4_spaceBehind_f12) (fun _ h9 => h9) rfl dX4_spaceBehind_4 ?_
  refine lv_iload_n cx.1 cx.2.1 dX4_spaceBehind_7 rfl (lv_at hl 1 rfl) ?_
  refine RO.callV (As := [.int (nI k)]) (rest := [.int (nI (j + 1))]) cx (c_X1_lengthOf l G ad X k hok (by omega)) gX4_spaceBehind_X1_lengthOf rfl hd_X1_lengthOf ⟨Nat.le_of_ble_eq_true rfl, Nat.le_of_ble_eq_true rfl⟩ (va_recv hK hP (ci := 1) (q0 := 1) rfl rfl) hK hN hP rfl hl.1 rfl (Nat.le_of_ble_eq_true rfl) dX4_spaceBehind_8 ⟨Nat.zero_le _, Nat.zero_le _⟩ ?_
  refine nv_icmp_lt (a := j + 1) (b := xl X k) (tgt := 16) cx dX4_spaceBehind_11 (by decide) (by omega) (by omega) (fun c_1 => ?_) (fun c_1 => ?_)
  · refine lv_aload_n cx.1 cx.2.1 dX4_spaceBehind_16 rfl (lv_at hl 0 rfl) ?_
    refine va_get (ci := 3) (C := RX4) (T := TX4) (N := 10) (v := .ref (ad 1)) cx.1 cx.2.1 cx.2.2.2.2 iw_X4_spaceBehind_X4 cx.2.2.2.1 hK hP 0 rfl rfl 0 (by decide) (cx.2.2.2.2 _ fw_X4_spaceBehind_f12) (fun _ h9 => h9) rfl dX4_spaceBehind_17 ?_
    refine lv_iload_n cx.1 cx.2.1 dX4_spaceBehind_20 rfl (lv_at hl 1 rfl) ?_
    refine lv_iload_n cx.1 cx.2.1 dX4_spaceBehind_21 rfl (lv_at hl 2 rfl) ?_
    refine RO.callV (As := [.int (nI k), .int (nI j)]) (rest := []) cx (c_X1_codeAt l G ad X k j hok (by omega)) gX4_spaceBehind_X1_codeAt rfl hd_X1_codeAt ⟨Nat.le_of_ble_eq_true rfl, Nat.le_of_ble_eq_true rfl⟩ (va_recv hK hP (ci := 1) (q0 := 1) rfl rfl) hK hN hP rfl hl.1 rfl (Nat.le_of_ble_eq_true rfl) dX4_spaceBehind_22 ⟨Nat.zero_le _, Nat.zero_le _⟩ ?_
    refine lv_istore_n (lv' := [(3, .int (xSg X k j)), (0, .ref (ad 0)), (1, .int (nI k)), (2, .int (nI j))]) cx.1 cx.2.1 dX4_spaceBehind_25 rfl hl (by decide) rfl (fun ls hl => ?_)
    refine lv_aload_n cx.1 cx.2.1 dX4_spaceBehind_26 rfl (lv_at hl 1 rfl) ?_
    refine va_get (ci := 3) (C := RX4) (T := TX4) (N := 10) (v := .ref (ad 1)) cx.1 cx.2.1 cx.2.2.2.2 iw_X4_spaceBehind_X4 cx.2.2.2.1 hK hP 0 rfl rfl 0 (by decide) (cx.2.2.2.2 _ fw_X4_spaceBehind_f12) (fun _ h9 => h9) rfl dX4_spaceBehind_27 ?_
    refine lv_iload_n cx.1 cx.2.1 dX4_spaceBehind_30 rfl (lv_at hl 2 rfl) ?_
    refine lv_iload_n cx.1 cx.2.1 dX4_spaceBehind_31 rfl (lv_at hl 3 rfl) ?_
    refine lv_iconst (v := nI 1) cx.1 cx.2.1 dX4_spaceBehind_32 (by decide) ?_
    refine nv_iadd cx (a := j) (b := 1) dX4_spaceBehind_33 ?_
    refine RO.callV (As := [.int (nI k), .int (nI (j + 1))]) (rest := []) cx (c_X1_codeAt l G ad X k (j + 1) hok (by omega)) gX4_spaceBehind_X1_codeAt rfl hd_X1_codeAt ⟨Nat.le_of_ble_eq_true rfl, Nat.le_of_ble_eq_true rfl⟩ (va_recv hK hP (ci := 1) (q0 := 1) rfl rfl) hK hN hP rfl hl.1 rfl (Nat.le_of_ble_eq_true rfl) dX4_spaceBehind_34 ⟨Nat.zero_le _, Nat.zero_le _⟩ ?_
    refine lv_istore (lv' := [(4, .int (xSg X k (j + 1))), (3, .int (xSg X k j)), (0, .ref (ad 0)), (1, .int (nI k)), (2, .int (nI j))]) cx.1 cx.2.1 dX4_spaceBehind_37 hl (by decide) rfl (fun ls hl => ?_)
    refine lv_aload_n cx.1 cx.2.1 dX4_spaceBehind_39 rfl (lv_at hl 2 rfl) ?_
    refine va_get (ci := 3) (C := RX4) (T := TX4) (N := 10) (v := .ref (ad 2)) cx.1 cx.2.1 cx.2.2.2.2 iw_X4_spaceBehind_X4 cx.2.2.2.1 hK hP 0 rfl rfl 1 (by decide) (cx.2.2.2.2 _ fw_X4_spaceBehind_f21) (fun _ h9 => h9) rfl dX4_spaceBehind_40 ?_
    refine lv_aload_n cx.1 cx.2.1 dX4_spaceBehind_43 rfl (lv_at hl 2 rfl) ?_
    refine va_get (ci := 3) (C := RX4) (T := TX4) (N := 10) (v := .ref (ad 2)) cx.1 cx.2.1 cx.2.2.2.2 iw_X4_spaceBehind_X4 cx.2.2.2.1 hK hP 0 rfl rfl 1 (by decide) (cx.2.2.2.2 _ fw_X4_spaceBehind_f21) (fun _ h9 => h9) rfl dX4_spaceBehind_44 ?_
    refine lv_iload_n cx.1 cx.2.1 dX4_spaceBehind_47 rfl (lv_at hl 1 rfl) ?_
    refine lv_iload cx.1 cx.2.1 dX4_spaceBehind_48 (lv_at hl 0 rfl) ?_
    refine RO.callV (As := [.int (xSg X k j), .int (xSg X k (j + 1))]) (rest := [.ref (ad 2)]) cx (c_X2_placeOf l G ad X (xSg X k j) (xSg X k (j + 1)) hok) gX4_spaceBehind_X2_placeOf rfl hd_X2_placeOf ⟨Nat.le_of_ble_eq_true rfl, Nat.le_of_ble_eq_true rfl⟩ (va_recv hK hP (ci := 2) (q0 := 2) rfl rfl) hK hN hP rfl hl.1 rfl (Nat.le_of_ble_eq_true rfl) dX4_spaceBehind_50 ⟨Nat.zero_le _, Nat.zero_le _⟩ ?_
    refine RO.callV (As := [.int (nI (xPl X (xSg X k j) (xSg X k (j + 1))))]) (rest := []) cx (c_X2_adjustmentAt l G ad X (xPl X (xSg X k j) (xSg X k (j + 1))) hok (Nat.lt_of_le_of_lt (hpl _ _) (by omega))) gX4_spaceBehind_X2_adjustmentAt rfl hd_X2_adjustmentAt ⟨Nat.le_of_ble_eq_true rfl, Nat.le_of_ble_eq_true rfl⟩ (va_recv hK hP (ci := 2) (q0 := 2) rfl rfl) hK hN hP rfl hl.1 rfl (Nat.le_of_ble_eq_true rfl) dX4_spaceBehind_53 ⟨Nat.zero_le _, Nat.zero_le _⟩ ?_
    refine lv_istore (lv' := [(5, .int (xAt X (xPl X (xSg X k j) (xSg X k (j + 1))))), (4, .int (xSg X k (j + 1))), (3, .int (xSg X k j)), (0, .ref (ad 0)), (1, .int (nI k)), (2, .int (nI j))]) cx.1 cx.2.1 dX4_spaceBehind_56 hl (by decide) rfl (fun ls hl => ?_)
    refine lv_iconst (v := nI 1) cx.1 cx.2.1 dX4_spaceBehind_58 (by decide) ?_
    refine lv_bipush (v := nI 6) cx.1 cx.2.1 dX4_spaceBehind_59 (by decide) ?_
    refine lv_iload_n cx.1 cx.2.1 dX4_spaceBehind_61 rfl (lv_at hl 2 rfl) ?_
    refine RO.callS (As := [.int (xSg X k j)]) (rest := [.int (nI 6), .int (nI 1)]) cx (c_X3_openness l G (xSg X k j)) gX4_spaceBehind_X3_openness rfl hd_X3_openness ⟨Nat.le_of_ble_eq_true rfl, Nat.le_of_ble_eq_true rfl⟩ hK hN va_P.nil rfl hl.1 rfl (Nat.le_of_ble_eq_true rfl) dX4_spaceBehind_62 ⟨Nat.zero_le _, Nat.zero_le _⟩ ?_
    refine lv_isub (x := 6) (y := xO (xSg X k j)) cx.1 cx.2.1 dX4_spaceBehind_65 ?_
    refine lv_iload cx.1 cx.2.1 dX4_spaceBehind_66 (lv_at hl 1 rfl) ?_
    refine RO.callS (As := [.int (xSg X k (j + 1))]) (rest := [.int (6 - (xO (xSg X k j))), .int (nI 1)]) cx (c_X3_openness l G (xSg X k (j + 1))) gX4_spaceBehind_X3_openness rfl hd_X3_openness ⟨Nat.le_of_ble_eq_true rfl, Nat.le_of_ble_eq_true rfl⟩ hK hN va_P.nil rfl hl.1 rfl (Nat.le_of_ble_eq_true rfl) dX4_spaceBehind_68 ⟨Nat.zero_le _, Nat.zero_le _⟩ ?_
    refine lv_isub (x := 6 - (xO (xSg X k j))) (y := xO (xSg X k (j + 1))) cx.1 cx.2.1 dX4_spaceBehind_71 ?_
    refine lv_iload cx.1 cx.2.1 dX4_spaceBehind_72 (lv_at hl 0 rfl) ?_
    refine lv_iadd (x := (6 - (xO (xSg X k j))) - (xO (xSg X k (j + 1)))) (y := xAt X (xPl X (xSg X k j) (xSg X k (j + 1)))) cx.1 cx.2.1 dX4_spaceBehind_74 ?_
    refine va_mmax (x := 1) (y := ((6 - (xO (xSg X k j))) - (xO (xSg X k (j + 1)))) + (xAt X (xPl X (xSg X k j) (xSg X k (j + 1))))) cx.1 cx.2.1 (cx.2.2.1.trans hl.1.symm) cx.2.2.2.1 (cx.2.2.2.2 _ fw_X4_spaceBehind_m102) (cx.2.2.2.2 _ fw_X4_spaceBehind_smax) (cx.2.2.2.2 _ fw_X4_spaceBehind_iMath) (cx.2.2.2.2 _ fw_X4_spaceBehind_cmax) (Nat.le_of_ble_eq_true rfl) (Nat.le_of_ble_eq_true rfl) (Nat.zero_le _) (Nat.zero_le _) dX4_spaceBehind_75 ?_
    refine nv_eqi (y := imax 1 (((6 - (xO (xSg X k j))) - (xO (xSg X k (j + 1)))) + (xAt X (xPl X (xSg X k j) (xSg X k (j + 1)))))) rfl ?_
    exact RO.ret (x := imax 1 (((6 - (xO (xSg X k j))) - (xO (xSg X k (j + 1)))) + (xAt X (xPl X (xSg X k j) (xSg X k (j + 1)))))) cx hr hlocks dX4_spaceBehind_78 (by first | exact (if_pos (by omega)).symm | exact (if_neg (by omega)).symm)
  · refine lv_iconst (v := nI 0) cx.1 cx.2.1 dX4_spaceBehind_14 (by decide) ?_
    exact RO.ret (x := 0) cx hr hlocks dX4_spaceBehind_15 (by first | exact (if_pos (by omega)).symm | exact (if_neg (by omega)).symm)

theorem iw_X4_measuredSpace_X4 : ∀ w ∈ wsX40, w ∈ wsX4_measuredSpace := fun _ h => List.mem_cons_of_mem _ (List.mem_append_left _ (List.mem_append_left _ (List.mem_append_right _ h)))
theorem fw_X4_measuredSpace_f12 : (Cond.fieldLink RX4 12 "NamePlate$State" "names" "LNamePlate$Names;") ∈ wsX4_measuredSpace := List.mem_of_getElem? (i := 1) rfl
set_option maxHeartbeats 4000000 in
set_option maxRecDepth 100000 in
theorem c_X4_measuredSpace (l : Launch) (G : GG) (ad : Nat → Nat) (X : XS) (k : Nat) (j : Nat) (hok : okX X) (hk : k < 20) (hj : j + 1 < 16) : RO l yX4_measuredSpace wsX4_measuredSpace 2 48 G (stC G ad X) [.ref (ad 0), .int (nI k), .int (nI j)] (xMs X k j) := by
  refine RO.start (cc := cX4_measuredSpace) (maxL := 3) (ret := (some .int)) (by decide) rfl (Nat.le_of_ble_eq_true rfl) ?_
  intro p e s m below meth c ls cx hr hlocks hK hN hP hl
  have cx : CallFix p m c cX4_measuredSpace 3 s [.ref (ad 0), .int (nI k), .int (nI j)].toArray wsX4_measuredSpace RX4 := cx
  have hl : lv_has ls 3 [(0, .ref (ad 0)), (1, .int (nI k)), (2, .int (nI j))] := hl
  refine lv_aload_n cx.1 cx.2.1 dX4_measuredSpace_0 rfl (lv_at hl 0 rfl) ?_
  refine lv_iload_n cx.1 cx.2.1 dX4_measuredSpace_1 rfl (lv_at hl 1 rfl) ?_
  refine lv_iload_n cx.1 cx.2.1 dX4_measuredSpace_2 rfl (lv_at hl 2 rfl) ?_
  refine RO.callV (As := [.int (nI k), .int (nI j)]) (rest := []) cx (c_X4_spaceBehind l G ad X k j hok (by omega) (by omega)) gX4_measuredSpace_X4_spaceBehind rfl hd_X4_spaceBehind ⟨Nat.le_of_ble_eq_true rfl, Nat.le_of_ble_eq_true rfl⟩ (va_recv hK hP (ci := 3) (q0 := 0) rfl rfl) hK hN hP rfl hl.1 rfl (Nat.le_of_ble_eq_true rfl) dX4_measuredSpace_3 ⟨Nat.zero_le _, Nat.zero_le _⟩ ?_
  refine lv_aload_n cx.1 cx.2.1 dX4_measuredSpace_6 rfl (lv_at hl 0 rfl) ?_
  refine va_get (ci := 3) (C := RX4) (T := TX4) (N := 10) (v := .ref (ad 1)) cx.1 cx.2.1 cx.2.2.2.2 iw_X4_measuredSpace_X4 cx.2.2.2.1 hK hP 0 rfl rfl 0 (by decide) (cx.2.2.2.2 _ fw_X4_measuredSpace_f12) (fun _ h9 => h9) rfl dX4_measuredSpace_7 ?_
  refine lv_iload_n cx.1 cx.2.1 dX4_measuredSpace_10 rfl (lv_at hl 1 rfl) ?_
  refine lv_iload_n cx.1 cx.2.1 dX4_measuredSpace_11 rfl (lv_at hl 2 rfl) ?_
  refine RO.callV (As := [.int (nI k), .int (nI j)]) (rest := [.int (xSp X k j)]) cx (c_X1_codeAt l G ad X k j hok (by omega)) gX4_measuredSpace_X1_codeAt rfl hd_X1_codeAt ⟨Nat.le_of_ble_eq_true rfl, Nat.le_of_ble_eq_true rfl⟩ (va_recv hK hP (ci := 1) (q0 := 1) rfl rfl) hK hN hP rfl hl.1 rfl (Nat.le_of_ble_eq_true rfl) dX4_measuredSpace_12 ⟨Nat.zero_le _, Nat.zero_le _⟩ ?_
  refine RO.callS (As := [.int (xSg X k j)]) (rest := [.int (xSp X k j)]) cx (c_X3_openness l G (xSg X k j)) gX4_measuredSpace_X3_openness rfl hd_X3_openness ⟨Nat.le_of_ble_eq_true rfl, Nat.le_of_ble_eq_true rfl⟩ hK hN va_P.nil rfl hl.1 rfl (Nat.le_of_ble_eq_true rfl) dX4_measuredSpace_15 ⟨Nat.zero_le _, Nat.zero_le _⟩ ?_
  refine lv_iadd (x := xSp X k j) (y := xO (xSg X k j)) cx.1 cx.2.1 dX4_measuredSpace_18 ?_
  refine lv_aload_n cx.1 cx.2.1 dX4_measuredSpace_19 rfl (lv_at hl 0 rfl) ?_
  refine va_get (ci := 3) (C := RX4) (T := TX4) (N := 10) (v := .ref (ad 1)) cx.1 cx.2.1 cx.2.2.2.2 iw_X4_measuredSpace_X4 cx.2.2.2.1 hK hP 0 rfl rfl 0 (by decide) (cx.2.2.2.2 _ fw_X4_measuredSpace_f12) (fun _ h9 => h9) rfl dX4_measuredSpace_20 ?_
  refine lv_iload_n cx.1 cx.2.1 dX4_measuredSpace_23 rfl (lv_at hl 1 rfl) ?_
  refine lv_iload_n cx.1 cx.2.1 dX4_measuredSpace_24 rfl (lv_at hl 2 rfl) ?_
  refine lv_iconst (v := nI 1) cx.1 cx.2.1 dX4_measuredSpace_25 (by decide) ?_
  refine nv_iadd cx (a := j) (b := 1) dX4_measuredSpace_26 ?_
  refine RO.callV (As := [.int (nI k), .int (nI (j + 1))]) (rest := [.int ((xSp X k j) + (xO (xSg X k j)))]) cx (c_X1_codeAt l G ad X k (j + 1) hok (by omega)) gX4_measuredSpace_X1_codeAt rfl hd_X1_codeAt ⟨Nat.le_of_ble_eq_true rfl, Nat.le_of_ble_eq_true rfl⟩ (va_recv hK hP (ci := 1) (q0 := 1) rfl rfl) hK hN hP rfl hl.1 rfl (Nat.le_of_ble_eq_true rfl) dX4_measuredSpace_27 ⟨Nat.zero_le _, Nat.zero_le _⟩ ?_
  refine RO.callS (As := [.int (xSg X k (j + 1))]) (rest := [.int ((xSp X k j) + (xO (xSg X k j)))]) cx (c_X3_openness l G (xSg X k (j + 1))) gX4_measuredSpace_X3_openness rfl hd_X3_openness ⟨Nat.le_of_ble_eq_true rfl, Nat.le_of_ble_eq_true rfl⟩ hK hN va_P.nil rfl hl.1 rfl (Nat.le_of_ble_eq_true rfl) dX4_measuredSpace_30 ⟨Nat.zero_le _, Nat.zero_le _⟩ ?_
  refine lv_iadd (x := (xSp X k j) + (xO (xSg X k j))) (y := xO (xSg X k (j + 1))) cx.1 cx.2.1 dX4_measuredSpace_33 ?_
  exact RO.ret (x := ((xSp X k j) + (xO (xSg X k j))) + (xO (xSg X k (j + 1)))) cx hr hlocks dX4_measuredSpace_34 rfl

theorem iw_X4_unitsBefore_X4 : ∀ w ∈ wsX40, w ∈ wsX4_unitsBefore := fun _ h => List.mem_cons_of_mem _ (List.mem_append_left _ (List.mem_append_left _ (List.mem_append_right _ h)))
theorem fw_X4_unitsBefore_f12 : (Cond.fieldLink RX4 12 "NamePlate$State" "names" "LNamePlate$Names;") ∈ wsX4_unitsBefore := List.mem_of_getElem? (i := 1) rfl
set_option maxHeartbeats 4000000 in
set_option maxRecDepth 100000 in
theorem c_X4_unitsBefore (l : Launch) (G : GG) (ad : Nat → Nat) (X : XS) (k : Nat) (n : Nat) (hok : okX X) (hk : k < 20) (hn : n ≤ 16) : RO l yX4_unitsBefore wsX4_unitsBefore 2 48 G (stC G ad X) [.ref (ad 0), .int (nI k), .int (nI n)] (xUb X k n) := by
  refine RO.start (cc := cX4_unitsBefore) (maxL := 5) (ret := (some .int)) (by decide) rfl (Nat.le_of_ble_eq_true rfl) ?_
  intro p e s m below meth c ls cx hr hlocks hK hN hP hl
  have cx : CallFix p m c cX4_unitsBefore 5 s [.ref (ad 0), .int (nI k), .int (nI n)].toArray wsX4_unitsBefore RX4 := cx
  have hl : lv_has ls 5 [(0, .ref (ad 0)), (1, .int (nI k)), (2, .int (nI n))] := hl
  refine lv_iconst (v := nI 0) cx.1 cx.2.1 dX4_unitsBefore_0 (by decide) ?_
  refine lv_istore_n (lv' := [(3, .int (nI 0)), (0, .ref (ad 0)), (1, .int (nI k)), (2, .int (nI n))]) cx.1 cx.2.1 dX4_unitsBefore_1 rfl hl (by decide) rfl (fun ls hl => ?_)
  refine lv_iconst (v := nI 0) cx.1 cx.2.1 dX4_unitsBefore_2 (by decide) ?_
  refine lv_istore (lv' := [(4, .int (nI 0)), (3, .int (nI 0)), (0, .ref (ad 0)), (1, .int (nI k)), (2, .int (nI n))]) cx.1 cx.2.1 dX4_unitsBefore_3 hl (by decide) rfl (fun ls hl => ?_)
  have lp5 : ∀ (r : Nat) (i : Nat) (hr9 : n - i < r) (hi : i ≤ n) (ls : Array Slot), lv_has ls 5 [(4, .int (nI i)), (3, .int (xUb X k i)), (0, .ref (ad 0)), (1, .int (nI k)), (2, .int (nI n))] → W p l e ({ frames := 2, cells := 0, slots := 0, locals := 48 } : Room) s m [.ref (ad 0), .int (nI k), .int (nI n)].toArray below meth c s.heap [] 0 0 (MQ below (vp_Si (fun r => r = (xUb X k n))) [.ref (ad 0), .int (nI k), .int (nI n)].toArray s 0 0 (fun _ => False)) (F0 m 5 ls []) := by
    intro r
    induction r with
    | zero => intro i hr9; exact absurd hr9 (Nat.not_lt_zero _)
    | succ r ih5 =>
      intro i hr9 hi ls hl
      refine lv_iload cx.1 cx.2.1 dX4_unitsBefore_5 (lv_at hl 0 rfl) ?_
      refine lv_iload_n cx.1 cx.2.1 dX4_unitsBefore_7 rfl (lv_at hl 4 rfl) ?_
      refine nv_icmp_ge (a := i) (b := n) (tgt := 48) cx dX4_unitsBefore_8 (by decide) (by omega) (by omega) (fun c_1 => ?_) (fun c_1 => ?_)
      · refine lv_iload_n cx.1 cx.2.1 dX4_unitsBefore_48 rfl (lv_at hl 1 rfl) ?_
        exact RO.ret (x := xUb X k i) cx hr hlocks dX4_unitsBefore_49 (by have e : i = n := (by omega); rw [e])
      · refine lv_iload cx.1 cx.2.1 dX4_unitsBefore_11 (lv_at hl 0 rfl) ?_
        refine lv_bipush (v := nI 16) cx.1 cx.2.1 dX4_unitsBefore_13 (by decide) ?_
        refine nv_icmp_ge (a := i) (b := 16) (tgt := 48) cx dX4_unitsBefore_15 (by decide) (by omega) (by omega) (fun c_2 => ?_) (fun c_2 => ?_)
        · exact absurd c_2 (by omega)
        · refine lv_iload_n cx.1 cx.2.1 dX4_unitsBefore_18 rfl (lv_at hl 1 rfl) ?_
          refine lv_aload_n cx.1 cx.2.1 dX4_unitsBefore_19 rfl (lv_at hl 2 rfl) ?_
          refine va_get (ci := 3) (C := RX4) (T := TX4) (N := 10) (v := .ref (ad 1)) cx.1 cx.2.1 cx.2.2.2.2 iw_X4_unitsBefore_X4 cx.2.2.2.1 hK hP 0 rfl rfl 0 (by decide) (cx.2.2.2.2 _ fw_X4_unitsBefore_f12) (fun _ h9 => h9) rfl dX4_unitsBefore_20 ?_
          refine lv_iload_n cx.1 cx.2.1 dX4_unitsBefore_23 rfl (lv_at hl 3 rfl) ?_
          refine lv_iload cx.1 cx.2.1 dX4_unitsBefore_24 (lv_at hl 0 rfl) ?_
          refine RO.callV (As := [.int (nI k), .int (nI i)]) (rest := [.int (xUb X k i)]) cx (c_X1_codeAt l G ad X k i hok (by omega)) gX4_unitsBefore_X1_codeAt rfl hd_X1_codeAt ⟨Nat.le_of_ble_eq_true rfl, Nat.le_of_ble_eq_true rfl⟩ (va_recv hK hP (ci := 1) (q0 := 1) rfl rfl) hK hN hP rfl hl.1 rfl (Nat.le_of_ble_eq_true rfl) dX4_unitsBefore_26 ⟨Nat.zero_le _, Nat.zero_le _⟩ ?_
          refine RO.callS (As := [.int (xSg X k i)]) (rest := [.int (xUb X k i)]) cx (c_X3_width l G (xSg X k i)) gX4_unitsBefore_X3_width rfl hd_X3_width ⟨Nat.le_of_ble_eq_true rfl, Nat.le_of_ble_eq_true rfl⟩ hK hN va_P.nil rfl hl.1 rfl (Nat.le_of_ble_eq_true rfl) dX4_unitsBefore_29 ⟨Nat.zero_le _, Nat.zero_le _⟩ ?_
          refine lv_aload_n cx.1 cx.2.1 dX4_unitsBefore_32 rfl (lv_at hl 2 rfl) ?_
          refine lv_iload_n cx.1 cx.2.1 dX4_unitsBefore_33 rfl (lv_at hl 3 rfl) ?_
          refine lv_iload cx.1 cx.2.1 dX4_unitsBefore_34 (lv_at hl 0 rfl) ?_
          refine RO.callV (As := [.int (nI k), .int (nI i)]) (rest := [.int (xW (xSg X k i)), .int (xUb X k i)]) cx (c_X4_spaceBehind l G ad X k i hok (by omega) (by omega)) gX4_unitsBefore_X4_spaceBehind rfl hd_X4_spaceBehind ⟨Nat.le_of_ble_eq_true rfl, Nat.le_of_ble_eq_true rfl⟩ (va_recv hK hP (ci := 3) (q0 := 0) rfl rfl) hK hN hP rfl hl.1 rfl (Nat.le_of_ble_eq_true rfl) dX4_unitsBefore_36 ⟨Nat.zero_le _, Nat.zero_le _⟩ ?_
          refine lv_iadd (x := xW (xSg X k i)) (y := xSp X k i) cx.1 cx.2.1 dX4_unitsBefore_39 ?_
          refine lv_iadd (x := xUb X k i) (y := (xW (xSg X k i)) + (xSp X k i)) cx.1 cx.2.1 dX4_unitsBefore_40 ?_
          refine lv_istore_n (lv' := [(3, .int ((xUb X k i) + ((xW (xSg X k i)) + (xSp X k i)))), (4, .int (nI i)), (0, .ref (ad 0)), (1, .int (nI k)), (2, .int (nI n))]) cx.1 cx.2.1 dX4_unitsBefore_41 rfl hl (by decide) rfl (fun ls hl => ?_)
          refine lv_iinc (v := nI (i + 1)) (lv' := [(4, .int (nI (i + 1))), (3, .int ((xUb X k i) + ((xW (xSg X k i)) + (xSp X k i)))), (0, .ref (ad 0)), (1, .int (nI k)), (2, .int (nI n))]) cx.1 cx.2.1 dX4_unitsBefore_42 hl (k := 1) rfl (show nI i + Int32.ofInt 1 = nI (i + 1) from nI_add i 1) (by decide) rfl (fun ls hl => ?_)
          refine lv_goto (tgt := 5) cx.1 cx.2.1 dX4_unitsBefore_45 (by decide) ?_
          exact ih5 (i + 1) (by omega) (by omega) ls (lv_sub hl [0, 1, 2, 3, 4] rfl)
  exact lp5 _ 0 (Nat.lt_succ_self _) (by omega) ls (lv_sub hl [0, 1, 2, 3, 4] rfl)

theorem iw_X4_unitsOf_X4 : ∀ w ∈ wsX40, w ∈ wsX4_unitsOf := fun _ h => List.mem_cons_of_mem _ (List.mem_append_left _ (List.mem_append_left _ (List.mem_append_right _ h)))
theorem fw_X4_unitsOf_f12 : (Cond.fieldLink RX4 12 "NamePlate$State" "names" "LNamePlate$Names;") ∈ wsX4_unitsOf := List.mem_of_getElem? (i := 1) rfl
set_option maxHeartbeats 4000000 in
set_option maxRecDepth 100000 in
theorem c_X4_unitsOf (l : Launch) (G : GG) (ad : Nat → Nat) (X : XS) (k : Nat) (hok : okX X) (hk : k < 20) : RO l yX4_unitsOf wsX4_unitsOf 3 72 G (stC G ad X) [.ref (ad 0), .int (nI k)] (xU X k) := by
  refine RO.start (cc := cX4_unitsOf) (maxL := 2) (ret := (some .int)) (by decide) rfl (Nat.le_of_ble_eq_true rfl) ?_
  intro p e s m below meth c ls cx hr hlocks hK hN hP hl
  have cx : CallFix p m c cX4_unitsOf 2 s [.ref (ad 0), .int (nI k)].toArray wsX4_unitsOf RX4 := cx
  have hl : lv_has ls 2 [(0, .ref (ad 0)), (1, .int (nI k))] := hl
  have hl16 := hok.l16 hk
  refine lv_aload_n cx.1 cx.2.1 dX4_unitsOf_0 rfl (lv_at hl 0 rfl) ?_
  refine lv_iload_n cx.1 cx.2.1 dX4_unitsOf_1 rfl (lv_at hl 1 rfl) ?_
  refine lv_aload_n cx.1 cx.2.1 dX4_unitsOf_2 rfl (lv_at hl 0 rfl) ?_
  refine va_get (ci := 3) (C := RX4) (T := TX4) (N := 10) (v := .ref (ad 1)) cx.1 cx.2.1 cx.2.2.2.2 iw_X4_unitsOf_X4 cx.2.2.2.1 hK hP 0 rfl rfl 0 (by decide) (cx.2.2.2.2 _ fw_X4_unitsOf_f12) (fun _ h9 => h9) rfl dX4_unitsOf_3 ?_
  refine lv_iload_n cx.1 cx.2.1 dX4_unitsOf_6 rfl (lv_at hl 1 rfl) ?_
  refine RO.callV (As := [.int (nI k)]) (rest := [.int (nI k), .ref (ad 0)]) cx (c_X1_lengthOf l G ad X k hok (by omega)) gX4_unitsOf_X1_lengthOf rfl hd_X1_lengthOf ⟨Nat.le_of_ble_eq_true rfl, Nat.le_of_ble_eq_true rfl⟩ (va_recv hK hP (ci := 1) (q0 := 1) rfl rfl) hK hN hP rfl hl.1 rfl (Nat.le_of_ble_eq_true rfl) dX4_unitsOf_7 ⟨Nat.zero_le _, Nat.zero_le _⟩ ?_
  refine RO.callV (As := [.int (nI k), .int (nI (xl X k))]) (rest := []) cx (c_X4_unitsBefore l G ad X k (xl X k) hok (by omega) (by omega)) gX4_unitsOf_X4_unitsBefore rfl hd_X4_unitsBefore ⟨Nat.le_of_ble_eq_true rfl, Nat.le_of_ble_eq_true rfl⟩ (va_recv hK hP (ci := 3) (q0 := 0) rfl rfl) hK hN hP rfl hl.1 rfl (Nat.le_of_ble_eq_true rfl) dX4_unitsOf_10 ⟨Nat.zero_le _, Nat.zero_le _⟩ ?_
  exact RO.ret (x := xUb X k (xl X k)) cx hr hlocks dX4_unitsOf_13 rfl

theorem iw_X4_inkOf_X4 : ∀ w ∈ wsX40, w ∈ wsX4_inkOf := fun _ h => List.mem_cons_of_mem _ (List.mem_append_left _ (List.mem_append_right _ h))
theorem fw_X4_inkOf_f12 : (Cond.fieldLink RX4 12 "NamePlate$State" "names" "LNamePlate$Names;") ∈ wsX4_inkOf := List.mem_of_getElem? (i := 1) rfl
set_option maxHeartbeats 4000000 in
set_option maxRecDepth 100000 in
theorem c_X4_inkOf (l : Launch) (G : GG) (ad : Nat → Nat) (X : XS) (k : Nat) (hok : okX X) (hk : k < 20) : RO l yX4_inkOf wsX4_inkOf 1 23 G (stC G ad X) [.ref (ad 0), .int (nI k)] (xInk X k) := by
  refine RO.start (cc := cX4_inkOf) (maxL := 4) (ret := (some .int)) (by decide) rfl (Nat.le_of_ble_eq_true rfl) ?_
  intro p e s m below meth c ls cx hr hlocks hK hN hP hl
  have cx : CallFix p m c cX4_inkOf 4 s [.ref (ad 0), .int (nI k)].toArray wsX4_inkOf RX4 := cx
  have hl : lv_has ls 4 [(0, .ref (ad 0)), (1, .int (nI k))] := hl
  have hl16 := hok.l16 hk
  refine lv_iconst (v := nI 0) cx.1 cx.2.1 dX4_inkOf_0 (by decide) ?_
  refine lv_istore_n (lv' := [(2, .int (nI 0)), (0, .ref (ad 0)), (1, .int (nI k))]) cx.1 cx.2.1 dX4_inkOf_1 rfl hl (by decide) rfl (fun ls hl => ?_)
  refine lv_iconst (v := nI 0) cx.1 cx.2.1 dX4_inkOf_2 (by decide) ?_
  refine lv_istore_n (lv' := [(3, .int (nI 0)), (2, .int (nI 0)), (0, .ref (ad 0)), (1, .int (nI k))]) cx.1 cx.2.1 dX4_inkOf_3 rfl hl (by decide) rfl (fun ls hl => ?_)
  have lp4 : ∀ (r : Nat) (i : Nat) (hr9 : xl X k - i < r) (hi : i ≤ xl X k) (ls : Array Slot), lv_has ls 4 [(3, .int (nI i)), (2, .int (sumI (fun j => xI (xSg X k j)) i)), (0, .ref (ad 0)), (1, .int (nI k))] → W p l e ({ frames := 1, cells := 0, slots := 0, locals := 23 } : Room) s m [.ref (ad 0), .int (nI k)].toArray below meth c s.heap [] 0 0 (MQ below (vp_Si (fun r => r = (xInk X k))) [.ref (ad 0), .int (nI k)].toArray s 0 0 (fun _ => False)) (F0 m 4 ls []) := by
    intro r
    induction r with
    | zero => intro i hr9; exact absurd hr9 (Nat.not_lt_zero _)
    | succ r ih4 =>
      intro i hr9 hi ls hl
      refine lv_iload_n cx.1 cx.2.1 dX4_inkOf_4 rfl (lv_at hl 0 rfl) ?_
      refine lv_aload_n cx.1 cx.2.1 dX4_inkOf_5 rfl (lv_at hl 2 rfl) ?_
      refine va_get (ci := 3) (C := RX4) (T := TX4) (N := 10) (v := .ref (ad 1)) cx.1 cx.2.1 cx.2.2.2.2 iw_X4_inkOf_X4 cx.2.2.2.1 hK hP 0 rfl rfl 0 (by decide) (cx.2.2.2.2 _ fw_X4_inkOf_f12) (fun _ h9 => h9) rfl dX4_inkOf_6 ?_
      refine lv_iload_n cx.1 cx.2.1 dX4_inkOf_9 rfl (lv_at hl 3 rfl) ?_
      refine RO.callV (As := [.int (nI k)]) (rest := [.int (nI i)]) cx (c_X1_lengthOf l G ad X k hok (by omega)) gX4_inkOf_X1_lengthOf rfl hd_X1_lengthOf ⟨Nat.le_of_ble_eq_true rfl, Nat.le_of_ble_eq_true rfl⟩ (va_recv hK hP (ci := 1) (q0 := 1) rfl rfl) hK hN hP rfl hl.1 rfl (Nat.le_of_ble_eq_true rfl) dX4_inkOf_10 ⟨Nat.zero_le _, Nat.zero_le _⟩ ?_
      refine nv_icmp_ge (a := i) (b := xl X k) (tgt := 37) cx dX4_inkOf_13 (by decide) (by omega) (by omega) (fun c_1 => ?_) (fun c_1 => ?_)
      · refine lv_iload_n cx.1 cx.2.1 dX4_inkOf_37 rfl (lv_at hl 1 rfl) ?_
        exact RO.ret (x := sumI (fun j => xI (xSg X k j)) i) cx hr hlocks dX4_inkOf_38 (by have e : i = xl X k := (by omega); rw [e]; rfl)
      · refine lv_iload_n cx.1 cx.2.1 dX4_inkOf_16 rfl (lv_at hl 1 rfl) ?_
        refine lv_aload_n cx.1 cx.2.1 dX4_inkOf_17 rfl (lv_at hl 2 rfl) ?_
        refine va_get (ci := 3) (C := RX4) (T := TX4) (N := 10) (v := .ref (ad 1)) cx.1 cx.2.1 cx.2.2.2.2 iw_X4_inkOf_X4 cx.2.2.2.1 hK hP 0 rfl rfl 0 (by decide) (cx.2.2.2.2 _ fw_X4_inkOf_f12) (fun _ h9 => h9) rfl dX4_inkOf_18 ?_
        refine lv_iload_n cx.1 cx.2.1 dX4_inkOf_21 rfl (lv_at hl 3 rfl) ?_
        refine lv_iload_n cx.1 cx.2.1 dX4_inkOf_22 rfl (lv_at hl 0 rfl) ?_
        refine RO.callV (As := [.int (nI k), .int (nI i)]) (rest := [.int (sumI (fun j => xI (xSg X k j)) i)]) cx (c_X1_codeAt l G ad X k i hok (by omega)) gX4_inkOf_X1_codeAt rfl hd_X1_codeAt ⟨Nat.le_of_ble_eq_true rfl, Nat.le_of_ble_eq_true rfl⟩ (va_recv hK hP (ci := 1) (q0 := 1) rfl rfl) hK hN hP rfl hl.1 rfl (Nat.le_of_ble_eq_true rfl) dX4_inkOf_23 ⟨Nat.zero_le _, Nat.zero_le _⟩ ?_
        refine RO.callS (As := [.int (xSg X k i)]) (rest := [.int (sumI (fun j => xI (xSg X k j)) i)]) cx (c_X3_ink l G (xSg X k i)) gX4_inkOf_X3_ink rfl hd_X3_ink ⟨Nat.le_of_ble_eq_true rfl, Nat.le_of_ble_eq_true rfl⟩ hK hN va_P.nil rfl hl.1 rfl (Nat.le_of_ble_eq_true rfl) dX4_inkOf_26 ⟨Nat.zero_le _, Nat.zero_le _⟩ ?_
        refine lv_iadd (x := sumI (fun j => xI (xSg X k j)) i) (y := xI (xSg X k i)) cx.1 cx.2.1 dX4_inkOf_29 ?_
        refine lv_istore_n (lv' := [(2, .int ((sumI (fun j => xI (xSg X k j)) i) + (xI (xSg X k i)))), (3, .int (nI i)), (0, .ref (ad 0)), (1, .int (nI k))]) cx.1 cx.2.1 dX4_inkOf_30 rfl hl (by decide) rfl (fun ls hl => ?_)
        refine lv_iinc (v := nI (i + 1)) (lv' := [(3, .int (nI (i + 1))), (2, .int ((sumI (fun j => xI (xSg X k j)) i) + (xI (xSg X k i)))), (0, .ref (ad 0)), (1, .int (nI k))]) cx.1 cx.2.1 dX4_inkOf_31 hl (k := 1) rfl (show nI i + Int32.ofInt 1 = nI (i + 1) from nI_add i 1) (by decide) rfl (fun ls hl => ?_)
        refine lv_goto (tgt := 4) cx.1 cx.2.1 dX4_inkOf_34 (by decide) ?_
        exact ih4 (i + 1) (by omega) (by omega) ls (lv_sub hl [0, 1, 2, 3] rfl)
  exact lp4 _ 0 (Nat.lt_succ_self _) (by omega) ls (lv_sub hl [0, 1, 2, 3] rfl)

theorem iw_X4_mostUnits_X4 : ∀ w ∈ wsX40, w ∈ wsX4_mostUnits := fun _ h => List.mem_cons_of_mem _ (List.mem_append_left _ (List.mem_append_left _ (List.mem_append_right _ h)))
theorem fw_X4_mostUnits_f12 : (Cond.fieldLink RX4 12 "NamePlate$State" "names" "LNamePlate$Names;") ∈ wsX4_mostUnits := List.mem_of_getElem? (i := 1) rfl
theorem iw_X4_mostUnits_X1 : ∀ w ∈ wsX10, w ∈ wsX4_mostUnits := fun _ h => List.mem_cons_of_mem _ (List.mem_append_left _ (List.mem_append_right _ h))
theorem fw_X4_mostUnits_m102 : (Cond.methodLink RX4 102 Lib.Math.max.name) ∈ wsX4_mostUnits := List.mem_of_getElem? (i := 2) rfl
theorem fw_X4_mostUnits_smax : (Cond.static Lib.Math.max.name) ∈ wsX4_mostUnits := List.mem_of_getElem? (i := 3) rfl
theorem fw_X4_mostUnits_iMath : (Cond.initialized "java/lang/Math") ∈ wsX4_mostUnits := List.mem_of_getElem? (i := 4) rfl
theorem fw_X4_mostUnits_cmax : (Cond.code Lib.Math.max.name Lib.Math.max.code 2 (some .int)) ∈ wsX4_mostUnits := List.mem_of_getElem? (i := 5) rfl
set_option maxHeartbeats 4000000 in
set_option maxRecDepth 100000 in
theorem c_X4_mostUnits (l : Launch) (G : GG) (ad : Nat → Nat) (X : XS) (lo : Int32) (hok : okX X) : RO l yX4_mostUnits wsX4_mostUnits 4 93 G (stC G ad X) [.ref (ad 0), .int lo] (xMost X lo) := by
  refine RO.start (cc := cX4_mostUnits) (maxL := 4) (ret := (some .int)) (by decide) rfl (Nat.le_of_ble_eq_true rfl) ?_
  intro p e s m below meth c ls cx hr hlocks hK hN hP hl
  have cx : CallFix p m c cX4_mostUnits 4 s [.ref (ad 0), .int lo].toArray wsX4_mostUnits RX4 := cx
  have hl : lv_has ls 4 [(0, .ref (ad 0)), (1, .int lo)] := hl
  have hn20 := hok.n20
  refine lv_iconst (v := nI 0) cx.1 cx.2.1 dX4_mostUnits_0 (by decide) ?_
  refine lv_istore_n (lv' := [(2, .int (nI 0)), (0, .ref (ad 0)), (1, .int lo)]) cx.1 cx.2.1 dX4_mostUnits_1 rfl hl (by decide) rfl (fun ls hl => ?_)
  refine lv_iconst (v := nI 0) cx.1 cx.2.1 dX4_mostUnits_2 (by decide) ?_
  refine lv_istore_n (lv' := [(3, .int (nI 0)), (2, .int (nI 0)), (0, .ref (ad 0)), (1, .int lo)]) cx.1 cx.2.1 dX4_mostUnits_3 rfl hl (by decide) rfl (fun ls hl => ?_)
  have lp4 : ∀ (r : Nat) (i : Nat) (hr9 : xn X - i < r) (hi : i ≤ xn X) (ls : Array Slot), lv_has ls 4 [(0, .ref (ad 0)), (1, .int lo), (2, .int (xMostN X lo i)), (3, .int (nI i))] → W p l e ({ frames := 4, cells := 0, slots := 0, locals := 93 } : Room) s m [.ref (ad 0), .int lo].toArray below meth c s.heap [] 0 0 (MQ below (vp_Si (fun r => r = (xMost X lo))) [.ref (ad 0), .int lo].toArray s 0 0 (fun _ => False)) (F0 m 4 ls []) := by
    intro r
    induction r with
    | zero => intro i hr9; exact absurd hr9 (Nat.not_lt_zero _)
    | succ r ih4 =>
      intro i hr9 hi ls hl
      refine lv_iload_n cx.1 cx.2.1 dX4_mostUnits_4 rfl (lv_at hl 3 rfl) ?_
      refine lv_aload_n cx.1 cx.2.1 dX4_mostUnits_5 rfl (lv_at hl 0 rfl) ?_
      refine va_get (ci := 3) (C := RX4) (T := TX4) (N := 10) (v := .ref (ad 1)) cx.1 cx.2.1 cx.2.2.2.2 iw_X4_mostUnits_X4 cx.2.2.2.1 hK hP 0 rfl rfl 0 (by decide) (cx.2.2.2.2 _ fw_X4_mostUnits_f12) (fun _ h9 => h9) rfl dX4_mostUnits_6 ?_
      refine va_getN (ci := 1) (C := RX1) (T := TX1) (N := 3) (v := .int (X 5 0)) cx.1 cx.2.1 cx.2.2.2.2 iw_X4_mostUnits_X1 cx.2.2.2.1 hK hP 1 rfl rfl 2 (by decide) (va_Nw.use rfl (hN.at 12 rfl)) (fun _ h9 => h9) rfl dX4_mostUnits_9 ?_
      refine nv_eqi (y := nI (xn X)) hok.n ?_
      refine nv_icmp_ge (a := i) (b := xn X) (tgt := 36) cx dX4_mostUnits_12 (by decide) (by omega) (by omega) (fun c_1 => ?_) (fun c_1 => ?_)
      · refine lv_iload_n cx.1 cx.2.1 dX4_mostUnits_36 rfl (lv_at hl 2 rfl) ?_
        exact RO.ret (x := xMostN X lo i) cx hr hlocks dX4_mostUnits_37 (by have e : i = xn X := (by omega); rw [e]; rfl)
      · refine lv_iload_n cx.1 cx.2.1 dX4_mostUnits_15 rfl (lv_at hl 3 rfl) ?_
        refine lv_iload_n cx.1 cx.2.1 dX4_mostUnits_16 rfl (lv_at hl 1 rfl) ?_
        refine lv_icmp_eq (x := nI i) (y := lo) (tgt := 30) cx.1 cx.2.1 dX4_mostUnits_17 (by decide) (fun c_2 => ?_) (fun c_2 => ?_)
        · refine lv_iinc (v := nI (i + 1)) (lv' := [(3, .int (nI (i + 1))), (0, .ref (ad 0)), (1, .int lo), (2, .int (xMostN X lo i))]) cx.1 cx.2.1 dX4_mostUnits_30 hl (k := 3) rfl (show nI i + Int32.ofInt 1 = nI (i + 1) from nI_add i 1) (by decide) rfl (fun ls hl => ?_)
          refine lv_goto (tgt := 4) cx.1 cx.2.1 dX4_mostUnits_33 (by decide) ?_
          have e2 : xMostN X lo (i + 1) = xMostN X lo i := by simp [xMostN, c_1, c_2]
          exact ih4 (i + 1) (by omega) (by omega) ls (lv_sub hl [1, 2, 3, 0] (by rw [e2]; rfl))
        · refine lv_iload_n cx.1 cx.2.1 dX4_mostUnits_20 rfl (lv_at hl 2 rfl) ?_
          refine lv_aload_n cx.1 cx.2.1 dX4_mostUnits_21 rfl (lv_at hl 0 rfl) ?_
          refine lv_iload_n cx.1 cx.2.1 dX4_mostUnits_22 rfl (lv_at hl 3 rfl) ?_
          refine RO.callV (As := [.int (nI i)]) (rest := [.int (xMostN X lo i)]) cx (c_X4_unitsOf l G ad X i hok (by omega)) gX4_mostUnits_X4_unitsOf rfl hd_X4_unitsOf ⟨Nat.le_of_ble_eq_true rfl, Nat.le_of_ble_eq_true rfl⟩ (va_recv hK hP (ci := 3) (q0 := 0) rfl rfl) hK hN hP rfl hl.1 rfl (Nat.le_of_ble_eq_true rfl) dX4_mostUnits_23 ⟨Nat.zero_le _, Nat.zero_le _⟩ ?_
          refine va_mmax (x := xMostN X lo i) (y := xU X i) cx.1 cx.2.1 (cx.2.2.1.trans hl.1.symm) cx.2.2.2.1 (cx.2.2.2.2 _ fw_X4_mostUnits_m102) (cx.2.2.2.2 _ fw_X4_mostUnits_smax) (cx.2.2.2.2 _ fw_X4_mostUnits_iMath) (cx.2.2.2.2 _ fw_X4_mostUnits_cmax) (Nat.le_of_ble_eq_true rfl) (Nat.le_of_ble_eq_true rfl) (Nat.zero_le _) (Nat.zero_le _) dX4_mostUnits_26 ?_
          refine nv_eqi (y := imax (xMostN X lo i) (xU X i)) rfl ?_
          refine lv_istore_n (lv' := [(2, .int (imax (xMostN X lo i) (xU X i))), (0, .ref (ad 0)), (1, .int lo), (3, .int (nI i))]) cx.1 cx.2.1 dX4_mostUnits_29 rfl hl (by decide) rfl (fun ls hl => ?_)
          refine lv_iinc (v := nI (i + 1)) (lv' := [(3, .int (nI (i + 1))), (2, .int (imax (xMostN X lo i) (xU X i))), (0, .ref (ad 0)), (1, .int lo)]) cx.1 cx.2.1 dX4_mostUnits_30 hl (k := 3) rfl (show nI i + Int32.ofInt 1 = nI (i + 1) from nI_add i 1) (by decide) rfl (fun ls hl => ?_)
          refine lv_goto (tgt := 4) cx.1 cx.2.1 dX4_mostUnits_33 (by decide) ?_
          have e2 : xMostN X lo (i + 1) = imax (xMostN X lo i) (xU X i) := by simp [xMostN, c_1, c_2]
          exact ih4 (i + 1) (by omega) (by omega) ls (lv_sub hl [2, 3, 1, 0] (by rw [e2]; rfl))
  exact lp4 _ 0 (Nat.lt_succ_self _) (by omega) ls (lv_sub hl [2, 3, 1, 0] rfl)

set_option maxHeartbeats 4000000 in
set_option maxRecDepth 100000 in
theorem c_X4_quotient (l : Launch) (G : GG)  (a : Int32) (b : Int32)  : RO l yX4_quotient wsX4_quotient 1 22 G ([]) [.int a, .int b] (xq a b) := by
  refine RO.start (cc := cX4_quotient) (maxL := 2) (ret := (some .int)) (by decide) rfl (Nat.le_of_ble_eq_true rfl) ?_
  intro p e s m below meth c ls cx hr hlocks hK hN hP hl
  have cx : CallFix p m c cX4_quotient 2 s [.int a, .int b].toArray wsX4_quotient RX4 := cx
  have hl : lv_has ls 2 [(0, .int a), (1, .int b)] := hl
  refine lv_iload_n cx.1 cx.2.1 dX4_quotient_0 rfl (lv_at hl 1 rfl) ?_
  refine lv_if_le (x := b) (tgt := 12) cx.1 cx.2.1 dX4_quotient_1 (by decide) (fun c_1 => ?_) (fun c_1 => ?_)
  · refine lv_iconst (v := nI 0) cx.1 cx.2.1 dX4_quotient_12 (by decide) ?_
    exact RO.ret (x := 0) cx hr hlocks dX4_quotient_13 (by simp [xq, c_1])
  · refine lv_iload_n cx.1 cx.2.1 dX4_quotient_4 rfl (lv_at hl 0 rfl) ?_
    refine lv_iload_n cx.1 cx.2.1 dX4_quotient_5 rfl (lv_at hl 1 rfl) ?_
    refine RO.callS (As := [.int a, .int b]) (rest := []) cx (c_J9_floorDiv_7cf53 l G a b (fun q => c_1 (by rw [q]; decide))) gX4_quotient_J9_floorDiv_7cf53 rfl hd_J9_floorDiv_7cf53 ⟨Nat.le_of_ble_eq_true rfl, Nat.le_of_ble_eq_true rfl⟩ hK hN va_P.nil rfl hl.1 rfl (Nat.le_of_ble_eq_true rfl) dX4_quotient_6 ⟨Nat.zero_le _, Nat.zero_le _⟩ ?_
    refine lv_goto (tgt := 13) cx.1 cx.2.1 dX4_quotient_9 (by decide) ?_
    exact RO.ret (x := fdiv a b) cx hr hlocks dX4_quotient_13 (by simp [xq, c_1])

theorem iw_X4_rowOf_X4 : ∀ w ∈ wsX40, w ∈ wsX4_rowOf := fun _ h => List.mem_cons_of_mem _ (List.mem_append_right _ h)
theorem fw_X4_rowOf_f35 : (Cond.fieldLink RX4 35 "NamePlate$State" "columns" "I") ∈ wsX4_rowOf := List.mem_of_getElem? (i := 1) rfl
set_option maxHeartbeats 4000000 in
set_option maxRecDepth 100000 in
theorem c_X4_rowOf (l : Launch) (G : GG) (ad : Nat → Nat) (X : XS) (k : Nat)  : RO l yX4_rowOf wsX4_rowOf 2 43 G (stC G ad X) [.ref (ad 0), .int (nI k)] (xRow X k) := by
  refine RO.start (cc := cX4_rowOf) (maxL := 2) (ret := (some .int)) (by decide) rfl (Nat.le_of_ble_eq_true rfl) ?_
  intro p e s m below meth c ls cx hr hlocks hK hN hP hl
  have cx : CallFix p m c cX4_rowOf 2 s [.ref (ad 0), .int (nI k)].toArray wsX4_rowOf RX4 := cx
  have hl : lv_has ls 2 [(0, .ref (ad 0)), (1, .int (nI k))] := hl
  refine lv_iload_n cx.1 cx.2.1 dX4_rowOf_0 rfl (lv_at hl 1 rfl) ?_
  refine lv_aload_n cx.1 cx.2.1 dX4_rowOf_1 rfl (lv_at hl 0 rfl) ?_
  refine va_get (ci := 3) (C := RX4) (T := TX4) (N := 10) (v := .int (X 5 5)) cx.1 cx.2.1 cx.2.2.2.2 iw_X4_rowOf_X4 cx.2.2.2.1 hK hP 0 rfl rfl 5 (by decide) (cx.2.2.2.2 _ fw_X4_rowOf_f35) (fun _ h9 => h9) rfl dX4_rowOf_2 ?_
  refine RO.callS (As := [.int (nI k), .int (X 5 5)]) (rest := []) cx (c_X4_quotient l G (nI k) (X 5 5)) gX4_rowOf_X4_quotient rfl hd_X4_quotient ⟨Nat.le_of_ble_eq_true rfl, Nat.le_of_ble_eq_true rfl⟩ hK hN va_P.nil rfl hl.1 rfl (Nat.le_of_ble_eq_true rfl) dX4_rowOf_5 ⟨Nat.zero_le _, Nat.zero_le _⟩ ?_
  exact RO.ret (x := xq (nI k) (X 5 5)) cx hr hlocks dX4_rowOf_8 rfl

theorem iw_X4_columnOf_X4 : ∀ w ∈ wsX40, w ∈ wsX4_columnOf := fun _ h => List.mem_cons_of_mem _ (List.mem_append_right _ h)
theorem fw_X4_columnOf_f35 : (Cond.fieldLink RX4 35 "NamePlate$State" "columns" "I") ∈ wsX4_columnOf := List.mem_of_getElem? (i := 1) rfl
set_option maxHeartbeats 4000000 in
set_option maxRecDepth 100000 in
theorem c_X4_columnOf (l : Launch) (G : GG) (ad : Nat → Nat) (X : XS) (k : Nat)  : RO l yX4_columnOf wsX4_columnOf 0 0 G (stC G ad X) [.ref (ad 0), .int (nI k)] (xCo X k) := by
  refine RO.start (cc := cX4_columnOf) (maxL := 2) (ret := (some .int)) (by decide) rfl (Nat.le_of_ble_eq_true rfl) ?_
  intro p e s m below meth c ls cx hr hlocks hK hN hP hl
  have cx : CallFix p m c cX4_columnOf 2 s [.ref (ad 0), .int (nI k)].toArray wsX4_columnOf RX4 := cx
  have hl : lv_has ls 2 [(0, .ref (ad 0)), (1, .int (nI k))] := hl
  refine lv_aload_n cx.1 cx.2.1 dX4_columnOf_0 rfl (lv_at hl 0 rfl) ?_
  refine va_get (ci := 3) (C := RX4) (T := TX4) (N := 10) (v := .int (X 5 5)) cx.1 cx.2.1 cx.2.2.2.2 iw_X4_columnOf_X4 cx.2.2.2.1 hK hP 0 rfl rfl 5 (by decide) (cx.2.2.2.2 _ fw_X4_columnOf_f35) (fun _ h9 => h9) rfl dX4_columnOf_1 ?_
  refine lv_if_le (x := X 5 5) (tgt := 16) cx.1 cx.2.1 dX4_columnOf_4 (by decide) (fun c_1 => ?_) (fun c_1 => ?_)
  · refine lv_iconst (v := nI 0) cx.1 cx.2.1 dX4_columnOf_16 (by decide) ?_
    exact RO.ret (x := 0) cx hr hlocks dX4_columnOf_17 (by simp [xCo, c_1])
  · refine lv_iload_n cx.1 cx.2.1 dX4_columnOf_7 rfl (lv_at hl 1 rfl) ?_
    refine lv_aload_n cx.1 cx.2.1 dX4_columnOf_8 rfl (lv_at hl 0 rfl) ?_
    refine va_get (ci := 3) (C := RX4) (T := TX4) (N := 10) (v := .int (X 5 5)) cx.1 cx.2.1 cx.2.2.2.2 iw_X4_columnOf_X4 cx.2.2.2.1 hK hP 0 rfl rfl 5 (by decide) (cx.2.2.2.2 _ fw_X4_columnOf_f35) (fun _ h9 => h9) rfl dX4_columnOf_9 ?_
    refine lv_irem (x := nI k) (y := X 5 5) cx.1 cx.2.1 dX4_columnOf_12 (fun q => c_1 (by rw [q]; decide)) ?_
    refine nv_eqi (y := irem (nI k) (X 5 5)) rfl ?_
    refine lv_goto (tgt := 17) cx.1 cx.2.1 dX4_columnOf_13 (by decide) ?_
    exact RO.ret (x := irem (nI k) (X 5 5)) cx hr hlocks dX4_columnOf_17 (by simp [xCo, c_1])

theorem iw_X4_rowsFor_X4 : ∀ w ∈ wsX40, w ∈ wsX4_rowsFor := fun _ h => List.mem_cons_of_mem _ (List.mem_append_right _ h)
theorem fw_X4_rowsFor_f35 : (Cond.fieldLink RX4 35 "NamePlate$State" "columns" "I") ∈ wsX4_rowsFor := List.mem_of_getElem? (i := 1) rfl
set_option maxHeartbeats 4000000 in
set_option maxRecDepth 100000 in
theorem c_X4_rowsFor (l : Launch) (G : GG) (ad : Nat → Nat) (X : XS) (n : Int32)  : RO l yX4_rowsFor wsX4_rowsFor 2 43 G (stC G ad X) [.ref (ad 0), .int n] (xRows X n) := by
  refine RO.start (cc := cX4_rowsFor) (maxL := 2) (ret := (some .int)) (by decide) rfl (Nat.le_of_ble_eq_true rfl) ?_
  intro p e s m below meth c ls cx hr hlocks hK hN hP hl
  have cx : CallFix p m c cX4_rowsFor 2 s [.ref (ad 0), .int n].toArray wsX4_rowsFor RX4 := cx
  have hl : lv_has ls 2 [(0, .ref (ad 0)), (1, .int n)] := hl
  refine lv_iload_n cx.1 cx.2.1 dX4_rowsFor_0 rfl (lv_at hl 1 rfl) ?_
  refine lv_aload_n cx.1 cx.2.1 dX4_rowsFor_1 rfl (lv_at hl 0 rfl) ?_
  refine va_get (ci := 3) (C := RX4) (T := TX4) (N := 10) (v := .int (X 5 5)) cx.1 cx.2.1 cx.2.2.2.2 iw_X4_rowsFor_X4 cx.2.2.2.1 hK hP 0 rfl rfl 5 (by decide) (cx.2.2.2.2 _ fw_X4_rowsFor_f35) (fun _ h9 => h9) rfl dX4_rowsFor_2 ?_
  refine lv_iadd (x := n) (y := X 5 5) cx.1 cx.2.1 dX4_rowsFor_5 ?_
  refine lv_iconst (v := nI 1) cx.1 cx.2.1 dX4_rowsFor_6 (by decide) ?_
  refine lv_isub (x := n + (X 5 5)) (y := 1) cx.1 cx.2.1 dX4_rowsFor_7 ?_
  refine lv_aload_n cx.1 cx.2.1 dX4_rowsFor_8 rfl (lv_at hl 0 rfl) ?_
  refine va_get (ci := 3) (C := RX4) (T := TX4) (N := 10) (v := .int (X 5 5)) cx.1 cx.2.1 cx.2.2.2.2 iw_X4_rowsFor_X4 cx.2.2.2.1 hK hP 0 rfl rfl 5 (by decide) (cx.2.2.2.2 _ fw_X4_rowsFor_f35) (fun _ h9 => h9) rfl dX4_rowsFor_9 ?_
  refine RO.callS (As := [.int ((n + (X 5 5)) - 1), .int (X 5 5)]) (rest := []) cx (c_X4_quotient l G ((n + (X 5 5)) - 1) (X 5 5)) gX4_rowsFor_X4_quotient rfl hd_X4_quotient ⟨Nat.le_of_ble_eq_true rfl, Nat.le_of_ble_eq_true rfl⟩ hK hN va_P.nil rfl hl.1 rfl (Nat.le_of_ble_eq_true rfl) dX4_rowsFor_12 ⟨Nat.zero_le _, Nat.zero_le _⟩ ?_
  exact RO.ret (x := xq ((n + (X 5 5)) - 1) (X 5 5)) cx hr hlocks dX4_rowsFor_15 rfl

theorem iw_X4_rowBegin_X4 : ∀ w ∈ wsX40, w ∈ wsX4_rowBegin := fun _ h => List.mem_cons_of_mem _ (List.mem_append_right _ h)
theorem fw_X4_rowBegin_f32 : (Cond.fieldLink RX4 32 "NamePlate$State" "margin" "I") ∈ wsX4_rowBegin := List.mem_of_getElem? (i := 1) rfl
set_option maxHeartbeats 4000000 in
set_option maxRecDepth 100000 in
theorem c_X4_rowBegin (l : Launch) (G : GG) (ad : Nat → Nat) (X : XS) (k : Nat) (z : Int32)  : RO l yX4_rowBegin wsX4_rowBegin 3 64 G (stC G ad X) [.ref (ad 0), .int (nI k), .int z] (xRb X k z) := by
  refine RO.start (cc := cX4_rowBegin) (maxL := 3) (ret := (some .int)) (by decide) rfl (Nat.le_of_ble_eq_true rfl) ?_
  intro p e s m below meth c ls cx hr hlocks hK hN hP hl
  have cx : CallFix p m c cX4_rowBegin 3 s [.ref (ad 0), .int (nI k), .int z].toArray wsX4_rowBegin RX4 := cx
  have hl : lv_has ls 3 [(0, .ref (ad 0)), (1, .int (nI k)), (2, .int z)] := hl
  refine lv_aload_n cx.1 cx.2.1 dX4_rowBegin_0 rfl (lv_at hl 0 rfl) ?_
  refine va_get (ci := 3) (C := RX4) (T := TX4) (N := 10) (v := .int (X 5 4)) cx.1 cx.2.1 cx.2.2.2.2 iw_X4_rowBegin_X4 cx.2.2.2.1 hK hP 0 rfl rfl 4 (by decide) (cx.2.2.2.2 _ fw_X4_rowBegin_f32) (fun _ h9 => h9) rfl dX4_rowBegin_1 ?_
  refine lv_bipush (v := nI 12) cx.1 cx.2.1 dX4_rowBegin_4 (by decide) ?_
  refine lv_iload_n cx.1 cx.2.1 dX4_rowBegin_6 rfl (lv_at hl 2 rfl) ?_
  refine lv_imul (x := 12) (y := z) cx.1 cx.2.1 dX4_rowBegin_7 ?_
  refine lv_aload_n cx.1 cx.2.1 dX4_rowBegin_8 rfl (lv_at hl 0 rfl) ?_
  refine lv_iload_n cx.1 cx.2.1 dX4_rowBegin_9 rfl (lv_at hl 1 rfl) ?_
  refine RO.callV (As := [.int (nI k)]) (rest := [.int (12 * z), .int (X 5 4)]) cx (c_X4_rowOf l G ad X k) gX4_rowBegin_X4_rowOf rfl hd_X4_rowOf ⟨Nat.le_of_ble_eq_true rfl, Nat.le_of_ble_eq_true rfl⟩ (va_recv hK hP (ci := 3) (q0 := 0) rfl rfl) hK hN hP rfl hl.1 rfl (Nat.le_of_ble_eq_true rfl) dX4_rowBegin_10 ⟨Nat.zero_le _, Nat.zero_le _⟩ ?_
  refine lv_imul (x := 12 * z) (y := xRow X k) cx.1 cx.2.1 dX4_rowBegin_13 ?_
  refine lv_iadd (x := X 5 4) (y := (12 * z) * (xRow X k)) cx.1 cx.2.1 dX4_rowBegin_14 ?_
  exact RO.ret (x := (X 5 4) + ((12 * z) * (xRow X k))) cx hr hlocks dX4_rowBegin_15 rfl

theorem iw_X4_columnWidth_X4 : ∀ w ∈ wsX40, w ∈ wsX4_columnWidth := fun _ h => List.mem_cons_of_mem _ (List.mem_append_right _ h)
theorem fw_X4_columnWidth_f32 : (Cond.fieldLink RX4 32 "NamePlate$State" "margin" "I") ∈ wsX4_columnWidth := List.mem_of_getElem? (i := 1) rfl
theorem fw_X4_columnWidth_f35 : (Cond.fieldLink RX4 35 "NamePlate$State" "columns" "I") ∈ wsX4_columnWidth := List.mem_of_getElem? (i := 2) rfl
set_option maxHeartbeats 4000000 in
set_option maxRecDepth 100000 in
theorem c_X4_columnWidth (l : Launch) (G : GG) (ad : Nat → Nat) (X : XS) (w : Int32)  : RO l yX4_columnWidth wsX4_columnWidth 2 43 G (stC G ad X) [.ref (ad 0), .int w] (xCw X w) := by
  refine RO.start (cc := cX4_columnWidth) (maxL := 2) (ret := (some .int)) (by decide) rfl (Nat.le_of_ble_eq_true rfl) ?_
  intro p e s m below meth c ls cx hr hlocks hK hN hP hl
  have cx : CallFix p m c cX4_columnWidth 2 s [.ref (ad 0), .int w].toArray wsX4_columnWidth RX4 := cx
  have hl : lv_has ls 2 [(0, .ref (ad 0)), (1, .int w)] := hl
  refine lv_iload_n cx.1 cx.2.1 dX4_columnWidth_0 rfl (lv_at hl 1 rfl) ?_
  refine lv_iconst (v := nI 2) cx.1 cx.2.1 dX4_columnWidth_1 (by decide) ?_
  refine lv_aload_n cx.1 cx.2.1 dX4_columnWidth_2 rfl (lv_at hl 0 rfl) ?_
  refine va_get (ci := 3) (C := RX4) (T := TX4) (N := 10) (v := .int (X 5 4)) cx.1 cx.2.1 cx.2.2.2.2 iw_X4_columnWidth_X4 cx.2.2.2.1 hK hP 0 rfl rfl 4 (by decide) (cx.2.2.2.2 _ fw_X4_columnWidth_f32) (fun _ h9 => h9) rfl dX4_columnWidth_3 ?_
  refine lv_imul (x := 2) (y := X 5 4) cx.1 cx.2.1 dX4_columnWidth_6 ?_
  refine lv_isub (x := w) (y := 2 * (X 5 4)) cx.1 cx.2.1 dX4_columnWidth_7 ?_
  refine lv_aload_n cx.1 cx.2.1 dX4_columnWidth_8 rfl (lv_at hl 0 rfl) ?_
  refine va_get (ci := 3) (C := RX4) (T := TX4) (N := 10) (v := .int (X 5 5)) cx.1 cx.2.1 cx.2.2.2.2 iw_X4_columnWidth_X4 cx.2.2.2.1 hK hP 0 rfl rfl 5 (by decide) (cx.2.2.2.2 _ fw_X4_columnWidth_f35) (fun _ h9 => h9) rfl dX4_columnWidth_9 ?_
  refine RO.callS (As := [.int (w - (2 * (X 5 4))), .int (X 5 5)]) (rest := []) cx (c_X4_quotient l G (w - (2 * (X 5 4))) (X 5 5)) gX4_columnWidth_X4_quotient rfl hd_X4_quotient ⟨Nat.le_of_ble_eq_true rfl, Nat.le_of_ble_eq_true rfl⟩ hK hN va_P.nil rfl hl.1 rfl (Nat.le_of_ble_eq_true rfl) dX4_columnWidth_12 ⟨Nat.zero_le _, Nat.zero_le _⟩ ?_
  exact RO.ret (x := xq (w - (2 * (X 5 4))) (X 5 5)) cx hr hlocks dX4_columnWidth_15 rfl

theorem iw_X4_columnBegin_X4 : ∀ w ∈ wsX40, w ∈ wsX4_columnBegin := fun _ h => List.mem_cons_of_mem _ (List.mem_append_right _ h)
theorem fw_X4_columnBegin_f32 : (Cond.fieldLink RX4 32 "NamePlate$State" "margin" "I") ∈ wsX4_columnBegin := List.mem_of_getElem? (i := 1) rfl
theorem fw_X4_columnBegin_f25 : (Cond.fieldLink RX4 25 "NamePlate$State" "width" "I") ∈ wsX4_columnBegin := List.mem_of_getElem? (i := 2) rfl
set_option maxHeartbeats 4000000 in
set_option maxRecDepth 100000 in
theorem c_X4_columnBegin (l : Launch) (G : GG) (ad : Nat → Nat) (X : XS) (k : Nat)  : RO l yX4_columnBegin wsX4_columnBegin 3 64 G (stC G ad X) [.ref (ad 0), .int (nI k)] (xCb X k) := by
  refine RO.start (cc := cX4_columnBegin) (maxL := 2) (ret := (some .int)) (by decide) rfl (Nat.le_of_ble_eq_true rfl) ?_
  intro p e s m below meth c ls cx hr hlocks hK hN hP hl
  have cx : CallFix p m c cX4_columnBegin 2 s [.ref (ad 0), .int (nI k)].toArray wsX4_columnBegin RX4 := cx
  have hl : lv_has ls 2 [(0, .ref (ad 0)), (1, .int (nI k))] := hl
  refine lv_aload_n cx.1 cx.2.1 dX4_columnBegin_0 rfl (lv_at hl 0 rfl) ?_
  refine va_get (ci := 3) (C := RX4) (T := TX4) (N := 10) (v := .int (X 5 4)) cx.1 cx.2.1 cx.2.2.2.2 iw_X4_columnBegin_X4 cx.2.2.2.1 hK hP 0 rfl rfl 4 (by decide) (cx.2.2.2.2 _ fw_X4_columnBegin_f32) (fun _ h9 => h9) rfl dX4_columnBegin_1 ?_
  refine lv_aload_n cx.1 cx.2.1 dX4_columnBegin_4 rfl (lv_at hl 0 rfl) ?_
  refine lv_iload_n cx.1 cx.2.1 dX4_columnBegin_5 rfl (lv_at hl 1 rfl) ?_
  refine RO.callV (As := [.int (nI k)]) (rest := [.int (X 5 4)]) cx (c_X4_columnOf l G ad X k) gX4_columnBegin_X4_columnOf rfl hd_X4_columnOf ⟨Nat.le_of_ble_eq_true rfl, Nat.le_of_ble_eq_true rfl⟩ (va_recv hK hP (ci := 3) (q0 := 0) rfl rfl) hK hN hP rfl hl.1 rfl (Nat.le_of_ble_eq_true rfl) dX4_columnBegin_6 ⟨Nat.zero_le _, Nat.zero_le _⟩ ?_
  refine lv_aload_n cx.1 cx.2.1 dX4_columnBegin_9 rfl (lv_at hl 0 rfl) ?_
  refine lv_aload_n cx.1 cx.2.1 dX4_columnBegin_10 rfl (lv_at hl 0 rfl) ?_
  refine va_get (ci := 3) (C := RX4) (T := TX4) (N := 10) (v := .int (X 5 2)) cx.1 cx.2.1 cx.2.2.2.2 iw_X4_columnBegin_X4 cx.2.2.2.1 hK hP 0 rfl rfl 2 (by decide) (cx.2.2.2.2 _ fw_X4_columnBegin_f25) (fun _ h9 => h9) rfl dX4_columnBegin_11 ?_
  refine RO.callV (As := [.int (X 5 2)]) (rest := [.int (xCo X k), .int (X 5 4)]) cx (c_X4_columnWidth l G ad X (X 5 2)) gX4_columnBegin_X4_columnWidth rfl hd_X4_columnWidth ⟨Nat.le_of_ble_eq_true rfl, Nat.le_of_ble_eq_true rfl⟩ (va_recv hK hP (ci := 3) (q0 := 0) rfl rfl) hK hN hP rfl hl.1 rfl (Nat.le_of_ble_eq_true rfl) dX4_columnBegin_14 ⟨Nat.zero_le _, Nat.zero_le _⟩ ?_
  refine lv_imul (x := xCo X k) (y := xCw X (X 5 2)) cx.1 cx.2.1 dX4_columnBegin_17 ?_
  refine lv_iadd (x := X 5 4) (y := (xCo X k) * (xCw X (X 5 2))) cx.1 cx.2.1 dX4_columnBegin_18 ?_
  exact RO.ret (x := (X 5 4) + ((xCo X k) * (xCw X (X 5 2)))) cx hr hlocks dX4_columnBegin_19 rfl

theorem iw_X4_greatestSize_X4 : ∀ w ∈ wsX40, w ∈ wsX4_greatestSize := fun _ h => List.mem_cons_of_mem _ (List.mem_append_right _ h)
theorem fw_X4_greatestSize_f32 : (Cond.fieldLink RX4 32 "NamePlate$State" "margin" "I") ∈ wsX4_greatestSize := List.mem_of_getElem? (i := 1) rfl
set_option maxHeartbeats 4000000 in
set_option maxRecDepth 100000 in
theorem c_X4_greatestSize (l : Launch) (G : GG) (ad : Nat → Nat) (X : XS) (w : Int32) (h : Int32) (n : Int32) (u : Int32)  : RO l yX4_greatestSize wsX4_greatestSize 3 64 G (stC G ad X) [.ref (ad 0), .int w, .int h, .int n, .int u] (xGr X w h n u) := by
  refine RO.start (cc := cX4_greatestSize) (maxL := 7) (ret := (some .int)) (by decide) rfl (Nat.le_of_ble_eq_true rfl) ?_
  intro p e s m below meth c ls cx hr hlocks hK hN hP hl
  have cx : CallFix p m c cX4_greatestSize 7 s [.ref (ad 0), .int w, .int h, .int n, .int u].toArray wsX4_greatestSize RX4 := cx
  have hl : lv_has ls 7 [(0, .ref (ad 0)), (1, .int w), (2, .int h), (3, .int n), (4, .int u)] := hl
  refine lv_iload_n cx.1 cx.2.1 dX4_greatestSize_0 rfl (lv_at hl 3 rfl) ?_
  refine lv_if_ne (x := n) (tgt := 7) cx.1 cx.2.1 dX4_greatestSize_1 (by decide) (fun c_1 => ?_) (fun c_1 => ?_)
  · refine lv_bipush (v := nI 12) cx.1 cx.2.1 dX4_greatestSize_7 (by decide) ?_
    refine lv_aload_n cx.1 cx.2.1 dX4_greatestSize_9 rfl (lv_at hl 0 rfl) ?_
    refine lv_iload_n cx.1 cx.2.1 dX4_greatestSize_10 rfl (lv_at hl 3 rfl) ?_
    refine RO.callV (As := [.int n]) (rest := [.int (nI 12)]) cx (c_X4_rowsFor l G ad X n) gX4_greatestSize_X4_rowsFor rfl hd_X4_rowsFor ⟨Nat.le_of_ble_eq_true rfl, Nat.le_of_ble_eq_true rfl⟩ (va_recv hK hP (ci := 3) (q0 := 0) rfl rfl) hK hN hP rfl hl.1 rfl (Nat.le_of_ble_eq_true rfl) dX4_greatestSize_11 ⟨Nat.zero_le _, Nat.zero_le _⟩ ?_
    refine lv_imul (x := 12) (y := xRows X n) cx.1 cx.2.1 dX4_greatestSize_14 ?_
    refine lv_istore (lv' := [(5, .int (12 * (xRows X n))), (0, .ref (ad 0)), (1, .int w), (2, .int h), (3, .int n), (4, .int u)]) cx.1 cx.2.1 dX4_greatestSize_15 hl (by decide) rfl (fun ls hl => ?_)
    refine lv_bipush (v := nI 40) cx.1 cx.2.1 dX4_greatestSize_17 (by decide) ?_
    refine lv_istore (lv' := [(6, .int (nI 40)), (5, .int (12 * (xRows X n))), (0, .ref (ad 0)), (1, .int w), (2, .int h), (3, .int n), (4, .int u)]) cx.1 cx.2.1 dX4_greatestSize_19 hl (by decide) rfl (fun ls hl => ?_)
    have lp21 : ∀ (r : Nat) (s0 : Nat) (hr9 : s0 < r) (hi : s0 ≤ 40) (he : xGrN X w h n u 40 = xGrN X w h n u s0) (ls : Array Slot), lv_has ls 7 [(6, .int (nI s0)), (5, .int (12 * (xRows X n))), (0, .ref (ad 0)), (1, .int w), (2, .int h), (3, .int n), (4, .int u)] → W p l e ({ frames := 3, cells := 0, slots := 0, locals := 64 } : Room) s m [.ref (ad 0), .int w, .int h, .int n, .int u].toArray below meth c s.heap [] 0 0 (MQ below (vp_Si (fun r => r = (xGr X w h n u))) [.ref (ad 0), .int w, .int h, .int n, .int u].toArray s 0 0 (fun _ => False)) (F0 m 21 ls []) := by
      intro r
      induction r with
      | zero => intro s0 hr9; exact absurd hr9 (Nat.not_lt_zero _)
      | succ r ih21 =>
        intro s0 hr9 hi he ls hl
        refine lv_iload cx.1 cx.2.1 dX4_greatestSize_21 (lv_at hl 0 rfl) ?_
        refine lv_iconst (v := nI 1) cx.1 cx.2.1 dX4_greatestSize_23 (by decide) ?_
        refine nv_icmp_lt (a := s0) (b := 1) (tgt := 65) cx dX4_greatestSize_24 (by decide) (by omega) (by omega) (fun c_2 => ?_) (fun c_2 => ?_)
        · refine lv_iconst (v := nI 0) cx.1 cx.2.1 dX4_greatestSize_65 (by decide) ?_
          exact RO.ret (x := 0) cx hr hlocks dX4_greatestSize_66 (by have e : s0 = 0 := (by omega); rw [xGr, if_neg (by assumption), he, e]; rfl)
        · refine lv_iload cx.1 cx.2.1 dX4_greatestSize_27 (lv_at hl 6 rfl) ?_
          refine lv_iload cx.1 cx.2.1 dX4_greatestSize_29 (lv_at hl 0 rfl) ?_
          refine lv_imul (x := u) (y := nI s0) cx.1 cx.2.1 dX4_greatestSize_31 ?_
          refine lv_aload_n cx.1 cx.2.1 dX4_greatestSize_32 rfl (lv_at hl 2 rfl) ?_
          refine lv_iload_n cx.1 cx.2.1 dX4_greatestSize_33 rfl (lv_at hl 3 rfl) ?_
          refine RO.callV (As := [.int w]) (rest := [.int (u * (nI s0))]) cx (c_X4_columnWidth l G ad X w) gX4_greatestSize_X4_columnWidth rfl hd_X4_columnWidth ⟨Nat.le_of_ble_eq_true rfl, Nat.le_of_ble_eq_true rfl⟩ (va_recv hK hP (ci := 3) (q0 := 0) rfl rfl) hK hN hP rfl hl.1 rfl (Nat.le_of_ble_eq_true rfl) dX4_greatestSize_34 ⟨Nat.zero_le _, Nat.zero_le _⟩ ?_
          refine lv_icmp_gt (x := u * (nI s0)) (y := xCw X w) (tgt := 59) cx.1 cx.2.1 dX4_greatestSize_37 (by decide) (fun c_3 => ?_) (fun c_3 => ?_)
          · refine lv_iinc (v := nI (s0 - 1)) (lv' := [(6, .int (nI (s0 - 1))), (5, .int (12 * (xRows X n))), (0, .ref (ad 0)), (1, .int w), (2, .int h), (3, .int n), (4, .int u)]) cx.1 cx.2.1 dX4_greatestSize_59 hl (k := 0) rfl (nI_dec (by omega)) (by decide) rfl (fun ls hl => ?_)
            refine lv_goto (tgt := 21) cx.1 cx.2.1 dX4_greatestSize_62 (by decide) ?_
            have he2 : xGrN X w h n u 40 = xGrN X w h n u (s0 - 1) := by
              obtain ⟨q, rfl⟩ : ∃ q, s0 = q + 1 := ⟨s0 - 1, by omega⟩
              rw [he]
              simp [xGrN, xFt, c_1, c_2, c_3]
            exact ih21 (s0 - 1) (by omega) (by omega) he2 ls (lv_sub hl [0, 1, 2, 3, 4, 5, 6] rfl)
          · refine lv_iload cx.1 cx.2.1 dX4_greatestSize_40 (lv_at hl 1 rfl) ?_
            refine lv_iload cx.1 cx.2.1 dX4_greatestSize_42 (lv_at hl 0 rfl) ?_
            refine lv_imul (x := 12 * (xRows X n)) (y := nI s0) cx.1 cx.2.1 dX4_greatestSize_44 ?_
            refine lv_iload_n cx.1 cx.2.1 dX4_greatestSize_45 rfl (lv_at hl 4 rfl) ?_
            refine lv_iconst (v := nI 2) cx.1 cx.2.1 dX4_greatestSize_46 (by decide) ?_
            refine lv_aload_n cx.1 cx.2.1 dX4_greatestSize_47 rfl (lv_at hl 2 rfl) ?_
            refine va_get (ci := 3) (C := RX4) (T := TX4) (N := 10) (v := .int (X 5 4)) cx.1 cx.2.1 cx.2.2.2.2 iw_X4_greatestSize_X4 cx.2.2.2.1 hK hP 0 rfl rfl 4 (by decide) (cx.2.2.2.2 _ fw_X4_greatestSize_f32) (fun _ h9 => h9) rfl dX4_greatestSize_48 ?_
            refine lv_imul (x := 2) (y := X 5 4) cx.1 cx.2.1 dX4_greatestSize_51 ?_
            refine lv_isub (x := h) (y := 2 * (X 5 4)) cx.1 cx.2.1 dX4_greatestSize_52 ?_
            refine lv_icmp_gt (x := (12 * (xRows X n)) * (nI s0)) (y := h - (2 * (X 5 4))) (tgt := 59) cx.1 cx.2.1 dX4_greatestSize_53 (by decide) (fun c_4 => ?_) (fun c_4 => ?_)
            · refine lv_iinc (v := nI (s0 - 1)) (lv' := [(6, .int (nI (s0 - 1))), (5, .int (12 * (xRows X n))), (0, .ref (ad 0)), (1, .int w), (2, .int h), (3, .int n), (4, .int u)]) cx.1 cx.2.1 dX4_greatestSize_59 hl (k := 0) rfl (nI_dec (by omega)) (by decide) rfl (fun ls hl => ?_)
              refine lv_goto (tgt := 21) cx.1 cx.2.1 dX4_greatestSize_62 (by decide) ?_
              have he2 : xGrN X w h n u 40 = xGrN X w h n u (s0 - 1) := by
                obtain ⟨q, rfl⟩ : ∃ q, s0 = q + 1 := ⟨s0 - 1, by omega⟩
                rw [he]
                simp [xGrN, xFt, c_1, c_2, c_3, c_4]
              exact ih21 (s0 - 1) (by omega) (by omega) he2 ls (lv_sub hl [0, 1, 2, 3, 4, 5, 6] rfl)
            · refine lv_iload cx.1 cx.2.1 dX4_greatestSize_56 (lv_at hl 0 rfl) ?_
              exact RO.ret (x := nI s0) cx hr hlocks dX4_greatestSize_58 (by obtain ⟨q, rfl⟩ : ∃ q, s0 = q + 1 := ⟨s0 - 1, by omega⟩; rw [xGr, if_neg (by assumption), he]; simp [xGrN, xFt, c_1, c_2, c_3, c_4])
    exact lp21 _ 40 (Nat.lt_succ_self _) (by omega) rfl ls (lv_sub hl [0, 1, 2, 3, 4, 5, 6] rfl)
  · refine lv_bipush (v := nI 40) cx.1 cx.2.1 dX4_greatestSize_4 (by decide) ?_
    exact RO.ret (x := 40) cx hr hlocks dX4_greatestSize_6 (by simp [xGr, c_1])

theorem iw_X4_sizeNow_X4 : ∀ w ∈ wsX40, w ∈ wsX4_sizeNow := fun _ h => List.mem_cons_of_mem _ (List.mem_append_left _ (List.mem_append_left _ (List.mem_append_right _ h)))
theorem fw_X4_sizeNow_f25 : (Cond.fieldLink RX4 25 "NamePlate$State" "width" "I") ∈ wsX4_sizeNow := List.mem_of_getElem? (i := 2) rfl
theorem fw_X4_sizeNow_f29 : (Cond.fieldLink RX4 29 "NamePlate$State" "height" "I") ∈ wsX4_sizeNow := List.mem_of_getElem? (i := 3) rfl
theorem fw_X4_sizeNow_f12 : (Cond.fieldLink RX4 12 "NamePlate$State" "names" "LNamePlate$Names;") ∈ wsX4_sizeNow := List.mem_of_getElem? (i := 4) rfl
theorem iw_X4_sizeNow_X1 : ∀ w ∈ wsX10, w ∈ wsX4_sizeNow := fun _ h => List.mem_cons_of_mem _ (List.mem_append_left _ (List.mem_append_right _ h))
theorem fw_X4_sizeNow_f41 : (Cond.fieldLink RX4 41 "NamePlate$State" "engravedSize" "I") ∈ wsX4_sizeNow := List.mem_of_getElem? (i := 1) rfl
set_option maxHeartbeats 4000000 in
set_option maxRecDepth 100000 in
theorem c_X4_sizeNow (l : Launch) (G : GG) (ad : Nat → Nat) (X : XS)  (hok : okX X) : RO l yX4_sizeNow wsX4_sizeNow 5 116 G (stC G ad X) [.ref (ad 0)] (xSize X) := by
  refine RO.start (cc := cX4_sizeNow) (maxL := 1) (ret := (some .int)) (by decide) rfl (Nat.le_of_ble_eq_true rfl) ?_
  intro p e s m below meth c ls cx hr hlocks hK hN hP hl
  have cx : CallFix p m c cX4_sizeNow 1 s [.ref (ad 0)].toArray wsX4_sizeNow RX4 := cx
  have hl : lv_has ls 1 [(0, .ref (ad 0))] := hl
  refine lv_aload_n cx.1 cx.2.1 dX4_sizeNow_0 rfl (lv_at hl 0 rfl) ?_
  refine RO.callV (As := []) (rest := []) cx (c_X4_hasEngraved l G ad X) gX4_sizeNow_X4_hasEngraved rfl hd_X4_hasEngraved ⟨Nat.le_of_ble_eq_true rfl, Nat.le_of_ble_eq_true rfl⟩ (va_recv hK hP (ci := 3) (q0 := 0) rfl rfl) hK hN hP rfl hl.1 rfl (Nat.le_of_ble_eq_true rfl) dX4_sizeNow_1 ⟨Nat.zero_le _, Nat.zero_le _⟩ ?_
  refine nv_ifz (b := xEng X) (tgt := 12) cx dX4_sizeNow_4 (by decide) (fun c_1 => ?_) (fun c_1 => ?_)
  · refine lv_aload_n cx.1 cx.2.1 dX4_sizeNow_12 rfl (lv_at hl 0 rfl) ?_
    refine lv_aload_n cx.1 cx.2.1 dX4_sizeNow_13 rfl (lv_at hl 0 rfl) ?_
    refine va_get (ci := 3) (C := RX4) (T := TX4) (N := 10) (v := .int (X 5 2)) cx.1 cx.2.1 cx.2.2.2.2 iw_X4_sizeNow_X4 cx.2.2.2.1 hK hP 0 rfl rfl 2 (by decide) (cx.2.2.2.2 _ fw_X4_sizeNow_f25) (fun _ h9 => h9) rfl dX4_sizeNow_14 ?_
    refine lv_aload_n cx.1 cx.2.1 dX4_sizeNow_17 rfl (lv_at hl 0 rfl) ?_
    refine va_get (ci := 3) (C := RX4) (T := TX4) (N := 10) (v := .int (X 5 3)) cx.1 cx.2.1 cx.2.2.2.2 iw_X4_sizeNow_X4 cx.2.2.2.1 hK hP 0 rfl rfl 3 (by decide) (cx.2.2.2.2 _ fw_X4_sizeNow_f29) (fun _ h9 => h9) rfl dX4_sizeNow_18 ?_
    refine lv_aload_n cx.1 cx.2.1 dX4_sizeNow_21 rfl (lv_at hl 0 rfl) ?_
    refine va_get (ci := 3) (C := RX4) (T := TX4) (N := 10) (v := .ref (ad 1)) cx.1 cx.2.1 cx.2.2.2.2 iw_X4_sizeNow_X4 cx.2.2.2.1 hK hP 0 rfl rfl 0 (by decide) (cx.2.2.2.2 _ fw_X4_sizeNow_f12) (fun _ h9 => h9) rfl dX4_sizeNow_22 ?_
    refine va_getN (ci := 1) (C := RX1) (T := TX1) (N := 3) (v := .int (X 5 0)) cx.1 cx.2.1 cx.2.2.2.2 iw_X4_sizeNow_X1 cx.2.2.2.1 hK hP 1 rfl rfl 2 (by decide) (va_Nw.use rfl (hN.at 12 rfl)) (fun _ h9 => h9) rfl dX4_sizeNow_25 ?_
    refine nv_eqi (y := nI (xn X)) hok.n ?_
    refine lv_aload_n cx.1 cx.2.1 dX4_sizeNow_28 rfl (lv_at hl 0 rfl) ?_
    refine lv_iconst (v := (-1)) cx.1 cx.2.1 dX4_sizeNow_29 (by decide) ?_
    refine RO.callV (As := [.int (-1)]) (rest := [.int (nI (xn X)), .int (X 5 3), .int (X 5 2), .ref (ad 0)]) cx (c_X4_mostUnits l G ad X (-1) hok) gX4_sizeNow_X4_mostUnits rfl hd_X4_mostUnits ⟨Nat.le_of_ble_eq_true rfl, Nat.le_of_ble_eq_true rfl⟩ (va_recv hK hP (ci := 3) (q0 := 0) rfl rfl) hK hN hP rfl hl.1 rfl (Nat.le_of_ble_eq_true rfl) dX4_sizeNow_30 ⟨Nat.zero_le _, Nat.zero_le _⟩ ?_
    refine RO.callV (As := [.int (X 5 2), .int (X 5 3), .int (nI (xn X)), .int (xMost X (-1))]) (rest := []) cx (c_X4_greatestSize l G ad X (X 5 2) (X 5 3) (nI (xn X)) (xMost X (-1))) gX4_sizeNow_X4_greatestSize rfl hd_X4_greatestSize ⟨Nat.le_of_ble_eq_true rfl, Nat.le_of_ble_eq_true rfl⟩ (va_recv hK hP (ci := 3) (q0 := 0) rfl rfl) hK hN hP rfl hl.1 rfl (Nat.le_of_ble_eq_true rfl) dX4_sizeNow_33 ⟨Nat.zero_le _, Nat.zero_le _⟩ ?_
    exact RO.ret (x := xGr X (X 5 2) (X 5 3) (nI (xn X)) (xMost X (-1))) cx hr hlocks dX4_sizeNow_36 (by simp [xSize, c_1])
  · refine lv_aload_n cx.1 cx.2.1 dX4_sizeNow_7 rfl (lv_at hl 0 rfl) ?_
    refine va_get (ci := 3) (C := RX4) (T := TX4) (N := 10) (v := .int (X 5 7)) cx.1 cx.2.1 cx.2.2.2.2 iw_X4_sizeNow_X4 cx.2.2.2.1 hK hP 0 rfl rfl 7 (by decide) (cx.2.2.2.2 _ fw_X4_sizeNow_f41) (fun _ h9 => h9) rfl dX4_sizeNow_8 ?_
    exact RO.ret (x := X 5 7) cx hr hlocks dX4_sizeNow_11 (by simp [xSize, c_1])

theorem iw_X4_fits_X4 : ∀ w ∈ wsX40, w ∈ wsX4_fits := fun _ h => List.mem_cons_of_mem _ (List.mem_append_left _ (List.mem_append_left _ (List.mem_append_right _ h)))
theorem fw_X4_fits_f25 : (Cond.fieldLink RX4 25 "NamePlate$State" "width" "I") ∈ wsX4_fits := List.mem_of_getElem? (i := 1) rfl
theorem fw_X4_fits_f29 : (Cond.fieldLink RX4 29 "NamePlate$State" "height" "I") ∈ wsX4_fits := List.mem_of_getElem? (i := 2) rfl
theorem fw_X4_fits_f32 : (Cond.fieldLink RX4 32 "NamePlate$State" "margin" "I") ∈ wsX4_fits := List.mem_of_getElem? (i := 3) rfl
set_option maxHeartbeats 4000000 in
set_option maxRecDepth 100000 in
theorem c_X4_fits (l : Launch) (G : GG) (ad : Nat → Nat) (X : XS) (k : Nat) (z : Int32) (hok : okX X) (hk : k < 20) : RO l yX4_fits wsX4_fits 4 93 G (stC G ad X) [.ref (ad 0), .int (nI k), .int z] (b2i (xFits X k z)) := by
  refine RO.start (cc := cX4_fits) (maxL := 3) (ret := (some .boolean)) (by decide) rfl (Nat.le_of_ble_eq_true rfl) ?_
  intro p e s m below meth c ls cx hr hlocks hK hN hP hl
  have cx : CallFix p m c cX4_fits 3 s [.ref (ad 0), .int (nI k), .int z].toArray wsX4_fits RX4 := cx
  have hl : lv_has ls 3 [(0, .ref (ad 0)), (1, .int (nI k)), (2, .int z)] := hl
  refine lv_iload_n cx.1 cx.2.1 dX4_fits_0 rfl (lv_at hl 2 rfl) ?_
  refine lv_if_le (x := z) (tgt := 52) cx.1 cx.2.1 dX4_fits_1 (by decide) (fun c_1 => ?_) (fun c_1 => ?_)
  · refine lv_iconst (v := nI 0) cx.1 cx.2.1 dX4_fits_52 (by decide) ?_
    exact RO.retz (b := xFits X k z) (x := 0) cx hr hlocks dX4_fits_53 (by simp [xFits, b2i, c_1]) rfl
  · refine lv_aload_n cx.1 cx.2.1 dX4_fits_4 rfl (lv_at hl 0 rfl) ?_
    refine lv_iload_n cx.1 cx.2.1 dX4_fits_5 rfl (lv_at hl 1 rfl) ?_
    refine RO.callV (As := [.int (nI k)]) (rest := []) cx (c_X4_unitsOf l G ad X k hok (by omega)) gX4_fits_X4_unitsOf rfl hd_X4_unitsOf ⟨Nat.le_of_ble_eq_true rfl, Nat.le_of_ble_eq_true rfl⟩ (va_recv hK hP (ci := 3) (q0 := 0) rfl rfl) hK hN hP rfl hl.1 rfl (Nat.le_of_ble_eq_true rfl) dX4_fits_6 ⟨Nat.zero_le _, Nat.zero_le _⟩ ?_
    refine lv_iload_n cx.1 cx.2.1 dX4_fits_9 rfl (lv_at hl 2 rfl) ?_
    refine lv_imul (x := xU X k) (y := z) cx.1 cx.2.1 dX4_fits_10 ?_
    refine lv_aload_n cx.1 cx.2.1 dX4_fits_11 rfl (lv_at hl 0 rfl) ?_
    refine lv_aload_n cx.1 cx.2.1 dX4_fits_12 rfl (lv_at hl 0 rfl) ?_
    refine va_get (ci := 3) (C := RX4) (T := TX4) (N := 10) (v := .int (X 5 2)) cx.1 cx.2.1 cx.2.2.2.2 iw_X4_fits_X4 cx.2.2.2.1 hK hP 0 rfl rfl 2 (by decide) (cx.2.2.2.2 _ fw_X4_fits_f25) (fun _ h9 => h9) rfl dX4_fits_13 ?_
    refine RO.callV (As := [.int (X 5 2)]) (rest := [.int ((xU X k) * z)]) cx (c_X4_columnWidth l G ad X (X 5 2)) gX4_fits_X4_columnWidth rfl hd_X4_columnWidth ⟨Nat.le_of_ble_eq_true rfl, Nat.le_of_ble_eq_true rfl⟩ (va_recv hK hP (ci := 3) (q0 := 0) rfl rfl) hK hN hP rfl hl.1 rfl (Nat.le_of_ble_eq_true rfl) dX4_fits_16 ⟨Nat.zero_le _, Nat.zero_le _⟩ ?_
    refine lv_icmp_gt (x := (xU X k) * z) (y := xCw X (X 5 2)) (tgt := 52) cx.1 cx.2.1 dX4_fits_19 (by decide) (fun c_2 => ?_) (fun c_2 => ?_)
    · refine lv_iconst (v := nI 0) cx.1 cx.2.1 dX4_fits_52 (by decide) ?_
      exact RO.retz (b := xFits X k z) (x := 0) cx hr hlocks dX4_fits_53 (by simp [xFits, b2i, c_1, c_2]) rfl
    · refine lv_bipush (v := nI 12) cx.1 cx.2.1 dX4_fits_22 (by decide) ?_
      refine lv_iload_n cx.1 cx.2.1 dX4_fits_24 rfl (lv_at hl 2 rfl) ?_
      refine lv_imul (x := 12) (y := z) cx.1 cx.2.1 dX4_fits_25 ?_
      refine lv_aload_n cx.1 cx.2.1 dX4_fits_26 rfl (lv_at hl 0 rfl) ?_
      refine lv_iload_n cx.1 cx.2.1 dX4_fits_27 rfl (lv_at hl 1 rfl) ?_
      refine RO.callV (As := [.int (nI k)]) (rest := [.int (12 * z)]) cx (c_X4_rowOf l G ad X k) gX4_fits_X4_rowOf rfl hd_X4_rowOf ⟨Nat.le_of_ble_eq_true rfl, Nat.le_of_ble_eq_true rfl⟩ (va_recv hK hP (ci := 3) (q0 := 0) rfl rfl) hK hN hP rfl hl.1 rfl (Nat.le_of_ble_eq_true rfl) dX4_fits_28 ⟨Nat.zero_le _, Nat.zero_le _⟩ ?_
      refine lv_iconst (v := nI 1) cx.1 cx.2.1 dX4_fits_31 (by decide) ?_
      refine lv_iadd (x := xRow X k) (y := 1) cx.1 cx.2.1 dX4_fits_32 ?_
      refine lv_imul (x := 12 * z) (y := (xRow X k) + 1) cx.1 cx.2.1 dX4_fits_33 ?_
      refine lv_aload_n cx.1 cx.2.1 dX4_fits_34 rfl (lv_at hl 0 rfl) ?_
      refine va_get (ci := 3) (C := RX4) (T := TX4) (N := 10) (v := .int (X 5 3)) cx.1 cx.2.1 cx.2.2.2.2 iw_X4_fits_X4 cx.2.2.2.1 hK hP 0 rfl rfl 3 (by decide) (cx.2.2.2.2 _ fw_X4_fits_f29) (fun _ h9 => h9) rfl dX4_fits_35 ?_
      refine lv_iconst (v := nI 2) cx.1 cx.2.1 dX4_fits_38 (by decide) ?_
      refine lv_aload_n cx.1 cx.2.1 dX4_fits_39 rfl (lv_at hl 0 rfl) ?_
      refine va_get (ci := 3) (C := RX4) (T := TX4) (N := 10) (v := .int (X 5 4)) cx.1 cx.2.1 cx.2.2.2.2 iw_X4_fits_X4 cx.2.2.2.1 hK hP 0 rfl rfl 4 (by decide) (cx.2.2.2.2 _ fw_X4_fits_f32) (fun _ h9 => h9) rfl dX4_fits_40 ?_
      refine lv_imul (x := 2) (y := X 5 4) cx.1 cx.2.1 dX4_fits_43 ?_
      refine lv_isub (x := X 5 3) (y := 2 * (X 5 4)) cx.1 cx.2.1 dX4_fits_44 ?_
      refine lv_icmp_gt (x := (12 * z) * ((xRow X k) + 1)) (y := (X 5 3) - (2 * (X 5 4))) (tgt := 52) cx.1 cx.2.1 dX4_fits_45 (by decide) (fun c_3 => ?_) (fun c_3 => ?_)
      · refine lv_iconst (v := nI 0) cx.1 cx.2.1 dX4_fits_52 (by decide) ?_
        exact RO.retz (b := xFits X k z) (x := 0) cx hr hlocks dX4_fits_53 (by simp [xFits, b2i, c_1, c_2, c_3]) rfl
      · refine lv_iconst (v := nI 1) cx.1 cx.2.1 dX4_fits_48 (by decide) ?_
        refine lv_goto (tgt := 53) cx.1 cx.2.1 dX4_fits_49 (by decide) ?_
        exact RO.retz (b := xFits X k z) (x := 1) cx hr hlocks dX4_fits_53 (by simp [xFits, b2i, c_1, c_2, c_3]) rfl

theorem iw_X4_twiceInkMoment_X4 : ∀ w ∈ wsX40, w ∈ wsX4_twiceInkMoment := fun _ h => List.mem_cons_of_mem _ (List.mem_append_left _ (List.mem_append_left _ (List.mem_append_right _ h)))
theorem fw_X4_twiceInkMoment_f12 : (Cond.fieldLink RX4 12 "NamePlate$State" "names" "LNamePlate$Names;") ∈ wsX4_twiceInkMoment := List.mem_of_getElem? (i := 1) rfl
set_option maxHeartbeats 4000000 in
set_option maxRecDepth 100000 in
theorem c_X4_twiceInkMoment (l : Launch) (G : GG) (ad : Nat → Nat) (X : XS) (k : Nat) (hok : okX X) (hk : k < 20) : RO l yX4_twiceInkMoment wsX4_twiceInkMoment 2 48 G (stC G ad X) [.ref (ad 0), .int (nI k)] (xMom X k) := by
  refine RO.start (cc := cX4_twiceInkMoment) (maxL := 7) (ret := (some .int)) (by decide) rfl (Nat.le_of_ble_eq_true rfl) ?_
  intro p e s m below meth c ls cx hr hlocks hK hN hP hl
  have cx : CallFix p m c cX4_twiceInkMoment 7 s [.ref (ad 0), .int (nI k)].toArray wsX4_twiceInkMoment RX4 := cx
  have hl : lv_has ls 7 [(0, .ref (ad 0)), (1, .int (nI k))] := hl
  have hl16 := hok.l16 hk
  refine lv_iconst (v := nI 0) cx.1 cx.2.1 dX4_twiceInkMoment_0 (by decide) ?_
  refine lv_istore_n (lv' := [(2, .int (nI 0)), (0, .ref (ad 0)), (1, .int (nI k))]) cx.1 cx.2.1 dX4_twiceInkMoment_1 rfl hl (by decide) rfl (fun ls hl => ?_)
  refine lv_iconst (v := nI 0) cx.1 cx.2.1 dX4_twiceInkMoment_2 (by decide) ?_
  refine lv_istore_n (lv' := [(3, .int (nI 0)), (2, .int (nI 0)), (0, .ref (ad 0)), (1, .int (nI k))]) cx.1 cx.2.1 dX4_twiceInkMoment_3 rfl hl (by decide) rfl (fun ls hl => ?_)
  refine lv_iconst (v := nI 0) cx.1 cx.2.1 dX4_twiceInkMoment_4 (by decide) ?_
  refine lv_istore (lv' := [(4, .int (nI 0)), (3, .int (nI 0)), (2, .int (nI 0)), (0, .ref (ad 0)), (1, .int (nI k))]) cx.1 cx.2.1 dX4_twiceInkMoment_5 hl (by decide) rfl (fun ls hl => ?_)
  have lp7 : ∀ (r : Nat) (i : Nat) (hr9 : xl X k - i < r) (hi : i ≤ xl X k) (ls : Array Slot), lv_has ls 7 [(0, .ref (ad 0)), (1, .int (nI k)), (2, .int (sumI (xMt X k) i)), (3, .int (xUb X k i)), (4, .int (nI i))] → W p l e ({ frames := 2, cells := 0, slots := 0, locals := 48 } : Room) s m [.ref (ad 0), .int (nI k)].toArray below meth c s.heap [] 0 0 (MQ below (vp_Si (fun r => r = (xMom X k))) [.ref (ad 0), .int (nI k)].toArray s 0 0 (fun _ => False)) (F0 m 7 ls []) := by
    intro r
    induction r with
    | zero => intro i hr9; exact absurd hr9 (Nat.not_lt_zero _)
    | succ r ih7 =>
      intro i hr9 hi ls hl
      refine lv_iload cx.1 cx.2.1 dX4_twiceInkMoment_7 (lv_at hl 4 rfl) ?_
      refine lv_aload_n cx.1 cx.2.1 dX4_twiceInkMoment_9 rfl (lv_at hl 0 rfl) ?_
      refine va_get (ci := 3) (C := RX4) (T := TX4) (N := 10) (v := .ref (ad 1)) cx.1 cx.2.1 cx.2.2.2.2 iw_X4_twiceInkMoment_X4 cx.2.2.2.1 hK hP 0 rfl rfl 0 (by decide) (cx.2.2.2.2 _ fw_X4_twiceInkMoment_f12) (fun _ h9 => h9) rfl dX4_twiceInkMoment_10 ?_
      refine lv_iload_n cx.1 cx.2.1 dX4_twiceInkMoment_13 rfl (lv_at hl 1 rfl) ?_
      refine RO.callV (As := [.int (nI k)]) (rest := [.int (nI i)]) cx (c_X1_lengthOf l G ad X k hok (by omega)) gX4_twiceInkMoment_X1_lengthOf rfl hd_X1_lengthOf ⟨Nat.le_of_ble_eq_true rfl, Nat.le_of_ble_eq_true rfl⟩ (va_recv hK hP (ci := 1) (q0 := 1) rfl rfl) hK hN hP rfl hl.1 rfl (Nat.le_of_ble_eq_true rfl) dX4_twiceInkMoment_14 ⟨Nat.zero_le _, Nat.zero_le _⟩ ?_
      refine nv_icmp_ge (a := i) (b := xl X k) (tgt := 73) cx dX4_twiceInkMoment_17 (by decide) (by omega) (by omega) (fun c_1 => ?_) (fun c_1 => ?_)
      · refine lv_iload_n cx.1 cx.2.1 dX4_twiceInkMoment_73 rfl (lv_at hl 2 rfl) ?_
        exact RO.ret (x := sumI (xMt X k) i) cx hr hlocks dX4_twiceInkMoment_74 (by have e : i = xl X k := (by omega); rw [e]; rfl)
      · refine lv_aload_n cx.1 cx.2.1 dX4_twiceInkMoment_20 rfl (lv_at hl 0 rfl) ?_
        refine va_get (ci := 3) (C := RX4) (T := TX4) (N := 10) (v := .ref (ad 1)) cx.1 cx.2.1 cx.2.2.2.2 iw_X4_twiceInkMoment_X4 cx.2.2.2.1 hK hP 0 rfl rfl 0 (by decide) (cx.2.2.2.2 _ fw_X4_twiceInkMoment_f12) (fun _ h9 => h9) rfl dX4_twiceInkMoment_21 ?_
        refine lv_iload_n cx.1 cx.2.1 dX4_twiceInkMoment_24 rfl (lv_at hl 1 rfl) ?_
        refine lv_iload cx.1 cx.2.1 dX4_twiceInkMoment_25 (lv_at hl 4 rfl) ?_
        refine RO.callV (As := [.int (nI k), .int (nI i)]) (rest := []) cx (c_X1_codeAt l G ad X k i hok (by omega)) gX4_twiceInkMoment_X1_codeAt rfl hd_X1_codeAt ⟨Nat.le_of_ble_eq_true rfl, Nat.le_of_ble_eq_true rfl⟩ (va_recv hK hP (ci := 1) (q0 := 1) rfl rfl) hK hN hP rfl hl.1 rfl (Nat.le_of_ble_eq_true rfl) dX4_twiceInkMoment_27 ⟨Nat.zero_le _, Nat.zero_le _⟩ ?_
        refine lv_istore (lv' := [(5, .int (xSg X k i)), (0, .ref (ad 0)), (1, .int (nI k)), (2, .int (sumI (xMt X k) i)), (3, .int (xUb X k i)), (4, .int (nI i))]) cx.1 cx.2.1 dX4_twiceInkMoment_30 hl (by decide) rfl (fun ls hl => ?_)
        refine lv_iload cx.1 cx.2.1 dX4_twiceInkMoment_32 (lv_at hl 0 rfl) ?_
        refine RO.callS (As := [.int (xSg X k i)]) (rest := []) cx (c_X3_width l G (xSg X k i)) gX4_twiceInkMoment_X3_width rfl hd_X3_width ⟨Nat.le_of_ble_eq_true rfl, Nat.le_of_ble_eq_true rfl⟩ hK hN va_P.nil rfl hl.1 rfl (Nat.le_of_ble_eq_true rfl) dX4_twiceInkMoment_34 ⟨Nat.zero_le _, Nat.zero_le _⟩ ?_
        refine lv_istore (lv' := [(6, .int (xW (xSg X k i))), (5, .int (xSg X k i)), (0, .ref (ad 0)), (1, .int (nI k)), (2, .int (sumI (xMt X k) i)), (3, .int (xUb X k i)), (4, .int (nI i))]) cx.1 cx.2.1 dX4_twiceInkMoment_37 hl (by decide) rfl (fun ls hl => ?_)
        refine lv_iload_n cx.1 cx.2.1 dX4_twiceInkMoment_39 rfl (lv_at hl 4 rfl) ?_
        refine lv_iload cx.1 cx.2.1 dX4_twiceInkMoment_40 (lv_at hl 1 rfl) ?_
        refine RO.callS (As := [.int (xSg X k i)]) (rest := [.int (sumI (xMt X k) i)]) cx (c_X3_ink l G (xSg X k i)) gX4_twiceInkMoment_X3_ink rfl hd_X3_ink ⟨Nat.le_of_ble_eq_true rfl, Nat.le_of_ble_eq_true rfl⟩ hK hN va_P.nil rfl hl.1 rfl (Nat.le_of_ble_eq_true rfl) dX4_twiceInkMoment_42 ⟨Nat.zero_le _, Nat.zero_le _⟩ ?_
        refine lv_iconst (v := nI 2) cx.1 cx.2.1 dX4_twiceInkMoment_45 (by decide) ?_
        refine lv_iload_n cx.1 cx.2.1 dX4_twiceInkMoment_46 rfl (lv_at hl 5 rfl) ?_
        refine lv_imul (x := 2) (y := xUb X k i) cx.1 cx.2.1 dX4_twiceInkMoment_47 ?_
        refine lv_iload cx.1 cx.2.1 dX4_twiceInkMoment_48 (lv_at hl 0 rfl) ?_
        refine lv_iadd (x := 2 * (xUb X k i)) (y := xW (xSg X k i)) cx.1 cx.2.1 dX4_twiceInkMoment_50 ?_
        refine lv_imul (x := xI (xSg X k i)) (y := (2 * (xUb X k i)) + (xW (xSg X k i))) cx.1 cx.2.1 dX4_twiceInkMoment_51 ?_
        refine lv_iadd (x := sumI (xMt X k) i) (y := (xI (xSg X k i)) * ((2 * (xUb X k i)) + (xW (xSg X k i)))) cx.1 cx.2.1 dX4_twiceInkMoment_52 ?_
        refine lv_istore_n (lv' := [(2, .int ((sumI (xMt X k) i) + ((xI (xSg X k i)) * ((2 * (xUb X k i)) + (xW (xSg X k i)))))), (6, .int (xW (xSg X k i))), (5, .int (xSg X k i)), (0, .ref (ad 0)), (1, .int (nI k)), (3, .int (xUb X k i)), (4, .int (nI i))]) cx.1 cx.2.1 dX4_twiceInkMoment_53 rfl hl (by decide) rfl (fun ls hl => ?_)
        refine lv_iload_n cx.1 cx.2.1 dX4_twiceInkMoment_54 rfl (lv_at hl 5 rfl) ?_
        refine lv_iload cx.1 cx.2.1 dX4_twiceInkMoment_55 (lv_at hl 1 rfl) ?_
        refine lv_aload_n cx.1 cx.2.1 dX4_twiceInkMoment_57 rfl (lv_at hl 3 rfl) ?_
        refine lv_iload_n cx.1 cx.2.1 dX4_twiceInkMoment_58 rfl (lv_at hl 4 rfl) ?_
        refine lv_iload cx.1 cx.2.1 dX4_twiceInkMoment_59 (lv_at hl 6 rfl) ?_
        refine RO.callV (As := [.int (nI k), .int (nI i)]) (rest := [.int (xW (xSg X k i)), .int (xUb X k i)]) cx (c_X4_spaceBehind l G ad X k i hok (by omega) (by omega)) gX4_twiceInkMoment_X4_spaceBehind rfl hd_X4_spaceBehind ⟨Nat.le_of_ble_eq_true rfl, Nat.le_of_ble_eq_true rfl⟩ (va_recv hK hP (ci := 3) (q0 := 0) rfl rfl) hK hN hP rfl hl.1 rfl (Nat.le_of_ble_eq_true rfl) dX4_twiceInkMoment_61 ⟨Nat.zero_le _, Nat.zero_le _⟩ ?_
        refine lv_iadd (x := xW (xSg X k i)) (y := xSp X k i) cx.1 cx.2.1 dX4_twiceInkMoment_64 ?_
        refine lv_iadd (x := xUb X k i) (y := (xW (xSg X k i)) + (xSp X k i)) cx.1 cx.2.1 dX4_twiceInkMoment_65 ?_
        refine lv_istore_n (lv' := [(3, .int ((xUb X k i) + ((xW (xSg X k i)) + (xSp X k i)))), (2, .int ((sumI (xMt X k) i) + ((xI (xSg X k i)) * ((2 * (xUb X k i)) + (xW (xSg X k i)))))), (6, .int (xW (xSg X k i))), (5, .int (xSg X k i)), (0, .ref (ad 0)), (1, .int (nI k)), (4, .int (nI i))]) cx.1 cx.2.1 dX4_twiceInkMoment_66 rfl hl (by decide) rfl (fun ls hl => ?_)
        refine lv_iinc (v := nI (i + 1)) (lv' := [(4, .int (nI (i + 1))), (3, .int ((xUb X k i) + ((xW (xSg X k i)) + (xSp X k i)))), (2, .int ((sumI (xMt X k) i) + ((xI (xSg X k i)) * ((2 * (xUb X k i)) + (xW (xSg X k i)))))), (6, .int (xW (xSg X k i))), (5, .int (xSg X k i)), (0, .ref (ad 0)), (1, .int (nI k))]) cx.1 cx.2.1 dX4_twiceInkMoment_67 hl (k := 6) rfl (show nI i + Int32.ofInt 1 = nI (i + 1) from nI_add i 1) (by decide) rfl (fun ls hl => ?_)
        refine lv_goto (tgt := 7) cx.1 cx.2.1 dX4_twiceInkMoment_70 (by decide) ?_
        exact ih7 (i + 1) (by omega) (by omega) ls (lv_sub hl [5, 6, 2, 1, 0] rfl)
  exact lp7 _ 0 (Nat.lt_succ_self _) (by omega) ls (lv_sub hl [3, 4, 2, 1, 0] rfl)

theorem iw_X4_beginOf_X4 : ∀ w ∈ wsX40, w ∈ wsX4_beginOf := fun _ h => List.mem_cons_of_mem _ (List.mem_append_left _ (List.mem_append_left _ (List.mem_append_right _ h)))
theorem fw_X4_beginOf_f25 : (Cond.fieldLink RX4 25 "NamePlate$State" "width" "I") ∈ wsX4_beginOf := List.mem_of_getElem? (i := 1) rfl
theorem fw_X4_beginOf_m157 : (Cond.methodLink RX4 157 Lib.Math.min.name) ∈ wsX4_beginOf := List.mem_of_getElem? (i := 2) rfl
theorem fw_X4_beginOf_smin : (Cond.static Lib.Math.min.name) ∈ wsX4_beginOf := List.mem_of_getElem? (i := 3) rfl
theorem fw_X4_beginOf_iMath : (Cond.initialized "java/lang/Math") ∈ wsX4_beginOf := List.mem_of_getElem? (i := 4) rfl
theorem fw_X4_beginOf_cmin : (Cond.code Lib.Math.min.name Lib.Math.min.code 2 (some .int)) ∈ wsX4_beginOf := List.mem_of_getElem? (i := 5) rfl
theorem fw_X4_beginOf_m102 : (Cond.methodLink RX4 102 Lib.Math.max.name) ∈ wsX4_beginOf := List.mem_of_getElem? (i := 6) rfl
theorem fw_X4_beginOf_smax : (Cond.static Lib.Math.max.name) ∈ wsX4_beginOf := List.mem_of_getElem? (i := 7) rfl
theorem fw_X4_beginOf_cmax : (Cond.code Lib.Math.max.name Lib.Math.max.code 2 (some .int)) ∈ wsX4_beginOf := List.mem_of_getElem? (i := 8) rfl
set_option maxHeartbeats 4000000 in
set_option maxRecDepth 100000 in
theorem c_X4_beginOf (l : Launch) (G : GG) (ad : Nat → Nat) (X : XS) (k : Nat) (z : Int32) (hok : okX X) (hk : k < 20) : RO l yX4_beginOf wsX4_beginOf 4 93 G (stC G ad X) [.ref (ad 0), .int (nI k), .int z] (xBeg X k z) := by
  refine RO.start (cc := cX4_beginOf) (maxL := 9) (ret := (some .int)) (by decide) rfl (Nat.le_of_ble_eq_true rfl) ?_
  intro p e s m below meth c ls cx hr hlocks hK hN hP hl
  have cx : CallFix p m c cX4_beginOf 9 s [.ref (ad 0), .int (nI k), .int z].toArray wsX4_beginOf RX4 := cx
  have hl : lv_has ls 9 [(0, .ref (ad 0)), (1, .int (nI k)), (2, .int z)] := hl
  refine lv_aload_n cx.1 cx.2.1 dX4_beginOf_0 rfl (lv_at hl 0 rfl) ?_
  refine lv_aload_n cx.1 cx.2.1 dX4_beginOf_1 rfl (lv_at hl 0 rfl) ?_
  refine va_get (ci := 3) (C := RX4) (T := TX4) (N := 10) (v := .int (X 5 2)) cx.1 cx.2.1 cx.2.2.2.2 iw_X4_beginOf_X4 cx.2.2.2.1 hK hP 0 rfl rfl 2 (by decide) (cx.2.2.2.2 _ fw_X4_beginOf_f25) (fun _ h9 => h9) rfl dX4_beginOf_2 ?_
  refine RO.callV (As := [.int (X 5 2)]) (rest := []) cx (c_X4_columnWidth l G ad X (X 5 2)) gX4_beginOf_X4_columnWidth rfl hd_X4_columnWidth ⟨Nat.le_of_ble_eq_true rfl, Nat.le_of_ble_eq_true rfl⟩ (va_recv hK hP (ci := 3) (q0 := 0) rfl rfl) hK hN hP rfl hl.1 rfl (Nat.le_of_ble_eq_true rfl) dX4_beginOf_5 ⟨Nat.zero_le _, Nat.zero_le _⟩ ?_
  refine lv_istore_n (lv' := [(3, .int (xCw X (X 5 2))), (0, .ref (ad 0)), (1, .int (nI k)), (2, .int z)]) cx.1 cx.2.1 dX4_beginOf_8 rfl hl (by decide) rfl (fun ls hl => ?_)
  refine lv_aload_n cx.1 cx.2.1 dX4_beginOf_9 rfl (lv_at hl 1 rfl) ?_
  refine lv_iload_n cx.1 cx.2.1 dX4_beginOf_10 rfl (lv_at hl 2 rfl) ?_
  refine RO.callV (As := [.int (nI k)]) (rest := []) cx (c_X4_columnBegin l G ad X k) gX4_beginOf_X4_columnBegin rfl hd_X4_columnBegin ⟨Nat.le_of_ble_eq_true rfl, Nat.le_of_ble_eq_true rfl⟩ (va_recv hK hP (ci := 3) (q0 := 0) rfl rfl) hK hN hP rfl hl.1 rfl (Nat.le_of_ble_eq_true rfl) dX4_beginOf_11 ⟨Nat.zero_le _, Nat.zero_le _⟩ ?_
  refine lv_istore (lv' := [(4, .int (xCb X k)), (3, .int (xCw X (X 5 2))), (0, .ref (ad 0)), (1, .int (nI k)), (2, .int z)]) cx.1 cx.2.1 dX4_beginOf_14 hl (by decide) rfl (fun ls hl => ?_)
  refine lv_aload_n cx.1 cx.2.1 dX4_beginOf_16 rfl (lv_at hl 2 rfl) ?_
  refine lv_iload_n cx.1 cx.2.1 dX4_beginOf_17 rfl (lv_at hl 3 rfl) ?_
  refine RO.callV (As := [.int (nI k)]) (rest := []) cx (c_X4_inkOf l G ad X k hok (by omega)) gX4_beginOf_X4_inkOf rfl hd_X4_inkOf ⟨Nat.le_of_ble_eq_true rfl, Nat.le_of_ble_eq_true rfl⟩ (va_recv hK hP (ci := 3) (q0 := 0) rfl rfl) hK hN hP rfl hl.1 rfl (Nat.le_of_ble_eq_true rfl) dX4_beginOf_18 ⟨Nat.zero_le _, Nat.zero_le _⟩ ?_
  refine lv_istore (lv' := [(5, .int (xInk X k)), (4, .int (xCb X k)), (3, .int (xCw X (X 5 2))), (0, .ref (ad 0)), (1, .int (nI k)), (2, .int z)]) cx.1 cx.2.1 dX4_beginOf_21 hl (by decide) rfl (fun ls hl => ?_)
  refine lv_iconst (v := nI 2) cx.1 cx.2.1 dX4_beginOf_23 (by decide) ?_
  refine lv_iload cx.1 cx.2.1 dX4_beginOf_24 (lv_at hl 0 rfl) ?_
  refine lv_imul (x := 2) (y := xInk X k) cx.1 cx.2.1 dX4_beginOf_26 ?_
  refine lv_istore (lv' := [(6, .int (2 * (xInk X k))), (5, .int (xInk X k)), (4, .int (xCb X k)), (3, .int (xCw X (X 5 2))), (0, .ref (ad 0)), (1, .int (nI k)), (2, .int z)]) cx.1 cx.2.1 dX4_beginOf_27 hl (by decide) rfl (fun ls hl => ?_)
  refine lv_iload cx.1 cx.2.1 dX4_beginOf_29 (lv_at hl 1 rfl) ?_
  refine lv_iconst (v := nI 2) cx.1 cx.2.1 dX4_beginOf_31 (by decide) ?_
  refine lv_iload cx.1 cx.2.1 dX4_beginOf_32 (lv_at hl 2 rfl) ?_
  refine lv_imul (x := 2) (y := xCb X k) cx.1 cx.2.1 dX4_beginOf_34 ?_
  refine lv_iload_n cx.1 cx.2.1 dX4_beginOf_35 rfl (lv_at hl 3 rfl) ?_
  refine lv_iadd (x := 2 * (xCb X k)) (y := xCw X (X 5 2)) cx.1 cx.2.1 dX4_beginOf_36 ?_
  refine lv_imul (x := xInk X k) (y := (2 * (xCb X k)) + (xCw X (X 5 2))) cx.1 cx.2.1 dX4_beginOf_37 ?_
  refine lv_iload_n cx.1 cx.2.1 dX4_beginOf_38 rfl (lv_at hl 6 rfl) ?_
  refine lv_aload_n cx.1 cx.2.1 dX4_beginOf_39 rfl (lv_at hl 4 rfl) ?_
  refine lv_iload_n cx.1 cx.2.1 dX4_beginOf_40 rfl (lv_at hl 5 rfl) ?_
  refine RO.callV (As := [.int (nI k)]) (rest := [.int z, .int ((xInk X k) * ((2 * (xCb X k)) + (xCw X (X 5 2))))]) cx (c_X4_twiceInkMoment l G ad X k hok (by omega)) gX4_beginOf_X4_twiceInkMoment rfl hd_X4_twiceInkMoment ⟨Nat.le_of_ble_eq_true rfl, Nat.le_of_ble_eq_true rfl⟩ (va_recv hK hP (ci := 3) (q0 := 0) rfl rfl) hK hN hP rfl hl.1 rfl (Nat.le_of_ble_eq_true rfl) dX4_beginOf_41 ⟨Nat.zero_le _, Nat.zero_le _⟩ ?_
  refine lv_imul (x := z) (y := xMom X k) cx.1 cx.2.1 dX4_beginOf_44 ?_
  refine lv_isub (x := (xInk X k) * ((2 * (xCb X k)) + (xCw X (X 5 2)))) (y := z * (xMom X k)) cx.1 cx.2.1 dX4_beginOf_45 ?_
  refine lv_iload cx.1 cx.2.1 dX4_beginOf_46 (lv_at hl 0 rfl) ?_
  refine RO.callS (As := [.int (((xInk X k) * ((2 * (xCb X k)) + (xCw X (X 5 2)))) - (z * (xMom X k))), .int (2 * (xInk X k))]) (rest := []) cx (c_X4_quotient l G (((xInk X k) * ((2 * (xCb X k)) + (xCw X (X 5 2)))) - (z * (xMom X k))) (2 * (xInk X k))) gX4_beginOf_X4_quotient rfl hd_X4_quotient ⟨Nat.le_of_ble_eq_true rfl, Nat.le_of_ble_eq_true rfl⟩ hK hN va_P.nil rfl hl.1 rfl (Nat.le_of_ble_eq_true rfl) dX4_beginOf_48 ⟨Nat.zero_le _, Nat.zero_le _⟩ ?_
  refine lv_istore (lv' := [(7, .int (xq (((xInk X k) * ((2 * (xCb X k)) + (xCw X (X 5 2)))) - (z * (xMom X k))) (2 * (xInk X k)))), (6, .int (2 * (xInk X k))), (5, .int (xInk X k)), (4, .int (xCb X k)), (3, .int (xCw X (X 5 2))), (0, .ref (ad 0)), (1, .int (nI k)), (2, .int z)]) cx.1 cx.2.1 dX4_beginOf_51 hl (by decide) rfl (fun ls hl => ?_)
  refine lv_iload cx.1 cx.2.1 dX4_beginOf_53 (lv_at hl 3 rfl) ?_
  refine lv_iload_n cx.1 cx.2.1 dX4_beginOf_55 rfl (lv_at hl 4 rfl) ?_
  refine lv_iadd (x := xCb X k) (y := xCw X (X 5 2)) cx.1 cx.2.1 dX4_beginOf_56 ?_
  refine lv_aload_n cx.1 cx.2.1 dX4_beginOf_57 rfl (lv_at hl 5 rfl) ?_
  refine lv_iload_n cx.1 cx.2.1 dX4_beginOf_58 rfl (lv_at hl 6 rfl) ?_
  refine RO.callV (As := [.int (nI k)]) (rest := [.int ((xCb X k) + (xCw X (X 5 2)))]) cx (c_X4_unitsOf l G ad X k hok (by omega)) gX4_beginOf_X4_unitsOf rfl hd_X4_unitsOf ⟨Nat.le_of_ble_eq_true rfl, Nat.le_of_ble_eq_true rfl⟩ (va_recv hK hP (ci := 3) (q0 := 0) rfl rfl) hK hN hP rfl hl.1 rfl (Nat.le_of_ble_eq_true rfl) dX4_beginOf_59 ⟨Nat.zero_le _, Nat.zero_le _⟩ ?_
  refine lv_iload_n cx.1 cx.2.1 dX4_beginOf_62 rfl (lv_at hl 7 rfl) ?_
  refine lv_imul (x := xU X k) (y := z) cx.1 cx.2.1 dX4_beginOf_63 ?_
  refine lv_isub (x := (xCb X k) + (xCw X (X 5 2))) (y := (xU X k) * z) cx.1 cx.2.1 dX4_beginOf_64 ?_
  refine lv_istore (lv' := [(8, .int (((xCb X k) + (xCw X (X 5 2))) - ((xU X k) * z))), (7, .int (xq (((xInk X k) * ((2 * (xCb X k)) + (xCw X (X 5 2)))) - (z * (xMom X k))) (2 * (xInk X k)))), (6, .int (2 * (xInk X k))), (5, .int (xInk X k)), (4, .int (xCb X k)), (3, .int (xCw X (X 5 2))), (0, .ref (ad 0)), (1, .int (nI k)), (2, .int z)]) cx.1 cx.2.1 dX4_beginOf_65 hl (by decide) rfl (fun ls hl => ?_)
  refine lv_iload cx.1 cx.2.1 dX4_beginOf_67 (lv_at hl 4 rfl) ?_
  refine lv_iload cx.1 cx.2.1 dX4_beginOf_69 (lv_at hl 1 rfl) ?_
  refine lv_iload cx.1 cx.2.1 dX4_beginOf_71 (lv_at hl 0 rfl) ?_
  refine va_mmin (x := xq (((xInk X k) * ((2 * (xCb X k)) + (xCw X (X 5 2)))) - (z * (xMom X k))) (2 * (xInk X k))) (y := ((xCb X k) + (xCw X (X 5 2))) - ((xU X k) * z)) cx.1 cx.2.1 (cx.2.2.1.trans hl.1.symm) cx.2.2.2.1 (cx.2.2.2.2 _ fw_X4_beginOf_m157) (cx.2.2.2.2 _ fw_X4_beginOf_smin) (cx.2.2.2.2 _ fw_X4_beginOf_iMath) (cx.2.2.2.2 _ fw_X4_beginOf_cmin) (Nat.le_of_ble_eq_true rfl) (Nat.le_of_ble_eq_true rfl) (Nat.zero_le _) (Nat.zero_le _) dX4_beginOf_73 ?_
  refine nv_eqi (y := imin (xq (((xInk X k) * ((2 * (xCb X k)) + (xCw X (X 5 2)))) - (z * (xMom X k))) (2 * (xInk X k))) (((xCb X k) + (xCw X (X 5 2))) - ((xU X k) * z))) rfl ?_
  refine va_mmax (x := xCb X k) (y := imin (xq (((xInk X k) * ((2 * (xCb X k)) + (xCw X (X 5 2)))) - (z * (xMom X k))) (2 * (xInk X k))) (((xCb X k) + (xCw X (X 5 2))) - ((xU X k) * z))) cx.1 cx.2.1 (cx.2.2.1.trans hl.1.symm) cx.2.2.2.1 (cx.2.2.2.2 _ fw_X4_beginOf_m102) (cx.2.2.2.2 _ fw_X4_beginOf_smax) (cx.2.2.2.2 _ fw_X4_beginOf_iMath) (cx.2.2.2.2 _ fw_X4_beginOf_cmax) (Nat.le_of_ble_eq_true rfl) (Nat.le_of_ble_eq_true rfl) (Nat.zero_le _) (Nat.zero_le _) dX4_beginOf_76 ?_
  refine nv_eqi (y := imax (xCb X k) (imin (xq (((xInk X k) * ((2 * (xCb X k)) + (xCw X (X 5 2)))) - (z * (xMom X k))) (2 * (xInk X k))) (((xCb X k) + (xCw X (X 5 2))) - ((xU X k) * z)))) rfl ?_
  exact RO.ret (x := imax (xCb X k) (imin (xq (((xInk X k) * ((2 * (xCb X k)) + (xCw X (X 5 2)))) - (z * (xMom X k))) (2 * (xInk X k))) (((xCb X k) + (xCw X (X 5 2))) - ((xU X k) * z)))) cx hr hlocks dX4_beginOf_79 rfl

theorem iw_X4_middleBegin_X4 : ∀ w ∈ wsX40, w ∈ wsX4_middleBegin := fun _ h => List.mem_cons_of_mem _ (List.mem_append_left _ (List.mem_append_left _ (List.mem_append_right _ h)))
theorem fw_X4_middleBegin_f25 : (Cond.fieldLink RX4 25 "NamePlate$State" "width" "I") ∈ wsX4_middleBegin := List.mem_of_getElem? (i := 1) rfl
theorem fw_X4_middleBegin_m102 : (Cond.methodLink RX4 102 Lib.Math.max.name) ∈ wsX4_middleBegin := List.mem_of_getElem? (i := 2) rfl
theorem fw_X4_middleBegin_smax : (Cond.static Lib.Math.max.name) ∈ wsX4_middleBegin := List.mem_of_getElem? (i := 3) rfl
theorem fw_X4_middleBegin_iMath : (Cond.initialized "java/lang/Math") ∈ wsX4_middleBegin := List.mem_of_getElem? (i := 4) rfl
theorem fw_X4_middleBegin_cmax : (Cond.code Lib.Math.max.name Lib.Math.max.code 2 (some .int)) ∈ wsX4_middleBegin := List.mem_of_getElem? (i := 5) rfl
set_option maxHeartbeats 4000000 in
set_option maxRecDepth 100000 in
theorem c_X4_middleBegin (l : Launch) (G : GG) (ad : Nat → Nat) (X : XS) (k : Nat) (z : Int32) (hok : okX X) (hk : k < 20) : RO l yX4_middleBegin wsX4_middleBegin 4 93 G (stC G ad X) [.ref (ad 0), .int (nI k), .int z] (xMid X k z) := by
  refine RO.start (cc := cX4_middleBegin) (maxL := 5) (ret := (some .int)) (by decide) rfl (Nat.le_of_ble_eq_true rfl) ?_
  intro p e s m below meth c ls cx hr hlocks hK hN hP hl
  have cx : CallFix p m c cX4_middleBegin 5 s [.ref (ad 0), .int (nI k), .int z].toArray wsX4_middleBegin RX4 := cx
  have hl : lv_has ls 5 [(0, .ref (ad 0)), (1, .int (nI k)), (2, .int z)] := hl
  refine lv_aload_n cx.1 cx.2.1 dX4_middleBegin_0 rfl (lv_at hl 0 rfl) ?_
  refine lv_iload_n cx.1 cx.2.1 dX4_middleBegin_1 rfl (lv_at hl 1 rfl) ?_
  refine RO.callV (As := [.int (nI k)]) (rest := []) cx (c_X4_columnBegin l G ad X k) gX4_middleBegin_X4_columnBegin rfl hd_X4_columnBegin ⟨Nat.le_of_ble_eq_true rfl, Nat.le_of_ble_eq_true rfl⟩ (va_recv hK hP (ci := 3) (q0 := 0) rfl rfl) hK hN hP rfl hl.1 rfl (Nat.le_of_ble_eq_true rfl) dX4_middleBegin_2 ⟨Nat.zero_le _, Nat.zero_le _⟩ ?_
  refine lv_istore_n (lv' := [(3, .int (xCb X k)), (0, .ref (ad 0)), (1, .int (nI k)), (2, .int z)]) cx.1 cx.2.1 dX4_middleBegin_5 rfl hl (by decide) rfl (fun ls hl => ?_)
  refine lv_aload_n cx.1 cx.2.1 dX4_middleBegin_6 rfl (lv_at hl 1 rfl) ?_
  refine lv_aload_n cx.1 cx.2.1 dX4_middleBegin_7 rfl (lv_at hl 1 rfl) ?_
  refine va_get (ci := 3) (C := RX4) (T := TX4) (N := 10) (v := .int (X 5 2)) cx.1 cx.2.1 cx.2.2.2.2 iw_X4_middleBegin_X4 cx.2.2.2.1 hK hP 0 rfl rfl 2 (by decide) (cx.2.2.2.2 _ fw_X4_middleBegin_f25) (fun _ h9 => h9) rfl dX4_middleBegin_8 ?_
  refine RO.callV (As := [.int (X 5 2)]) (rest := []) cx (c_X4_columnWidth l G ad X (X 5 2)) gX4_middleBegin_X4_columnWidth rfl hd_X4_columnWidth ⟨Nat.le_of_ble_eq_true rfl, Nat.le_of_ble_eq_true rfl⟩ (va_recv hK hP (ci := 3) (q0 := 0) rfl rfl) hK hN hP rfl hl.1 rfl (Nat.le_of_ble_eq_true rfl) dX4_middleBegin_11 ⟨Nat.zero_le _, Nat.zero_le _⟩ ?_
  refine lv_aload_n cx.1 cx.2.1 dX4_middleBegin_14 rfl (lv_at hl 1 rfl) ?_
  refine lv_iload_n cx.1 cx.2.1 dX4_middleBegin_15 rfl (lv_at hl 2 rfl) ?_
  refine RO.callV (As := [.int (nI k)]) (rest := [.int (xCw X (X 5 2))]) cx (c_X4_unitsOf l G ad X k hok (by omega)) gX4_middleBegin_X4_unitsOf rfl hd_X4_unitsOf ⟨Nat.le_of_ble_eq_true rfl, Nat.le_of_ble_eq_true rfl⟩ (va_recv hK hP (ci := 3) (q0 := 0) rfl rfl) hK hN hP rfl hl.1 rfl (Nat.le_of_ble_eq_true rfl) dX4_middleBegin_16 ⟨Nat.zero_le _, Nat.zero_le _⟩ ?_
  refine lv_iload_n cx.1 cx.2.1 dX4_middleBegin_19 rfl (lv_at hl 3 rfl) ?_
  refine lv_imul (x := xU X k) (y := z) cx.1 cx.2.1 dX4_middleBegin_20 ?_
  refine lv_isub (x := xCw X (X 5 2)) (y := (xU X k) * z) cx.1 cx.2.1 dX4_middleBegin_21 ?_
  refine lv_istore (lv' := [(4, .int ((xCw X (X 5 2)) - ((xU X k) * z))), (3, .int (xCb X k)), (0, .ref (ad 0)), (1, .int (nI k)), (2, .int z)]) cx.1 cx.2.1 dX4_middleBegin_22 hl (by decide) rfl (fun ls hl => ?_)
  refine lv_iload_n cx.1 cx.2.1 dX4_middleBegin_24 rfl (lv_at hl 1 rfl) ?_
  refine lv_iload_n cx.1 cx.2.1 dX4_middleBegin_25 rfl (lv_at hl 1 rfl) ?_
  refine lv_iload cx.1 cx.2.1 dX4_middleBegin_26 (lv_at hl 0 rfl) ?_
  refine lv_iconst (v := nI 2) cx.1 cx.2.1 dX4_middleBegin_28 (by decide) ?_
  refine RO.callS (As := [.int ((xCw X (X 5 2)) - ((xU X k) * z)), .int 2]) (rest := [.int (xCb X k), .int (xCb X k)]) cx (c_J9_floorDiv_7cf53 l G ((xCw X (X 5 2)) - ((xU X k) * z)) 2 (by decide)) gX4_middleBegin_J9_floorDiv_7cf53 rfl hd_J9_floorDiv_7cf53 ⟨Nat.le_of_ble_eq_true rfl, Nat.le_of_ble_eq_true rfl⟩ hK hN va_P.nil rfl hl.1 rfl (Nat.le_of_ble_eq_true rfl) dX4_middleBegin_29 ⟨Nat.zero_le _, Nat.zero_le _⟩ ?_
  refine lv_iadd (x := xCb X k) (y := fdiv ((xCw X (X 5 2)) - ((xU X k) * z)) 2) cx.1 cx.2.1 dX4_middleBegin_32 ?_
  refine va_mmax (x := xCb X k) (y := (xCb X k) + (fdiv ((xCw X (X 5 2)) - ((xU X k) * z)) 2)) cx.1 cx.2.1 (cx.2.2.1.trans hl.1.symm) cx.2.2.2.1 (cx.2.2.2.2 _ fw_X4_middleBegin_m102) (cx.2.2.2.2 _ fw_X4_middleBegin_smax) (cx.2.2.2.2 _ fw_X4_middleBegin_iMath) (cx.2.2.2.2 _ fw_X4_middleBegin_cmax) (Nat.le_of_ble_eq_true rfl) (Nat.le_of_ble_eq_true rfl) (Nat.zero_le _) (Nat.zero_le _) dX4_middleBegin_33 ?_
  refine nv_eqi (y := imax (xCb X k) ((xCb X k) + (fdiv ((xCw X (X 5 2)) - ((xU X k) * z)) 2))) rfl ?_
  exact RO.ret (x := imax (xCb X k) ((xCb X k) + (fdiv ((xCw X (X 5 2)) - ((xU X k) * z)) 2))) cx hr hlocks dX4_middleBegin_36 rfl

theorem iw_X4_indexAt_X4 : ∀ w ∈ wsX40, w ∈ wsX4_indexAt := fun _ h => List.mem_cons_of_mem _ (List.mem_append_left _ (List.mem_append_left _ (List.mem_append_right _ h)))
theorem fw_X4_indexAt_f12 : (Cond.fieldLink RX4 12 "NamePlate$State" "names" "LNamePlate$Names;") ∈ wsX4_indexAt := List.mem_of_getElem? (i := 1) rfl
set_option maxHeartbeats 4000000 in
set_option maxRecDepth 100000 in
theorem c_X4_indexAt (l : Launch) (G : GG) (ad : Nat → Nat) (X : XS) (k : Nat) (x : Int32) (z : Int32) (hok : okX X) (hk : k < 20) : RO l yX4_indexAt wsX4_indexAt 5 121 G (stC G ad X) [.ref (ad 0), .int (nI k), .int x, .int z] (xIx X k x z) := by
  refine RO.start (cc := cX4_indexAt) (maxL := 7) (ret := (some .int)) (by decide) rfl (Nat.le_of_ble_eq_true rfl) ?_
  intro p e s m below meth c ls cx hr hlocks hK hN hP hl
  have cx : CallFix p m c cX4_indexAt 7 s [.ref (ad 0), .int (nI k), .int x, .int z].toArray wsX4_indexAt RX4 := cx
  have hl : lv_has ls 7 [(0, .ref (ad 0)), (1, .int (nI k)), (2, .int x), (3, .int z)] := hl
  have hl16 := hok.l16 hk
  refine lv_aload_n cx.1 cx.2.1 dX4_indexAt_0 rfl (lv_at hl 0 rfl) ?_
  refine lv_iload_n cx.1 cx.2.1 dX4_indexAt_1 rfl (lv_at hl 1 rfl) ?_
  refine lv_iload_n cx.1 cx.2.1 dX4_indexAt_2 rfl (lv_at hl 3 rfl) ?_
  refine RO.callV (As := [.int (nI k), .int z]) (rest := []) cx (c_X4_beginOf l G ad X k z hok (by omega)) gX4_indexAt_X4_beginOf rfl hd_X4_beginOf ⟨Nat.le_of_ble_eq_true rfl, Nat.le_of_ble_eq_true rfl⟩ (va_recv hK hP (ci := 3) (q0 := 0) rfl rfl) hK hN hP rfl hl.1 rfl (Nat.le_of_ble_eq_true rfl) dX4_indexAt_3 ⟨Nat.zero_le _, Nat.zero_le _⟩ ?_
  refine lv_istore (lv' := [(4, .int (xBeg X k z)), (0, .ref (ad 0)), (1, .int (nI k)), (2, .int x), (3, .int z)]) cx.1 cx.2.1 dX4_indexAt_6 hl (by decide) rfl (fun ls hl => ?_)
  refine lv_iconst (v := nI 0) cx.1 cx.2.1 dX4_indexAt_8 (by decide) ?_
  refine lv_istore (lv' := [(5, .int (nI 0)), (4, .int (xBeg X k z)), (0, .ref (ad 0)), (1, .int (nI k)), (2, .int x), (3, .int z)]) cx.1 cx.2.1 dX4_indexAt_9 hl (by decide) rfl (fun ls hl => ?_)
  have lp11 : ∀ (r : Nat) (i : Nat) (hr9 : xl X k - i < r) (hi : i ≤ xl X k) (hno : ∀ j, j < i → xHt X k x z j = false) (ls : Array Slot), lv_has ls 7 [(0, .ref (ad 0)), (1, .int (nI k)), (2, .int x), (3, .int z), (4, .int (xFr X k z i)), (5, .int (nI i))] → W p l e ({ frames := 5, cells := 0, slots := 0, locals := 121 } : Room) s m [.ref (ad 0), .int (nI k), .int x, .int z].toArray below meth c s.heap [] 0 0 (MQ below (vp_Si (fun r => r = (xIx X k x z))) [.ref (ad 0), .int (nI k), .int x, .int z].toArray s 0 0 (fun _ => False)) (F0 m 11 ls []) := by
    intro r
    induction r with
    | zero => intro i hr9; exact absurd hr9 (Nat.not_lt_zero _)
    | succ r ih11 =>
      intro i hr9 hi hno ls hl
      refine lv_iload cx.1 cx.2.1 dX4_indexAt_11 (lv_at hl 5 rfl) ?_
      refine lv_aload_n cx.1 cx.2.1 dX4_indexAt_13 rfl (lv_at hl 0 rfl) ?_
      refine va_get (ci := 3) (C := RX4) (T := TX4) (N := 10) (v := .ref (ad 1)) cx.1 cx.2.1 cx.2.2.2.2 iw_X4_indexAt_X4 cx.2.2.2.1 hK hP 0 rfl rfl 0 (by decide) (cx.2.2.2.2 _ fw_X4_indexAt_f12) (fun _ h9 => h9) rfl dX4_indexAt_14 ?_
      refine lv_iload_n cx.1 cx.2.1 dX4_indexAt_17 rfl (lv_at hl 1 rfl) ?_
      refine RO.callV (As := [.int (nI k)]) (rest := [.int (nI i)]) cx (c_X1_lengthOf l G ad X k hok (by omega)) gX4_indexAt_X1_lengthOf rfl hd_X1_lengthOf ⟨Nat.le_of_ble_eq_true rfl, Nat.le_of_ble_eq_true rfl⟩ (va_recv hK hP (ci := 1) (q0 := 1) rfl rfl) hK hN hP rfl hl.1 rfl (Nat.le_of_ble_eq_true rfl) dX4_indexAt_18 ⟨Nat.zero_le _, Nat.zero_le _⟩ ?_
      refine nv_icmp_ge (a := i) (b := xl X k) (tgt := 79) cx dX4_indexAt_21 (by decide) (by omega) (by omega) (fun c_1 => ?_) (fun c_1 => ?_)
      · refine lv_iconst (v := (-1)) cx.1 cx.2.1 dX4_indexAt_79 (by decide) ?_
        exact RO.ret (x := (-1)) cx hr hlocks dX4_indexAt_80 (by have e : fstN (xHt X k x z) (xl X k) = i := fstN_eq hi hno (fun q => absurd q (by omega)); rw [xIx, e, if_neg (by omega)])
      · refine lv_iload cx.1 cx.2.1 dX4_indexAt_24 (lv_at hl 4 rfl) ?_
        refine lv_aload_n cx.1 cx.2.1 dX4_indexAt_26 rfl (lv_at hl 0 rfl) ?_
        refine va_get (ci := 3) (C := RX4) (T := TX4) (N := 10) (v := .ref (ad 1)) cx.1 cx.2.1 cx.2.2.2.2 iw_X4_indexAt_X4 cx.2.2.2.1 hK hP 0 rfl rfl 0 (by decide) (cx.2.2.2.2 _ fw_X4_indexAt_f12) (fun _ h9 => h9) rfl dX4_indexAt_27 ?_
        refine lv_iload_n cx.1 cx.2.1 dX4_indexAt_30 rfl (lv_at hl 1 rfl) ?_
        refine lv_iload cx.1 cx.2.1 dX4_indexAt_31 (lv_at hl 5 rfl) ?_
        refine RO.callV (As := [.int (nI k), .int (nI i)]) (rest := [.int (xFr X k z i)]) cx (c_X1_codeAt l G ad X k i hok (by omega)) gX4_indexAt_X1_codeAt rfl hd_X1_codeAt ⟨Nat.le_of_ble_eq_true rfl, Nat.le_of_ble_eq_true rfl⟩ (va_recv hK hP (ci := 1) (q0 := 1) rfl rfl) hK hN hP rfl hl.1 rfl (Nat.le_of_ble_eq_true rfl) dX4_indexAt_33 ⟨Nat.zero_le _, Nat.zero_le _⟩ ?_
        refine RO.callS (As := [.int (xSg X k i)]) (rest := [.int (xFr X k z i)]) cx (c_X3_width l G (xSg X k i)) gX4_indexAt_X3_width rfl hd_X3_width ⟨Nat.le_of_ble_eq_true rfl, Nat.le_of_ble_eq_true rfl⟩ hK hN va_P.nil rfl hl.1 rfl (Nat.le_of_ble_eq_true rfl) dX4_indexAt_36 ⟨Nat.zero_le _, Nat.zero_le _⟩ ?_
        refine lv_iload_n cx.1 cx.2.1 dX4_indexAt_39 rfl (lv_at hl 3 rfl) ?_
        refine lv_imul (x := xW (xSg X k i)) (y := z) cx.1 cx.2.1 dX4_indexAt_40 ?_
        refine lv_iadd (x := xFr X k z i) (y := (xW (xSg X k i)) * z) cx.1 cx.2.1 dX4_indexAt_41 ?_
        refine lv_istore (lv' := [(6, .int ((xFr X k z i) + ((xW (xSg X k i)) * z))), (0, .ref (ad 0)), (1, .int (nI k)), (2, .int x), (3, .int z), (4, .int (xFr X k z i)), (5, .int (nI i))]) cx.1 cx.2.1 dX4_indexAt_42 hl (by decide) rfl (fun ls hl => ?_)
        refine lv_iload_n cx.1 cx.2.1 dX4_indexAt_44 rfl (lv_at hl 3 rfl) ?_
        refine lv_iload cx.1 cx.2.1 dX4_indexAt_45 (lv_at hl 5 rfl) ?_
        refine lv_icmp_lt (x := x) (y := xFr X k z i) (tgt := 59) cx.1 cx.2.1 dX4_indexAt_47 (by decide) (fun c_2 => ?_) (fun c_2 => ?_)
        · refine lv_iload cx.1 cx.2.1 dX4_indexAt_59 (lv_at hl 0 rfl) ?_
          refine lv_aload_n cx.1 cx.2.1 dX4_indexAt_61 rfl (lv_at hl 1 rfl) ?_
          refine lv_iload_n cx.1 cx.2.1 dX4_indexAt_62 rfl (lv_at hl 2 rfl) ?_
          refine lv_iload cx.1 cx.2.1 dX4_indexAt_63 (lv_at hl 6 rfl) ?_
          refine RO.callV (As := [.int (nI k), .int (nI i)]) (rest := [.int ((xFr X k z i) + ((xW (xSg X k i)) * z))]) cx (c_X4_spaceBehind l G ad X k i hok (by omega) (by omega)) gX4_indexAt_X4_spaceBehind rfl hd_X4_spaceBehind ⟨Nat.le_of_ble_eq_true rfl, Nat.le_of_ble_eq_true rfl⟩ (va_recv hK hP (ci := 3) (q0 := 0) rfl rfl) hK hN hP rfl hl.1 rfl (Nat.le_of_ble_eq_true rfl) dX4_indexAt_65 ⟨Nat.zero_le _, Nat.zero_le _⟩ ?_
          refine lv_iload_n cx.1 cx.2.1 dX4_indexAt_68 rfl (lv_at hl 4 rfl) ?_
          refine lv_imul (x := xSp X k i) (y := z) cx.1 cx.2.1 dX4_indexAt_69 ?_
          refine lv_iadd (x := (xFr X k z i) + ((xW (xSg X k i)) * z)) (y := (xSp X k i) * z) cx.1 cx.2.1 dX4_indexAt_70 ?_
          refine lv_istore (lv' := [(4, .int (((xFr X k z i) + ((xW (xSg X k i)) * z)) + ((xSp X k i) * z))), (6, .int ((xFr X k z i) + ((xW (xSg X k i)) * z))), (0, .ref (ad 0)), (1, .int (nI k)), (2, .int x), (3, .int z), (5, .int (nI i))]) cx.1 cx.2.1 dX4_indexAt_71 hl (by decide) rfl (fun ls hl => ?_)
          refine lv_iinc (v := nI (i + 1)) (lv' := [(5, .int (nI (i + 1))), (4, .int (((xFr X k z i) + ((xW (xSg X k i)) * z)) + ((xSp X k i) * z))), (6, .int ((xFr X k z i) + ((xW (xSg X k i)) * z))), (0, .ref (ad 0)), (1, .int (nI k)), (2, .int x), (3, .int z)]) cx.1 cx.2.1 dX4_indexAt_73 hl (k := 6) rfl (show nI i + Int32.ofInt 1 = nI (i + 1) from nI_add i 1) (by decide) rfl (fun ls hl => ?_)
          refine lv_goto (tgt := 11) cx.1 cx.2.1 dX4_indexAt_76 (by decide) ?_
          have hno2 : ∀ j, j < i + 1 → xHt X k x z j = false := lt_s hno (by simp [xHt, c_1, c_2])
          exact ih11 (i + 1) (by omega) (by omega) hno2 ls (lv_sub hl [3, 4, 5, 6, 1, 0] rfl)
        · refine lv_iload_n cx.1 cx.2.1 dX4_indexAt_50 rfl (lv_at hl 3 rfl) ?_
          refine lv_iload cx.1 cx.2.1 dX4_indexAt_51 (lv_at hl 0 rfl) ?_
          refine lv_icmp_ge (x := x) (y := (xFr X k z i) + ((xW (xSg X k i)) * z)) (tgt := 59) cx.1 cx.2.1 dX4_indexAt_53 (by decide) (fun c_3 => ?_) (fun c_3 => ?_)
          · refine lv_iload cx.1 cx.2.1 dX4_indexAt_59 (lv_at hl 0 rfl) ?_
            refine lv_aload_n cx.1 cx.2.1 dX4_indexAt_61 rfl (lv_at hl 1 rfl) ?_
            refine lv_iload_n cx.1 cx.2.1 dX4_indexAt_62 rfl (lv_at hl 2 rfl) ?_
            refine lv_iload cx.1 cx.2.1 dX4_indexAt_63 (lv_at hl 6 rfl) ?_
            refine RO.callV (As := [.int (nI k), .int (nI i)]) (rest := [.int ((xFr X k z i) + ((xW (xSg X k i)) * z))]) cx (c_X4_spaceBehind l G ad X k i hok (by omega) (by omega)) gX4_indexAt_X4_spaceBehind rfl hd_X4_spaceBehind ⟨Nat.le_of_ble_eq_true rfl, Nat.le_of_ble_eq_true rfl⟩ (va_recv hK hP (ci := 3) (q0 := 0) rfl rfl) hK hN hP rfl hl.1 rfl (Nat.le_of_ble_eq_true rfl) dX4_indexAt_65 ⟨Nat.zero_le _, Nat.zero_le _⟩ ?_
            refine lv_iload_n cx.1 cx.2.1 dX4_indexAt_68 rfl (lv_at hl 4 rfl) ?_
            refine lv_imul (x := xSp X k i) (y := z) cx.1 cx.2.1 dX4_indexAt_69 ?_
            refine lv_iadd (x := (xFr X k z i) + ((xW (xSg X k i)) * z)) (y := (xSp X k i) * z) cx.1 cx.2.1 dX4_indexAt_70 ?_
            refine lv_istore (lv' := [(4, .int (((xFr X k z i) + ((xW (xSg X k i)) * z)) + ((xSp X k i) * z))), (6, .int ((xFr X k z i) + ((xW (xSg X k i)) * z))), (0, .ref (ad 0)), (1, .int (nI k)), (2, .int x), (3, .int z), (5, .int (nI i))]) cx.1 cx.2.1 dX4_indexAt_71 hl (by decide) rfl (fun ls hl => ?_)
            refine lv_iinc (v := nI (i + 1)) (lv' := [(5, .int (nI (i + 1))), (4, .int (((xFr X k z i) + ((xW (xSg X k i)) * z)) + ((xSp X k i) * z))), (6, .int ((xFr X k z i) + ((xW (xSg X k i)) * z))), (0, .ref (ad 0)), (1, .int (nI k)), (2, .int x), (3, .int z)]) cx.1 cx.2.1 dX4_indexAt_73 hl (k := 6) rfl (show nI i + Int32.ofInt 1 = nI (i + 1) from nI_add i 1) (by decide) rfl (fun ls hl => ?_)
            refine lv_goto (tgt := 11) cx.1 cx.2.1 dX4_indexAt_76 (by decide) ?_
            have hno2 : ∀ j, j < i + 1 → xHt X k x z j = false := lt_s hno (by simp [xHt, c_1, c_2, c_3])
            exact ih11 (i + 1) (by omega) (by omega) hno2 ls (lv_sub hl [3, 4, 5, 6, 1, 0] rfl)
          · refine lv_iload cx.1 cx.2.1 dX4_indexAt_56 (lv_at hl 6 rfl) ?_
            exact RO.ret (x := nI i) cx hr hlocks dX4_indexAt_58 (by have e : fstN (xHt X k x z) (xl X k) = i := fstN_eq hi hno (fun _ => by simp [xHt, c_1, c_2, c_3]); rw [xIx, e, if_pos (by omega)])
  exact lp11 _ 0 (Nat.lt_succ_self _) (by omega) (fun j hj => absurd hj (Nat.not_lt_zero _)) ls (lv_sub hl [2, 3, 4, 5, 1, 0] rfl)

theorem iw_X4_hasPair_X4 : ∀ w ∈ wsX40, w ∈ wsX4_hasPair := fun _ h => List.mem_cons_of_mem _ (List.mem_append_left _ (List.mem_append_right _ h))
theorem fw_X4_hasPair_f12 : (Cond.fieldLink RX4 12 "NamePlate$State" "names" "LNamePlate$Names;") ∈ wsX4_hasPair := List.mem_of_getElem? (i := 1) rfl
set_option maxHeartbeats 4000000 in
set_option maxRecDepth 100000 in
theorem c_X4_hasPair (l : Launch) (G : GG) (ad : Nat → Nat) (X : XS) (k : Nat) (a : Int32) (b : Int32) (hok : okX X) (hk : k < 20) : RO l yX4_hasPair wsX4_hasPair 1 23 G (stC G ad X) [.ref (ad 0), .int (nI k), .int a, .int b] (b2i (xHp X k a b)) := by
  refine RO.start (cc := cX4_hasPair) (maxL := 5) (ret := (some .boolean)) (by decide) rfl (Nat.le_of_ble_eq_true rfl) ?_
  intro p e s m below meth c ls cx hr hlocks hK hN hP hl
  have cx : CallFix p m c cX4_hasPair 5 s [.ref (ad 0), .int (nI k), .int a, .int b].toArray wsX4_hasPair RX4 := cx
  have hl : lv_has ls 5 [(0, .ref (ad 0)), (1, .int (nI k)), (2, .int a), (3, .int b)] := hl
  have hl16 := hok.l16 hk
  refine lv_iconst (v := nI 1) cx.1 cx.2.1 dX4_hasPair_0 (by decide) ?_
  refine lv_istore (lv' := [(4, .int (nI 1)), (0, .ref (ad 0)), (1, .int (nI k)), (2, .int a), (3, .int b)]) cx.1 cx.2.1 dX4_hasPair_1 hl (by decide) rfl (fun ls hl => ?_)
  have lp3 : ∀ (r : Nat) (i : Nat) (hr9 : xl X k - i < r) (hi : i ≤ xl X k) (hno : ∀ j, j < i → xCq X a b k j = false) (ls : Array Slot), lv_has ls 5 [(4, .int (nI (i + 1))), (0, .ref (ad 0)), (1, .int (nI k)), (2, .int a), (3, .int b)] → W p l e ({ frames := 1, cells := 0, slots := 0, locals := 23 } : Room) s m [.ref (ad 0), .int (nI k), .int a, .int b].toArray below meth c s.heap [] 0 0 (MQ below (vp_Si (fun r => r = (b2i (xHp X k a b)))) [.ref (ad 0), .int (nI k), .int a, .int b].toArray s 0 0 (fun _ => False)) (F0 m 3 ls []) := by
    intro r
    induction r with
    | zero => intro i hr9; exact absurd hr9 (Nat.not_lt_zero _)
    | succ r ih3 =>
      intro i hr9 hi hno ls hl
      refine lv_iload cx.1 cx.2.1 dX4_hasPair_3 (lv_at hl 0 rfl) ?_
      refine lv_aload_n cx.1 cx.2.1 dX4_hasPair_5 rfl (lv_at hl 1 rfl) ?_
      refine va_get (ci := 3) (C := RX4) (T := TX4) (N := 10) (v := .ref (ad 1)) cx.1 cx.2.1 cx.2.2.2.2 iw_X4_hasPair_X4 cx.2.2.2.1 hK hP 0 rfl rfl 0 (by decide) (cx.2.2.2.2 _ fw_X4_hasPair_f12) (fun _ h9 => h9) rfl dX4_hasPair_6 ?_
      refine lv_iload_n cx.1 cx.2.1 dX4_hasPair_9 rfl (lv_at hl 2 rfl) ?_
      refine RO.callV (As := [.int (nI k)]) (rest := [.int (nI (i + 1))]) cx (c_X1_lengthOf l G ad X k hok (by omega)) gX4_hasPair_X1_lengthOf rfl hd_X1_lengthOf ⟨Nat.le_of_ble_eq_true rfl, Nat.le_of_ble_eq_true rfl⟩ (va_recv hK hP (ci := 1) (q0 := 1) rfl rfl) hK hN hP rfl hl.1 rfl (Nat.le_of_ble_eq_true rfl) dX4_hasPair_10 ⟨Nat.zero_le _, Nat.zero_le _⟩ ?_
      refine nv_icmp_ge (a := i + 1) (b := xl X k) (tgt := 54) cx dX4_hasPair_13 (by decide) (by omega) (by omega) (fun c_1 => ?_) (fun c_1 => ?_)
      · refine lv_iconst (v := nI 0) cx.1 cx.2.1 dX4_hasPair_54 (by decide) ?_
        exact RO.retz (b := xHp X k a b) (x := 0) cx hr hlocks dX4_hasPair_55 (by rw [xHp, decide_eq_false (fun q => by have q2 := fstN_yes _ _ q; rw [hno _ (by omega)] at q2; cases q2)]; rfl) rfl
      · refine lv_aload_n cx.1 cx.2.1 dX4_hasPair_16 rfl (lv_at hl 1 rfl) ?_
        refine va_get (ci := 3) (C := RX4) (T := TX4) (N := 10) (v := .ref (ad 1)) cx.1 cx.2.1 cx.2.2.2.2 iw_X4_hasPair_X4 cx.2.2.2.1 hK hP 0 rfl rfl 0 (by decide) (cx.2.2.2.2 _ fw_X4_hasPair_f12) (fun _ h9 => h9) rfl dX4_hasPair_17 ?_
        refine lv_iload_n cx.1 cx.2.1 dX4_hasPair_20 rfl (lv_at hl 2 rfl) ?_
        refine lv_iload cx.1 cx.2.1 dX4_hasPair_21 (lv_at hl 0 rfl) ?_
        refine lv_iconst (v := nI 1) cx.1 cx.2.1 dX4_hasPair_23 (by decide) ?_
        refine nv_isub cx (a := i + 1) (b := 1) (by omega) dX4_hasPair_24 ?_
        refine nv_eqi (y := nI i) (by rw [Nat.add_sub_cancel]) ?_
        refine RO.callV (As := [.int (nI k), .int (nI i)]) (rest := []) cx (c_X1_codeAt l G ad X k i hok (by omega)) gX4_hasPair_X1_codeAt rfl hd_X1_codeAt ⟨Nat.le_of_ble_eq_true rfl, Nat.le_of_ble_eq_true rfl⟩ (va_recv hK hP (ci := 1) (q0 := 1) rfl rfl) hK hN hP rfl hl.1 rfl (Nat.le_of_ble_eq_true rfl) dX4_hasPair_25 ⟨Nat.zero_le _, Nat.zero_le _⟩ ?_
        refine lv_iload_n cx.1 cx.2.1 dX4_hasPair_28 rfl (lv_at hl 3 rfl) ?_
        refine lv_icmp_ne (x := xSg X k i) (y := a) (tgt := 48) cx.1 cx.2.1 dX4_hasPair_29 (by decide) (fun c_2 => ?_) (fun c_2 => ?_)
        · refine lv_iinc (v := nI (i + 1 + 1)) (lv' := [(4, .int (nI (i + 1 + 1))), (0, .ref (ad 0)), (1, .int (nI k)), (2, .int a), (3, .int b)]) cx.1 cx.2.1 dX4_hasPair_48 hl (k := 0) rfl (show nI (i + 1) + Int32.ofInt 1 = nI (i + 1 + 1) from nI_add (i + 1) 1) (by decide) rfl (fun ls hl => ?_)
          refine lv_goto (tgt := 3) cx.1 cx.2.1 dX4_hasPair_51 (by decide) ?_
          have hno2 : ∀ j, j < i + 1 → xCq X a b k j = false := lt_s hno (by simp [xCq, c_1, c_2])
          exact ih3 (i + 1) (by omega) (by omega) hno2 ls (lv_sub hl [0, 1, 2, 3, 4] rfl)
        · refine lv_aload_n cx.1 cx.2.1 dX4_hasPair_32 rfl (lv_at hl 1 rfl) ?_
          refine va_get (ci := 3) (C := RX4) (T := TX4) (N := 10) (v := .ref (ad 1)) cx.1 cx.2.1 cx.2.2.2.2 iw_X4_hasPair_X4 cx.2.2.2.1 hK hP 0 rfl rfl 0 (by decide) (cx.2.2.2.2 _ fw_X4_hasPair_f12) (fun _ h9 => h9) rfl dX4_hasPair_33 ?_
          refine lv_iload_n cx.1 cx.2.1 dX4_hasPair_36 rfl (lv_at hl 2 rfl) ?_
          refine lv_iload cx.1 cx.2.1 dX4_hasPair_37 (lv_at hl 0 rfl) ?_
          refine RO.callV (As := [.int (nI k), .int (nI (i + 1))]) (rest := []) cx (c_X1_codeAt l G ad X k (i + 1) hok (by omega)) gX4_hasPair_X1_codeAt rfl hd_X1_codeAt ⟨Nat.le_of_ble_eq_true rfl, Nat.le_of_ble_eq_true rfl⟩ (va_recv hK hP (ci := 1) (q0 := 1) rfl rfl) hK hN hP rfl hl.1 rfl (Nat.le_of_ble_eq_true rfl) dX4_hasPair_39 ⟨Nat.zero_le _, Nat.zero_le _⟩ ?_
          refine lv_iload_n cx.1 cx.2.1 dX4_hasPair_42 rfl (lv_at hl 4 rfl) ?_
          refine lv_icmp_ne (x := xSg X k (i + 1)) (y := b) (tgt := 48) cx.1 cx.2.1 dX4_hasPair_43 (by decide) (fun c_3 => ?_) (fun c_3 => ?_)
          · refine lv_iinc (v := nI (i + 1 + 1)) (lv' := [(4, .int (nI (i + 1 + 1))), (0, .ref (ad 0)), (1, .int (nI k)), (2, .int a), (3, .int b)]) cx.1 cx.2.1 dX4_hasPair_48 hl (k := 0) rfl (show nI (i + 1) + Int32.ofInt 1 = nI (i + 1 + 1) from nI_add (i + 1) 1) (by decide) rfl (fun ls hl => ?_)
            refine lv_goto (tgt := 3) cx.1 cx.2.1 dX4_hasPair_51 (by decide) ?_
            have hno2 : ∀ j, j < i + 1 → xCq X a b k j = false := lt_s hno (by simp [xCq, c_1, c_2, c_3])
            exact ih3 (i + 1) (by omega) (by omega) hno2 ls (lv_sub hl [0, 1, 2, 3, 4] rfl)
          · refine lv_iconst (v := nI 1) cx.1 cx.2.1 dX4_hasPair_46 (by decide) ?_
            exact RO.retz (b := xHp X k a b) (x := 1) cx hr hlocks dX4_hasPair_47 (by have e : fstN (xCq X a b k) (xl X k - 1) = i := fstN_eq (by omega) hno (fun _ => by simp [xCq, c_1, c_2, c_3]); rw [xHp, e, decide_eq_true (by omega)]; rfl) rfl
  exact lp3 _ 0 (Nat.lt_succ_self _) (by omega) (fun j hj => absurd hj (Nat.not_lt_zero _)) ls (lv_sub hl [0, 1, 2, 3, 4] rfl)

theorem iw_X4_isEngravedPair_X4 : ∀ w ∈ wsX40, w ∈ wsX4_isEngravedPair := fun _ h => List.mem_cons_of_mem _ (List.mem_append_left _ (List.mem_append_right _ h))
theorem fw_X4_isEngravedPair_f12 : (Cond.fieldLink RX4 12 "NamePlate$State" "names" "LNamePlate$Names;") ∈ wsX4_isEngravedPair := List.mem_of_getElem? (i := 1) rfl
theorem iw_X4_isEngravedPair_X1 : ∀ w ∈ wsX10, w ∈ wsX4_isEngravedPair := fun _ h => List.mem_cons_of_mem _ (List.mem_append_right _ h)
set_option maxHeartbeats 4000000 in
set_option maxRecDepth 100000 in
theorem c_X4_isEngravedPair (l : Launch) (G : GG) (ad : Nat → Nat) (X : XS) (a : Int32) (b : Int32) (hok : okX X) : RO l yX4_isEngravedPair wsX4_isEngravedPair 2 47 G (stC G ad X) [.ref (ad 0), .int a, .int b] (b2i (xCut X a b)) := by
  refine RO.start (cc := cX4_isEngravedPair) (maxL := 4) (ret := (some .boolean)) (by decide) rfl (Nat.le_of_ble_eq_true rfl) ?_
  intro p e s m below meth c ls cx hr hlocks hK hN hP hl
  have cx : CallFix p m c cX4_isEngravedPair 4 s [.ref (ad 0), .int a, .int b].toArray wsX4_isEngravedPair RX4 := cx
  have hl : lv_has ls 4 [(0, .ref (ad 0)), (1, .int a), (2, .int b)] := hl
  have hn20 := hok.n20
  refine lv_iconst (v := nI 0) cx.1 cx.2.1 dX4_isEngravedPair_0 (by decide) ?_
  refine lv_istore_n (lv' := [(3, .int (nI 0)), (0, .ref (ad 0)), (1, .int a), (2, .int b)]) cx.1 cx.2.1 dX4_isEngravedPair_1 rfl hl (by decide) rfl (fun ls hl => ?_)
  have lp2 : ∀ (r : Nat) (i : Nat) (hr9 : xn X - i < r) (hi : i ≤ xn X) (hno : ∀ j, j < i → xCk X a b j = false) (ls : Array Slot), lv_has ls 4 [(3, .int (nI i)), (0, .ref (ad 0)), (1, .int a), (2, .int b)] → W p l e ({ frames := 2, cells := 0, slots := 0, locals := 47 } : Room) s m [.ref (ad 0), .int a, .int b].toArray below meth c s.heap [] 0 0 (MQ below (vp_Si (fun r => r = (b2i (xCut X a b)))) [.ref (ad 0), .int a, .int b].toArray s 0 0 (fun _ => False)) (F0 m 2 ls []) := by
    intro r
    induction r with
    | zero => intro i hr9; exact absurd hr9 (Nat.not_lt_zero _)
    | succ r ih2 =>
      intro i hr9 hi hno ls hl
      refine lv_iload_n cx.1 cx.2.1 dX4_isEngravedPair_2 rfl (lv_at hl 0 rfl) ?_
      refine lv_aload_n cx.1 cx.2.1 dX4_isEngravedPair_3 rfl (lv_at hl 1 rfl) ?_
      refine va_get (ci := 3) (C := RX4) (T := TX4) (N := 10) (v := .ref (ad 1)) cx.1 cx.2.1 cx.2.2.2.2 iw_X4_isEngravedPair_X4 cx.2.2.2.1 hK hP 0 rfl rfl 0 (by decide) (cx.2.2.2.2 _ fw_X4_isEngravedPair_f12) (fun _ h9 => h9) rfl dX4_isEngravedPair_4 ?_
      refine va_getN (ci := 1) (C := RX1) (T := TX1) (N := 3) (v := .int (X 5 0)) cx.1 cx.2.1 cx.2.2.2.2 iw_X4_isEngravedPair_X1 cx.2.2.2.1 hK hP 1 rfl rfl 2 (by decide) (va_Nw.use rfl (hN.at 12 rfl)) (fun _ h9 => h9) rfl dX4_isEngravedPair_7 ?_
      refine nv_eqi (y := nI (xn X)) hok.n ?_
      refine nv_icmp_ge (a := i) (b := xn X) (tgt := 39) cx dX4_isEngravedPair_10 (by decide) (by omega) (by omega) (fun c_1 => ?_) (fun c_1 => ?_)
      · refine lv_iconst (v := nI 0) cx.1 cx.2.1 dX4_isEngravedPair_39 (by decide) ?_
        exact RO.retz (b := xCut X a b) (x := 0) cx hr hlocks dX4_isEngravedPair_40 (by have e : fstN (xCk X a b) (xn X) = i := fstN_eq hi hno (fun q => absurd q (by omega)); rw [xCut, e, decide_eq_false (by omega)]; rfl) rfl
      · refine lv_aload_n cx.1 cx.2.1 dX4_isEngravedPair_13 rfl (lv_at hl 1 rfl) ?_
        refine lv_iload_n cx.1 cx.2.1 dX4_isEngravedPair_14 rfl (lv_at hl 0 rfl) ?_
        refine RO.callV (As := [.int (nI i)]) (rest := []) cx (c_X4_isEngraved l G ad X i) gX4_isEngravedPair_X4_isEngraved rfl hd_X4_isEngraved ⟨Nat.le_of_ble_eq_true rfl, Nat.le_of_ble_eq_true rfl⟩ (va_recv hK hP (ci := 3) (q0 := 0) rfl rfl) hK hN hP rfl hl.1 rfl (Nat.le_of_ble_eq_true rfl) dX4_isEngravedPair_15 ⟨Nat.zero_le _, Nat.zero_le _⟩ ?_
        refine nv_ifz (b := xEb X i) (tgt := 33) cx dX4_isEngravedPair_18 (by decide) (fun c_2 => ?_) (fun c_2 => ?_)
        · refine lv_iinc (v := nI (i + 1)) (lv' := [(3, .int (nI (i + 1))), (0, .ref (ad 0)), (1, .int a), (2, .int b)]) cx.1 cx.2.1 dX4_isEngravedPair_33 hl (k := 0) rfl (show nI i + Int32.ofInt 1 = nI (i + 1) from nI_add i 1) (by decide) rfl (fun ls hl => ?_)
          refine lv_goto (tgt := 2) cx.1 cx.2.1 dX4_isEngravedPair_36 (by decide) ?_
          have hno2 : ∀ j, j < i + 1 → xCk X a b j = false := lt_s hno (by simp [xCk, c_1, c_2])
          exact ih2 (i + 1) (by omega) (by omega) hno2 ls (lv_sub hl [0, 1, 2, 3] rfl)
        · refine lv_aload_n cx.1 cx.2.1 dX4_isEngravedPair_21 rfl (lv_at hl 1 rfl) ?_
          refine lv_iload_n cx.1 cx.2.1 dX4_isEngravedPair_22 rfl (lv_at hl 0 rfl) ?_
          refine lv_iload_n cx.1 cx.2.1 dX4_isEngravedPair_23 rfl (lv_at hl 2 rfl) ?_
          refine lv_iload_n cx.1 cx.2.1 dX4_isEngravedPair_24 rfl (lv_at hl 3 rfl) ?_
          refine RO.callV (As := [.int (nI i), .int a, .int b]) (rest := []) cx (c_X4_hasPair l G ad X i a b hok (by omega)) gX4_isEngravedPair_X4_hasPair rfl hd_X4_hasPair ⟨Nat.le_of_ble_eq_true rfl, Nat.le_of_ble_eq_true rfl⟩ (va_recv hK hP (ci := 3) (q0 := 0) rfl rfl) hK hN hP rfl hl.1 rfl (Nat.le_of_ble_eq_true rfl) dX4_isEngravedPair_25 ⟨Nat.zero_le _, Nat.zero_le _⟩ ?_
          refine nv_ifz (b := xHp X i a b) (tgt := 33) cx dX4_isEngravedPair_28 (by decide) (fun c_3 => ?_) (fun c_3 => ?_)
          · refine lv_iinc (v := nI (i + 1)) (lv' := [(3, .int (nI (i + 1))), (0, .ref (ad 0)), (1, .int a), (2, .int b)]) cx.1 cx.2.1 dX4_isEngravedPair_33 hl (k := 0) rfl (show nI i + Int32.ofInt 1 = nI (i + 1) from nI_add i 1) (by decide) rfl (fun ls hl => ?_)
            refine lv_goto (tgt := 2) cx.1 cx.2.1 dX4_isEngravedPair_36 (by decide) ?_
            have hno2 : ∀ j, j < i + 1 → xCk X a b j = false := lt_s hno (by simp [xCk, c_1, c_2, c_3])
            exact ih2 (i + 1) (by omega) (by omega) hno2 ls (lv_sub hl [0, 1, 2, 3] rfl)
          · refine lv_iconst (v := nI 1) cx.1 cx.2.1 dX4_isEngravedPair_31 (by decide) ?_
            exact RO.retz (b := xCut X a b) (x := 1) cx hr hlocks dX4_isEngravedPair_32 (by have e : fstN (xCk X a b) (xn X) = i := fstN_eq hi hno (fun _ => by simp [xCk, c_1, c_2, c_3]); rw [xCut, e, decide_eq_true (by omega)]; rfl) rfl
  exact lp2 _ 0 (Nat.lt_succ_self _) (by omega) (fun j hj => absurd hj (Nat.not_lt_zero _)) ls (lv_sub hl [0, 1, 2, 3] rfl)

theorem iw_X4_engravableSeats_X4 : ∀ w ∈ wsX40, w ∈ wsX4_engravableSeats := fun _ h => List.mem_cons_of_mem _ (List.mem_append_left _ (List.mem_append_left _ (List.mem_append_right _ h)))
theorem fw_X4_engravableSeats_f12 : (Cond.fieldLink RX4 12 "NamePlate$State" "names" "LNamePlate$Names;") ∈ wsX4_engravableSeats := List.mem_of_getElem? (i := 1) rfl
theorem iw_X4_engravableSeats_X1 : ∀ w ∈ wsX10, w ∈ wsX4_engravableSeats := fun _ h => List.mem_cons_of_mem _ (List.mem_append_left _ (List.mem_append_right _ h))
set_option maxHeartbeats 4000000 in
set_option maxRecDepth 100000 in
theorem c_X4_engravableSeats (l : Launch) (G : GG) (ad : Nat → Nat) (X : XS) (z : Int32) (hok : okX X) : RO l yX4_engravableSeats wsX4_engravableSeats 5 115 G (stC G ad X) [.ref (ad 0), .int z] (xEs X z (xn X)) := by
  refine RO.start (cc := cX4_engravableSeats) (maxL := 4) (ret := (some .int)) (by decide) rfl (Nat.le_of_ble_eq_true rfl) ?_
  intro p e s m below meth c ls cx hr hlocks hK hN hP hl
  have cx : CallFix p m c cX4_engravableSeats 4 s [.ref (ad 0), .int z].toArray wsX4_engravableSeats RX4 := cx
  have hl : lv_has ls 4 [(0, .ref (ad 0)), (1, .int z)] := hl
  have hn20 := hok.n20
  refine lv_iconst (v := nI 0) cx.1 cx.2.1 dX4_engravableSeats_0 (by decide) ?_
  refine lv_istore_n (lv' := [(2, .int (nI 0)), (0, .ref (ad 0)), (1, .int z)]) cx.1 cx.2.1 dX4_engravableSeats_1 rfl hl (by decide) rfl (fun ls hl => ?_)
  refine lv_iconst (v := nI 0) cx.1 cx.2.1 dX4_engravableSeats_2 (by decide) ?_
  refine lv_istore_n (lv' := [(3, .int (nI 0)), (2, .int (nI 0)), (0, .ref (ad 0)), (1, .int z)]) cx.1 cx.2.1 dX4_engravableSeats_3 rfl hl (by decide) rfl (fun ls hl => ?_)
  have lp4 : ∀ (r : Nat) (i : Nat) (hr9 : xn X - i < r) (hi : i ≤ xn X) (ls : Array Slot), lv_has ls 4 [(0, .ref (ad 0)), (1, .int z), (2, .int (xEs X z i)), (3, .int (nI i))] → W p l e ({ frames := 5, cells := 0, slots := 0, locals := 115 } : Room) s m [.ref (ad 0), .int z].toArray below meth c s.heap [] 0 0 (MQ below (vp_Si (fun r => r = (xEs X z (xn X)))) [.ref (ad 0), .int z].toArray s 0 0 (fun _ => False)) (F0 m 4 ls []) := by
    intro r
    induction r with
    | zero => intro i hr9; exact absurd hr9 (Nat.not_lt_zero _)
    | succ r ih4 =>
      intro i hr9 hi ls hl
      refine lv_iload_n cx.1 cx.2.1 dX4_engravableSeats_4 rfl (lv_at hl 3 rfl) ?_
      refine lv_aload_n cx.1 cx.2.1 dX4_engravableSeats_5 rfl (lv_at hl 0 rfl) ?_
      refine va_get (ci := 3) (C := RX4) (T := TX4) (N := 10) (v := .ref (ad 1)) cx.1 cx.2.1 cx.2.2.2.2 iw_X4_engravableSeats_X4 cx.2.2.2.1 hK hP 0 rfl rfl 0 (by decide) (cx.2.2.2.2 _ fw_X4_engravableSeats_f12) (fun _ h9 => h9) rfl dX4_engravableSeats_6 ?_
      refine va_getN (ci := 1) (C := RX1) (T := TX1) (N := 3) (v := .int (X 5 0)) cx.1 cx.2.1 cx.2.2.2.2 iw_X4_engravableSeats_X1 cx.2.2.2.1 hK hP 1 rfl rfl 2 (by decide) (va_Nw.use rfl (hN.at 12 rfl)) (fun _ h9 => h9) rfl dX4_engravableSeats_9 ?_
      refine nv_eqi (y := nI (xn X)) hok.n ?_
      refine nv_icmp_ge (a := i) (b := xn X) (tgt := 44) cx dX4_engravableSeats_12 (by decide) (by omega) (by omega) (fun c_1 => ?_) (fun c_1 => ?_)
      · refine lv_iload_n cx.1 cx.2.1 dX4_engravableSeats_44 rfl (lv_at hl 2 rfl) ?_
        exact RO.ret (x := xEs X z i) cx hr hlocks dX4_engravableSeats_45 (by have e : i = xn X := (by omega); rw [e])
      · refine lv_aload_n cx.1 cx.2.1 dX4_engravableSeats_15 rfl (lv_at hl 0 rfl) ?_
        refine lv_iload_n cx.1 cx.2.1 dX4_engravableSeats_16 rfl (lv_at hl 3 rfl) ?_
        refine RO.callV (As := [.int (nI i)]) (rest := []) cx (c_X4_isEngraved l G ad X i) gX4_engravableSeats_X4_isEngraved rfl hd_X4_isEngraved ⟨Nat.le_of_ble_eq_true rfl, Nat.le_of_ble_eq_true rfl⟩ (va_recv hK hP (ci := 3) (q0 := 0) rfl rfl) hK hN hP rfl hl.1 rfl (Nat.le_of_ble_eq_true rfl) dX4_engravableSeats_17 ⟨Nat.zero_le _, Nat.zero_le _⟩ ?_
        refine nv_ifnz (b := xEb X i) (tgt := 38) cx dX4_engravableSeats_20 (by decide) (fun c_2 => ?_) (fun c_2 => ?_)
        · refine lv_iinc (v := nI (i + 1)) (lv' := [(3, .int (nI (i + 1))), (0, .ref (ad 0)), (1, .int z), (2, .int (xEs X z i))]) cx.1 cx.2.1 dX4_engravableSeats_38 hl (k := 3) rfl (show nI i + Int32.ofInt 1 = nI (i + 1) from nI_add i 1) (by decide) rfl (fun ls hl => ?_)
          refine lv_goto (tgt := 4) cx.1 cx.2.1 dX4_engravableSeats_41 (by decide) ?_
          have e2 : xEs X z (i + 1) = xEs X z i := by simp [xEs, c_1, c_2]
          exact ih4 (i + 1) (by omega) (by omega) ls (lv_sub hl [1, 2, 3, 0] (by rw [e2]; rfl))
        · refine lv_aload_n cx.1 cx.2.1 dX4_engravableSeats_23 rfl (lv_at hl 0 rfl) ?_
          refine lv_iload_n cx.1 cx.2.1 dX4_engravableSeats_24 rfl (lv_at hl 3 rfl) ?_
          refine lv_iload_n cx.1 cx.2.1 dX4_engravableSeats_25 rfl (lv_at hl 1 rfl) ?_
          refine RO.callV (As := [.int (nI i), .int z]) (rest := []) cx (c_X4_fits l G ad X i z hok (by omega)) gX4_engravableSeats_X4_fits rfl hd_X4_fits ⟨Nat.le_of_ble_eq_true rfl, Nat.le_of_ble_eq_true rfl⟩ (va_recv hK hP (ci := 3) (q0 := 0) rfl rfl) hK hN hP rfl hl.1 rfl (Nat.le_of_ble_eq_true rfl) dX4_engravableSeats_26 ⟨Nat.zero_le _, Nat.zero_le _⟩ ?_
          refine nv_ifz (b := xFits X i z) (tgt := 38) cx dX4_engravableSeats_29 (by decide) (fun c_3 => ?_) (fun c_3 => ?_)
          · refine lv_iinc (v := nI (i + 1)) (lv' := [(3, .int (nI (i + 1))), (0, .ref (ad 0)), (1, .int z), (2, .int (xEs X z i))]) cx.1 cx.2.1 dX4_engravableSeats_38 hl (k := 3) rfl (show nI i + Int32.ofInt 1 = nI (i + 1) from nI_add i 1) (by decide) rfl (fun ls hl => ?_)
            refine lv_goto (tgt := 4) cx.1 cx.2.1 dX4_engravableSeats_41 (by decide) ?_
            have e2 : xEs X z (i + 1) = xEs X z i := by simp [xEs, c_1, c_2, c_3]
            exact ih4 (i + 1) (by omega) (by omega) ls (lv_sub hl [1, 2, 3, 0] (by rw [e2]; rfl))
          · refine lv_iload_n cx.1 cx.2.1 dX4_engravableSeats_32 rfl (lv_at hl 2 rfl) ?_
            refine lv_iconst (v := nI 1) cx.1 cx.2.1 dX4_engravableSeats_33 (by decide) ?_
            refine lv_iload_n cx.1 cx.2.1 dX4_engravableSeats_34 rfl (lv_at hl 3 rfl) ?_
            refine lv_ishl (x := 1) (y := nI i) cx.1 cx.2.1 dX4_engravableSeats_35 ?_
            refine lv_ior (x := xEs X z i) (y := 1 <<< ((nI i) &&& 31)) cx.1 cx.2.1 dX4_engravableSeats_36 ?_
            refine lv_istore_n (lv' := [(2, .int ((xEs X z i) ||| (1 <<< ((nI i) &&& 31)))), (0, .ref (ad 0)), (1, .int z), (3, .int (nI i))]) cx.1 cx.2.1 dX4_engravableSeats_37 rfl hl (by decide) rfl (fun ls hl => ?_)
            refine lv_iinc (v := nI (i + 1)) (lv' := [(3, .int (nI (i + 1))), (2, .int ((xEs X z i) ||| (1 <<< ((nI i) &&& 31)))), (0, .ref (ad 0)), (1, .int z)]) cx.1 cx.2.1 dX4_engravableSeats_38 hl (k := 3) rfl (show nI i + Int32.ofInt 1 = nI (i + 1) from nI_add i 1) (by decide) rfl (fun ls hl => ?_)
            refine lv_goto (tgt := 4) cx.1 cx.2.1 dX4_engravableSeats_41 (by decide) ?_
            have e2 : xEs X z (i + 1) = (xEs X z i) ||| (1 <<< ((nI i) &&& 31)) := by simp [xEs, c_1, c_2, c_3]
            exact ih4 (i + 1) (by omega) (by omega) ls (lv_sub hl [2, 3, 1, 0] (by rw [e2]; rfl))
  exact lp4 _ 0 (Nat.lt_succ_self _) (by omega) ls (lv_sub hl [2, 3, 1, 0] rfl)
