/-! ===== x2: laid by program ===== -/
theorem iw_X5_isFull_X5 : ∀ w ∈ wsX50, w ∈ wsX5_isFull := fun _ h => List.mem_cons_of_mem _ (List.mem_append_right _ h)
theorem fw_X5_isFull_f15 : (Cond.fieldLink RX5 15 "NamePlate$Text" "length" "I") ∈ wsX5_isFull := List.mem_of_getElem? (i := 1) rfl
set_option maxHeartbeats 4000000 in
set_option maxRecDepth 100000 in
theorem c_X5_isFull (l : Launch) (G : GG) (a : Nat → Nat) (AD : Nat → Nat → Nat) (Y : Nat → XS)  (hot : okT Y) : RO l yX5_isFull wsX5_isFull 0 0 G (plC G a AD Y) [.ref (a 3)] (b2i (decide (60 ≤ yt Y))) := by
  refine RO.start (cc := cX5_isFull) (maxL := 1) (ret := (some .boolean)) (by decide) rfl (Nat.le_of_ble_eq_true rfl) ?_
  intro p e s m below meth c ls cx hr hlocks hK hN hP hl
  have cx : CallFix p m c cX5_isFull 1 s [.ref (a 3)].toArray wsX5_isFull RX5 := cx
  have hl : lv_has ls 1 [(0, .ref (a 3))] := hl
  have hn60 := hot.n60
  refine lv_aload_n cx.1 cx.2.1 dX5_isFull_0 rfl (lv_at hl 0 rfl) ?_
  refine va_get (ci := 4) (C := RX5) (T := TX5) (N := 2) (v := .int (Y 7 5 2)) cx.1 cx.2.1 cx.2.2.2.2 iw_X5_isFull_X5 cx.2.2.2.1 hK hP 3 rfl rfl 1 (by decide) (cx.2.2.2.2 _ fw_X5_isFull_f15) (fun _ h9 => h9) rfl dX5_isFull_1 ?_
  refine nv_eqi (y := nI (yt Y)) hot.n ?_
  refine lv_bipush (v := nI 60) cx.1 cx.2.1 dX5_isFull_4 (by decide) ?_
  refine nv_icmp_lt (a := yt Y) (b := 60) (tgt := 13) cx dX5_isFull_6 (by decide) (by omega) (by omega) (fun c_1 => ?_) (fun c_1 => ?_)
  · refine lv_iconst (v := nI 0) cx.1 cx.2.1 dX5_isFull_13 (by decide) ?_
    exact RO.retz (b := decide (60 ≤ yt Y)) (x := 0) cx hr hlocks dX5_isFull_14 (by simp [b2i, Nat.not_le.mpr, c_1]) rfl
  · refine lv_iconst (v := nI 1) cx.1 cx.2.1 dX5_isFull_9 (by decide) ?_
    refine lv_goto (tgt := 14) cx.1 cx.2.1 dX5_isFull_10 (by decide) ?_
    exact RO.retz (b := decide (60 ≤ yt Y)) (x := 1) cx hr hlocks dX5_isFull_14 (by simp [b2i, Nat.not_le.mpr, c_1]) rfl

theorem iw_X5_characterAt_X5 : ∀ w ∈ wsX50, w ∈ wsX5_characterAt := fun _ h => List.mem_cons_of_mem _ (List.mem_append_right _ h)
theorem fw_X5_characterAt_f9 : (Cond.fieldLink RX5 9 "NamePlate$Text" "characters" "[C") ∈ wsX5_characterAt := List.mem_of_getElem? (i := 1) rfl
set_option maxHeartbeats 4000000 in
set_option maxRecDepth 100000 in
theorem c_X5_characterAt (l : Launch) (G : GG) (a : Nat → Nat) (AD : Nat → Nat → Nat) (Y : Nat → XS) (j : Nat) (hot : okT Y) (hj : j < 60) : RO l yX5_characterAt wsX5_characterAt 0 0 G (plC G a AD Y) [.ref (a 3), .int (nI j)] (Y 7 0 j) := by
  refine RO.start (cc := cX5_characterAt) (maxL := 2) (ret := (some .char)) (by decide) rfl (Nat.le_of_ble_eq_true rfl) ?_
  intro p e s m below meth c ls cx hr hlocks hK hN hP hl
  have cx : CallFix p m c cX5_characterAt 2 s [.ref (a 3), .int (nI j)].toArray wsX5_characterAt RX5 := cx
  have hl : lv_has ls 2 [(0, .ref (a 3)), (1, .int (nI j))] := hl
  refine lv_iload_n cx.1 cx.2.1 dX5_characterAt_0 rfl (lv_at hl 1 rfl) ?_
  refine nv_if_lt (a := j) cx dX5_characterAt_1 (tgt := 22) (by decide) (by omega) ?_
  refine lv_iload_n cx.1 cx.2.1 dX5_characterAt_4 rfl (lv_at hl 1 rfl) ?_
  refine lv_aload_n cx.1 cx.2.1 dX5_characterAt_5 rfl (lv_at hl 0 rfl) ?_
  refine va_get (ci := 4) (C := RX5) (T := TX5) (N := 2) (v := .ref (a 4)) cx.1 cx.2.1 cx.2.2.2.2 iw_X5_characterAt_X5 cx.2.2.2.1 hK hP 3 rfl rfl 0 (by decide) (cx.2.2.2.2 _ fw_X5_characterAt_f9) (fun _ h9 => h9) rfl dX5_characterAt_6 ?_
  refine va_alen (v := nI 60) cx.1 cx.2.1 hK hP 4 0 rfl rfl rfl dX5_characterAt_9 ?_
  refine nv_icmp_ge (a := j) (b := 60) (tgt := 22) cx dX5_characterAt_10 (by decide) (by omega) (by omega) (fun c_1 => ?_) (fun c_1 => ?_)
  · exact absurd c_1 (by omega)
  · refine lv_aload_n cx.1 cx.2.1 dX5_characterAt_13 rfl (lv_at hl 0 rfl) ?_
    refine va_get (ci := 4) (C := RX5) (T := TX5) (N := 2) (v := .ref (a 4)) cx.1 cx.2.1 cx.2.2.2.2 iw_X5_characterAt_X5 cx.2.2.2.1 hK hP 3 rfl rfl 0 (by decide) (cx.2.2.2.2 _ fw_X5_characterAt_f9) (fun _ h9 => h9) rfl dX5_characterAt_14 ?_
    refine lv_iload_n cx.1 cx.2.1 dX5_characterAt_17 rfl (lv_at hl 1 rfl) ?_
    refine nv_cald (j := j) cx hK hP 4 0 rfl rfl (by omega) (by decide) dX5_characterAt_18 ?_
    refine lv_goto (tgt := 24) cx.1 cx.2.1 dX5_characterAt_19 (by decide) ?_
    exact RO.retc (x := Y 7 0 j) cx hr hlocks dX5_characterAt_24 (hot.c hj).1 rfl

theorem iw_X5_namesInIt_X5 : ∀ w ∈ wsX50, w ∈ wsX5_namesInIt := fun _ h => List.mem_cons_of_mem _ (List.mem_append_right _ h)
theorem fw_X5_namesInIt_f15 : (Cond.fieldLink RX5 15 "NamePlate$Text" "length" "I") ∈ wsX5_namesInIt := List.mem_of_getElem? (i := 1) rfl
set_option maxHeartbeats 4000000 in
set_option maxRecDepth 100000 in
theorem c_X5_namesInIt (l : Launch) (G : GG) (a : Nat → Nat) (AD : Nat → Nat → Nat) (Y : Nat → XS)  (hot : okT Y) : RO l yX5_namesInIt wsX5_namesInIt 1 21 G (plC G a AD Y) [.ref (a 3)] (nI (xNmN Y (yt Y))) := by
  refine RO.start (cc := cX5_namesInIt) (maxL := 3) (ret := (some .int)) (by decide) rfl (Nat.le_of_ble_eq_true rfl) ?_
  intro p e s m below meth c ls cx hr hlocks hK hN hP hl
  have cx : CallFix p m c cX5_namesInIt 3 s [.ref (a 3)].toArray wsX5_namesInIt RX5 := cx
  have hl : lv_has ls 3 [(0, .ref (a 3))] := hl
  have hn60 := hot.n60
  have hle := xNmN_le Y
  refine lv_iconst (v := nI 1) cx.1 cx.2.1 dX5_namesInIt_0 (by decide) ?_
  refine lv_istore_n (lv' := [(1, .int (nI 1)), (0, .ref (a 3))]) cx.1 cx.2.1 dX5_namesInIt_1 rfl hl (by decide) rfl (fun ls hl => ?_)
  refine lv_iconst (v := nI 0) cx.1 cx.2.1 dX5_namesInIt_2 (by decide) ?_
  refine lv_istore_n (lv' := [(2, .int (nI 0)), (1, .int (nI 1)), (0, .ref (a 3))]) cx.1 cx.2.1 dX5_namesInIt_3 rfl hl (by decide) rfl (fun ls hl => ?_)
  have lp4 : ∀ (r : Nat) (i : Nat) (hr9 : yt Y - i < r) (hi : i ≤ yt Y) (ls : Array Slot), lv_has ls 3 [(0, .ref (a 3)), (1, .int (nI (xNmN Y i))), (2, .int (nI i))] → W p l e ({ frames := 1, cells := 0, slots := 0, locals := 21 } : Room) s m [.ref (a 3)].toArray below meth c s.heap [] 0 0 (MQ below (vp_Si (fun r => r = (nI (xNmN Y (yt Y))))) [.ref (a 3)].toArray s 0 0 (fun _ => False)) (F0 m 4 ls []) := by
    intro r
    induction r with
    | zero => intro i hr9; exact absurd hr9 (Nat.not_lt_zero _)
    | succ r ih4 =>
      intro i hr9 hi ls hl
      refine lv_iload_n cx.1 cx.2.1 dX5_namesInIt_4 rfl (lv_at hl 2 rfl) ?_
      refine lv_aload_n cx.1 cx.2.1 dX5_namesInIt_5 rfl (lv_at hl 0 rfl) ?_
      refine va_get (ci := 4) (C := RX5) (T := TX5) (N := 2) (v := .int (Y 7 5 2)) cx.1 cx.2.1 cx.2.2.2.2 iw_X5_namesInIt_X5 cx.2.2.2.1 hK hP 3 rfl rfl 1 (by decide) (cx.2.2.2.2 _ fw_X5_namesInIt_f15) (fun _ h9 => h9) rfl dX5_namesInIt_6 ?_
      refine nv_eqi (y := nI (yt Y)) hot.n ?_
      refine nv_icmp_ge (a := i) (b := yt Y) (tgt := 31) cx dX5_namesInIt_9 (by decide) (by omega) (by omega) (fun c_1 => ?_) (fun c_1 => ?_)
      · refine lv_iload_n cx.1 cx.2.1 dX5_namesInIt_31 rfl (lv_at hl 1 rfl) ?_
        exact RO.ret (x := nI (xNmN Y i)) cx hr hlocks dX5_namesInIt_32 (by have e : i = yt Y := (by omega); rw [e])
      · refine lv_aload_n cx.1 cx.2.1 dX5_namesInIt_12 rfl (lv_at hl 0 rfl) ?_
        refine lv_iload_n cx.1 cx.2.1 dX5_namesInIt_13 rfl (lv_at hl 2 rfl) ?_
        refine RO.callV (As := [.int (nI i)]) (rest := []) cx (c_X5_characterAt l G a AD Y i hot (by omega)) gX5_namesInIt_X5_characterAt rfl hd_X5_characterAt ⟨Nat.le_of_ble_eq_true rfl, Nat.le_of_ble_eq_true rfl⟩ (va_recv hK hP (ci := 4) (q0 := 3) rfl rfl) hK hN hP rfl hl.1 rfl (Nat.le_of_ble_eq_true rfl) dX5_namesInIt_14 ⟨Nat.zero_le _, Nat.zero_le _⟩ ?_
        refine lv_bipush (v := nI 59) cx.1 cx.2.1 dX5_namesInIt_17 (by decide) ?_
        refine lv_icmp_ne (x := Y 7 0 i) (y := 59) (tgt := 25) cx.1 cx.2.1 dX5_namesInIt_19 (by decide) (fun c_2 => ?_) (fun c_2 => ?_)
        · refine lv_iinc (v := nI (i + 1)) (lv' := [(2, .int (nI (i + 1))), (0, .ref (a 3)), (1, .int (nI (xNmN Y i)))]) cx.1 cx.2.1 dX5_namesInIt_25 hl (k := 2) rfl (show nI i + Int32.ofInt 1 = nI (i + 1) from nI_add i 1) (by decide) rfl (fun ls hl => ?_)
          refine lv_goto (tgt := 4) cx.1 cx.2.1 dX5_namesInIt_28 (by decide) ?_
          have e1 : nI (xNmN Y (i + 1)) = nI (xNmN Y i) := by simp [xNmN, c_1, c_2]
          exact ih4 (i + 1) (by omega) (by omega) ls (lv_sub hl [1, 2, 0] (by rw [e1]; rfl))
        · refine lv_iinc (v := nI (xNmN Y i + 1)) (lv' := [(1, .int (nI (xNmN Y i + 1))), (0, .ref (a 3)), (2, .int (nI i))]) cx.1 cx.2.1 dX5_namesInIt_22 hl (k := 1) rfl (show nI (xNmN Y i) + Int32.ofInt 1 = nI (xNmN Y i + 1) from nI_add (xNmN Y i) 1) (by decide) rfl (fun ls hl => ?_)
          refine lv_iinc (v := nI (i + 1)) (lv' := [(2, .int (nI (i + 1))), (1, .int (nI (xNmN Y i + 1))), (0, .ref (a 3))]) cx.1 cx.2.1 dX5_namesInIt_25 hl (k := 2) rfl (show nI i + Int32.ofInt 1 = nI (i + 1) from nI_add i 1) (by decide) rfl (fun ls hl => ?_)
          refine lv_goto (tgt := 4) cx.1 cx.2.1 dX5_namesInIt_28 (by decide) ?_
          have e1 : nI (xNmN Y (i + 1)) = nI (xNmN Y i + 1) := by simp [xNmN, c_1, c_2]
          exact ih4 (i + 1) (by omega) (by omega) ls (lv_sub hl [2, 1, 0] (by rw [e1]; rfl))
  exact lp4 _ 0 (Nat.lt_succ_self _) (by omega) ls (lv_sub hl [2, 1, 0] rfl)

set_option maxHeartbeats 4000000 in
set_option maxRecDepth 100000 in
theorem c_X5_isAllowed (l : Launch) (G : GG)  (c0 : Int32) (sg : Nat) (bl : Bool) (hs : sg < 2147483648) : RO l yX5_isAllowed wsX5_isAllowed 1 20 G ([]) [.int c0, .int (nI sg), .int (b2i bl)] (b2i (xAl c0 sg bl)) := by
  refine RO.start (cc := cX5_isAllowed) (maxL := 3) (ret := (some .boolean)) (by decide) rfl (Nat.le_of_ble_eq_true rfl) ?_
  intro p e s m below meth c ls cx hr hlocks hK hN hP hl
  have cx : CallFix p m c cX5_isAllowed 3 s [.int c0, .int (nI sg), .int (b2i bl)].toArray wsX5_isAllowed RX5 := cx
  have hl : lv_has ls 3 [(0, .int c0), (1, .int (nI sg)), (2, .int (b2i bl))] := hl
  refine lv_iload_n cx.1 cx.2.1 dX5_isAllowed_0 rfl (lv_at hl 0 rfl) ?_
  refine lv_bipush (v := nI 59) cx.1 cx.2.1 dX5_isAllowed_1 (by decide) ?_
  refine lv_icmp_ne (x := c0) (y := 59) (tgt := 8) cx.1 cx.2.1 dX5_isAllowed_3 (by decide) (fun c_1 => ?_) (fun c_1 => ?_)
  · refine lv_iload_n cx.1 cx.2.1 dX5_isAllowed_8 rfl (lv_at hl 1 rfl) ?_
    refine lv_bipush (v := nI 16) cx.1 cx.2.1 dX5_isAllowed_9 (by decide) ?_
    refine nv_icmp_lt (a := sg) (b := 16) (tgt := 16) cx dX5_isAllowed_11 (by decide) (by omega) (by omega) (fun c_2 => ?_) (fun c_2 => ?_)
    · refine lv_iload_n cx.1 cx.2.1 dX5_isAllowed_16 rfl (lv_at hl 0 rfl) ?_
      refine RO.callS (As := [.int c0]) (rest := []) cx (c_X3_isLetter l G c0) gX5_isAllowed_X3_isLetter rfl hd_X3_isLetter ⟨Nat.le_of_ble_eq_true rfl, Nat.le_of_ble_eq_true rfl⟩ hK hN va_P.nil rfl hl.1 rfl (Nat.le_of_ble_eq_true rfl) dX5_isAllowed_17 ⟨Nat.zero_le _, Nat.zero_le _⟩ ?_
      refine nv_ifnz (b := xL c0) (tgt := 34) cx dX5_isAllowed_20 (by decide) (fun c_3 => ?_) (fun c_3 => ?_)
      · refine lv_iconst (v := nI 1) cx.1 cx.2.1 dX5_isAllowed_34 (by decide) ?_
        refine lv_goto (tgt := 39) cx.1 cx.2.1 dX5_isAllowed_35 (by decide) ?_
        exact RO.retz (b := xAl c0 sg bl) (x := 1) cx hr hlocks dX5_isAllowed_39 (by simp [xAl, b2i, Nat.not_le.mpr, c_1, c_2, c_3]) rfl
      · refine lv_iload_n cx.1 cx.2.1 dX5_isAllowed_23 rfl (lv_at hl 2 rfl) ?_
        refine nv_ifz (b := bl) (tgt := 38) cx dX5_isAllowed_24 (by decide) (fun c_4 => ?_) (fun c_4 => ?_)
        · refine lv_iconst (v := nI 0) cx.1 cx.2.1 dX5_isAllowed_38 (by decide) ?_
          exact RO.retz (b := xAl c0 sg bl) (x := 0) cx hr hlocks dX5_isAllowed_39 (by simp [xAl, b2i, Nat.not_le.mpr, c_1, c_2, c_3, c_4]) rfl
        · refine lv_iload_n cx.1 cx.2.1 dX5_isAllowed_27 rfl (lv_at hl 0 rfl) ?_
          refine RO.callS (As := [.int c0]) (rest := []) cx (c_X3_isMark l G c0) gX5_isAllowed_X3_isMark rfl hd_X3_isMark ⟨Nat.le_of_ble_eq_true rfl, Nat.le_of_ble_eq_true rfl⟩ hK hN va_P.nil rfl hl.1 rfl (Nat.le_of_ble_eq_true rfl) dX5_isAllowed_28 ⟨Nat.zero_le _, Nat.zero_le _⟩ ?_
          refine nv_ifz (b := xMk c0) (tgt := 38) cx dX5_isAllowed_31 (by decide) (fun c_5 => ?_) (fun c_5 => ?_)
          · refine lv_iconst (v := nI 0) cx.1 cx.2.1 dX5_isAllowed_38 (by decide) ?_
            exact RO.retz (b := xAl c0 sg bl) (x := 0) cx hr hlocks dX5_isAllowed_39 (by simp [xAl, b2i, Nat.not_le.mpr, c_1, c_2, c_3, c_4, c_5]) rfl
          · refine lv_iconst (v := nI 1) cx.1 cx.2.1 dX5_isAllowed_34 (by decide) ?_
            refine lv_goto (tgt := 39) cx.1 cx.2.1 dX5_isAllowed_35 (by decide) ?_
            exact RO.retz (b := xAl c0 sg bl) (x := 1) cx hr hlocks dX5_isAllowed_39 (by simp [xAl, b2i, Nat.not_le.mpr, c_1, c_2, c_3, c_4, c_5]) rfl
    · refine lv_iconst (v := nI 0) cx.1 cx.2.1 dX5_isAllowed_14 (by decide) ?_
      exact RO.retz (b := xAl c0 sg bl) (x := 0) cx hr hlocks dX5_isAllowed_15 (by simp [xAl, b2i, Nat.not_le.mpr, c_1, c_2]) rfl
  · refine lv_iload_n cx.1 cx.2.1 dX5_isAllowed_6 rfl (lv_at hl 2 rfl) ?_
    exact RO.retz (b := xAl c0 sg bl) (x := b2i bl) cx hr hlocks dX5_isAllowed_7 (by simp [xAl, b2i, Nat.not_le.mpr, c_1]) rfl

theorem iw_X5_fault_X5 : ∀ w ∈ wsX50, w ∈ wsX5_fault := fun _ h => List.mem_cons_of_mem _ (List.mem_append_right _ h)
theorem fw_X5_fault_f15 : (Cond.fieldLink RX5 15 "NamePlate$Text" "length" "I") ∈ wsX5_fault := List.mem_of_getElem? (i := 1) rfl
set_option maxHeartbeats 4000000 in
set_option maxRecDepth 100000 in
theorem c_X5_fault (l : Launch) (G : GG) (a : Nat → Nat) (AD : Nat → Nat → Nat) (Y : Nat → XS)  (hot : okT Y) : RO l yX5_fault wsX5_fault 2 42 G (plC G a AD Y) [.ref (a 3)] (xFault Y) := by
  refine RO.start (cc := cX5_fault) (maxL := 5) (ret := (some .int)) (by decide) rfl (Nat.le_of_ble_eq_true rfl) ?_
  intro p e s m below meth c ls cx hr hlocks hK hN hP hl
  have cx : CallFix p m c cX5_fault 5 s [.ref (a 3)].toArray wsX5_fault RX5 := cx
  have hl : lv_has ls 5 [(0, .ref (a 3))] := hl
  have hn60 := hot.n60
  have hle := xSc_le Y
  refine lv_iconst (v := nI 0) cx.1 cx.2.1 dX5_fault_0 (by decide) ?_
  refine lv_istore_n (lv' := [(1, .int (nI 0)), (0, .ref (a 3))]) cx.1 cx.2.1 dX5_fault_1 rfl hl (by decide) rfl (fun ls hl => ?_)
  refine lv_iconst (v := nI 0) cx.1 cx.2.1 dX5_fault_2 (by decide) ?_
  refine lv_istore_n (lv' := [(2, .int (nI 0)), (1, .int (nI 0)), (0, .ref (a 3))]) cx.1 cx.2.1 dX5_fault_3 rfl hl (by decide) rfl (fun ls hl => ?_)
  refine lv_iconst (v := nI 0) cx.1 cx.2.1 dX5_fault_4 (by decide) ?_
  refine lv_istore_n (lv' := [(3, .int (nI 0)), (2, .int (nI 0)), (1, .int (nI 0)), (0, .ref (a 3))]) cx.1 cx.2.1 dX5_fault_5 rfl hl (by decide) rfl (fun ls hl => ?_)
  have lp6 : ∀ (r : Nat) (i : Nat) (hr9 : yt Y - i < r) (hi : i ≤ yt Y) (hno : ∀ j, j < i → xBad Y j = false) (ls : Array Slot), lv_has ls 5 [(0, .ref (a 3)), (1, .int (nI ((xSc Y i).1))), (2, .int (b2i ((xSc Y i).2))), (3, .int (nI i))] → W p l e ({ frames := 2, cells := 0, slots := 0, locals := 42 } : Room) s m [.ref (a 3)].toArray below meth c s.heap [] 0 0 (MQ below (vp_Si (fun r => r = (xFault Y))) [.ref (a 3)].toArray s 0 0 (fun _ => False)) (F0 m 6 ls []) := by
    intro r
    induction r with
    | zero => intro i hr9; exact absurd hr9 (Nat.not_lt_zero _)
    | succ r ih6 =>
      intro i hr9 hi hno ls hl
      have hlei := hle i
      refine lv_iload_n cx.1 cx.2.1 dX5_fault_6 rfl (lv_at hl 3 rfl) ?_
      refine lv_aload_n cx.1 cx.2.1 dX5_fault_7 rfl (lv_at hl 0 rfl) ?_
      refine va_get (ci := 4) (C := RX5) (T := TX5) (N := 2) (v := .int (Y 7 5 2)) cx.1 cx.2.1 cx.2.2.2.2 iw_X5_fault_X5 cx.2.2.2.1 hK hP 3 rfl rfl 1 (by decide) (cx.2.2.2.2 _ fw_X5_fault_f15) (fun _ h9 => h9) rfl dX5_fault_8 ?_
      refine nv_eqi (y := nI (yt Y)) hot.n ?_
      refine nv_icmp_ge (a := i) (b := yt Y) (tgt := 60) cx dX5_fault_11 (by decide) (by omega) (by omega) (fun c_1 => ?_) (fun c_1 => ?_)
      · refine lv_iload_n cx.1 cx.2.1 dX5_fault_60 rfl (lv_at hl 2 rfl) ?_
        refine nv_ifz (b := (xSc Y i).2) (tgt := 68) cx dX5_fault_61 (by decide) (fun c_2 => ?_) (fun c_2 => ?_)
        · refine lv_aload_n cx.1 cx.2.1 dX5_fault_68 rfl (lv_at hl 0 rfl) ?_
          refine va_get (ci := 4) (C := RX5) (T := TX5) (N := 2) (v := .int (Y 7 5 2)) cx.1 cx.2.1 cx.2.2.2.2 iw_X5_fault_X5 cx.2.2.2.1 hK hP 3 rfl rfl 1 (by decide) (cx.2.2.2.2 _ fw_X5_fault_f15) (fun _ h9 => h9) rfl dX5_fault_69 ?_
          refine nv_eqi (y := nI (yt Y)) hot.n ?_
          exact RO.ret (x := nI (yt Y)) cx hr hlocks dX5_fault_72 (by have e : xFl Y = i := fstN_eq hi hno (fun q => absurd q (by omega)); have e2 : i = yt Y := (by omega); rw [xFault, e, if_neg (by omega), ← e2]; simp [c_1, c_2])
        · refine lv_iconst (v := (-1)) cx.1 cx.2.1 dX5_fault_64 (by decide) ?_
          refine lv_goto (tgt := 72) cx.1 cx.2.1 dX5_fault_65 (by decide) ?_
          exact RO.ret (x := (-1)) cx hr hlocks dX5_fault_72 (by have e : xFl Y = i := fstN_eq hi hno (fun q => absurd q (by omega)); have e2 : i = yt Y := (by omega); rw [xFault, e, if_neg (by omega), ← e2]; simp [c_1, c_2])
      · refine lv_aload_n cx.1 cx.2.1 dX5_fault_14 rfl (lv_at hl 0 rfl) ?_
        refine lv_iload_n cx.1 cx.2.1 dX5_fault_15 rfl (lv_at hl 3 rfl) ?_
        refine RO.callV (As := [.int (nI i)]) (rest := []) cx (c_X5_characterAt l G a AD Y i hot (by omega)) gX5_fault_X5_characterAt rfl hd_X5_characterAt ⟨Nat.le_of_ble_eq_true rfl, Nat.le_of_ble_eq_true rfl⟩ (va_recv hK hP (ci := 4) (q0 := 3) rfl rfl) hK hN hP rfl hl.1 rfl (Nat.le_of_ble_eq_true rfl) dX5_fault_16 ⟨Nat.zero_le _, Nat.zero_le _⟩ ?_
        refine lv_istore (lv' := [(4, .int (Y 7 0 i)), (0, .ref (a 3)), (1, .int (nI ((xSc Y i).1))), (2, .int (b2i ((xSc Y i).2))), (3, .int (nI i))]) cx.1 cx.2.1 dX5_fault_19 hl (by decide) rfl (fun ls hl => ?_)
        refine lv_iload cx.1 cx.2.1 dX5_fault_21 (lv_at hl 0 rfl) ?_
        refine lv_iload_n cx.1 cx.2.1 dX5_fault_23 rfl (lv_at hl 2 rfl) ?_
        refine lv_iload_n cx.1 cx.2.1 dX5_fault_24 rfl (lv_at hl 3 rfl) ?_
        refine RO.callS (As := [.int (Y 7 0 i), .int (nI ((xSc Y i).1)), .int (b2i ((xSc Y i).2))]) (rest := []) cx (c_X5_isAllowed l G (Y 7 0 i) ((xSc Y i).1) ((xSc Y i).2) (by omega)) gX5_fault_X5_isAllowed rfl hd_X5_isAllowed ⟨Nat.le_of_ble_eq_true rfl, Nat.le_of_ble_eq_true rfl⟩ hK hN va_P.nil rfl hl.1 rfl (Nat.le_of_ble_eq_true rfl) dX5_fault_25 ⟨Nat.zero_le _, Nat.zero_le _⟩ ?_
        refine nv_ifnz (b := xAl (Y 7 0 i) ((xSc Y i).1) ((xSc Y i).2)) (tgt := 33) cx dX5_fault_28 (by decide) (fun c_3 => ?_) (fun c_3 => ?_)
        · refine lv_iload cx.1 cx.2.1 dX5_fault_33 (lv_at hl 0 rfl) ?_
          refine lv_bipush (v := nI 59) cx.1 cx.2.1 dX5_fault_35 (by decide) ?_
          refine lv_icmp_ne (x := Y 7 0 i) (y := 59) (tgt := 44) cx.1 cx.2.1 dX5_fault_37 (by decide) (fun c_4 => ?_) (fun c_4 => ?_)
          · refine lv_iload_n cx.1 cx.2.1 dX5_fault_44 rfl (lv_at hl 2 rfl) ?_
            refine lv_iconst (v := nI 1) cx.1 cx.2.1 dX5_fault_45 (by decide) ?_
            refine nv_iadd cx (a := (xSc Y i).1) (b := 1) dX5_fault_46 ?_
            refine lv_istore_n (lv' := [(1, .int (nI ((xSc Y i).1 + 1))), (4, .int (Y 7 0 i)), (0, .ref (a 3)), (2, .int (b2i ((xSc Y i).2))), (3, .int (nI i))]) cx.1 cx.2.1 dX5_fault_47 rfl hl (by decide) rfl (fun ls hl => ?_)
            refine lv_iload cx.1 cx.2.1 dX5_fault_48 (lv_at hl 1 rfl) ?_
            refine RO.callS (As := [.int (Y 7 0 i)]) (rest := []) cx (c_X3_isLetter l G (Y 7 0 i)) gX5_fault_X3_isLetter rfl hd_X3_isLetter ⟨Nat.le_of_ble_eq_true rfl, Nat.le_of_ble_eq_true rfl⟩ hK hN va_P.nil rfl hl.1 rfl (Nat.le_of_ble_eq_true rfl) dX5_fault_50 ⟨Nat.zero_le _, Nat.zero_le _⟩ ?_
            refine lv_istore_n (lv' := [(2, .int (b2i (xL (Y 7 0 i)))), (1, .int (nI ((xSc Y i).1 + 1))), (4, .int (Y 7 0 i)), (0, .ref (a 3)), (3, .int (nI i))]) cx.1 cx.2.1 dX5_fault_53 rfl hl (by decide) rfl (fun ls hl => ?_)
            refine lv_iinc (v := nI (i + 1)) (lv' := [(3, .int (nI (i + 1))), (2, .int (b2i (xL (Y 7 0 i)))), (1, .int (nI ((xSc Y i).1 + 1))), (4, .int (Y 7 0 i)), (0, .ref (a 3))]) cx.1 cx.2.1 dX5_fault_54 hl (k := 4) rfl (show nI i + Int32.ofInt 1 = nI (i + 1) from nI_add i 1) (by decide) rfl (fun ls hl => ?_)
            refine lv_goto (tgt := 6) cx.1 cx.2.1 dX5_fault_57 (by decide) ?_
            have hno2 : ∀ j, j < i + 1 → xBad Y j = false := lt_s hno (by simp only [xBad, c_3, Bool.not_true])
            have e1 : nI ((xSc Y (i + 1)).1) = nI ((xSc Y i).1 + 1) := by simp [xSc, nI_0, c_1, c_3, c_4]
            exact ih6 (i + 1) (by omega) (by omega) hno2 ls (lv_sub hl [4, 2, 1, 0] (by rw [e1]; rfl))
          · refine lv_iconst (v := nI 0) cx.1 cx.2.1 dX5_fault_40 (by decide) ?_
            refine lv_goto (tgt := 47) cx.1 cx.2.1 dX5_fault_41 (by decide) ?_
            refine lv_istore_n (lv' := [(1, .int (nI 0)), (4, .int (Y 7 0 i)), (0, .ref (a 3)), (2, .int (b2i ((xSc Y i).2))), (3, .int (nI i))]) cx.1 cx.2.1 dX5_fault_47 rfl hl (by decide) rfl (fun ls hl => ?_)
            refine lv_iload cx.1 cx.2.1 dX5_fault_48 (lv_at hl 1 rfl) ?_
            refine RO.callS (As := [.int (Y 7 0 i)]) (rest := []) cx (c_X3_isLetter l G (Y 7 0 i)) gX5_fault_X3_isLetter rfl hd_X3_isLetter ⟨Nat.le_of_ble_eq_true rfl, Nat.le_of_ble_eq_true rfl⟩ hK hN va_P.nil rfl hl.1 rfl (Nat.le_of_ble_eq_true rfl) dX5_fault_50 ⟨Nat.zero_le _, Nat.zero_le _⟩ ?_
            refine lv_istore_n (lv' := [(2, .int (b2i (xL (Y 7 0 i)))), (1, .int (nI 0)), (4, .int (Y 7 0 i)), (0, .ref (a 3)), (3, .int (nI i))]) cx.1 cx.2.1 dX5_fault_53 rfl hl (by decide) rfl (fun ls hl => ?_)
            refine lv_iinc (v := nI (i + 1)) (lv' := [(3, .int (nI (i + 1))), (2, .int (b2i (xL (Y 7 0 i)))), (1, .int (nI 0)), (4, .int (Y 7 0 i)), (0, .ref (a 3))]) cx.1 cx.2.1 dX5_fault_54 hl (k := 4) rfl (show nI i + Int32.ofInt 1 = nI (i + 1) from nI_add i 1) (by decide) rfl (fun ls hl => ?_)
            refine lv_goto (tgt := 6) cx.1 cx.2.1 dX5_fault_57 (by decide) ?_
            have hno2 : ∀ j, j < i + 1 → xBad Y j = false := lt_s hno (by simp only [xBad, c_3, Bool.not_true])
            have e1 : nI ((xSc Y (i + 1)).1) = 0 := by simp [xSc, nI_0, c_1, c_3, c_4]
            exact ih6 (i + 1) (by omega) (by omega) hno2 ls (lv_sub hl [4, 2, 1, 0] (by rw [e1]; rfl))
        · refine lv_iload_n cx.1 cx.2.1 dX5_fault_31 rfl (lv_at hl 4 rfl) ?_
          exact RO.ret (x := nI i) cx hr hlocks dX5_fault_32 (by have e : xFl Y = i := fstN_eq hi hno (fun _ => by simp [xBad, c_1, c_3]); rw [xFault, e, if_pos (by omega)])
  exact lp6 _ 0 (Nat.lt_succ_self _) (by omega) (fun j hj => absurd hj (Nat.not_lt_zero _)) ls (lv_sub hl [3, 2, 1, 0] rfl)

set_option maxHeartbeats 4000000 in
set_option maxRecDepth 100000 in
theorem c_X6_isPlate (l : Launch) (G : GG)  (w : Int32) (h : Int32)  : RO l yX6_isPlate wsX6_isPlate 0 0 G ([]) [.int w, .int h] (b2i (isPl w h)) := by
  refine RO.start (cc := cX6_isPlate) (maxL := 2) (ret := (some .boolean)) (by decide) rfl (Nat.le_of_ble_eq_true rfl) ?_
  intro p e s m below meth c ls cx hr hlocks hK hN hP hl
  have cx : CallFix p m c cX6_isPlate 2 s [.int w, .int h].toArray wsX6_isPlate RX6 := cx
  have hl : lv_has ls 2 [(0, .int w), (1, .int h)] := hl
  refine lv_iload_n cx.1 cx.2.1 dX6_isPlate_0 rfl (lv_at hl 0 rfl) ?_
  refine lv_sipush (v := nI 300) cx.1 cx.2.1 dX6_isPlate_1 (by decide) ?_
  refine lv_icmp_lt (x := w) (y := 300) (tgt := 31) cx.1 cx.2.1 dX6_isPlate_4 (by decide) (fun c_1 => ?_) (fun c_1 => ?_)
  · refine lv_iconst (v := nI 0) cx.1 cx.2.1 dX6_isPlate_31 (by decide) ?_
    exact RO.retz (b := isPl w h) (x := 0) cx hr hlocks dX6_isPlate_32 (by simp [isPl, b2i, c_1]) rfl
  · refine lv_iload_n cx.1 cx.2.1 dX6_isPlate_7 rfl (lv_at hl 0 rfl) ?_
    refine lv_sipush (v := nI 6000) cx.1 cx.2.1 dX6_isPlate_8 (by decide) ?_
    refine lv_icmp_gt (x := w) (y := 6000) (tgt := 31) cx.1 cx.2.1 dX6_isPlate_11 (by decide) (fun c_2 => ?_) (fun c_2 => ?_)
    · refine lv_iconst (v := nI 0) cx.1 cx.2.1 dX6_isPlate_31 (by decide) ?_
      exact RO.retz (b := isPl w h) (x := 0) cx hr hlocks dX6_isPlate_32 (by simp [isPl, b2i, c_1, c_2]) rfl
    · refine lv_iload_n cx.1 cx.2.1 dX6_isPlate_14 rfl (lv_at hl 1 rfl) ?_
      refine lv_bipush (v := nI 100) cx.1 cx.2.1 dX6_isPlate_15 (by decide) ?_
      refine lv_icmp_lt (x := h) (y := 100) (tgt := 31) cx.1 cx.2.1 dX6_isPlate_17 (by decide) (fun c_3 => ?_) (fun c_3 => ?_)
      · refine lv_iconst (v := nI 0) cx.1 cx.2.1 dX6_isPlate_31 (by decide) ?_
        exact RO.retz (b := isPl w h) (x := 0) cx hr hlocks dX6_isPlate_32 (by simp [isPl, b2i, c_1, c_2, c_3]) rfl
      · refine lv_iload_n cx.1 cx.2.1 dX6_isPlate_20 rfl (lv_at hl 1 rfl) ?_
        refine lv_sipush (v := nI 3000) cx.1 cx.2.1 dX6_isPlate_21 (by decide) ?_
        refine lv_icmp_gt (x := h) (y := 3000) (tgt := 31) cx.1 cx.2.1 dX6_isPlate_24 (by decide) (fun c_4 => ?_) (fun c_4 => ?_)
        · refine lv_iconst (v := nI 0) cx.1 cx.2.1 dX6_isPlate_31 (by decide) ?_
          exact RO.retz (b := isPl w h) (x := 0) cx hr hlocks dX6_isPlate_32 (by simp [isPl, b2i, c_1, c_2, c_3, c_4]) rfl
        · refine lv_iconst (v := nI 1) cx.1 cx.2.1 dX6_isPlate_27 (by decide) ?_
          refine lv_goto (tgt := 32) cx.1 cx.2.1 dX6_isPlate_28 (by decide) ?_
          exact RO.retz (b := isPl w h) (x := 1) cx hr hlocks dX6_isPlate_32 (by simp [isPl, b2i, c_1, c_2, c_3, c_4]) rfl

theorem iw_X6_size_X6 : ∀ w ∈ wsX60, w ∈ wsX6_size := fun _ h => List.mem_cons_of_mem _ (List.mem_append_left _ (List.mem_append_left _ (List.mem_append_left _ (List.mem_append_right _ h))))
theorem fw_X6_size_f10 : (Cond.fieldLink RX6 10 "NamePlate" "now" "LNamePlate$State;") ∈ wsX6_size := List.mem_of_getElem? (i := 1) rfl
set_option maxHeartbeats 4000000 in
set_option maxRecDepth 100000 in
theorem c_X6_size (l : Launch) (G : GG) (a : Nat → Nat) (AD : Nat → Nat → Nat) (Y : Nat → XS)  (hok : okX (Y 5)) : RO l yX6_size wsX6_size 6 136 G (plC G a AD Y) [.ref (a 0)] (xSize (Y 5)) := by
  refine RO.start (cc := cX6_size) (maxL := 1) (ret := (some .int)) (by decide) rfl (Nat.le_of_ble_eq_true rfl) ?_
  intro p e s m below meth c ls cx hr hlocks hK hN hP hl
  have cx : CallFix p m c cX6_size 1 s [.ref (a 0)].toArray wsX6_size RX6 := cx
  have hl : lv_has ls 1 [(0, .ref (a 0))] := hl
  refine lv_aload_n cx.1 cx.2.1 dX6_size_0 rfl (lv_at hl 0 rfl) ?_
  refine va_get (ci := 5) (C := RX6) (T := TX6) (N := 5) (v := .ref (AD 5 0)) cx.1 cx.2.1 cx.2.2.2.2 iw_X6_size_X6 cx.2.2.2.1 hK hP 0 rfl rfl 0 (by decide) (cx.2.2.2.2 _ fw_X6_size_f10) (fun _ h9 => h9) rfl dX6_size_1 ?_
  have hP5 : va_P G.1 vwCl (stC G (AD 5) (Y 5)) s.heap := pl_st hP (by decide)
  refine RO.callV (As := []) (rest := []) cx (c_X4_sizeNow l G (AD 5) (Y 5) hok) gX6_size_X4_sizeNow rfl hd_X4_sizeNow ⟨Nat.le_of_ble_eq_true rfl, Nat.le_of_ble_eq_true rfl⟩ (va_recv hK hP5 (ci := 3) (q0 := 0) rfl rfl) hK hN hP5 rfl hl.1 rfl (Nat.le_of_ble_eq_true rfl) dX6_size_4 ⟨Nat.zero_le _, Nat.zero_le _⟩ ?_
  exact RO.ret (x := xSize (Y 5)) cx hr hlocks dX6_size_7 rfl

theorem iw_X6_nameBySize_X6 : ∀ w ∈ wsX60, w ∈ wsX6_nameBySize := fun _ h => List.mem_cons_of_mem _ (List.mem_append_left _ (List.mem_append_left _ (List.mem_append_left _ (List.mem_append_right _ h))))
theorem fw_X6_nameBySize_f10 : (Cond.fieldLink RX6 10 "NamePlate" "now" "LNamePlate$State;") ∈ wsX6_nameBySize := List.mem_of_getElem? (i := 1) rfl
set_option maxHeartbeats 4000000 in
set_option maxRecDepth 100000 in
theorem c_X6_nameBySize (l : Launch) (G : GG) (a : Nat → Nat) (AD : Nat → Nat → Nat) (Y : Nat → XS) (k : Nat) (w : Int32) (z : Int32) (hok : okX (Y 5)) (hk : k < 20) : RO l yX6_nameBySize wsX6_nameBySize 5 121 G (plC G a AD Y) [.ref (a 0), .int (nI k), .int w, .int z] (yNbs (Y 5) k w z) := by
  refine RO.start (cc := cX6_nameBySize) (maxL := 4) (ret := (some .int)) (by decide) rfl (Nat.le_of_ble_eq_true rfl) ?_
  intro p e s m below meth c ls cx hr hlocks hK hN hP hl
  have cx : CallFix p m c cX6_nameBySize 4 s [.ref (a 0), .int (nI k), .int w, .int z].toArray wsX6_nameBySize RX6 := cx
  have hl : lv_has ls 4 [(0, .ref (a 0)), (1, .int (nI k)), (2, .int w), (3, .int z)] := hl
  refine lv_iload_n cx.1 cx.2.1 dX6_nameBySize_0 rfl (lv_at hl 2 rfl) ?_
  refine lv_iconst (v := nI 5) cx.1 cx.2.1 dX6_nameBySize_1 (by decide) ?_
  refine lv_icmp_lt (x := w) (y := 5) (tgt := 11) cx.1 cx.2.1 dX6_nameBySize_2 (by decide) (fun c_1 => ?_) (fun c_1 => ?_)
  · refine lv_sipush (v := (-1002)) cx.1 cx.2.1 dX6_nameBySize_11 (by decide) ?_
    exact RO.ret (x := (-1002)) cx hr hlocks dX6_nameBySize_14 (by first | contradiction | (simp [yNbs, b2i, c_1]; done) | (simp [yNbs, b2i, ← Int32.not_lt, c_1]; done))
  · refine lv_iload_n cx.1 cx.2.1 dX6_nameBySize_5 rfl (lv_at hl 2 rfl) ?_
    refine lv_bipush (v := nI 9) cx.1 cx.2.1 dX6_nameBySize_6 (by decide) ?_
    refine lv_icmp_le (x := w) (y := 9) (tgt := 15) cx.1 cx.2.1 dX6_nameBySize_8 (by decide) (fun c_2 => ?_) (fun c_2 => ?_)
    · refine lv_iload_n cx.1 cx.2.1 dX6_nameBySize_15 rfl (lv_at hl 2 rfl) ?_
      refine lv_bipush (v := nI 7) cx.1 cx.2.1 dX6_nameBySize_16 (by decide) ?_
      refine lv_icmp_ne (x := w) (y := 7) (tgt := 39) cx.1 cx.2.1 dX6_nameBySize_18 (by decide) (fun c_3 => ?_) (fun c_3 => ?_)
      · refine lv_iload_n cx.1 cx.2.1 dX6_nameBySize_39 rfl (lv_at hl 3 rfl) ?_
        refine lv_if_ne (x := z) (tgt := 47) cx.1 cx.2.1 dX6_nameBySize_40 (by decide) (fun c_4 => ?_) (fun c_4 => ?_)
        · refine lv_iload_n cx.1 cx.2.1 dX6_nameBySize_47 rfl (lv_at hl 2 rfl) ?_
          by_cases w_5 : w = 5
          · refine lv_tableIn (tgt := 80) (off := 32) cx.1 cx.2.1 dX6_nameBySize_48 (by rw [w_5]; decide) (by rw [w_5]; decide) (by rw [w_5]; decide) (by decide) ?_
            refine lv_aload_n cx.1 cx.2.1 dX6_nameBySize_80 rfl (lv_at hl 0 rfl) ?_
            refine va_get (ci := 5) (C := RX6) (T := TX6) (N := 5) (v := .ref (AD 5 0)) cx.1 cx.2.1 cx.2.2.2.2 iw_X6_nameBySize_X6 cx.2.2.2.1 hK hP 0 rfl rfl 0 (by decide) (cx.2.2.2.2 _ fw_X6_nameBySize_f10) (fun _ h9 => h9) rfl dX6_nameBySize_81 ?_
            refine lv_iload_n cx.1 cx.2.1 dX6_nameBySize_84 rfl (lv_at hl 1 rfl) ?_
            refine lv_iload_n cx.1 cx.2.1 dX6_nameBySize_85 rfl (lv_at hl 3 rfl) ?_
            have hP5 : va_P G.1 vwCl (stC G (AD 5) (Y 5)) s.heap := pl_st hP (by decide)
            refine RO.callV (As := [.int (nI k), .int z]) (rest := []) cx (c_X4_beginOf l G (AD 5) (Y 5) k z hok (by omega)) gX6_nameBySize_X4_beginOf rfl hd_X4_beginOf ⟨Nat.le_of_ble_eq_true rfl, Nat.le_of_ble_eq_true rfl⟩ (va_recv hK hP5 (ci := 3) (q0 := 0) rfl rfl) hK hN hP5 rfl hl.1 rfl (Nat.le_of_ble_eq_true rfl) dX6_nameBySize_86 ⟨Nat.zero_le _, Nat.zero_le _⟩ ?_
            exact RO.ret (x := xBeg (Y 5) k z) cx hr hlocks dX6_nameBySize_89 (by first | contradiction | (simp [yNbs, b2i, c_1, c_2, c_3, c_4, w_5]; done) | (simp [yNbs, b2i, ← Int32.not_lt, c_1, c_2, c_3, c_4, w_5]; done))
          by_cases w_6 : w = 6
          · refine lv_tableIn (tgt := 90) (off := 42) cx.1 cx.2.1 dX6_nameBySize_48 (by rw [w_6]; decide) (by rw [w_6]; decide) (by rw [w_6]; decide) (by decide) ?_
            refine lv_aload_n cx.1 cx.2.1 dX6_nameBySize_90 rfl (lv_at hl 0 rfl) ?_
            refine va_get (ci := 5) (C := RX6) (T := TX6) (N := 5) (v := .ref (AD 5 0)) cx.1 cx.2.1 cx.2.2.2.2 iw_X6_nameBySize_X6 cx.2.2.2.1 hK hP 0 rfl rfl 0 (by decide) (cx.2.2.2.2 _ fw_X6_nameBySize_f10) (fun _ h9 => h9) rfl dX6_nameBySize_91 ?_
            refine lv_iload_n cx.1 cx.2.1 dX6_nameBySize_94 rfl (lv_at hl 1 rfl) ?_
            refine lv_iload_n cx.1 cx.2.1 dX6_nameBySize_95 rfl (lv_at hl 3 rfl) ?_
            have hP5 : va_P G.1 vwCl (stC G (AD 5) (Y 5)) s.heap := pl_st hP (by decide)
            refine RO.callV (As := [.int (nI k), .int z]) (rest := []) cx (c_X4_rowBegin l G (AD 5) (Y 5) k z) gX6_nameBySize_X4_rowBegin rfl hd_X4_rowBegin ⟨Nat.le_of_ble_eq_true rfl, Nat.le_of_ble_eq_true rfl⟩ (va_recv hK hP5 (ci := 3) (q0 := 0) rfl rfl) hK hN hP5 rfl hl.1 rfl (Nat.le_of_ble_eq_true rfl) dX6_nameBySize_96 ⟨Nat.zero_le _, Nat.zero_le _⟩ ?_
            exact RO.ret (x := xRb (Y 5) k z) cx hr hlocks dX6_nameBySize_99 (by first | contradiction | (simp [yNbs, b2i, c_1, c_2, c_3, c_4, w_6]; done) | (simp [yNbs, b2i, ← Int32.not_lt, c_1, c_2, c_3, c_4, w_6]; done))
          by_cases w_7 : w = 7
          · refine lv_tableIn (tgt := 111) (off := 63) cx.1 cx.2.1 dX6_nameBySize_48 (by rw [w_7]; decide) (by rw [w_7]; decide) (by rw [w_7]; decide) (by decide) ?_
            refine lv_aload_n cx.1 cx.2.1 dX6_nameBySize_111 rfl (lv_at hl 0 rfl) ?_
            refine va_get (ci := 5) (C := RX6) (T := TX6) (N := 5) (v := .ref (AD 5 0)) cx.1 cx.2.1 cx.2.2.2.2 iw_X6_nameBySize_X6 cx.2.2.2.1 hK hP 0 rfl rfl 0 (by decide) (cx.2.2.2.2 _ fw_X6_nameBySize_f10) (fun _ h9 => h9) rfl dX6_nameBySize_112 ?_
            refine lv_iload_n cx.1 cx.2.1 dX6_nameBySize_115 rfl (lv_at hl 1 rfl) ?_
            refine lv_iload_n cx.1 cx.2.1 dX6_nameBySize_116 rfl (lv_at hl 3 rfl) ?_
            have hP5 : va_P G.1 vwCl (stC G (AD 5) (Y 5)) s.heap := pl_st hP (by decide)
            refine RO.callV (As := [.int (nI k), .int z]) (rest := []) cx (c_X4_middleBegin l G (AD 5) (Y 5) k z hok (by omega)) gX6_nameBySize_X4_middleBegin rfl hd_X4_middleBegin ⟨Nat.le_of_ble_eq_true rfl, Nat.le_of_ble_eq_true rfl⟩ (va_recv hK hP5 (ci := 3) (q0 := 0) rfl rfl) hK hN hP5 rfl hl.1 rfl (Nat.le_of_ble_eq_true rfl) dX6_nameBySize_117 ⟨Nat.zero_le _, Nat.zero_le _⟩ ?_
            exact RO.ret (x := xMid (Y 5) k z) cx hr hlocks dX6_nameBySize_120 (by first | contradiction | (simp [yNbs, b2i, c_1, c_2, c_3, c_4, w_7]; done) | (simp [yNbs, b2i, ← Int32.not_lt, c_1, c_2, c_3, c_4, w_7]; done))
          by_cases w_8 : w = 8
          · refine lv_tableIn (tgt := 100) (off := 52) cx.1 cx.2.1 dX6_nameBySize_48 (by rw [w_8]; decide) (by rw [w_8]; decide) (by rw [w_8]; decide) (by decide) ?_
            refine lv_aload_n cx.1 cx.2.1 dX6_nameBySize_100 rfl (lv_at hl 0 rfl) ?_
            refine va_get (ci := 5) (C := RX6) (T := TX6) (N := 5) (v := .ref (AD 5 0)) cx.1 cx.2.1 cx.2.2.2.2 iw_X6_nameBySize_X6 cx.2.2.2.1 hK hP 0 rfl rfl 0 (by decide) (cx.2.2.2.2 _ fw_X6_nameBySize_f10) (fun _ h9 => h9) rfl dX6_nameBySize_101 ?_
            refine lv_iload_n cx.1 cx.2.1 dX6_nameBySize_104 rfl (lv_at hl 1 rfl) ?_
            have hP5 : va_P G.1 vwCl (stC G (AD 5) (Y 5)) s.heap := pl_st hP (by decide)
            refine RO.callV (As := [.int (nI k)]) (rest := []) cx (c_X4_unitsOf l G (AD 5) (Y 5) k hok (by omega)) gX6_nameBySize_X4_unitsOf rfl hd_X4_unitsOf ⟨Nat.le_of_ble_eq_true rfl, Nat.le_of_ble_eq_true rfl⟩ (va_recv hK hP5 (ci := 3) (q0 := 0) rfl rfl) hK hN hP5 rfl hl.1 rfl (Nat.le_of_ble_eq_true rfl) dX6_nameBySize_105 ⟨Nat.zero_le _, Nat.zero_le _⟩ ?_
            refine lv_iload_n cx.1 cx.2.1 dX6_nameBySize_108 rfl (lv_at hl 3 rfl) ?_
            refine lv_imul (x := xU (Y 5) k) (y := z) cx.1 cx.2.1 dX6_nameBySize_109 ?_
            exact RO.ret (x := (xU (Y 5) k) * z) cx hr hlocks dX6_nameBySize_110 (by first | contradiction | (simp [yNbs, b2i, c_1, c_2, c_3, c_4, w_8]; done) | (simp [yNbs, b2i, ← Int32.not_lt, c_1, c_2, c_3, c_4, w_8]; done))
          refine lv_tableOut (tgt := 111) cx.1 cx.2.1 dX6_nameBySize_48 (sw_out w [5, 6, 7, 8] (List.forall_mem_cons.mpr ⟨sw_ne w_5 (by decide), (List.forall_mem_cons.mpr ⟨sw_ne w_6 (by decide), (List.forall_mem_cons.mpr ⟨sw_ne w_7 (by decide), (List.forall_mem_cons.mpr ⟨sw_ne w_8 (by decide), (fun _ h => absurd h List.not_mem_nil)⟩)⟩)⟩)⟩) (fun z h1 h2 => by simp only [List.mem_cons, List.not_mem_nil, or_false]; omega)) (by decide) ?_
          refine lv_aload_n cx.1 cx.2.1 dX6_nameBySize_111 rfl (lv_at hl 0 rfl) ?_
          refine va_get (ci := 5) (C := RX6) (T := TX6) (N := 5) (v := .ref (AD 5 0)) cx.1 cx.2.1 cx.2.2.2.2 iw_X6_nameBySize_X6 cx.2.2.2.1 hK hP 0 rfl rfl 0 (by decide) (cx.2.2.2.2 _ fw_X6_nameBySize_f10) (fun _ h9 => h9) rfl dX6_nameBySize_112 ?_
          refine lv_iload_n cx.1 cx.2.1 dX6_nameBySize_115 rfl (lv_at hl 1 rfl) ?_
          refine lv_iload_n cx.1 cx.2.1 dX6_nameBySize_116 rfl (lv_at hl 3 rfl) ?_
          have hP5 : va_P G.1 vwCl (stC G (AD 5) (Y 5)) s.heap := pl_st hP (by decide)
          refine RO.callV (As := [.int (nI k), .int z]) (rest := []) cx (c_X4_middleBegin l G (AD 5) (Y 5) k z hok (by omega)) gX6_nameBySize_X4_middleBegin rfl hd_X4_middleBegin ⟨Nat.le_of_ble_eq_true rfl, Nat.le_of_ble_eq_true rfl⟩ (va_recv hK hP5 (ci := 3) (q0 := 0) rfl rfl) hK hN hP5 rfl hl.1 rfl (Nat.le_of_ble_eq_true rfl) dX6_nameBySize_117 ⟨Nat.zero_le _, Nat.zero_le _⟩ ?_
          exact RO.ret (x := xMid (Y 5) k z) cx hr hlocks dX6_nameBySize_120 (by first | contradiction | (simp [yNbs, b2i, c_1, c_2, c_3, c_4, w_5, w_6, w_7, w_8]; done) | (simp [yNbs, b2i, ← Int32.not_lt, c_1, c_2, c_3, c_4, w_5, w_6, w_7, w_8]; done))
        · refine lv_sipush (v := (-1005)) cx.1 cx.2.1 dX6_nameBySize_43 (by decide) ?_
          exact RO.ret (x := (-1005)) cx hr hlocks dX6_nameBySize_46 (by first | contradiction | (simp [yNbs, b2i, c_1, c_2, c_3, c_4]; done) | (simp [yNbs, b2i, ← Int32.not_lt, c_1, c_2, c_3, c_4]; done))
      · refine lv_aload_n cx.1 cx.2.1 dX6_nameBySize_21 rfl (lv_at hl 0 rfl) ?_
        refine va_get (ci := 5) (C := RX6) (T := TX6) (N := 5) (v := .ref (AD 5 0)) cx.1 cx.2.1 cx.2.2.2.2 iw_X6_nameBySize_X6 cx.2.2.2.1 hK hP 0 rfl rfl 0 (by decide) (cx.2.2.2.2 _ fw_X6_nameBySize_f10) (fun _ h9 => h9) rfl dX6_nameBySize_22 ?_
        refine lv_iload_n cx.1 cx.2.1 dX6_nameBySize_25 rfl (lv_at hl 1 rfl) ?_
        refine lv_iload_n cx.1 cx.2.1 dX6_nameBySize_26 rfl (lv_at hl 3 rfl) ?_
        have hP5 : va_P G.1 vwCl (stC G (AD 5) (Y 5)) s.heap := pl_st hP (by decide)
        refine RO.callV (As := [.int (nI k), .int z]) (rest := []) cx (c_X4_fits l G (AD 5) (Y 5) k z hok (by omega)) gX6_nameBySize_X4_fits rfl hd_X4_fits ⟨Nat.le_of_ble_eq_true rfl, Nat.le_of_ble_eq_true rfl⟩ (va_recv hK hP5 (ci := 3) (q0 := 0) rfl rfl) hK hN hP5 rfl hl.1 rfl (Nat.le_of_ble_eq_true rfl) dX6_nameBySize_27 ⟨Nat.zero_le _, Nat.zero_le _⟩ ?_
        refine nv_ifz (b := xFits (Y 5) k z) (tgt := 37) cx dX6_nameBySize_30 (by decide) (fun c_9 => ?_) (fun c_9 => ?_)
        · refine lv_iconst (v := nI 0) cx.1 cx.2.1 dX6_nameBySize_37 (by decide) ?_
          exact RO.ret (x := 0) cx hr hlocks dX6_nameBySize_38 (by first | contradiction | (simp [yNbs, b2i, c_1, c_2, c_3, c_9]; done) | (simp [yNbs, b2i, ← Int32.not_lt, c_1, c_2, c_3, c_9]; done))
        · refine lv_iconst (v := nI 1) cx.1 cx.2.1 dX6_nameBySize_33 (by decide) ?_
          refine lv_goto (tgt := 38) cx.1 cx.2.1 dX6_nameBySize_34 (by decide) ?_
          exact RO.ret (x := 1) cx hr hlocks dX6_nameBySize_38 (by first | contradiction | (simp [yNbs, b2i, c_1, c_2, c_3, c_9]; done) | (simp [yNbs, b2i, ← Int32.not_lt, c_1, c_2, c_3, c_9]; done))
    · refine lv_sipush (v := (-1002)) cx.1 cx.2.1 dX6_nameBySize_11 (by decide) ?_
      exact RO.ret (x := (-1002)) cx hr hlocks dX6_nameBySize_14 (by first | contradiction | (simp [yNbs, b2i, c_1, c_2]; done) | (simp [yNbs, b2i, ← Int32.not_lt, c_1, c_2]; done))

theorem iw_X6_name_X6 : ∀ w ∈ wsX60, w ∈ wsX6_name := fun _ h => List.mem_cons_of_mem _ (List.mem_append_left _ (List.mem_append_left _ (List.mem_append_left _ (List.mem_append_right _ h))))
theorem fw_X6_name_f10 : (Cond.fieldLink RX6 10 "NamePlate" "now" "LNamePlate$State;") ∈ wsX6_name := List.mem_of_getElem? (i := 1) rfl
theorem iw_X6_name_X4 : ∀ w ∈ wsX40, w ∈ wsX6_name := fun _ h => List.mem_cons_of_mem _ (List.mem_append_left _ (List.mem_append_left _ (List.mem_append_right _ h)))
set_option maxHeartbeats 4000000 in
set_option maxRecDepth 100000 in
theorem c_X6_name (l : Launch) (G : GG) (a : Nat → Nat) (AD : Nat → Nat → Nat) (Y : Nat → XS) (seat : Int32) (what : Int32) (hok : okX (Y 5)) : RO l yX6_name wsX6_name 6 144 G (plC G a AD Y) [.ref (a 0), .int seat, .int what] (yName (Y 5) seat what) := by
  refine RO.start (cc := cX6_name) (maxL := 3) (ret := (some .int)) (by decide) rfl (Nat.le_of_ble_eq_true rfl) ?_
  intro p e s m below meth c ls cx hr hlocks hK hN hP hl
  have cx : CallFix p m c cX6_name 3 s [.ref (a 0), .int seat, .int what].toArray wsX6_name RX6 := cx
  have hl : lv_has ls 3 [(0, .ref (a 0)), (1, .int seat), (2, .int what)] := hl
  refine lv_aload_n cx.1 cx.2.1 dX6_name_0 rfl (lv_at hl 0 rfl) ?_
  refine va_get (ci := 5) (C := RX6) (T := TX6) (N := 5) (v := .ref (AD 5 0)) cx.1 cx.2.1 cx.2.2.2.2 iw_X6_name_X6 cx.2.2.2.1 hK hP 0 rfl rfl 0 (by decide) (cx.2.2.2.2 _ fw_X6_name_f10) (fun _ h9 => h9) rfl dX6_name_1 ?_
  have hP5 : va_P G.1 vwCl (stC G (AD 5) (Y 5)) s.heap := pl_st hP (by decide)
  refine va_getN (ci := 3) (C := RX4) (T := TX4) (N := 10) (v := .ref (AD 5 1)) cx.1 cx.2.1 cx.2.2.2.2 iw_X6_name_X4 cx.2.2.2.1 hK hP5 0 rfl rfl 0 (by decide) (va_Nw.use rfl (hN.at 0 rfl)) (fun _ h9 => h9) rfl dX6_name_4 ?_
  refine lv_iload_n cx.1 cx.2.1 dX6_name_7 rfl (lv_at hl 1 rfl) ?_
  refine RO.callV (As := [.int seat]) (rest := []) cx (c_X1_isTaken l G (AD 5) (Y 5) seat hok) gX6_name_X1_isTaken rfl hd_X1_isTaken ⟨Nat.le_of_ble_eq_true rfl, Nat.le_of_ble_eq_true rfl⟩ (va_recv hK hP5 (ci := 1) (q0 := 1) rfl rfl) hK hN hP5 rfl hl.1 rfl (Nat.le_of_ble_eq_true rfl) dX6_name_8 ⟨Nat.zero_le _, Nat.zero_le _⟩ ?_
  refine nv_ifnz (b := xTk (xn (Y 5)) seat) (tgt := 18) cx dX6_name_11 (by decide) (fun c_1 => ?_) (fun c_1 => ?_)
  · obtain ⟨k, hk, rfl⟩ := xTk_of (Nat.lt_of_le_of_lt hok.n20 (by decide)) c_1
    have hn20 := hok.n20
    refine lv_iload_n cx.1 cx.2.1 dX6_name_18 rfl (lv_at hl 2 rfl) ?_
    by_cases w_2 : what = 0
    · refine lv_tableIn (tgt := 76) (off := 57) cx.1 cx.2.1 dX6_name_19 (by rw [w_2]; decide) (by rw [w_2]; decide) (by rw [w_2]; decide) (by decide) ?_
      refine lv_aload_n cx.1 cx.2.1 dX6_name_76 rfl (lv_at hl 0 rfl) ?_
      refine va_get (ci := 5) (C := RX6) (T := TX6) (N := 5) (v := .ref (AD 5 0)) cx.1 cx.2.1 cx.2.2.2.2 iw_X6_name_X6 cx.2.2.2.1 hK hP 0 rfl rfl 0 (by decide) (cx.2.2.2.2 _ fw_X6_name_f10) (fun _ h9 => h9) rfl dX6_name_77 ?_
      refine va_getN (ci := 3) (C := RX4) (T := TX4) (N := 10) (v := .ref (AD 5 1)) cx.1 cx.2.1 cx.2.2.2.2 iw_X6_name_X4 cx.2.2.2.1 hK hP5 0 rfl rfl 0 (by decide) (va_Nw.use rfl (hN.at 0 rfl)) (fun _ h9 => h9) rfl dX6_name_80 ?_
      refine lv_iload_n cx.1 cx.2.1 dX6_name_83 rfl (lv_at hl 1 rfl) ?_
      refine RO.callV (As := [.int (nI k)]) (rest := []) cx (c_X1_lengthOf l G (AD 5) (Y 5) k hok (by omega)) gX6_name_X1_lengthOf rfl hd_X1_lengthOf ⟨Nat.le_of_ble_eq_true rfl, Nat.le_of_ble_eq_true rfl⟩ (va_recv hK hP5 (ci := 1) (q0 := 1) rfl rfl) hK hN hP5 rfl hl.1 rfl (Nat.le_of_ble_eq_true rfl) dX6_name_84 ⟨Nat.zero_le _, Nat.zero_le _⟩ ?_
      exact RO.ret (x := nI (xl (Y 5) k)) cx hr hlocks dX6_name_87 (by first | contradiction | (simp [yName, yNameK, b2i, nI_clamp (show k < 2147483648 by omega), xTk_in hn20 hk, c_1, w_2] <;> rfl))
    by_cases w_3 : what = 1
    · refine lv_tableIn (tgt := 88) (off := 69) cx.1 cx.2.1 dX6_name_19 (by rw [w_3]; decide) (by rw [w_3]; decide) (by rw [w_3]; decide) (by decide) ?_
      refine lv_aload_n cx.1 cx.2.1 dX6_name_88 rfl (lv_at hl 0 rfl) ?_
      refine va_get (ci := 5) (C := RX6) (T := TX6) (N := 5) (v := .ref (AD 5 0)) cx.1 cx.2.1 cx.2.2.2.2 iw_X6_name_X6 cx.2.2.2.1 hK hP 0 rfl rfl 0 (by decide) (cx.2.2.2.2 _ fw_X6_name_f10) (fun _ h9 => h9) rfl dX6_name_89 ?_
      refine lv_iload_n cx.1 cx.2.1 dX6_name_92 rfl (lv_at hl 1 rfl) ?_
      refine RO.callV (As := [.int (nI k)]) (rest := []) cx (c_X4_unitsOf l G (AD 5) (Y 5) k hok (by omega)) gX6_name_X4_unitsOf rfl hd_X4_unitsOf ⟨Nat.le_of_ble_eq_true rfl, Nat.le_of_ble_eq_true rfl⟩ (va_recv hK hP5 (ci := 3) (q0 := 0) rfl rfl) hK hN hP5 rfl hl.1 rfl (Nat.le_of_ble_eq_true rfl) dX6_name_93 ⟨Nat.zero_le _, Nat.zero_le _⟩ ?_
      exact RO.ret (x := xU (Y 5) k) cx hr hlocks dX6_name_96 (by first | contradiction | (simp [yName, yNameK, b2i, nI_clamp (show k < 2147483648 by omega), xTk_in hn20 hk, c_1, w_3] <;> rfl))
    by_cases w_4 : what = 2
    · refine lv_tableIn (tgt := 97) (off := 78) cx.1 cx.2.1 dX6_name_19 (by rw [w_4]; decide) (by rw [w_4]; decide) (by rw [w_4]; decide) (by decide) ?_
      refine lv_aload_n cx.1 cx.2.1 dX6_name_97 rfl (lv_at hl 0 rfl) ?_
      refine va_get (ci := 5) (C := RX6) (T := TX6) (N := 5) (v := .ref (AD 5 0)) cx.1 cx.2.1 cx.2.2.2.2 iw_X6_name_X6 cx.2.2.2.1 hK hP 0 rfl rfl 0 (by decide) (cx.2.2.2.2 _ fw_X6_name_f10) (fun _ h9 => h9) rfl dX6_name_98 ?_
      refine lv_iload_n cx.1 cx.2.1 dX6_name_101 rfl (lv_at hl 1 rfl) ?_
      refine RO.callV (As := [.int (nI k)]) (rest := []) cx (c_X4_isEngraved l G (AD 5) (Y 5) k) gX6_name_X4_isEngraved rfl hd_X4_isEngraved ⟨Nat.le_of_ble_eq_true rfl, Nat.le_of_ble_eq_true rfl⟩ (va_recv hK hP5 (ci := 3) (q0 := 0) rfl rfl) hK hN hP5 rfl hl.1 rfl (Nat.le_of_ble_eq_true rfl) dX6_name_102 ⟨Nat.zero_le _, Nat.zero_le _⟩ ?_
      refine nv_ifz (b := xEb (Y 5) k) (tgt := 112) cx dX6_name_105 (by decide) (fun c_5 => ?_) (fun c_5 => ?_)
      · refine lv_iconst (v := nI 0) cx.1 cx.2.1 dX6_name_112 (by decide) ?_
        exact RO.ret (x := 0) cx hr hlocks dX6_name_113 (by first | contradiction | (simp [yName, yNameK, b2i, nI_clamp (show k < 2147483648 by omega), xTk_in hn20 hk, c_1, w_4, c_5] <;> rfl))
      · refine lv_iconst (v := nI 1) cx.1 cx.2.1 dX6_name_108 (by decide) ?_
        refine lv_goto (tgt := 113) cx.1 cx.2.1 dX6_name_109 (by decide) ?_
        exact RO.ret (x := 1) cx hr hlocks dX6_name_113 (by first | contradiction | (simp [yName, yNameK, b2i, nI_clamp (show k < 2147483648 by omega), xTk_in hn20 hk, c_1, w_4, c_5] <;> rfl))
    by_cases w_6 : what = 3
    · refine lv_tableIn (tgt := 114) (off := 95) cx.1 cx.2.1 dX6_name_19 (by rw [w_6]; decide) (by rw [w_6]; decide) (by rw [w_6]; decide) (by decide) ?_
      refine lv_aload_n cx.1 cx.2.1 dX6_name_114 rfl (lv_at hl 0 rfl) ?_
      refine va_get (ci := 5) (C := RX6) (T := TX6) (N := 5) (v := .ref (AD 5 0)) cx.1 cx.2.1 cx.2.2.2.2 iw_X6_name_X6 cx.2.2.2.1 hK hP 0 rfl rfl 0 (by decide) (cx.2.2.2.2 _ fw_X6_name_f10) (fun _ h9 => h9) rfl dX6_name_115 ?_
      refine lv_iload_n cx.1 cx.2.1 dX6_name_118 rfl (lv_at hl 1 rfl) ?_
      refine RO.callV (As := [.int (nI k)]) (rest := []) cx (c_X4_rowOf l G (AD 5) (Y 5) k) gX6_name_X4_rowOf rfl hd_X4_rowOf ⟨Nat.le_of_ble_eq_true rfl, Nat.le_of_ble_eq_true rfl⟩ (va_recv hK hP5 (ci := 3) (q0 := 0) rfl rfl) hK hN hP5 rfl hl.1 rfl (Nat.le_of_ble_eq_true rfl) dX6_name_119 ⟨Nat.zero_le _, Nat.zero_le _⟩ ?_
      exact RO.ret (x := xRow (Y 5) k) cx hr hlocks dX6_name_122 (by first | contradiction | (simp [yName, yNameK, b2i, nI_clamp (show k < 2147483648 by omega), xTk_in hn20 hk, c_1, w_6] <;> rfl))
    by_cases w_7 : what = 4
    · refine lv_tableIn (tgt := 123) (off := 104) cx.1 cx.2.1 dX6_name_19 (by rw [w_7]; decide) (by rw [w_7]; decide) (by rw [w_7]; decide) (by decide) ?_
      refine lv_aload_n cx.1 cx.2.1 dX6_name_123 rfl (lv_at hl 0 rfl) ?_
      refine va_get (ci := 5) (C := RX6) (T := TX6) (N := 5) (v := .ref (AD 5 0)) cx.1 cx.2.1 cx.2.2.2.2 iw_X6_name_X6 cx.2.2.2.1 hK hP 0 rfl rfl 0 (by decide) (cx.2.2.2.2 _ fw_X6_name_f10) (fun _ h9 => h9) rfl dX6_name_124 ?_
      refine lv_iload_n cx.1 cx.2.1 dX6_name_127 rfl (lv_at hl 1 rfl) ?_
      refine RO.callV (As := [.int (nI k)]) (rest := []) cx (c_X4_columnOf l G (AD 5) (Y 5) k) gX6_name_X4_columnOf rfl hd_X4_columnOf ⟨Nat.le_of_ble_eq_true rfl, Nat.le_of_ble_eq_true rfl⟩ (va_recv hK hP5 (ci := 3) (q0 := 0) rfl rfl) hK hN hP5 rfl hl.1 rfl (Nat.le_of_ble_eq_true rfl) dX6_name_128 ⟨Nat.zero_le _, Nat.zero_le _⟩ ?_
      exact RO.ret (x := xCo (Y 5) k) cx hr hlocks dX6_name_131 (by first | contradiction | (simp [yName, yNameK, b2i, nI_clamp (show k < 2147483648 by omega), xTk_in hn20 hk, c_1, w_7] <;> rfl))
    by_cases w_8 : what = 5
    · refine lv_tableIn (tgt := 141) (off := 122) cx.1 cx.2.1 dX6_name_19 (by rw [w_8]; decide) (by rw [w_8]; decide) (by rw [w_8]; decide) (by decide) ?_
      refine lv_aload_n cx.1 cx.2.1 dX6_name_141 rfl (lv_at hl 0 rfl) ?_
      refine lv_iload_n cx.1 cx.2.1 dX6_name_142 rfl (lv_at hl 1 rfl) ?_
      refine lv_iload_n cx.1 cx.2.1 dX6_name_143 rfl (lv_at hl 2 rfl) ?_
      refine lv_aload_n cx.1 cx.2.1 dX6_name_144 rfl (lv_at hl 0 rfl) ?_
      refine va_get (ci := 5) (C := RX6) (T := TX6) (N := 5) (v := .ref (AD 5 0)) cx.1 cx.2.1 cx.2.2.2.2 iw_X6_name_X6 cx.2.2.2.1 hK hP 0 rfl rfl 0 (by decide) (cx.2.2.2.2 _ fw_X6_name_f10) (fun _ h9 => h9) rfl dX6_name_145 ?_
      refine RO.callV (As := []) (rest := [.int what, .int (nI k), .ref (a 0)]) cx (c_X4_sizeNow l G (AD 5) (Y 5) hok) gX6_name_X4_sizeNow rfl hd_X4_sizeNow ⟨Nat.le_of_ble_eq_true rfl, Nat.le_of_ble_eq_true rfl⟩ (va_recv hK hP5 (ci := 3) (q0 := 0) rfl rfl) hK hN hP5 rfl hl.1 rfl (Nat.le_of_ble_eq_true rfl) dX6_name_148 ⟨Nat.zero_le _, Nat.zero_le _⟩ ?_
      refine RO.callV (As := [.int (nI k), .int what, .int (xSize (Y 5))]) (rest := []) cx (c_X6_nameBySize l G a AD Y k what (xSize (Y 5)) hok (by omega)) gX6_name_X6_nameBySize rfl hd_X6_nameBySize ⟨Nat.le_of_ble_eq_true rfl, Nat.le_of_ble_eq_true rfl⟩ (va_recv hK hP (ci := 5) (q0 := 0) rfl rfl) hK hN hP rfl hl.1 rfl (Nat.le_of_ble_eq_true rfl) dX6_name_151 ⟨Nat.zero_le _, Nat.zero_le _⟩ ?_
      exact RO.ret (x := yNbs (Y 5) k what (xSize (Y 5))) cx hr hlocks dX6_name_154 (by first | contradiction | (simp [yName, yNameK, b2i, nI_clamp (show k < 2147483648 by omega), xTk_in hn20 hk, c_1, w_8] <;> rfl))
    by_cases w_9 : what = 6
    · refine lv_tableIn (tgt := 141) (off := 122) cx.1 cx.2.1 dX6_name_19 (by rw [w_9]; decide) (by rw [w_9]; decide) (by rw [w_9]; decide) (by decide) ?_
      refine lv_aload_n cx.1 cx.2.1 dX6_name_141 rfl (lv_at hl 0 rfl) ?_
      refine lv_iload_n cx.1 cx.2.1 dX6_name_142 rfl (lv_at hl 1 rfl) ?_
      refine lv_iload_n cx.1 cx.2.1 dX6_name_143 rfl (lv_at hl 2 rfl) ?_
      refine lv_aload_n cx.1 cx.2.1 dX6_name_144 rfl (lv_at hl 0 rfl) ?_
      refine va_get (ci := 5) (C := RX6) (T := TX6) (N := 5) (v := .ref (AD 5 0)) cx.1 cx.2.1 cx.2.2.2.2 iw_X6_name_X6 cx.2.2.2.1 hK hP 0 rfl rfl 0 (by decide) (cx.2.2.2.2 _ fw_X6_name_f10) (fun _ h9 => h9) rfl dX6_name_145 ?_
      refine RO.callV (As := []) (rest := [.int what, .int (nI k), .ref (a 0)]) cx (c_X4_sizeNow l G (AD 5) (Y 5) hok) gX6_name_X4_sizeNow rfl hd_X4_sizeNow ⟨Nat.le_of_ble_eq_true rfl, Nat.le_of_ble_eq_true rfl⟩ (va_recv hK hP5 (ci := 3) (q0 := 0) rfl rfl) hK hN hP5 rfl hl.1 rfl (Nat.le_of_ble_eq_true rfl) dX6_name_148 ⟨Nat.zero_le _, Nat.zero_le _⟩ ?_
      refine RO.callV (As := [.int (nI k), .int what, .int (xSize (Y 5))]) (rest := []) cx (c_X6_nameBySize l G a AD Y k what (xSize (Y 5)) hok (by omega)) gX6_name_X6_nameBySize rfl hd_X6_nameBySize ⟨Nat.le_of_ble_eq_true rfl, Nat.le_of_ble_eq_true rfl⟩ (va_recv hK hP (ci := 5) (q0 := 0) rfl rfl) hK hN hP rfl hl.1 rfl (Nat.le_of_ble_eq_true rfl) dX6_name_151 ⟨Nat.zero_le _, Nat.zero_le _⟩ ?_
      exact RO.ret (x := yNbs (Y 5) k what (xSize (Y 5))) cx hr hlocks dX6_name_154 (by first | contradiction | (simp [yName, yNameK, b2i, nI_clamp (show k < 2147483648 by omega), xTk_in hn20 hk, c_1, w_9] <;> rfl))
    by_cases w_10 : what = 7
    · refine lv_tableIn (tgt := 141) (off := 122) cx.1 cx.2.1 dX6_name_19 (by rw [w_10]; decide) (by rw [w_10]; decide) (by rw [w_10]; decide) (by decide) ?_
      refine lv_aload_n cx.1 cx.2.1 dX6_name_141 rfl (lv_at hl 0 rfl) ?_
      refine lv_iload_n cx.1 cx.2.1 dX6_name_142 rfl (lv_at hl 1 rfl) ?_
      refine lv_iload_n cx.1 cx.2.1 dX6_name_143 rfl (lv_at hl 2 rfl) ?_
      refine lv_aload_n cx.1 cx.2.1 dX6_name_144 rfl (lv_at hl 0 rfl) ?_
      refine va_get (ci := 5) (C := RX6) (T := TX6) (N := 5) (v := .ref (AD 5 0)) cx.1 cx.2.1 cx.2.2.2.2 iw_X6_name_X6 cx.2.2.2.1 hK hP 0 rfl rfl 0 (by decide) (cx.2.2.2.2 _ fw_X6_name_f10) (fun _ h9 => h9) rfl dX6_name_145 ?_
      refine RO.callV (As := []) (rest := [.int what, .int (nI k), .ref (a 0)]) cx (c_X4_sizeNow l G (AD 5) (Y 5) hok) gX6_name_X4_sizeNow rfl hd_X4_sizeNow ⟨Nat.le_of_ble_eq_true rfl, Nat.le_of_ble_eq_true rfl⟩ (va_recv hK hP5 (ci := 3) (q0 := 0) rfl rfl) hK hN hP5 rfl hl.1 rfl (Nat.le_of_ble_eq_true rfl) dX6_name_148 ⟨Nat.zero_le _, Nat.zero_le _⟩ ?_
      refine RO.callV (As := [.int (nI k), .int what, .int (xSize (Y 5))]) (rest := []) cx (c_X6_nameBySize l G a AD Y k what (xSize (Y 5)) hok (by omega)) gX6_name_X6_nameBySize rfl hd_X6_nameBySize ⟨Nat.le_of_ble_eq_true rfl, Nat.le_of_ble_eq_true rfl⟩ (va_recv hK hP (ci := 5) (q0 := 0) rfl rfl) hK hN hP rfl hl.1 rfl (Nat.le_of_ble_eq_true rfl) dX6_name_151 ⟨Nat.zero_le _, Nat.zero_le _⟩ ?_
      exact RO.ret (x := yNbs (Y 5) k what (xSize (Y 5))) cx hr hlocks dX6_name_154 (by first | contradiction | (simp [yName, yNameK, b2i, nI_clamp (show k < 2147483648 by omega), xTk_in hn20 hk, c_1, w_10] <;> rfl))
    by_cases w_11 : what = 8
    · refine lv_tableIn (tgt := 141) (off := 122) cx.1 cx.2.1 dX6_name_19 (by rw [w_11]; decide) (by rw [w_11]; decide) (by rw [w_11]; decide) (by decide) ?_
      refine lv_aload_n cx.1 cx.2.1 dX6_name_141 rfl (lv_at hl 0 rfl) ?_
      refine lv_iload_n cx.1 cx.2.1 dX6_name_142 rfl (lv_at hl 1 rfl) ?_
      refine lv_iload_n cx.1 cx.2.1 dX6_name_143 rfl (lv_at hl 2 rfl) ?_
      refine lv_aload_n cx.1 cx.2.1 dX6_name_144 rfl (lv_at hl 0 rfl) ?_
      refine va_get (ci := 5) (C := RX6) (T := TX6) (N := 5) (v := .ref (AD 5 0)) cx.1 cx.2.1 cx.2.2.2.2 iw_X6_name_X6 cx.2.2.2.1 hK hP 0 rfl rfl 0 (by decide) (cx.2.2.2.2 _ fw_X6_name_f10) (fun _ h9 => h9) rfl dX6_name_145 ?_
      refine RO.callV (As := []) (rest := [.int what, .int (nI k), .ref (a 0)]) cx (c_X4_sizeNow l G (AD 5) (Y 5) hok) gX6_name_X4_sizeNow rfl hd_X4_sizeNow ⟨Nat.le_of_ble_eq_true rfl, Nat.le_of_ble_eq_true rfl⟩ (va_recv hK hP5 (ci := 3) (q0 := 0) rfl rfl) hK hN hP5 rfl hl.1 rfl (Nat.le_of_ble_eq_true rfl) dX6_name_148 ⟨Nat.zero_le _, Nat.zero_le _⟩ ?_
      refine RO.callV (As := [.int (nI k), .int what, .int (xSize (Y 5))]) (rest := []) cx (c_X6_nameBySize l G a AD Y k what (xSize (Y 5)) hok (by omega)) gX6_name_X6_nameBySize rfl hd_X6_nameBySize ⟨Nat.le_of_ble_eq_true rfl, Nat.le_of_ble_eq_true rfl⟩ (va_recv hK hP (ci := 5) (q0 := 0) rfl rfl) hK hN hP rfl hl.1 rfl (Nat.le_of_ble_eq_true rfl) dX6_name_151 ⟨Nat.zero_le _, Nat.zero_le _⟩ ?_
      exact RO.ret (x := yNbs (Y 5) k what (xSize (Y 5))) cx hr hlocks dX6_name_154 (by first | contradiction | (simp [yName, yNameK, b2i, nI_clamp (show k < 2147483648 by omega), xTk_in hn20 hk, c_1, w_11] <;> rfl))
    by_cases w_12 : what = 9
    · refine lv_tableIn (tgt := 141) (off := 122) cx.1 cx.2.1 dX6_name_19 (by rw [w_12]; decide) (by rw [w_12]; decide) (by rw [w_12]; decide) (by decide) ?_
      refine lv_aload_n cx.1 cx.2.1 dX6_name_141 rfl (lv_at hl 0 rfl) ?_
      refine lv_iload_n cx.1 cx.2.1 dX6_name_142 rfl (lv_at hl 1 rfl) ?_
      refine lv_iload_n cx.1 cx.2.1 dX6_name_143 rfl (lv_at hl 2 rfl) ?_
      refine lv_aload_n cx.1 cx.2.1 dX6_name_144 rfl (lv_at hl 0 rfl) ?_
      refine va_get (ci := 5) (C := RX6) (T := TX6) (N := 5) (v := .ref (AD 5 0)) cx.1 cx.2.1 cx.2.2.2.2 iw_X6_name_X6 cx.2.2.2.1 hK hP 0 rfl rfl 0 (by decide) (cx.2.2.2.2 _ fw_X6_name_f10) (fun _ h9 => h9) rfl dX6_name_145 ?_
      refine RO.callV (As := []) (rest := [.int what, .int (nI k), .ref (a 0)]) cx (c_X4_sizeNow l G (AD 5) (Y 5) hok) gX6_name_X4_sizeNow rfl hd_X4_sizeNow ⟨Nat.le_of_ble_eq_true rfl, Nat.le_of_ble_eq_true rfl⟩ (va_recv hK hP5 (ci := 3) (q0 := 0) rfl rfl) hK hN hP5 rfl hl.1 rfl (Nat.le_of_ble_eq_true rfl) dX6_name_148 ⟨Nat.zero_le _, Nat.zero_le _⟩ ?_
      refine RO.callV (As := [.int (nI k), .int what, .int (xSize (Y 5))]) (rest := []) cx (c_X6_nameBySize l G a AD Y k what (xSize (Y 5)) hok (by omega)) gX6_name_X6_nameBySize rfl hd_X6_nameBySize ⟨Nat.le_of_ble_eq_true rfl, Nat.le_of_ble_eq_true rfl⟩ (va_recv hK hP (ci := 5) (q0 := 0) rfl rfl) hK hN hP rfl hl.1 rfl (Nat.le_of_ble_eq_true rfl) dX6_name_151 ⟨Nat.zero_le _, Nat.zero_le _⟩ ?_
      exact RO.ret (x := yNbs (Y 5) k what (xSize (Y 5))) cx hr hlocks dX6_name_154 (by first | contradiction | (simp [yName, yNameK, b2i, nI_clamp (show k < 2147483648 by omega), xTk_in hn20 hk, c_1, w_12] <;> rfl))
    by_cases w_13 : what = 10
    · refine lv_tableIn (tgt := 132) (off := 113) cx.1 cx.2.1 dX6_name_19 (by rw [w_13]; decide) (by rw [w_13]; decide) (by rw [w_13]; decide) (by decide) ?_
      refine lv_aload_n cx.1 cx.2.1 dX6_name_132 rfl (lv_at hl 0 rfl) ?_
      refine va_get (ci := 5) (C := RX6) (T := TX6) (N := 5) (v := .ref (AD 5 0)) cx.1 cx.2.1 cx.2.2.2.2 iw_X6_name_X6 cx.2.2.2.1 hK hP 0 rfl rfl 0 (by decide) (cx.2.2.2.2 _ fw_X6_name_f10) (fun _ h9 => h9) rfl dX6_name_133 ?_
      refine lv_iload_n cx.1 cx.2.1 dX6_name_136 rfl (lv_at hl 1 rfl) ?_
      refine RO.callV (As := [.int (nI k)]) (rest := []) cx (c_X4_inkOf l G (AD 5) (Y 5) k hok (by omega)) gX6_name_X4_inkOf rfl hd_X4_inkOf ⟨Nat.le_of_ble_eq_true rfl, Nat.le_of_ble_eq_true rfl⟩ (va_recv hK hP5 (ci := 3) (q0 := 0) rfl rfl) hK hN hP5 rfl hl.1 rfl (Nat.le_of_ble_eq_true rfl) dX6_name_137 ⟨Nat.zero_le _, Nat.zero_le _⟩ ?_
      exact RO.ret (x := xInk (Y 5) k) cx hr hlocks dX6_name_140 (by first | contradiction | (simp [yName, yNameK, b2i, nI_clamp (show k < 2147483648 by omega), xTk_in hn20 hk, c_1, w_13] <;> rfl))
    refine lv_tableOut (tgt := 141) cx.1 cx.2.1 dX6_name_19 (sw_out what [0, 1, 2, 3, 4, 5, 6, 7, 8, 9, 10] (List.forall_mem_cons.mpr ⟨sw_ne w_2 (by decide), (List.forall_mem_cons.mpr ⟨sw_ne w_3 (by decide), (List.forall_mem_cons.mpr ⟨sw_ne w_4 (by decide), (List.forall_mem_cons.mpr ⟨sw_ne w_6 (by decide), (List.forall_mem_cons.mpr ⟨sw_ne w_7 (by decide), (List.forall_mem_cons.mpr ⟨sw_ne w_8 (by decide), (List.forall_mem_cons.mpr ⟨sw_ne w_9 (by decide), (List.forall_mem_cons.mpr ⟨sw_ne w_10 (by decide), (List.forall_mem_cons.mpr ⟨sw_ne w_11 (by decide), (List.forall_mem_cons.mpr ⟨sw_ne w_12 (by decide), (List.forall_mem_cons.mpr ⟨sw_ne w_13 (by decide), (fun _ h => absurd h List.not_mem_nil)⟩)⟩)⟩)⟩)⟩)⟩)⟩)⟩)⟩)⟩)⟩) (fun z h1 h2 => by simp only [List.mem_cons, List.not_mem_nil, or_false]; omega)) (by decide) ?_
    refine lv_aload_n cx.1 cx.2.1 dX6_name_141 rfl (lv_at hl 0 rfl) ?_
    refine lv_iload_n cx.1 cx.2.1 dX6_name_142 rfl (lv_at hl 1 rfl) ?_
    refine lv_iload_n cx.1 cx.2.1 dX6_name_143 rfl (lv_at hl 2 rfl) ?_
    refine lv_aload_n cx.1 cx.2.1 dX6_name_144 rfl (lv_at hl 0 rfl) ?_
    refine va_get (ci := 5) (C := RX6) (T := TX6) (N := 5) (v := .ref (AD 5 0)) cx.1 cx.2.1 cx.2.2.2.2 iw_X6_name_X6 cx.2.2.2.1 hK hP 0 rfl rfl 0 (by decide) (cx.2.2.2.2 _ fw_X6_name_f10) (fun _ h9 => h9) rfl dX6_name_145 ?_
    refine RO.callV (As := []) (rest := [.int what, .int (nI k), .ref (a 0)]) cx (c_X4_sizeNow l G (AD 5) (Y 5) hok) gX6_name_X4_sizeNow rfl hd_X4_sizeNow ⟨Nat.le_of_ble_eq_true rfl, Nat.le_of_ble_eq_true rfl⟩ (va_recv hK hP5 (ci := 3) (q0 := 0) rfl rfl) hK hN hP5 rfl hl.1 rfl (Nat.le_of_ble_eq_true rfl) dX6_name_148 ⟨Nat.zero_le _, Nat.zero_le _⟩ ?_
    refine RO.callV (As := [.int (nI k), .int what, .int (xSize (Y 5))]) (rest := []) cx (c_X6_nameBySize l G a AD Y k what (xSize (Y 5)) hok (by omega)) gX6_name_X6_nameBySize rfl hd_X6_nameBySize ⟨Nat.le_of_ble_eq_true rfl, Nat.le_of_ble_eq_true rfl⟩ (va_recv hK hP (ci := 5) (q0 := 0) rfl rfl) hK hN hP rfl hl.1 rfl (Nat.le_of_ble_eq_true rfl) dX6_name_151 ⟨Nat.zero_le _, Nat.zero_le _⟩ ?_
    exact RO.ret (x := yNbs (Y 5) k what (xSize (Y 5))) cx hr hlocks dX6_name_154 (by first | contradiction | (simp [yName, yNameK, b2i, nI_clamp (show k < 2147483648 by omega), xTk_in hn20 hk, c_1, w_2, w_3, w_4, w_6, w_7, w_8, w_9, w_10, w_11, w_12, w_13] <;> rfl))
  · refine lv_sipush (v := (-1001)) cx.1 cx.2.1 dX6_name_14 (by decide) ?_
    exact RO.ret (x := (-1001)) cx hr hlocks dX6_name_17 (by simp [yName, c_1])

theorem iw_X6_signBegin_X6 : ∀ w ∈ wsX60, w ∈ wsX6_signBegin := fun _ h => List.mem_cons_of_mem _ (List.mem_append_left _ (List.mem_append_left _ (List.mem_append_left _ (List.mem_append_right _ h))))
theorem fw_X6_signBegin_f10 : (Cond.fieldLink RX6 10 "NamePlate" "now" "LNamePlate$State;") ∈ wsX6_signBegin := List.mem_of_getElem? (i := 1) rfl
set_option maxHeartbeats 4000000 in
set_option maxRecDepth 100000 in
theorem c_X6_signBegin (l : Launch) (G : GG) (a : Nat → Nat) (AD : Nat → Nat → Nat) (Y : Nat → XS) (k : Nat) (j : Nat) (z : Int32) (hok : okX (Y 5)) (hk : k < 20) (hj : j ≤ 16) : RO l yX6_signBegin wsX6_signBegin 5 121 G (plC G a AD Y) [.ref (a 0), .int (nI k), .int (nI j), .int z] (ySb (Y 5) k j z) := by
  refine RO.start (cc := cX6_signBegin) (maxL := 4) (ret := (some .int)) (by decide) rfl (Nat.le_of_ble_eq_true rfl) ?_
  intro p e s m below meth c ls cx hr hlocks hK hN hP hl
  have cx : CallFix p m c cX6_signBegin 4 s [.ref (a 0), .int (nI k), .int (nI j), .int z].toArray wsX6_signBegin RX6 := cx
  have hl : lv_has ls 4 [(0, .ref (a 0)), (1, .int (nI k)), (2, .int (nI j)), (3, .int z)] := hl
  refine lv_iload_n cx.1 cx.2.1 dX6_signBegin_0 rfl (lv_at hl 3 rfl) ?_
  refine lv_if_ne (x := z) (tgt := 8) cx.1 cx.2.1 dX6_signBegin_1 (by decide) (fun c_1 => ?_) (fun c_1 => ?_)
  · refine lv_aload_n cx.1 cx.2.1 dX6_signBegin_8 rfl (lv_at hl 0 rfl) ?_
    refine va_get (ci := 5) (C := RX6) (T := TX6) (N := 5) (v := .ref (AD 5 0)) cx.1 cx.2.1 cx.2.2.2.2 iw_X6_signBegin_X6 cx.2.2.2.1 hK hP 0 rfl rfl 0 (by decide) (cx.2.2.2.2 _ fw_X6_signBegin_f10) (fun _ h9 => h9) rfl dX6_signBegin_9 ?_
    refine lv_iload_n cx.1 cx.2.1 dX6_signBegin_12 rfl (lv_at hl 1 rfl) ?_
    refine lv_iload_n cx.1 cx.2.1 dX6_signBegin_13 rfl (lv_at hl 3 rfl) ?_
    have hP5 : va_P G.1 vwCl (stC G (AD 5) (Y 5)) s.heap := pl_st hP (by decide)
    refine RO.callV (As := [.int (nI k), .int z]) (rest := []) cx (c_X4_beginOf l G (AD 5) (Y 5) k z hok (by omega)) gX6_signBegin_X4_beginOf rfl hd_X4_beginOf ⟨Nat.le_of_ble_eq_true rfl, Nat.le_of_ble_eq_true rfl⟩ (va_recv hK hP5 (ci := 3) (q0 := 0) rfl rfl) hK hN hP5 rfl hl.1 rfl (Nat.le_of_ble_eq_true rfl) dX6_signBegin_14 ⟨Nat.zero_le _, Nat.zero_le _⟩ ?_
    refine lv_aload_n cx.1 cx.2.1 dX6_signBegin_17 rfl (lv_at hl 0 rfl) ?_
    refine va_get (ci := 5) (C := RX6) (T := TX6) (N := 5) (v := .ref (AD 5 0)) cx.1 cx.2.1 cx.2.2.2.2 iw_X6_signBegin_X6 cx.2.2.2.1 hK hP 0 rfl rfl 0 (by decide) (cx.2.2.2.2 _ fw_X6_signBegin_f10) (fun _ h9 => h9) rfl dX6_signBegin_18 ?_
    refine lv_iload_n cx.1 cx.2.1 dX6_signBegin_21 rfl (lv_at hl 1 rfl) ?_
    refine lv_iload_n cx.1 cx.2.1 dX6_signBegin_22 rfl (lv_at hl 2 rfl) ?_
    refine RO.callV (As := [.int (nI k), .int (nI j)]) (rest := [.int (xBeg (Y 5) k z)]) cx (c_X4_unitsBefore l G (AD 5) (Y 5) k j hok (by omega) (by omega)) gX6_signBegin_X4_unitsBefore rfl hd_X4_unitsBefore ⟨Nat.le_of_ble_eq_true rfl, Nat.le_of_ble_eq_true rfl⟩ (va_recv hK hP5 (ci := 3) (q0 := 0) rfl rfl) hK hN hP5 rfl hl.1 rfl (Nat.le_of_ble_eq_true rfl) dX6_signBegin_23 ⟨Nat.zero_le _, Nat.zero_le _⟩ ?_
    refine lv_iload_n cx.1 cx.2.1 dX6_signBegin_26 rfl (lv_at hl 3 rfl) ?_
    refine lv_imul (x := xUb (Y 5) k j) (y := z) cx.1 cx.2.1 dX6_signBegin_27 ?_
    refine lv_iadd (x := xBeg (Y 5) k z) (y := (xUb (Y 5) k j) * z) cx.1 cx.2.1 dX6_signBegin_28 ?_
    exact RO.ret (x := (xBeg (Y 5) k z) + ((xUb (Y 5) k j) * z)) cx hr hlocks dX6_signBegin_29 (by simp [ySb, c_1])
  · refine lv_sipush (v := (-1005)) cx.1 cx.2.1 dX6_signBegin_4 (by decide) ?_
    exact RO.ret (x := (-1005)) cx hr hlocks dX6_signBegin_7 (by simp [ySb, c_1])

theorem iw_X6_sign_X6 : ∀ w ∈ wsX60, w ∈ wsX6_sign := fun _ h => List.mem_cons_of_mem _ (List.mem_append_left _ (List.mem_append_left _ (List.mem_append_left _ (List.mem_append_right _ h))))
theorem fw_X6_sign_f10 : (Cond.fieldLink RX6 10 "NamePlate" "now" "LNamePlate$State;") ∈ wsX6_sign := List.mem_of_getElem? (i := 1) rfl
theorem iw_X6_sign_X4 : ∀ w ∈ wsX40, w ∈ wsX6_sign := fun _ h => List.mem_cons_of_mem _ (List.mem_append_left _ (List.mem_append_left _ (List.mem_append_right _ h)))
set_option maxHeartbeats 4000000 in
set_option maxRecDepth 100000 in
theorem c_X6_sign (l : Launch) (G : GG) (a : Nat → Nat) (AD : Nat → Nat → Nat) (Y : Nat → XS) (seat : Int32) (index : Int32) (what : Int32) (hok : okX (Y 5)) : RO l yX6_sign wsX6_sign 6 144 G (plC G a AD Y) [.ref (a 0), .int seat, .int index, .int what] (ySign (Y 5) seat index what) := by
  refine RO.start (cc := cX6_sign) (maxL := 5) (ret := (some .int)) (by decide) rfl (Nat.le_of_ble_eq_true rfl) ?_
  intro p e s m below meth c ls cx hr hlocks hK hN hP hl
  have cx : CallFix p m c cX6_sign 5 s [.ref (a 0), .int seat, .int index, .int what].toArray wsX6_sign RX6 := cx
  have hl : lv_has ls 5 [(0, .ref (a 0)), (1, .int seat), (2, .int index), (3, .int what)] := hl
  refine lv_aload_n cx.1 cx.2.1 dX6_sign_0 rfl (lv_at hl 0 rfl) ?_
  refine va_get (ci := 5) (C := RX6) (T := TX6) (N := 5) (v := .ref (AD 5 0)) cx.1 cx.2.1 cx.2.2.2.2 iw_X6_sign_X6 cx.2.2.2.1 hK hP 0 rfl rfl 0 (by decide) (cx.2.2.2.2 _ fw_X6_sign_f10) (fun _ h9 => h9) rfl dX6_sign_1 ?_
  have hP5 : va_P G.1 vwCl (stC G (AD 5) (Y 5)) s.heap := pl_st hP (by decide)
  refine va_getN (ci := 3) (C := RX4) (T := TX4) (N := 10) (v := .ref (AD 5 1)) cx.1 cx.2.1 cx.2.2.2.2 iw_X6_sign_X4 cx.2.2.2.1 hK hP5 0 rfl rfl 0 (by decide) (va_Nw.use rfl (hN.at 0 rfl)) (fun _ h9 => h9) rfl dX6_sign_4 ?_
  refine lv_iload_n cx.1 cx.2.1 dX6_sign_7 rfl (lv_at hl 1 rfl) ?_
  refine lv_iload_n cx.1 cx.2.1 dX6_sign_8 rfl (lv_at hl 2 rfl) ?_
  refine RO.callV (As := [.int seat, .int index]) (rest := []) cx (c_X1_isIn l G (AD 5) (Y 5) seat index hok) gX6_sign_X1_isIn rfl hd_X1_isIn ⟨Nat.le_of_ble_eq_true rfl, Nat.le_of_ble_eq_true rfl⟩ (va_recv hK hP5 (ci := 1) (q0 := 1) rfl rfl) hK hN hP5 rfl hl.1 rfl (Nat.le_of_ble_eq_true rfl) dX6_sign_9 ⟨Nat.zero_le _, Nat.zero_le _⟩ ?_
  refine nv_ifnz (b := (xTk (xn (Y 5)) seat && (!(decide (index < 0)) && !(decide (nI (xl (Y 5) seat.toNatClampNeg) ≤ index))))) (tgt := 19) cx dX6_sign_12 (by decide) (fun c_1 => ?_) (fun c_1 => ?_)
  · obtain ⟨k, j, hk, hj, rfl, rfl⟩ := xIn_of hok c_1
    have hn20 := hok.n20
    have hl16 := hok.l16 (show k < 20 by omega)
    refine lv_aload_n cx.1 cx.2.1 dX6_sign_19 rfl (lv_at hl 0 rfl) ?_
    refine va_get (ci := 5) (C := RX6) (T := TX6) (N := 5) (v := .ref (AD 5 0)) cx.1 cx.2.1 cx.2.2.2.2 iw_X6_sign_X6 cx.2.2.2.1 hK hP 0 rfl rfl 0 (by decide) (cx.2.2.2.2 _ fw_X6_sign_f10) (fun _ h9 => h9) rfl dX6_sign_20 ?_
    refine va_getN (ci := 3) (C := RX4) (T := TX4) (N := 10) (v := .ref (AD 5 1)) cx.1 cx.2.1 cx.2.2.2.2 iw_X6_sign_X4 cx.2.2.2.1 hK hP5 0 rfl rfl 0 (by decide) (va_Nw.use rfl (hN.at 0 rfl)) (fun _ h9 => h9) rfl dX6_sign_23 ?_
    refine lv_iload_n cx.1 cx.2.1 dX6_sign_26 rfl (lv_at hl 1 rfl) ?_
    refine lv_iload_n cx.1 cx.2.1 dX6_sign_27 rfl (lv_at hl 2 rfl) ?_
    refine RO.callV (As := [.int (nI k), .int (nI j)]) (rest := []) cx (c_X1_codeAt l G (AD 5) (Y 5) k j hok (by omega)) gX6_sign_X1_codeAt rfl hd_X1_codeAt ⟨Nat.le_of_ble_eq_true rfl, Nat.le_of_ble_eq_true rfl⟩ (va_recv hK hP5 (ci := 1) (q0 := 1) rfl rfl) hK hN hP5 rfl hl.1 rfl (Nat.le_of_ble_eq_true rfl) dX6_sign_28 ⟨Nat.zero_le _, Nat.zero_le _⟩ ?_
    refine lv_istore (lv' := [(4, .int (xSg (Y 5) k j)), (0, .ref (a 0)), (1, .int (nI k)), (2, .int (nI j)), (3, .int what)]) cx.1 cx.2.1 dX6_sign_31 hl (by decide) rfl (fun ls hl => ?_)
    refine lv_iload_n cx.1 cx.2.1 dX6_sign_33 rfl (lv_at hl 4 rfl) ?_
    by_cases w_2 : what = 0
    · refine lv_tableIn (tgt := 72) (off := 38) cx.1 cx.2.1 dX6_sign_34 (by rw [w_2]; decide) (by rw [w_2]; decide) (by rw [w_2]; decide) (by decide) ?_
      refine lv_iload cx.1 cx.2.1 dX6_sign_72 (lv_at hl 0 rfl) ?_
      exact RO.ret (x := xSg (Y 5) k j) cx hr hlocks dX6_sign_74 (by (simp only [ySign, xIn_in hok hk hj, nI_clamp (show k < 2147483648 by omega), nI_clamp (show j < 2147483648 by omega)]; simp [ySignK, c_1, w_2] <;> rfl))
    by_cases w_3 : what = 1
    · refine lv_tableIn (tgt := 75) (off := 41) cx.1 cx.2.1 dX6_sign_34 (by rw [w_3]; decide) (by rw [w_3]; decide) (by rw [w_3]; decide) (by decide) ?_
      refine lv_aload_n cx.1 cx.2.1 dX6_sign_75 rfl (lv_at hl 1 rfl) ?_
      refine va_get (ci := 5) (C := RX6) (T := TX6) (N := 5) (v := .ref (AD 5 0)) cx.1 cx.2.1 cx.2.2.2.2 iw_X6_sign_X6 cx.2.2.2.1 hK hP 0 rfl rfl 0 (by decide) (cx.2.2.2.2 _ fw_X6_sign_f10) (fun _ h9 => h9) rfl dX6_sign_76 ?_
      refine lv_iload_n cx.1 cx.2.1 dX6_sign_79 rfl (lv_at hl 2 rfl) ?_
      refine lv_iload_n cx.1 cx.2.1 dX6_sign_80 rfl (lv_at hl 3 rfl) ?_
      refine RO.callV (As := [.int (nI k), .int (nI j)]) (rest := []) cx (c_X4_unitsBefore l G (AD 5) (Y 5) k j hok (by omega) (by omega)) gX6_sign_X4_unitsBefore rfl hd_X4_unitsBefore ⟨Nat.le_of_ble_eq_true rfl, Nat.le_of_ble_eq_true rfl⟩ (va_recv hK hP5 (ci := 3) (q0 := 0) rfl rfl) hK hN hP5 rfl hl.1 rfl (Nat.le_of_ble_eq_true rfl) dX6_sign_81 ⟨Nat.zero_le _, Nat.zero_le _⟩ ?_
      exact RO.ret (x := xUb (Y 5) k j) cx hr hlocks dX6_sign_84 (by (simp only [ySign, xIn_in hok hk hj, nI_clamp (show k < 2147483648 by omega), nI_clamp (show j < 2147483648 by omega)]; simp [ySignK, c_1, w_3] <;> rfl))
    by_cases w_4 : what = 2
    · refine lv_tableIn (tgt := 85) (off := 51) cx.1 cx.2.1 dX6_sign_34 (by rw [w_4]; decide) (by rw [w_4]; decide) (by rw [w_4]; decide) (by decide) ?_
      refine lv_iload cx.1 cx.2.1 dX6_sign_85 (lv_at hl 0 rfl) ?_
      refine RO.callS (As := [.int (xSg (Y 5) k j)]) (rest := []) cx (c_X3_width l G (xSg (Y 5) k j)) gX6_sign_X3_width rfl hd_X3_width ⟨Nat.le_of_ble_eq_true rfl, Nat.le_of_ble_eq_true rfl⟩ hK hN va_P.nil rfl hl.1 rfl (Nat.le_of_ble_eq_true rfl) dX6_sign_87 ⟨Nat.zero_le _, Nat.zero_le _⟩ ?_
      exact RO.ret (x := xW (xSg (Y 5) k j)) cx hr hlocks dX6_sign_90 (by (simp only [ySign, xIn_in hok hk hj, nI_clamp (show k < 2147483648 by omega), nI_clamp (show j < 2147483648 by omega)]; simp [ySignK, c_1, w_4] <;> rfl))
    by_cases w_5 : what = 3
    · refine lv_tableIn (tgt := 91) (off := 57) cx.1 cx.2.1 dX6_sign_34 (by rw [w_5]; decide) (by rw [w_5]; decide) (by rw [w_5]; decide) (by decide) ?_
      refine lv_aload_n cx.1 cx.2.1 dX6_sign_91 rfl (lv_at hl 1 rfl) ?_
      refine va_get (ci := 5) (C := RX6) (T := TX6) (N := 5) (v := .ref (AD 5 0)) cx.1 cx.2.1 cx.2.2.2.2 iw_X6_sign_X6 cx.2.2.2.1 hK hP 0 rfl rfl 0 (by decide) (cx.2.2.2.2 _ fw_X6_sign_f10) (fun _ h9 => h9) rfl dX6_sign_92 ?_
      refine va_getN (ci := 3) (C := RX4) (T := TX4) (N := 10) (v := .ref (AD 5 1)) cx.1 cx.2.1 cx.2.2.2.2 iw_X6_sign_X4 cx.2.2.2.1 hK hP5 0 rfl rfl 0 (by decide) (va_Nw.use rfl (hN.at 0 rfl)) (fun _ h9 => h9) rfl dX6_sign_95 ?_
      refine lv_iload_n cx.1 cx.2.1 dX6_sign_98 rfl (lv_at hl 2 rfl) ?_
      refine lv_iload_n cx.1 cx.2.1 dX6_sign_99 rfl (lv_at hl 3 rfl) ?_
      refine RO.callV (As := [.int (nI k), .int (nI j)]) (rest := []) cx (c_X1_isLast l G (AD 5) (Y 5) k j hok (by omega) (by omega)) gX6_sign_X1_isLast rfl hd_X1_isLast ⟨Nat.le_of_ble_eq_true rfl, Nat.le_of_ble_eq_true rfl⟩ (va_recv hK hP5 (ci := 1) (q0 := 1) rfl rfl) hK hN hP5 rfl hl.1 rfl (Nat.le_of_ble_eq_true rfl) dX6_sign_100 ⟨Nat.zero_le _, Nat.zero_le _⟩ ?_
      refine nv_ifz (b := decide (j = xl (Y 5) k - 1)) (tgt := 112) cx dX6_sign_103 (by decide) (fun c_6 => ?_) (fun c_6 => ?_)
      · have hj9 : ¬ j = xl (Y 5) k - 1 := of_decide_eq_false c_6
        refine lv_aload_n cx.1 cx.2.1 dX6_sign_112 rfl (lv_at hl 1 rfl) ?_
        refine va_get (ci := 5) (C := RX6) (T := TX6) (N := 5) (v := .ref (AD 5 0)) cx.1 cx.2.1 cx.2.2.2.2 iw_X6_sign_X6 cx.2.2.2.1 hK hP 0 rfl rfl 0 (by decide) (cx.2.2.2.2 _ fw_X6_sign_f10) (fun _ h9 => h9) rfl dX6_sign_113 ?_
        refine lv_iload_n cx.1 cx.2.1 dX6_sign_116 rfl (lv_at hl 2 rfl) ?_
        refine lv_iload_n cx.1 cx.2.1 dX6_sign_117 rfl (lv_at hl 3 rfl) ?_
        refine RO.callV (As := [.int (nI k), .int (nI j)]) (rest := []) cx (c_X4_spaceBehind l G (AD 5) (Y 5) k j hok (by omega) (by omega)) gX6_sign_X4_spaceBehind rfl hd_X4_spaceBehind ⟨Nat.le_of_ble_eq_true rfl, Nat.le_of_ble_eq_true rfl⟩ (va_recv hK hP5 (ci := 3) (q0 := 0) rfl rfl) hK hN hP5 rfl hl.1 rfl (Nat.le_of_ble_eq_true rfl) dX6_sign_118 ⟨Nat.zero_le _, Nat.zero_le _⟩ ?_
        exact RO.ret (x := xSp (Y 5) k j) cx hr hlocks dX6_sign_121 (by (simp only [ySign, xIn_in hok hk hj, nI_clamp (show k < 2147483648 by omega), nI_clamp (show j < 2147483648 by omega)]; simp [ySignK, c_1, w_5, c_6, hj9] <;> rfl))
      · have hj9 : j = xl (Y 5) k - 1 := of_decide_eq_true c_6
        refine lv_sipush (v := (-1005)) cx.1 cx.2.1 dX6_sign_106 (by decide) ?_
        refine lv_goto (tgt := 121) cx.1 cx.2.1 dX6_sign_109 (by decide) ?_
        exact RO.ret (x := (-1005)) cx hr hlocks dX6_sign_121 (by (simp only [ySign, xIn_in hok hk hj, nI_clamp (show k < 2147483648 by omega), nI_clamp (show j < 2147483648 by omega)]; simp [ySignK, c_1, w_5, c_6, if_pos hj9] <;> rfl))
    by_cases w_7 : what = 4
    · refine lv_tableIn (tgt := 122) (off := 88) cx.1 cx.2.1 dX6_sign_34 (by rw [w_7]; decide) (by rw [w_7]; decide) (by rw [w_7]; decide) (by decide) ?_
      refine lv_aload_n cx.1 cx.2.1 dX6_sign_122 rfl (lv_at hl 1 rfl) ?_
      refine va_get (ci := 5) (C := RX6) (T := TX6) (N := 5) (v := .ref (AD 5 0)) cx.1 cx.2.1 cx.2.2.2.2 iw_X6_sign_X6 cx.2.2.2.1 hK hP 0 rfl rfl 0 (by decide) (cx.2.2.2.2 _ fw_X6_sign_f10) (fun _ h9 => h9) rfl dX6_sign_123 ?_
      refine va_getN (ci := 3) (C := RX4) (T := TX4) (N := 10) (v := .ref (AD 5 1)) cx.1 cx.2.1 cx.2.2.2.2 iw_X6_sign_X4 cx.2.2.2.1 hK hP5 0 rfl rfl 0 (by decide) (va_Nw.use rfl (hN.at 0 rfl)) (fun _ h9 => h9) rfl dX6_sign_126 ?_
      refine lv_iload_n cx.1 cx.2.1 dX6_sign_129 rfl (lv_at hl 2 rfl) ?_
      refine lv_iload_n cx.1 cx.2.1 dX6_sign_130 rfl (lv_at hl 3 rfl) ?_
      refine RO.callV (As := [.int (nI k), .int (nI j)]) (rest := []) cx (c_X1_isLast l G (AD 5) (Y 5) k j hok (by omega) (by omega)) gX6_sign_X1_isLast rfl hd_X1_isLast ⟨Nat.le_of_ble_eq_true rfl, Nat.le_of_ble_eq_true rfl⟩ (va_recv hK hP5 (ci := 1) (q0 := 1) rfl rfl) hK hN hP5 rfl hl.1 rfl (Nat.le_of_ble_eq_true rfl) dX6_sign_131 ⟨Nat.zero_le _, Nat.zero_le _⟩ ?_
      refine nv_ifz (b := decide (j = xl (Y 5) k - 1)) (tgt := 143) cx dX6_sign_134 (by decide) (fun c_8 => ?_) (fun c_8 => ?_)
      · have hj9 : ¬ j = xl (Y 5) k - 1 := of_decide_eq_false c_8
        refine lv_aload_n cx.1 cx.2.1 dX6_sign_143 rfl (lv_at hl 1 rfl) ?_
        refine va_get (ci := 5) (C := RX6) (T := TX6) (N := 5) (v := .ref (AD 5 0)) cx.1 cx.2.1 cx.2.2.2.2 iw_X6_sign_X6 cx.2.2.2.1 hK hP 0 rfl rfl 0 (by decide) (cx.2.2.2.2 _ fw_X6_sign_f10) (fun _ h9 => h9) rfl dX6_sign_144 ?_
        refine lv_iload_n cx.1 cx.2.1 dX6_sign_147 rfl (lv_at hl 2 rfl) ?_
        refine lv_iload_n cx.1 cx.2.1 dX6_sign_148 rfl (lv_at hl 3 rfl) ?_
        refine RO.callV (As := [.int (nI k), .int (nI j)]) (rest := []) cx (c_X4_measuredSpace l G (AD 5) (Y 5) k j hok (by omega) (by omega)) gX6_sign_X4_measuredSpace rfl hd_X4_measuredSpace ⟨Nat.le_of_ble_eq_true rfl, Nat.le_of_ble_eq_true rfl⟩ (va_recv hK hP5 (ci := 3) (q0 := 0) rfl rfl) hK hN hP5 rfl hl.1 rfl (Nat.le_of_ble_eq_true rfl) dX6_sign_149 ⟨Nat.zero_le _, Nat.zero_le _⟩ ?_
        exact RO.ret (x := xMs (Y 5) k j) cx hr hlocks dX6_sign_152 (by (simp only [ySign, xIn_in hok hk hj, nI_clamp (show k < 2147483648 by omega), nI_clamp (show j < 2147483648 by omega)]; simp [ySignK, c_1, w_7, c_8, hj9] <;> rfl))
      · have hj9 : j = xl (Y 5) k - 1 := of_decide_eq_true c_8
        refine lv_sipush (v := (-1005)) cx.1 cx.2.1 dX6_sign_137 (by decide) ?_
        refine lv_goto (tgt := 152) cx.1 cx.2.1 dX6_sign_140 (by decide) ?_
        exact RO.ret (x := (-1005)) cx hr hlocks dX6_sign_152 (by (simp only [ySign, xIn_in hok hk hj, nI_clamp (show k < 2147483648 by omega), nI_clamp (show j < 2147483648 by omega)]; simp [ySignK, c_1, w_7, c_8, if_pos hj9] <;> rfl))
    by_cases w_9 : what = 5
    · refine lv_tableIn (tgt := 153) (off := 119) cx.1 cx.2.1 dX6_sign_34 (by rw [w_9]; decide) (by rw [w_9]; decide) (by rw [w_9]; decide) (by decide) ?_
      refine lv_aload_n cx.1 cx.2.1 dX6_sign_153 rfl (lv_at hl 1 rfl) ?_
      refine lv_iload_n cx.1 cx.2.1 dX6_sign_154 rfl (lv_at hl 2 rfl) ?_
      refine lv_iload_n cx.1 cx.2.1 dX6_sign_155 rfl (lv_at hl 3 rfl) ?_
      refine lv_aload_n cx.1 cx.2.1 dX6_sign_156 rfl (lv_at hl 1 rfl) ?_
      refine va_get (ci := 5) (C := RX6) (T := TX6) (N := 5) (v := .ref (AD 5 0)) cx.1 cx.2.1 cx.2.2.2.2 iw_X6_sign_X6 cx.2.2.2.1 hK hP 0 rfl rfl 0 (by decide) (cx.2.2.2.2 _ fw_X6_sign_f10) (fun _ h9 => h9) rfl dX6_sign_157 ?_
      refine RO.callV (As := []) (rest := [.int (nI j), .int (nI k), .ref (a 0)]) cx (c_X4_sizeNow l G (AD 5) (Y 5) hok) gX6_sign_X4_sizeNow rfl hd_X4_sizeNow ⟨Nat.le_of_ble_eq_true rfl, Nat.le_of_ble_eq_true rfl⟩ (va_recv hK hP5 (ci := 3) (q0 := 0) rfl rfl) hK hN hP5 rfl hl.1 rfl (Nat.le_of_ble_eq_true rfl) dX6_sign_160 ⟨Nat.zero_le _, Nat.zero_le _⟩ ?_
      refine RO.callV (As := [.int (nI k), .int (nI j), .int (xSize (Y 5))]) (rest := []) cx (c_X6_signBegin l G a AD Y k j (xSize (Y 5)) hok (by omega) (by omega)) gX6_sign_X6_signBegin rfl hd_X6_signBegin ⟨Nat.le_of_ble_eq_true rfl, Nat.le_of_ble_eq_true rfl⟩ (va_recv hK hP (ci := 5) (q0 := 0) rfl rfl) hK hN hP rfl hl.1 rfl (Nat.le_of_ble_eq_true rfl) dX6_sign_163 ⟨Nat.zero_le _, Nat.zero_le _⟩ ?_
      exact RO.ret (x := ySb (Y 5) k j (xSize (Y 5))) cx hr hlocks dX6_sign_166 (by (simp only [ySign, xIn_in hok hk hj, nI_clamp (show k < 2147483648 by omega), nI_clamp (show j < 2147483648 by omega)]; simp [ySignK, c_1, w_9] <;> rfl))
    refine lv_tableOut (tgt := 167) cx.1 cx.2.1 dX6_sign_34 (sw_out what [0, 1, 2, 3, 4, 5] (List.forall_mem_cons.mpr ⟨sw_ne w_2 (by decide), (List.forall_mem_cons.mpr ⟨sw_ne w_3 (by decide), (List.forall_mem_cons.mpr ⟨sw_ne w_4 (by decide), (List.forall_mem_cons.mpr ⟨sw_ne w_5 (by decide), (List.forall_mem_cons.mpr ⟨sw_ne w_7 (by decide), (List.forall_mem_cons.mpr ⟨sw_ne w_9 (by decide), (fun _ h => absurd h List.not_mem_nil)⟩)⟩)⟩)⟩)⟩)⟩) (fun z h1 h2 => by simp only [List.mem_cons, List.not_mem_nil, or_false]; omega)) (by decide) ?_
    refine lv_sipush (v := (-1002)) cx.1 cx.2.1 dX6_sign_167 (by decide) ?_
    exact RO.ret (x := (-1002)) cx hr hlocks dX6_sign_170 (by (simp only [ySign, xIn_in hok hk hj, nI_clamp (show k < 2147483648 by omega), nI_clamp (show j < 2147483648 by omega)]; simp [ySignK, c_1, w_2, w_3, w_4, w_5, w_7, w_9] <;> rfl))
  · refine lv_sipush (v := (-1001)) cx.1 cx.2.1 dX6_sign_15 (by decide) ?_
    exact RO.ret (x := (-1001)) cx hr hlocks dX6_sign_18 (by simp [ySign, xIn, c_1])

theorem iw_X6_signAt_X6 : ∀ w ∈ wsX60, w ∈ wsX6_signAt := fun _ h => List.mem_cons_of_mem _ (List.mem_append_left _ (List.mem_append_left _ (List.mem_append_left _ (List.mem_append_right _ h))))
theorem fw_X6_signAt_f10 : (Cond.fieldLink RX6 10 "NamePlate" "now" "LNamePlate$State;") ∈ wsX6_signAt := List.mem_of_getElem? (i := 1) rfl
theorem iw_X6_signAt_X4 : ∀ w ∈ wsX40, w ∈ wsX6_signAt := fun _ h => List.mem_cons_of_mem _ (List.mem_append_left _ (List.mem_append_left _ (List.mem_append_right _ h)))
theorem iw_X6_signAt_X1 : ∀ w ∈ wsX10, w ∈ wsX6_signAt := fun _ h => List.mem_cons_of_mem _ (List.mem_append_left _ (List.mem_append_right _ h))
set_option maxHeartbeats 4000000 in
set_option maxRecDepth 100000 in
theorem c_X6_signAt (l : Launch) (G : GG) (a : Nat → Nat) (AD : Nat → Nat → Nat) (Y : Nat → XS) (x : Int32) (y : Int32) (hok : okX (Y 5)) : RO l yX6_signAt wsX6_signAt 6 147 G (plC G a AD Y) [.ref (a 0), .int x, .int y] (yAt (Y 5) x y) := by
  refine RO.start (cc := cX6_signAt) (maxL := 7) (ret := (some .int)) (by decide) rfl (Nat.le_of_ble_eq_true rfl) ?_
  intro p e s m below meth c ls cx hr hlocks hK hN hP hl
  have cx : CallFix p m c cX6_signAt 7 s [.ref (a 0), .int x, .int y].toArray wsX6_signAt RX6 := cx
  have hl : lv_has ls 7 [(0, .ref (a 0)), (1, .int x), (2, .int y)] := hl
  have hn20 := hok.n20
  refine lv_iload_n cx.1 cx.2.1 dX6_signAt_0 rfl (lv_at hl 1 rfl) ?_
  refine lv_if_lt (x := x) (tgt := 8) cx.1 cx.2.1 dX6_signAt_1 (by decide) (fun c_1 => ?_) (fun c_1 => ?_)
  · refine lv_sipush (v := (-1002)) cx.1 cx.2.1 dX6_signAt_8 (by decide) ?_
    exact RO.ret (x := (-1002)) cx hr hlocks dX6_signAt_11 (by simp [yAt, c_1])
  · refine lv_iload_n cx.1 cx.2.1 dX6_signAt_4 rfl (lv_at hl 2 rfl) ?_
    refine lv_if_ge (x := y) (tgt := 12) cx.1 cx.2.1 dX6_signAt_5 (by decide) (fun c_2 => ?_) (fun c_2 => ?_)
    · refine lv_aload_n cx.1 cx.2.1 dX6_signAt_12 rfl (lv_at hl 0 rfl) ?_
      refine va_get (ci := 5) (C := RX6) (T := TX6) (N := 5) (v := .ref (AD 5 0)) cx.1 cx.2.1 cx.2.2.2.2 iw_X6_signAt_X6 cx.2.2.2.1 hK hP 0 rfl rfl 0 (by decide) (cx.2.2.2.2 _ fw_X6_signAt_f10) (fun _ h9 => h9) rfl dX6_signAt_13 ?_
      have hP5 : va_P G.1 vwCl (stC G (AD 5) (Y 5)) s.heap := pl_st hP (by decide)
      refine RO.callV (As := []) (rest := []) cx (c_X4_sizeNow l G (AD 5) (Y 5) hok) gX6_signAt_X4_sizeNow rfl hd_X4_sizeNow ⟨Nat.le_of_ble_eq_true rfl, Nat.le_of_ble_eq_true rfl⟩ (va_recv hK hP5 (ci := 3) (q0 := 0) rfl rfl) hK hN hP5 rfl hl.1 rfl (Nat.le_of_ble_eq_true rfl) dX6_signAt_16 ⟨Nat.zero_le _, Nat.zero_le _⟩ ?_
      refine lv_istore_n (lv' := [(3, .int (xSize (Y 5))), (0, .ref (a 0)), (1, .int x), (2, .int y)]) cx.1 cx.2.1 dX6_signAt_19 rfl hl (by decide) rfl (fun ls hl => ?_)
      refine lv_iload_n cx.1 cx.2.1 dX6_signAt_20 rfl (lv_at hl 0 rfl) ?_
      refine lv_if_ne (x := xSize (Y 5)) (tgt := 28) cx.1 cx.2.1 dX6_signAt_21 (by decide) (fun c_3 => ?_) (fun c_3 => ?_)
      · refine lv_iconst (v := nI 0) cx.1 cx.2.1 dX6_signAt_28 (by decide) ?_
        refine lv_istore (lv' := [(4, .int (nI 0)), (3, .int (xSize (Y 5))), (0, .ref (a 0)), (1, .int x), (2, .int y)]) cx.1 cx.2.1 dX6_signAt_29 hl (by decide) rfl (fun ls hl => ?_)
        have lp31 : ∀ (r : Nat) (k : Nat) (hr9 : xn (Y 5) - k < r) (hi : k ≤ xn (Y 5)) (hno : ∀ j, j < k → yHk (Y 5) (xSize (Y 5)) x y j = false) (ls : Array Slot), lv_has ls 7 [(0, .ref (a 0)), (1, .int x), (2, .int y), (3, .int (xSize (Y 5))), (4, .int (nI k))] → W p l e ({ frames := 6, cells := 0, slots := 0, locals := 147 } : Room) s m [.ref (a 0), .int x, .int y].toArray below meth c s.heap [] 0 0 (MQ below (vp_Si (fun r => r = (yAt (Y 5) x y))) [.ref (a 0), .int x, .int y].toArray s 0 0 (fun _ => False)) (F0 m 31 ls []) := by
          intro r
          induction r with
          | zero => intro k hr9; exact absurd hr9 (Nat.not_lt_zero _)
          | succ r ih31 =>
            intro k hr9 hi hno ls hl
            refine lv_iload cx.1 cx.2.1 dX6_signAt_31 (lv_at hl 4 rfl) ?_
            refine lv_aload_n cx.1 cx.2.1 dX6_signAt_33 rfl (lv_at hl 0 rfl) ?_
            refine va_get (ci := 5) (C := RX6) (T := TX6) (N := 5) (v := .ref (AD 5 0)) cx.1 cx.2.1 cx.2.2.2.2 iw_X6_signAt_X6 cx.2.2.2.1 hK hP 0 rfl rfl 0 (by decide) (cx.2.2.2.2 _ fw_X6_signAt_f10) (fun _ h9 => h9) rfl dX6_signAt_34 ?_
            refine va_getN (ci := 3) (C := RX4) (T := TX4) (N := 10) (v := .ref (AD 5 1)) cx.1 cx.2.1 cx.2.2.2.2 iw_X6_signAt_X4 cx.2.2.2.1 hK hP5 0 rfl rfl 0 (by decide) (va_Nw.use rfl (hN.at 0 rfl)) (fun _ h9 => h9) rfl dX6_signAt_37 ?_
            refine va_getN (ci := 1) (C := RX1) (T := TX1) (N := 3) (v := .int ((Y 5) 5 0)) cx.1 cx.2.1 cx.2.2.2.2 iw_X6_signAt_X1 cx.2.2.2.1 hK hP5 1 rfl rfl 2 (by decide) (va_Nw.use rfl (hN.at 1 rfl)) (fun _ h9 => h9) rfl dX6_signAt_40 ?_
            refine nv_eqi (y := nI (xn (Y 5))) hok.n ?_
            refine nv_icmp_ge (a := k) (b := xn (Y 5)) (tgt := 108) cx dX6_signAt_43 (by decide) (by omega) (by omega) (fun c_4 => ?_) (fun c_4 => ?_)
            · refine lv_sipush (v := (-1005)) cx.1 cx.2.1 dX6_signAt_108 (by decide) ?_
              exact RO.ret (x := (-1005)) cx hr hlocks dX6_signAt_111 (by have e : fstN (yHk (Y 5) (xSize (Y 5)) x y) (xn (Y 5)) = k := fstN_eq hi hno (fun q => absurd q (by omega)); have e2 : k = xn (Y 5) := (by omega); rw [e2] at e; simp [yAt, e, Int32.not_lt.mpr c_2, show ¬ x < 0 from c_1, show ¬ xSize (Y 5) = 0 from c_3])
            · refine lv_aload_n cx.1 cx.2.1 dX6_signAt_46 rfl (lv_at hl 0 rfl) ?_
              refine va_get (ci := 5) (C := RX6) (T := TX6) (N := 5) (v := .ref (AD 5 0)) cx.1 cx.2.1 cx.2.2.2.2 iw_X6_signAt_X6 cx.2.2.2.1 hK hP 0 rfl rfl 0 (by decide) (cx.2.2.2.2 _ fw_X6_signAt_f10) (fun _ h9 => h9) rfl dX6_signAt_47 ?_
              refine lv_iload cx.1 cx.2.1 dX6_signAt_50 (lv_at hl 4 rfl) ?_
              refine lv_iload_n cx.1 cx.2.1 dX6_signAt_52 rfl (lv_at hl 3 rfl) ?_
              refine RO.callV (As := [.int (nI k), .int (xSize (Y 5))]) (rest := []) cx (c_X4_rowBegin l G (AD 5) (Y 5) k (xSize (Y 5))) gX6_signAt_X4_rowBegin rfl hd_X4_rowBegin ⟨Nat.le_of_ble_eq_true rfl, Nat.le_of_ble_eq_true rfl⟩ (va_recv hK hP5 (ci := 3) (q0 := 0) rfl rfl) hK hN hP5 rfl hl.1 rfl (Nat.le_of_ble_eq_true rfl) dX6_signAt_53 ⟨Nat.zero_le _, Nat.zero_le _⟩ ?_
              refine lv_istore (lv' := [(5, .int (xRb (Y 5) k (xSize (Y 5)))), (0, .ref (a 0)), (1, .int x), (2, .int y), (3, .int (xSize (Y 5))), (4, .int (nI k))]) cx.1 cx.2.1 dX6_signAt_56 hl (by decide) rfl (fun ls hl => ?_)
              refine lv_iload_n cx.1 cx.2.1 dX6_signAt_58 rfl (lv_at hl 3 rfl) ?_
              refine lv_iload cx.1 cx.2.1 dX6_signAt_59 (lv_at hl 0 rfl) ?_
              refine lv_icmp_lt (x := y) (y := xRb (Y 5) k (xSize (Y 5))) (tgt := 102) cx.1 cx.2.1 dX6_signAt_61 (by decide) (fun c_5 => ?_) (fun c_5 => ?_)
              · refine lv_iinc (v := nI (k + 1)) (lv' := [(4, .int (nI (k + 1))), (5, .int (xRb (Y 5) k (xSize (Y 5)))), (0, .ref (a 0)), (1, .int x), (2, .int y), (3, .int (xSize (Y 5)))]) cx.1 cx.2.1 dX6_signAt_102 hl (k := 5) rfl (show nI k + Int32.ofInt 1 = nI (k + 1) from nI_add k 1) (by decide) rfl (fun ls hl => ?_)
                refine lv_goto (tgt := 31) cx.1 cx.2.1 dX6_signAt_105 (by decide) ?_
                have hno2 : ∀ j, j < k + 1 → yHk (Y 5) (xSize (Y 5)) x y j = false := lt_s hno (by simp [yHk, c_1, c_2, c_3, c_4, c_5])
                exact ih31 (k + 1) (by omega) (by omega) hno2 ls (lv_sub hl [2, 3, 4, 5, 0] rfl)
              · refine lv_iload_n cx.1 cx.2.1 dX6_signAt_64 rfl (lv_at hl 3 rfl) ?_
                refine lv_iload cx.1 cx.2.1 dX6_signAt_65 (lv_at hl 0 rfl) ?_
                refine lv_bipush (v := nI 12) cx.1 cx.2.1 dX6_signAt_67 (by decide) ?_
                refine lv_iload_n cx.1 cx.2.1 dX6_signAt_69 rfl (lv_at hl 4 rfl) ?_
                refine lv_imul (x := 12) (y := xSize (Y 5)) cx.1 cx.2.1 dX6_signAt_70 ?_
                refine lv_iadd (x := xRb (Y 5) k (xSize (Y 5))) (y := 12 * (xSize (Y 5))) cx.1 cx.2.1 dX6_signAt_71 ?_
                refine lv_icmp_ge (x := y) (y := (xRb (Y 5) k (xSize (Y 5))) + (12 * (xSize (Y 5)))) (tgt := 102) cx.1 cx.2.1 dX6_signAt_72 (by decide) (fun c_6 => ?_) (fun c_6 => ?_)
                · refine lv_iinc (v := nI (k + 1)) (lv' := [(4, .int (nI (k + 1))), (5, .int (xRb (Y 5) k (xSize (Y 5)))), (0, .ref (a 0)), (1, .int x), (2, .int y), (3, .int (xSize (Y 5)))]) cx.1 cx.2.1 dX6_signAt_102 hl (k := 5) rfl (show nI k + Int32.ofInt 1 = nI (k + 1) from nI_add k 1) (by decide) rfl (fun ls hl => ?_)
                  refine lv_goto (tgt := 31) cx.1 cx.2.1 dX6_signAt_105 (by decide) ?_
                  have hno2 : ∀ j, j < k + 1 → yHk (Y 5) (xSize (Y 5)) x y j = false := lt_s hno (by simp [yHk, c_1, c_2, c_3, c_4, c_5, c_6])
                  exact ih31 (k + 1) (by omega) (by omega) hno2 ls (lv_sub hl [2, 3, 4, 5, 0] rfl)
                · refine lv_aload_n cx.1 cx.2.1 dX6_signAt_75 rfl (lv_at hl 1 rfl) ?_
                  refine va_get (ci := 5) (C := RX6) (T := TX6) (N := 5) (v := .ref (AD 5 0)) cx.1 cx.2.1 cx.2.2.2.2 iw_X6_signAt_X6 cx.2.2.2.1 hK hP 0 rfl rfl 0 (by decide) (cx.2.2.2.2 _ fw_X6_signAt_f10) (fun _ h9 => h9) rfl dX6_signAt_76 ?_
                  refine lv_iload cx.1 cx.2.1 dX6_signAt_79 (lv_at hl 5 rfl) ?_
                  refine lv_iload_n cx.1 cx.2.1 dX6_signAt_81 rfl (lv_at hl 2 rfl) ?_
                  refine lv_iload_n cx.1 cx.2.1 dX6_signAt_82 rfl (lv_at hl 4 rfl) ?_
                  refine RO.callV (As := [.int (nI k), .int x, .int (xSize (Y 5))]) (rest := []) cx (c_X4_indexAt l G (AD 5) (Y 5) k x (xSize (Y 5)) hok (by omega)) gX6_signAt_X4_indexAt rfl hd_X4_indexAt ⟨Nat.le_of_ble_eq_true rfl, Nat.le_of_ble_eq_true rfl⟩ (va_recv hK hP5 (ci := 3) (q0 := 0) rfl rfl) hK hN hP5 rfl hl.1 rfl (Nat.le_of_ble_eq_true rfl) dX6_signAt_83 ⟨Nat.zero_le _, Nat.zero_le _⟩ ?_
                  refine lv_istore (lv' := [(6, .int (xIx (Y 5) k x (xSize (Y 5)))), (5, .int (xRb (Y 5) k (xSize (Y 5)))), (0, .ref (a 0)), (1, .int x), (2, .int y), (3, .int (xSize (Y 5))), (4, .int (nI k))]) cx.1 cx.2.1 dX6_signAt_86 hl (by decide) rfl (fun ls hl => ?_)
                  refine lv_iload cx.1 cx.2.1 dX6_signAt_88 (lv_at hl 0 rfl) ?_
                  refine lv_if_lt (x := xIx (Y 5) k x (xSize (Y 5))) (tgt := 102) cx.1 cx.2.1 dX6_signAt_90 (by decide) (fun c_7 => ?_) (fun c_7 => ?_)
                  · refine lv_iinc (v := nI (k + 1)) (lv' := [(4, .int (nI (k + 1))), (6, .int (xIx (Y 5) k x (xSize (Y 5)))), (5, .int (xRb (Y 5) k (xSize (Y 5)))), (0, .ref (a 0)), (1, .int x), (2, .int y), (3, .int (xSize (Y 5)))]) cx.1 cx.2.1 dX6_signAt_102 hl (k := 6) rfl (show nI k + Int32.ofInt 1 = nI (k + 1) from nI_add k 1) (by decide) rfl (fun ls hl => ?_)
                    refine lv_goto (tgt := 31) cx.1 cx.2.1 dX6_signAt_105 (by decide) ?_
                    have hno2 : ∀ j, j < k + 1 → yHk (Y 5) (xSize (Y 5)) x y j = false := lt_s hno (by simp [yHk, c_1, c_2, c_3, c_4, c_5, c_6, c_7])
                    exact ih31 (k + 1) (by omega) (by omega) hno2 ls (lv_sub hl [3, 4, 5, 6, 0] rfl)
                  · refine lv_bipush (v := nI 100) cx.1 cx.2.1 dX6_signAt_93 (by decide) ?_
                    refine lv_iload cx.1 cx.2.1 dX6_signAt_95 (lv_at hl 6 rfl) ?_
                    refine lv_imul (x := 100) (y := nI k) cx.1 cx.2.1 dX6_signAt_97 ?_
                    refine lv_iload cx.1 cx.2.1 dX6_signAt_98 (lv_at hl 0 rfl) ?_
                    refine lv_iadd (x := 100 * (nI k)) (y := xIx (Y 5) k x (xSize (Y 5))) cx.1 cx.2.1 dX6_signAt_100 ?_
                    exact RO.ret (x := (100 * (nI k)) + (xIx (Y 5) k x (xSize (Y 5)))) cx hr hlocks dX6_signAt_101 (by have hq : yHk (Y 5) (xSize (Y 5)) x y k = true := (by simp [yHk, c_1, c_2, c_3, c_4, c_5, c_6, c_7]); have e : fstN (yHk (Y 5) (xSize (Y 5)) x y) (xn (Y 5)) = k := fstN_eq hi hno (fun _ => hq); simp [yAt, e, Int32.not_lt.mpr c_2, c_1, c_2, c_3, c_4, c_5, c_6, c_7])
        exact lp31 _ 0 (Nat.lt_succ_self _) (by omega) (fun j hj => absurd hj (Nat.not_lt_zero _)) ls (lv_sub hl [2, 3, 4, 1, 0] rfl)
      · refine lv_sipush (v := (-1005)) cx.1 cx.2.1 dX6_signAt_24 (by decide) ?_
        exact RO.ret (x := (-1005)) cx hr hlocks dX6_signAt_27 (by simp [yAt, c_1, c_2, c_3])
    · refine lv_sipush (v := (-1002)) cx.1 cx.2.1 dX6_signAt_8 (by decide) ?_
      exact RO.ret (x := (-1002)) cx hr hlocks dX6_signAt_11 (by simp [yAt, c_1, c_2])

theorem iw_X6_sizeBy_X6 : ∀ w ∈ wsX60, w ∈ wsX6_sizeBy := fun _ h => List.mem_cons_of_mem _ (List.mem_append_left _ (List.mem_append_left _ (List.mem_append_left _ (List.mem_append_right _ h))))
theorem fw_X6_sizeBy_f10 : (Cond.fieldLink RX6 10 "NamePlate" "now" "LNamePlate$State;") ∈ wsX6_sizeBy := List.mem_of_getElem? (i := 1) rfl
theorem iw_X6_sizeBy_X4 : ∀ w ∈ wsX40, w ∈ wsX6_sizeBy := fun _ h => List.mem_cons_of_mem _ (List.mem_append_left _ (List.mem_append_left _ (List.mem_append_right _ h)))
theorem iw_X6_sizeBy_X1 : ∀ w ∈ wsX10, w ∈ wsX6_sizeBy := fun _ h => List.mem_cons_of_mem _ (List.mem_append_left _ (List.mem_append_right _ h))
set_option maxHeartbeats 4000000 in
set_option maxRecDepth 100000 in
theorem c_X6_sizeBy (l : Launch) (G : GG) (a : Nat → Nat) (AD : Nat → Nat → Nat) (Y : Nat → XS) (w : Int32) (h : Int32) (hok : okX (Y 5)) : RO l yX6_sizeBy wsX6_sizeBy 5 116 G (plC G a AD Y) [.ref (a 0), .int w, .int h] (ySizeBy (Y 5) w h) := by
  refine RO.start (cc := cX6_sizeBy) (maxL := 3) (ret := (some .int)) (by decide) rfl (Nat.le_of_ble_eq_true rfl) ?_
  intro p e s m below meth c ls cx hr hlocks hK hN hP hl
  have cx : CallFix p m c cX6_sizeBy 3 s [.ref (a 0), .int w, .int h].toArray wsX6_sizeBy RX6 := cx
  have hl : lv_has ls 3 [(0, .ref (a 0)), (1, .int w), (2, .int h)] := hl
  refine lv_iload_n cx.1 cx.2.1 dX6_sizeBy_0 rfl (lv_at hl 1 rfl) ?_
  refine lv_iload_n cx.1 cx.2.1 dX6_sizeBy_1 rfl (lv_at hl 2 rfl) ?_
  refine RO.callS (As := [.int w, .int h]) (rest := []) cx (c_X6_isPlate l G w h) gX6_sizeBy_X6_isPlate rfl hd_X6_isPlate ⟨Nat.le_of_ble_eq_true rfl, Nat.le_of_ble_eq_true rfl⟩ hK hN va_P.nil rfl hl.1 rfl (Nat.le_of_ble_eq_true rfl) dX6_sizeBy_2 ⟨Nat.zero_le _, Nat.zero_le _⟩ ?_
  refine nv_ifnz (b := isPl w h) (tgt := 12) cx dX6_sizeBy_5 (by decide) (fun c_1 => ?_) (fun c_1 => ?_)
  · refine lv_aload_n cx.1 cx.2.1 dX6_sizeBy_12 rfl (lv_at hl 0 rfl) ?_
    refine va_get (ci := 5) (C := RX6) (T := TX6) (N := 5) (v := .ref (AD 5 0)) cx.1 cx.2.1 cx.2.2.2.2 iw_X6_sizeBy_X6 cx.2.2.2.1 hK hP 0 rfl rfl 0 (by decide) (cx.2.2.2.2 _ fw_X6_sizeBy_f10) (fun _ h9 => h9) rfl dX6_sizeBy_13 ?_
    refine lv_iload_n cx.1 cx.2.1 dX6_sizeBy_16 rfl (lv_at hl 1 rfl) ?_
    refine lv_iload_n cx.1 cx.2.1 dX6_sizeBy_17 rfl (lv_at hl 2 rfl) ?_
    refine lv_aload_n cx.1 cx.2.1 dX6_sizeBy_18 rfl (lv_at hl 0 rfl) ?_
    refine va_get (ci := 5) (C := RX6) (T := TX6) (N := 5) (v := .ref (AD 5 0)) cx.1 cx.2.1 cx.2.2.2.2 iw_X6_sizeBy_X6 cx.2.2.2.1 hK hP 0 rfl rfl 0 (by decide) (cx.2.2.2.2 _ fw_X6_sizeBy_f10) (fun _ h9 => h9) rfl dX6_sizeBy_19 ?_
    have hP5 : va_P G.1 vwCl (stC G (AD 5) (Y 5)) s.heap := pl_st hP (by decide)
    refine va_getN (ci := 3) (C := RX4) (T := TX4) (N := 10) (v := .ref (AD 5 1)) cx.1 cx.2.1 cx.2.2.2.2 iw_X6_sizeBy_X4 cx.2.2.2.1 hK hP5 0 rfl rfl 0 (by decide) (va_Nw.use rfl (hN.at 0 rfl)) (fun _ h9 => h9) rfl dX6_sizeBy_22 ?_
    refine va_getN (ci := 1) (C := RX1) (T := TX1) (N := 3) (v := .int ((Y 5) 5 0)) cx.1 cx.2.1 cx.2.2.2.2 iw_X6_sizeBy_X1 cx.2.2.2.1 hK hP5 1 rfl rfl 2 (by decide) (va_Nw.use rfl (hN.at 1 rfl)) (fun _ h9 => h9) rfl dX6_sizeBy_25 ?_
    refine nv_eqi (y := nI (xn (Y 5))) hok.n ?_
    refine lv_aload_n cx.1 cx.2.1 dX6_sizeBy_28 rfl (lv_at hl 0 rfl) ?_
    refine va_get (ci := 5) (C := RX6) (T := TX6) (N := 5) (v := .ref (AD 5 0)) cx.1 cx.2.1 cx.2.2.2.2 iw_X6_sizeBy_X6 cx.2.2.2.1 hK hP 0 rfl rfl 0 (by decide) (cx.2.2.2.2 _ fw_X6_sizeBy_f10) (fun _ h9 => h9) rfl dX6_sizeBy_29 ?_
    refine lv_iconst (v := (-1)) cx.1 cx.2.1 dX6_sizeBy_32 (by decide) ?_
    refine RO.callV (As := [.int (-1)]) (rest := [.int (nI (xn (Y 5))), .int h, .int w, .ref (AD 5 0)]) cx (c_X4_mostUnits l G (AD 5) (Y 5) (-1) hok) gX6_sizeBy_X4_mostUnits rfl hd_X4_mostUnits ⟨Nat.le_of_ble_eq_true rfl, Nat.le_of_ble_eq_true rfl⟩ (va_recv hK hP5 (ci := 3) (q0 := 0) rfl rfl) hK hN hP5 rfl hl.1 rfl (Nat.le_of_ble_eq_true rfl) dX6_sizeBy_33 ⟨Nat.zero_le _, Nat.zero_le _⟩ ?_
    refine RO.callV (As := [.int w, .int h, .int (nI (xn (Y 5))), .int (xMost (Y 5) (-1))]) (rest := []) cx (c_X4_greatestSize l G (AD 5) (Y 5) w h (nI (xn (Y 5))) (xMost (Y 5) (-1))) gX6_sizeBy_X4_greatestSize rfl hd_X4_greatestSize ⟨Nat.le_of_ble_eq_true rfl, Nat.le_of_ble_eq_true rfl⟩ (va_recv hK hP5 (ci := 3) (q0 := 0) rfl rfl) hK hN hP5 rfl hl.1 rfl (Nat.le_of_ble_eq_true rfl) dX6_sizeBy_36 ⟨Nat.zero_le _, Nat.zero_le _⟩ ?_
    exact RO.ret (x := xGr (Y 5) w h (nI (xn (Y 5))) (xMost (Y 5) (-1))) cx hr hlocks dX6_sizeBy_39 (by simp [ySizeBy, c_1])
  · refine lv_sipush (v := (-1002)) cx.1 cx.2.1 dX6_sizeBy_8 (by decide) ?_
    exact RO.ret (x := (-1002)) cx hr hlocks dX6_sizeBy_11 (by simp [ySizeBy, c_1])

theorem iw_X6_sizeWithout_X6 : ∀ w ∈ wsX60, w ∈ wsX6_sizeWithout := fun _ h => List.mem_cons_of_mem _ (List.mem_append_left _ (List.mem_append_left _ (List.mem_append_left _ (List.mem_append_right _ h))))
theorem fw_X6_sizeWithout_f10 : (Cond.fieldLink RX6 10 "NamePlate" "now" "LNamePlate$State;") ∈ wsX6_sizeWithout := List.mem_of_getElem? (i := 1) rfl
theorem iw_X6_sizeWithout_X4 : ∀ w ∈ wsX40, w ∈ wsX6_sizeWithout := fun _ h => List.mem_cons_of_mem _ (List.mem_append_left _ (List.mem_append_left _ (List.mem_append_right _ h)))
theorem iw_X6_sizeWithout_X1 : ∀ w ∈ wsX10, w ∈ wsX6_sizeWithout := fun _ h => List.mem_cons_of_mem _ (List.mem_append_left _ (List.mem_append_right _ h))
set_option maxHeartbeats 4000000 in
set_option maxRecDepth 100000 in
theorem c_X6_sizeWithout (l : Launch) (G : GG) (a : Nat → Nat) (AD : Nat → Nat → Nat) (Y : Nat → XS) (seat : Int32) (hok : okX (Y 5)) : RO l yX6_sizeWithout wsX6_sizeWithout 5 116 G (plC G a AD Y) [.ref (a 0), .int seat] (ySizeWo (Y 5) seat) := by
  refine RO.start (cc := cX6_sizeWithout) (maxL := 2) (ret := (some .int)) (by decide) rfl (Nat.le_of_ble_eq_true rfl) ?_
  intro p e s m below meth c ls cx hr hlocks hK hN hP hl
  have cx : CallFix p m c cX6_sizeWithout 2 s [.ref (a 0), .int seat].toArray wsX6_sizeWithout RX6 := cx
  have hl : lv_has ls 2 [(0, .ref (a 0)), (1, .int seat)] := hl
  refine lv_aload_n cx.1 cx.2.1 dX6_sizeWithout_0 rfl (lv_at hl 0 rfl) ?_
  refine va_get (ci := 5) (C := RX6) (T := TX6) (N := 5) (v := .ref (AD 5 0)) cx.1 cx.2.1 cx.2.2.2.2 iw_X6_sizeWithout_X6 cx.2.2.2.1 hK hP 0 rfl rfl 0 (by decide) (cx.2.2.2.2 _ fw_X6_sizeWithout_f10) (fun _ h9 => h9) rfl dX6_sizeWithout_1 ?_
  have hP5 : va_P G.1 vwCl (stC G (AD 5) (Y 5)) s.heap := pl_st hP (by decide)
  refine va_getN (ci := 3) (C := RX4) (T := TX4) (N := 10) (v := .ref (AD 5 1)) cx.1 cx.2.1 cx.2.2.2.2 iw_X6_sizeWithout_X4 cx.2.2.2.1 hK hP5 0 rfl rfl 0 (by decide) (va_Nw.use rfl (hN.at 0 rfl)) (fun _ h9 => h9) rfl dX6_sizeWithout_4 ?_
  refine lv_iload_n cx.1 cx.2.1 dX6_sizeWithout_7 rfl (lv_at hl 1 rfl) ?_
  refine RO.callV (As := [.int seat]) (rest := []) cx (c_X1_isTaken l G (AD 5) (Y 5) seat hok) gX6_sizeWithout_X1_isTaken rfl hd_X1_isTaken ⟨Nat.le_of_ble_eq_true rfl, Nat.le_of_ble_eq_true rfl⟩ (va_recv hK hP5 (ci := 1) (q0 := 1) rfl rfl) hK hN hP5 rfl hl.1 rfl (Nat.le_of_ble_eq_true rfl) dX6_sizeWithout_8 ⟨Nat.zero_le _, Nat.zero_le _⟩ ?_
  refine nv_ifnz (b := xTk (xn (Y 5)) seat) (tgt := 18) cx dX6_sizeWithout_11 (by decide) (fun c_1 => ?_) (fun c_1 => ?_)
  · refine lv_aload_n cx.1 cx.2.1 dX6_sizeWithout_18 rfl (lv_at hl 0 rfl) ?_
    refine va_get (ci := 5) (C := RX6) (T := TX6) (N := 5) (v := .ref (AD 5 0)) cx.1 cx.2.1 cx.2.2.2.2 iw_X6_sizeWithout_X6 cx.2.2.2.1 hK hP 0 rfl rfl 0 (by decide) (cx.2.2.2.2 _ fw_X6_sizeWithout_f10) (fun _ h9 => h9) rfl dX6_sizeWithout_19 ?_
    refine lv_aload_n cx.1 cx.2.1 dX6_sizeWithout_22 rfl (lv_at hl 0 rfl) ?_
    refine va_get (ci := 5) (C := RX6) (T := TX6) (N := 5) (v := .ref (AD 5 0)) cx.1 cx.2.1 cx.2.2.2.2 iw_X6_sizeWithout_X6 cx.2.2.2.1 hK hP 0 rfl rfl 0 (by decide) (cx.2.2.2.2 _ fw_X6_sizeWithout_f10) (fun _ h9 => h9) rfl dX6_sizeWithout_23 ?_
    refine va_getN (ci := 3) (C := RX4) (T := TX4) (N := 10) (v := .int ((Y 5) 5 2)) cx.1 cx.2.1 cx.2.2.2.2 iw_X6_sizeWithout_X4 cx.2.2.2.1 hK hP5 0 rfl rfl 2 (by decide) (va_Nw.use rfl (hN.at 3 rfl)) (fun _ h9 => h9) rfl dX6_sizeWithout_26 ?_
    refine lv_aload_n cx.1 cx.2.1 dX6_sizeWithout_29 rfl (lv_at hl 0 rfl) ?_
    refine va_get (ci := 5) (C := RX6) (T := TX6) (N := 5) (v := .ref (AD 5 0)) cx.1 cx.2.1 cx.2.2.2.2 iw_X6_sizeWithout_X6 cx.2.2.2.1 hK hP 0 rfl rfl 0 (by decide) (cx.2.2.2.2 _ fw_X6_sizeWithout_f10) (fun _ h9 => h9) rfl dX6_sizeWithout_30 ?_
    refine va_getN (ci := 3) (C := RX4) (T := TX4) (N := 10) (v := .int ((Y 5) 5 3)) cx.1 cx.2.1 cx.2.2.2.2 iw_X6_sizeWithout_X4 cx.2.2.2.1 hK hP5 0 rfl rfl 3 (by decide) (va_Nw.use rfl (hN.at 4 rfl)) (fun _ h9 => h9) rfl dX6_sizeWithout_33 ?_
    refine lv_aload_n cx.1 cx.2.1 dX6_sizeWithout_36 rfl (lv_at hl 0 rfl) ?_
    refine va_get (ci := 5) (C := RX6) (T := TX6) (N := 5) (v := .ref (AD 5 0)) cx.1 cx.2.1 cx.2.2.2.2 iw_X6_sizeWithout_X6 cx.2.2.2.1 hK hP 0 rfl rfl 0 (by decide) (cx.2.2.2.2 _ fw_X6_sizeWithout_f10) (fun _ h9 => h9) rfl dX6_sizeWithout_37 ?_
    refine va_getN (ci := 3) (C := RX4) (T := TX4) (N := 10) (v := .ref (AD 5 1)) cx.1 cx.2.1 cx.2.2.2.2 iw_X6_sizeWithout_X4 cx.2.2.2.1 hK hP5 0 rfl rfl 0 (by decide) (va_Nw.use rfl (hN.at 0 rfl)) (fun _ h9 => h9) rfl dX6_sizeWithout_40 ?_
    refine va_getN (ci := 1) (C := RX1) (T := TX1) (N := 3) (v := .int ((Y 5) 5 0)) cx.1 cx.2.1 cx.2.2.2.2 iw_X6_sizeWithout_X1 cx.2.2.2.1 hK hP5 1 rfl rfl 2 (by decide) (va_Nw.use rfl (hN.at 1 rfl)) (fun _ h9 => h9) rfl dX6_sizeWithout_43 ?_
    refine nv_eqi (y := nI (xn (Y 5))) hok.n ?_
    refine lv_iconst (v := nI 1) cx.1 cx.2.1 dX6_sizeWithout_46 (by decide) ?_
    refine lv_isub (x := nI (xn (Y 5))) (y := 1) cx.1 cx.2.1 dX6_sizeWithout_47 ?_
    refine lv_aload_n cx.1 cx.2.1 dX6_sizeWithout_48 rfl (lv_at hl 0 rfl) ?_
    refine va_get (ci := 5) (C := RX6) (T := TX6) (N := 5) (v := .ref (AD 5 0)) cx.1 cx.2.1 cx.2.2.2.2 iw_X6_sizeWithout_X6 cx.2.2.2.1 hK hP 0 rfl rfl 0 (by decide) (cx.2.2.2.2 _ fw_X6_sizeWithout_f10) (fun _ h9 => h9) rfl dX6_sizeWithout_49 ?_
    refine lv_iload_n cx.1 cx.2.1 dX6_sizeWithout_52 rfl (lv_at hl 1 rfl) ?_
    refine RO.callV (As := [.int seat]) (rest := [.int ((nI (xn (Y 5))) - 1), .int ((Y 5) 5 3), .int ((Y 5) 5 2), .ref (AD 5 0)]) cx (c_X4_mostUnits l G (AD 5) (Y 5) seat hok) gX6_sizeWithout_X4_mostUnits rfl hd_X4_mostUnits ⟨Nat.le_of_ble_eq_true rfl, Nat.le_of_ble_eq_true rfl⟩ (va_recv hK hP5 (ci := 3) (q0 := 0) rfl rfl) hK hN hP5 rfl hl.1 rfl (Nat.le_of_ble_eq_true rfl) dX6_sizeWithout_53 ⟨Nat.zero_le _, Nat.zero_le _⟩ ?_
    refine RO.callV (As := [.int ((Y 5) 5 2), .int ((Y 5) 5 3), .int ((nI (xn (Y 5))) - 1), .int (xMost (Y 5) seat)]) (rest := []) cx (c_X4_greatestSize l G (AD 5) (Y 5) ((Y 5) 5 2) ((Y 5) 5 3) ((nI (xn (Y 5))) - 1) (xMost (Y 5) seat)) gX6_sizeWithout_X4_greatestSize rfl hd_X4_greatestSize ⟨Nat.le_of_ble_eq_true rfl, Nat.le_of_ble_eq_true rfl⟩ (va_recv hK hP5 (ci := 3) (q0 := 0) rfl rfl) hK hN hP5 rfl hl.1 rfl (Nat.le_of_ble_eq_true rfl) dX6_sizeWithout_56 ⟨Nat.zero_le _, Nat.zero_le _⟩ ?_
    exact RO.ret (x := xGr (Y 5) ((Y 5) 5 2) ((Y 5) 5 3) ((nI (xn (Y 5))) - 1) (xMost (Y 5) seat)) cx hr hlocks dX6_sizeWithout_59 (by simp [ySizeWo, c_1])
  · refine lv_sipush (v := (-1001)) cx.1 cx.2.1 dX6_sizeWithout_14 (by decide) ?_
    exact RO.ret (x := (-1001)) cx hr hlocks dX6_sizeWithout_17 (by simp [ySizeWo, c_1])

theorem iw_X6_leastWidth_X6 : ∀ w ∈ wsX60, w ∈ wsX6_leastWidth := fun _ h => List.mem_cons_of_mem _ (List.mem_append_left _ (List.mem_append_left _ (List.mem_append_left _ (List.mem_append_right _ h))))
theorem fw_X6_leastWidth_f10 : (Cond.fieldLink RX6 10 "NamePlate" "now" "LNamePlate$State;") ∈ wsX6_leastWidth := List.mem_of_getElem? (i := 1) rfl
theorem iw_X6_leastWidth_X4 : ∀ w ∈ wsX40, w ∈ wsX6_leastWidth := fun _ h => List.mem_cons_of_mem _ (List.mem_append_left _ (List.mem_append_left _ (List.mem_append_right _ h)))
theorem iw_X6_leastWidth_X1 : ∀ w ∈ wsX10, w ∈ wsX6_leastWidth := fun _ h => List.mem_cons_of_mem _ (List.mem_append_left _ (List.mem_append_right _ h))
theorem fw_X6_leastWidth_m234 : (Cond.methodLink RX6 234 Lib.Math.max.name) ∈ wsX6_leastWidth := List.mem_of_getElem? (i := 2) rfl
theorem fw_X6_leastWidth_smax : (Cond.static Lib.Math.max.name) ∈ wsX6_leastWidth := List.mem_of_getElem? (i := 3) rfl
theorem fw_X6_leastWidth_iMath : (Cond.initialized "java/lang/Math") ∈ wsX6_leastWidth := List.mem_of_getElem? (i := 4) rfl
theorem fw_X6_leastWidth_cmax : (Cond.code Lib.Math.max.name Lib.Math.max.code 2 (some .int)) ∈ wsX6_leastWidth := List.mem_of_getElem? (i := 5) rfl
set_option maxHeartbeats 4000000 in
set_option maxRecDepth 100000 in
theorem c_X6_leastWidth (l : Launch) (G : GG) (a : Nat → Nat) (AD : Nat → Nat → Nat) (Y : Nat → XS) (z : Int32) (hok : okX (Y 5)) : RO l yX6_leastWidth wsX6_leastWidth 5 116 G (plC G a AD Y) [.ref (a 0), .int z] (yLeast (Y 5) z) := by
  refine RO.start (cc := cX6_leastWidth) (maxL := 3) (ret := (some .int)) (by decide) rfl (Nat.le_of_ble_eq_true rfl) ?_
  intro p e s m below meth c ls cx hr hlocks hK hN hP hl
  have cx : CallFix p m c cX6_leastWidth 3 s [.ref (a 0), .int z].toArray wsX6_leastWidth RX6 := cx
  have hl : lv_has ls 3 [(0, .ref (a 0)), (1, .int z)] := hl
  have hn20 := hok.n20
  refine lv_iload_n cx.1 cx.2.1 dX6_leastWidth_0 rfl (lv_at hl 1 rfl) ?_
  refine lv_iconst (v := nI 1) cx.1 cx.2.1 dX6_leastWidth_1 (by decide) ?_
  refine lv_icmp_lt (x := z) (y := 1) (tgt := 11) cx.1 cx.2.1 dX6_leastWidth_2 (by decide) (fun c_1 => ?_) (fun c_1 => ?_)
  · refine lv_sipush (v := (-1002)) cx.1 cx.2.1 dX6_leastWidth_11 (by decide) ?_
    exact RO.ret (x := (-1002)) cx hr hlocks dX6_leastWidth_14 (by simp [yLeast, yLeastK, c_1])
  · refine lv_iload_n cx.1 cx.2.1 dX6_leastWidth_5 rfl (lv_at hl 1 rfl) ?_
    refine lv_bipush (v := nI 40) cx.1 cx.2.1 dX6_leastWidth_6 (by decide) ?_
    refine lv_icmp_le (x := z) (y := 40) (tgt := 15) cx.1 cx.2.1 dX6_leastWidth_8 (by decide) (fun c_2 => ?_) (fun c_2 => ?_)
    · refine lv_aload_n cx.1 cx.2.1 dX6_leastWidth_15 rfl (lv_at hl 0 rfl) ?_
      refine va_get (ci := 5) (C := RX6) (T := TX6) (N := 5) (v := .ref (AD 5 0)) cx.1 cx.2.1 cx.2.2.2.2 iw_X6_leastWidth_X6 cx.2.2.2.1 hK hP 0 rfl rfl 0 (by decide) (cx.2.2.2.2 _ fw_X6_leastWidth_f10) (fun _ h9 => h9) rfl dX6_leastWidth_16 ?_
      have hP5 : va_P G.1 vwCl (stC G (AD 5) (Y 5)) s.heap := pl_st hP (by decide)
      refine va_getN (ci := 3) (C := RX4) (T := TX4) (N := 10) (v := .ref (AD 5 1)) cx.1 cx.2.1 cx.2.2.2.2 iw_X6_leastWidth_X4 cx.2.2.2.1 hK hP5 0 rfl rfl 0 (by decide) (va_Nw.use rfl (hN.at 0 rfl)) (fun _ h9 => h9) rfl dX6_leastWidth_19 ?_
      refine va_getN (ci := 1) (C := RX1) (T := TX1) (N := 3) (v := .int ((Y 5) 5 0)) cx.1 cx.2.1 cx.2.2.2.2 iw_X6_leastWidth_X1 cx.2.2.2.1 hK hP5 1 rfl rfl 2 (by decide) (va_Nw.use rfl (hN.at 1 rfl)) (fun _ h9 => h9) rfl dX6_leastWidth_22 ?_
      refine nv_eqi (y := nI (xn (Y 5))) hok.n ?_
      refine nv_if_ne (a := xn (Y 5)) (tgt := 32) cx dX6_leastWidth_25 (by decide) (by omega) (fun c_3 => ?_) (fun c_3 => ?_)
      · refine lv_iconst (v := nI 2) cx.1 cx.2.1 dX6_leastWidth_32 (by decide) ?_
        refine lv_aload_n cx.1 cx.2.1 dX6_leastWidth_33 rfl (lv_at hl 0 rfl) ?_
        refine va_get (ci := 5) (C := RX6) (T := TX6) (N := 5) (v := .ref (AD 5 0)) cx.1 cx.2.1 cx.2.2.2.2 iw_X6_leastWidth_X6 cx.2.2.2.1 hK hP 0 rfl rfl 0 (by decide) (cx.2.2.2.2 _ fw_X6_leastWidth_f10) (fun _ h9 => h9) rfl dX6_leastWidth_34 ?_
        refine va_getN (ci := 3) (C := RX4) (T := TX4) (N := 10) (v := .int ((Y 5) 5 4)) cx.1 cx.2.1 cx.2.2.2.2 iw_X6_leastWidth_X4 cx.2.2.2.1 hK hP5 0 rfl rfl 4 (by decide) (va_Nw.use rfl (hN.at 8 rfl)) (fun _ h9 => h9) rfl dX6_leastWidth_37 ?_
        refine lv_imul (x := 2) (y := (Y 5) 5 4) cx.1 cx.2.1 dX6_leastWidth_40 ?_
        refine lv_aload_n cx.1 cx.2.1 dX6_leastWidth_41 rfl (lv_at hl 0 rfl) ?_
        refine va_get (ci := 5) (C := RX6) (T := TX6) (N := 5) (v := .ref (AD 5 0)) cx.1 cx.2.1 cx.2.2.2.2 iw_X6_leastWidth_X6 cx.2.2.2.1 hK hP 0 rfl rfl 0 (by decide) (cx.2.2.2.2 _ fw_X6_leastWidth_f10) (fun _ h9 => h9) rfl dX6_leastWidth_42 ?_
        refine va_getN (ci := 3) (C := RX4) (T := TX4) (N := 10) (v := .int ((Y 5) 5 5)) cx.1 cx.2.1 cx.2.2.2.2 iw_X6_leastWidth_X4 cx.2.2.2.1 hK hP5 0 rfl rfl 5 (by decide) (va_Nw.use rfl (hN.at 9 rfl)) (fun _ h9 => h9) rfl dX6_leastWidth_45 ?_
        refine lv_aload_n cx.1 cx.2.1 dX6_leastWidth_48 rfl (lv_at hl 0 rfl) ?_
        refine va_get (ci := 5) (C := RX6) (T := TX6) (N := 5) (v := .ref (AD 5 0)) cx.1 cx.2.1 cx.2.2.2.2 iw_X6_leastWidth_X6 cx.2.2.2.1 hK hP 0 rfl rfl 0 (by decide) (cx.2.2.2.2 _ fw_X6_leastWidth_f10) (fun _ h9 => h9) rfl dX6_leastWidth_49 ?_
        refine lv_iconst (v := (-1)) cx.1 cx.2.1 dX6_leastWidth_52 (by decide) ?_
        refine RO.callV (As := [.int (-1)]) (rest := [.int ((Y 5) 5 5), .int (2 * ((Y 5) 5 4))]) cx (c_X4_mostUnits l G (AD 5) (Y 5) (-1) hok) gX6_leastWidth_X4_mostUnits rfl hd_X4_mostUnits ⟨Nat.le_of_ble_eq_true rfl, Nat.le_of_ble_eq_true rfl⟩ (va_recv hK hP5 (ci := 3) (q0 := 0) rfl rfl) hK hN hP5 rfl hl.1 rfl (Nat.le_of_ble_eq_true rfl) dX6_leastWidth_53 ⟨Nat.zero_le _, Nat.zero_le _⟩ ?_
        refine lv_imul (x := (Y 5) 5 5) (y := xMost (Y 5) (-1)) cx.1 cx.2.1 dX6_leastWidth_56 ?_
        refine lv_iload_n cx.1 cx.2.1 dX6_leastWidth_57 rfl (lv_at hl 1 rfl) ?_
        refine lv_imul (x := ((Y 5) 5 5) * (xMost (Y 5) (-1))) (y := z) cx.1 cx.2.1 dX6_leastWidth_58 ?_
        refine lv_iadd (x := 2 * ((Y 5) 5 4)) (y := (((Y 5) 5 5) * (xMost (Y 5) (-1))) * z) cx.1 cx.2.1 dX6_leastWidth_59 ?_
        refine lv_istore_n (lv' := [(2, .int ((2 * ((Y 5) 5 4)) + ((((Y 5) 5 5) * (xMost (Y 5) (-1))) * z))), (0, .ref (a 0)), (1, .int z)]) cx.1 cx.2.1 dX6_leastWidth_60 rfl hl (by decide) rfl (fun ls hl => ?_)
        refine lv_sipush (v := nI 300) cx.1 cx.2.1 dX6_leastWidth_61 (by decide) ?_
        refine lv_iload_n cx.1 cx.2.1 dX6_leastWidth_64 rfl (lv_at hl 0 rfl) ?_
        refine va_mmax (x := 300) (y := (2 * ((Y 5) 5 4)) + ((((Y 5) 5 5) * (xMost (Y 5) (-1))) * z)) cx.1 cx.2.1 (cx.2.2.1.trans hl.1.symm) cx.2.2.2.1 (cx.2.2.2.2 _ fw_X6_leastWidth_m234) (cx.2.2.2.2 _ fw_X6_leastWidth_smax) (cx.2.2.2.2 _ fw_X6_leastWidth_iMath) (cx.2.2.2.2 _ fw_X6_leastWidth_cmax) (Nat.le_of_ble_eq_true rfl) (Nat.le_of_ble_eq_true rfl) (Nat.zero_le _) (Nat.zero_le _) dX6_leastWidth_65 ?_
        refine nv_eqi (y := imax 300 ((2 * ((Y 5) 5 4)) + ((((Y 5) 5 5) * (xMost (Y 5) (-1))) * z))) rfl ?_
        exact RO.ret (x := imax 300 ((2 * ((Y 5) 5 4)) + ((((Y 5) 5 5) * (xMost (Y 5) (-1))) * z))) cx hr hlocks dX6_leastWidth_68 (by simp [yLeast, yLeastK, c_1, c_2, c_3])
      · refine lv_sipush (v := (-1005)) cx.1 cx.2.1 dX6_leastWidth_28 (by decide) ?_
        exact RO.ret (x := (-1005)) cx hr hlocks dX6_leastWidth_31 (by simp [yLeast, yLeastK, c_1, c_2, c_3])
    · refine lv_sipush (v := (-1002)) cx.1 cx.2.1 dX6_leastWidth_11 (by decide) ?_
      exact RO.ret (x := (-1002)) cx hr hlocks dX6_leastWidth_14 (by simp [yLeast, yLeastK, c_1, c_2])

theorem iw_X6_longest_X6 : ∀ w ∈ wsX60, w ∈ wsX6_longest := fun _ h => List.mem_cons_of_mem _ (List.mem_append_left _ (List.mem_append_left _ (List.mem_append_left _ (List.mem_append_right _ h))))
theorem fw_X6_longest_f10 : (Cond.fieldLink RX6 10 "NamePlate" "now" "LNamePlate$State;") ∈ wsX6_longest := List.mem_of_getElem? (i := 1) rfl
theorem iw_X6_longest_X4 : ∀ w ∈ wsX40, w ∈ wsX6_longest := fun _ h => List.mem_cons_of_mem _ (List.mem_append_left _ (List.mem_append_left _ (List.mem_append_right _ h)))
theorem iw_X6_longest_X1 : ∀ w ∈ wsX10, w ∈ wsX6_longest := fun _ h => List.mem_cons_of_mem _ (List.mem_append_left _ (List.mem_append_right _ h))
set_option maxHeartbeats 4000000 in
set_option maxRecDepth 100000 in
theorem c_X6_longest (l : Launch) (G : GG) (a : Nat → Nat) (AD : Nat → Nat → Nat) (Y : Nat → XS)  (hok : okX (Y 5)) : RO l yX6_longest wsX6_longest 5 116 G (plC G a AD Y) [.ref (a 0)] (yLong (Y 5)) := by
  refine RO.start (cc := cX6_longest) (maxL := 3) (ret := (some .int)) (by decide) rfl (Nat.le_of_ble_eq_true rfl) ?_
  intro p e s m below meth c ls cx hr hlocks hK hN hP hl
  have cx : CallFix p m c cX6_longest 3 s [.ref (a 0)].toArray wsX6_longest RX6 := cx
  have hl : lv_has ls 3 [(0, .ref (a 0))] := hl
  have hn20 := hok.n20
  refine lv_aload_n cx.1 cx.2.1 dX6_longest_0 rfl (lv_at hl 0 rfl) ?_
  refine va_get (ci := 5) (C := RX6) (T := TX6) (N := 5) (v := .ref (AD 5 0)) cx.1 cx.2.1 cx.2.2.2.2 iw_X6_longest_X6 cx.2.2.2.1 hK hP 0 rfl rfl 0 (by decide) (cx.2.2.2.2 _ fw_X6_longest_f10) (fun _ h9 => h9) rfl dX6_longest_1 ?_
  refine lv_iconst (v := (-1)) cx.1 cx.2.1 dX6_longest_4 (by decide) ?_
  have hP5 : va_P G.1 vwCl (stC G (AD 5) (Y 5)) s.heap := pl_st hP (by decide)
  refine RO.callV (As := [.int (-1)]) (rest := []) cx (c_X4_mostUnits l G (AD 5) (Y 5) (-1) hok) gX6_longest_X4_mostUnits rfl hd_X4_mostUnits ⟨Nat.le_of_ble_eq_true rfl, Nat.le_of_ble_eq_true rfl⟩ (va_recv hK hP5 (ci := 3) (q0 := 0) rfl rfl) hK hN hP5 rfl hl.1 rfl (Nat.le_of_ble_eq_true rfl) dX6_longest_5 ⟨Nat.zero_le _, Nat.zero_le _⟩ ?_
  refine lv_istore_n (lv' := [(1, .int (xMost (Y 5) (-1))), (0, .ref (a 0))]) cx.1 cx.2.1 dX6_longest_8 rfl hl (by decide) rfl (fun ls hl => ?_)
  refine lv_iconst (v := nI 0) cx.1 cx.2.1 dX6_longest_9 (by decide) ?_
  refine lv_istore_n (lv' := [(2, .int (nI 0)), (1, .int (xMost (Y 5) (-1))), (0, .ref (a 0))]) cx.1 cx.2.1 dX6_longest_10 rfl hl (by decide) rfl (fun ls hl => ?_)
  have lp11 : ∀ (r : Nat) (i : Nat) (hr9 : xn (Y 5) - i < r) (hi : i ≤ xn (Y 5)) (hno : ∀ j, j < i → yLq (Y 5) j = false) (ls : Array Slot), lv_has ls 3 [(0, .ref (a 0)), (1, .int (xMost (Y 5) (-1))), (2, .int (nI i))] → W p l e ({ frames := 5, cells := 0, slots := 0, locals := 116 } : Room) s m [.ref (a 0)].toArray below meth c s.heap [] 0 0 (MQ below (vp_Si (fun r => r = (yLong (Y 5)))) [.ref (a 0)].toArray s 0 0 (fun _ => False)) (F0 m 11 ls []) := by
    intro r
    induction r with
    | zero => intro i hr9; exact absurd hr9 (Nat.not_lt_zero _)
    | succ r ih11 =>
      intro i hr9 hi hno ls hl
      refine lv_iload_n cx.1 cx.2.1 dX6_longest_11 rfl (lv_at hl 2 rfl) ?_
      refine lv_aload_n cx.1 cx.2.1 dX6_longest_12 rfl (lv_at hl 0 rfl) ?_
      refine va_get (ci := 5) (C := RX6) (T := TX6) (N := 5) (v := .ref (AD 5 0)) cx.1 cx.2.1 cx.2.2.2.2 iw_X6_longest_X6 cx.2.2.2.1 hK hP 0 rfl rfl 0 (by decide) (cx.2.2.2.2 _ fw_X6_longest_f10) (fun _ h9 => h9) rfl dX6_longest_13 ?_
      refine va_getN (ci := 3) (C := RX4) (T := TX4) (N := 10) (v := .ref (AD 5 1)) cx.1 cx.2.1 cx.2.2.2.2 iw_X6_longest_X4 cx.2.2.2.1 hK hP5 0 rfl rfl 0 (by decide) (va_Nw.use rfl (hN.at 0 rfl)) (fun _ h9 => h9) rfl dX6_longest_16 ?_
      refine va_getN (ci := 1) (C := RX1) (T := TX1) (N := 3) (v := .int ((Y 5) 5 0)) cx.1 cx.2.1 cx.2.2.2.2 iw_X6_longest_X1 cx.2.2.2.1 hK hP5 1 rfl rfl 2 (by decide) (va_Nw.use rfl (hN.at 1 rfl)) (fun _ h9 => h9) rfl dX6_longest_19 ?_
      refine nv_eqi (y := nI (xn (Y 5))) hok.n ?_
      refine nv_icmp_ge (a := i) (b := xn (Y 5)) (tgt := 45) cx dX6_longest_22 (by decide) (by omega) (by omega) (fun c_1 => ?_) (fun c_1 => ?_)
      · refine lv_sipush (v := (-1005)) cx.1 cx.2.1 dX6_longest_45 (by decide) ?_
        exact RO.ret (x := (-1005)) cx hr hlocks dX6_longest_48 (by have e : fstN (yLq (Y 5)) (xn (Y 5)) = i := fstN_eq hi hno (fun q => absurd q (by omega)); rw [yLong, e, if_neg (by omega)])
      · refine lv_aload_n cx.1 cx.2.1 dX6_longest_25 rfl (lv_at hl 0 rfl) ?_
        refine va_get (ci := 5) (C := RX6) (T := TX6) (N := 5) (v := .ref (AD 5 0)) cx.1 cx.2.1 cx.2.2.2.2 iw_X6_longest_X6 cx.2.2.2.1 hK hP 0 rfl rfl 0 (by decide) (cx.2.2.2.2 _ fw_X6_longest_f10) (fun _ h9 => h9) rfl dX6_longest_26 ?_
        refine lv_iload_n cx.1 cx.2.1 dX6_longest_29 rfl (lv_at hl 2 rfl) ?_
        refine RO.callV (As := [.int (nI i)]) (rest := []) cx (c_X4_unitsOf l G (AD 5) (Y 5) i hok (by omega)) gX6_longest_X4_unitsOf rfl hd_X4_unitsOf ⟨Nat.le_of_ble_eq_true rfl, Nat.le_of_ble_eq_true rfl⟩ (va_recv hK hP5 (ci := 3) (q0 := 0) rfl rfl) hK hN hP5 rfl hl.1 rfl (Nat.le_of_ble_eq_true rfl) dX6_longest_30 ⟨Nat.zero_le _, Nat.zero_le _⟩ ?_
        refine lv_iload_n cx.1 cx.2.1 dX6_longest_33 rfl (lv_at hl 1 rfl) ?_
        refine lv_icmp_ne (x := xU (Y 5) i) (y := xMost (Y 5) (-1)) (tgt := 39) cx.1 cx.2.1 dX6_longest_34 (by decide) (fun c_2 => ?_) (fun c_2 => ?_)
        · refine lv_iinc (v := nI (i + 1)) (lv' := [(2, .int (nI (i + 1))), (0, .ref (a 0)), (1, .int (xMost (Y 5) (-1)))]) cx.1 cx.2.1 dX6_longest_39 hl (k := 2) rfl (show nI i + Int32.ofInt 1 = nI (i + 1) from nI_add i 1) (by decide) rfl (fun ls hl => ?_)
          refine lv_goto (tgt := 11) cx.1 cx.2.1 dX6_longest_42 (by decide) ?_
          have hno2 : ∀ j, j < i + 1 → yLq (Y 5) j = false := lt_s hno (by simp [yLq, c_1, c_2])
          exact ih11 (i + 1) (by omega) (by omega) hno2 ls (lv_sub hl [1, 2, 0] rfl)
        · refine lv_iload_n cx.1 cx.2.1 dX6_longest_37 rfl (lv_at hl 2 rfl) ?_
          exact RO.ret (x := nI i) cx hr hlocks dX6_longest_38 (by have e : fstN (yLq (Y 5)) (xn (Y 5)) = i := fstN_eq hi hno (fun _ => by simp [yLq, c_1, c_2]); rw [yLong, e, if_pos (by omega)])
  exact lp11 _ 0 (Nat.lt_succ_self _) (by omega) (fun j hj => absurd hj (Nat.not_lt_zero _)) ls (lv_sub hl [2, 1, 0] rfl)

theorem iw_X6_adjustment_X6 : ∀ w ∈ wsX60, w ∈ wsX6_adjustment := fun _ h => List.mem_cons_of_mem _ (List.mem_append_left _ (List.mem_append_left _ (List.mem_append_right _ h)))
theorem fw_X6_adjustment_f10 : (Cond.fieldLink RX6 10 "NamePlate" "now" "LNamePlate$State;") ∈ wsX6_adjustment := List.mem_of_getElem? (i := 1) rfl
set_option maxHeartbeats 4000000 in
set_option maxRecDepth 100000 in
theorem c_X6_adjustment (l : Launch) (G : GG) (a : Nat → Nat) (AD : Nat → Nat → Nat) (Y : Nat → XS) (a0 : Int32) (b0 : Int32) (hok : okX (Y 5)) : RO l yX6_adjustment wsX6_adjustment 2 45 G (plC G a AD Y) [.ref (a 0), .int a0, .int b0] (if (xOk a0 && xOk b0) = true then xAdj (Y 5) a0 b0 else (-1001)) := by
  refine RO.start (cc := cX6_adjustment) (maxL := 3) (ret := (some .int)) (by decide) rfl (Nat.le_of_ble_eq_true rfl) ?_
  intro p e s m below meth c ls cx hr hlocks hK hN hP hl
  have cx : CallFix p m c cX6_adjustment 3 s [.ref (a 0), .int a0, .int b0].toArray wsX6_adjustment RX6 := cx
  have hl : lv_has ls 3 [(0, .ref (a 0)), (1, .int a0), (2, .int b0)] := hl
  refine lv_iload_n cx.1 cx.2.1 dX6_adjustment_0 rfl (lv_at hl 1 rfl) ?_
  refine RO.callS (As := [.int a0]) (rest := []) cx (c_X3_isKnown l G a0) gX6_adjustment_X3_isKnown rfl hd_X3_isKnown ⟨Nat.le_of_ble_eq_true rfl, Nat.le_of_ble_eq_true rfl⟩ hK hN va_P.nil rfl hl.1 rfl (Nat.le_of_ble_eq_true rfl) dX6_adjustment_1 ⟨Nat.zero_le _, Nat.zero_le _⟩ ?_
  refine nv_ifz (b := xOk a0) (tgt := 14) cx dX6_adjustment_4 (by decide) (fun c_1 => ?_) (fun c_1 => ?_)
  · refine lv_sipush (v := (-1001)) cx.1 cx.2.1 dX6_adjustment_14 (by decide) ?_
    exact RO.ret (x := (-1001)) cx hr hlocks dX6_adjustment_17 (by simp [c_1])
  · refine lv_iload_n cx.1 cx.2.1 dX6_adjustment_7 rfl (lv_at hl 2 rfl) ?_
    refine RO.callS (As := [.int b0]) (rest := []) cx (c_X3_isKnown l G b0) gX6_adjustment_X3_isKnown rfl hd_X3_isKnown ⟨Nat.le_of_ble_eq_true rfl, Nat.le_of_ble_eq_true rfl⟩ hK hN va_P.nil rfl hl.1 rfl (Nat.le_of_ble_eq_true rfl) dX6_adjustment_8 ⟨Nat.zero_le _, Nat.zero_le _⟩ ?_
    refine nv_ifnz (b := xOk b0) (tgt := 18) cx dX6_adjustment_11 (by decide) (fun c_2 => ?_) (fun c_2 => ?_)
    · refine lv_aload_n cx.1 cx.2.1 dX6_adjustment_18 rfl (lv_at hl 0 rfl) ?_
      refine va_get (ci := 5) (C := RX6) (T := TX6) (N := 5) (v := .ref (AD 5 0)) cx.1 cx.2.1 cx.2.2.2.2 iw_X6_adjustment_X6 cx.2.2.2.1 hK hP 0 rfl rfl 0 (by decide) (cx.2.2.2.2 _ fw_X6_adjustment_f10) (fun _ h9 => h9) rfl dX6_adjustment_19 ?_
      refine lv_iload_n cx.1 cx.2.1 dX6_adjustment_22 rfl (lv_at hl 1 rfl) ?_
      refine lv_iload_n cx.1 cx.2.1 dX6_adjustment_23 rfl (lv_at hl 2 rfl) ?_
      have hP5 : va_P G.1 vwCl (stC G (AD 5) (Y 5)) s.heap := pl_st hP (by decide)
      refine RO.callV (As := [.int a0, .int b0]) (rest := []) cx (c_X4_adjustmentOf l G (AD 5) (Y 5) a0 b0 hok) gX6_adjustment_X4_adjustmentOf rfl hd_X4_adjustmentOf ⟨Nat.le_of_ble_eq_true rfl, Nat.le_of_ble_eq_true rfl⟩ (va_recv hK hP5 (ci := 3) (q0 := 0) rfl rfl) hK hN hP5 rfl hl.1 rfl (Nat.le_of_ble_eq_true rfl) dX6_adjustment_24 ⟨Nat.zero_le _, Nat.zero_le _⟩ ?_
      exact RO.ret (x := xAdj (Y 5) a0 b0) cx hr hlocks dX6_adjustment_27 (by simp [c_1, c_2])
    · refine lv_sipush (v := (-1001)) cx.1 cx.2.1 dX6_adjustment_14 (by decide) ?_
      exact RO.ret (x := (-1001)) cx hr hlocks dX6_adjustment_17 (by simp [c_1, c_2])

theorem iw_X6_pair_X6 : ∀ w ∈ wsX60, w ∈ wsX6_pair := fun _ h => List.mem_cons_of_mem _ (List.mem_append_left _ (List.mem_append_left _ (List.mem_append_right _ h)))
theorem fw_X6_pair_f10 : (Cond.fieldLink RX6 10 "NamePlate" "now" "LNamePlate$State;") ∈ wsX6_pair := List.mem_of_getElem? (i := 1) rfl
theorem iw_X6_pair_X4 : ∀ w ∈ wsX40, w ∈ wsX6_pair := fun _ h => List.mem_cons_of_mem _ (List.mem_append_left _ (List.mem_append_right _ h))
set_option maxHeartbeats 4000000 in
set_option maxRecDepth 100000 in
theorem c_X6_pair (l : Launch) (G : GG) (a : Nat → Nat) (AD : Nat → Nat → Nat) (Y : Nat → XS) (place : Int32) (what : Int32) (hok : okX (Y 5)) : RO l yX6_pair wsX6_pair 2 42 G (plC G a AD Y) [.ref (a 0), .int place, .int what] (yPair (Y 5) place what) := by
  refine RO.start (cc := cX6_pair) (maxL := 3) (ret := (some .int)) (by decide) rfl (Nat.le_of_ble_eq_true rfl) ?_
  intro p e s m below meth c ls cx hr hlocks hK hN hP hl
  have cx : CallFix p m c cX6_pair 3 s [.ref (a 0), .int place, .int what].toArray wsX6_pair RX6 := cx
  have hl : lv_has ls 3 [(0, .ref (a 0)), (1, .int place), (2, .int what)] := hl
  refine lv_iload_n cx.1 cx.2.1 dX6_pair_0 rfl (lv_at hl 1 rfl) ?_
  refine lv_if_lt (x := place) (tgt := 13) cx.1 cx.2.1 dX6_pair_1 (by decide) (fun c_1 => ?_) (fun c_1 => ?_)
  · refine lv_sipush (v := (-1002)) cx.1 cx.2.1 dX6_pair_13 (by decide) ?_
    exact RO.ret (x := (-1002)) cx hr hlocks dX6_pair_16 (by first | (simp [yPair, c_1]; done) | (simp [yPair, Int32.not_le, c_1]; done))
  · refine lv_iload_n cx.1 cx.2.1 dX6_pair_4 rfl (lv_at hl 2 rfl) ?_
    refine lv_if_lt (x := what) (tgt := 13) cx.1 cx.2.1 dX6_pair_5 (by decide) (fun c_2 => ?_) (fun c_2 => ?_)
    · refine lv_sipush (v := (-1002)) cx.1 cx.2.1 dX6_pair_13 (by decide) ?_
      exact RO.ret (x := (-1002)) cx hr hlocks dX6_pair_16 (by first | (simp [yPair, c_1, c_2]; done) | (simp [yPair, Int32.not_le, c_1, c_2]; done))
    · refine lv_iload_n cx.1 cx.2.1 dX6_pair_8 rfl (lv_at hl 2 rfl) ?_
      refine lv_iconst (v := nI 2) cx.1 cx.2.1 dX6_pair_9 (by decide) ?_
      refine lv_icmp_le (x := what) (y := 2) (tgt := 17) cx.1 cx.2.1 dX6_pair_10 (by decide) (fun c_3 => ?_) (fun c_3 => ?_)
      · refine lv_aload_n cx.1 cx.2.1 dX6_pair_17 rfl (lv_at hl 0 rfl) ?_
        refine va_get (ci := 5) (C := RX6) (T := TX6) (N := 5) (v := .ref (AD 5 0)) cx.1 cx.2.1 cx.2.2.2.2 iw_X6_pair_X6 cx.2.2.2.1 hK hP 0 rfl rfl 0 (by decide) (cx.2.2.2.2 _ fw_X6_pair_f10) (fun _ h9 => h9) rfl dX6_pair_18 ?_
        have hP5 : va_P G.1 vwCl (stC G (AD 5) (Y 5)) s.heap := pl_st hP (by decide)
        refine va_getN (ci := 3) (C := RX4) (T := TX4) (N := 10) (v := .ref (AD 5 2)) cx.1 cx.2.1 cx.2.2.2.2 iw_X6_pair_X4 cx.2.2.2.1 hK hP5 0 rfl rfl 1 (by decide) (va_Nw.use rfl (hN.at 10 rfl)) (fun _ h9 => h9) rfl dX6_pair_21 ?_
        refine lv_iload_n cx.1 cx.2.1 dX6_pair_24 rfl (lv_at hl 1 rfl) ?_
        refine RO.callV (As := [.int place]) (rest := []) cx (c_X2_isPlace l G (AD 5) (Y 5) place hok) gX6_pair_X2_isPlace rfl hd_X2_isPlace ⟨Nat.le_of_ble_eq_true rfl, Nat.le_of_ble_eq_true rfl⟩ (va_recv hK hP5 (ci := 2) (q0 := 2) rfl rfl) hK hN hP5 rfl hl.1 rfl (Nat.le_of_ble_eq_true rfl) dX6_pair_25 ⟨Nat.zero_le _, Nat.zero_le _⟩ ?_
        refine nv_ifnz (b := xIp (xp (Y 5)) place) (tgt := 35) cx dX6_pair_28 (by decide) (fun c_4 => ?_) (fun c_4 => ?_)
        · obtain ⟨q, hq, rfl⟩ := xIp_of (Nat.lt_of_le_of_lt hok.p16 (by decide)) c_4
          have hp16 := hok.p16
          refine lv_iload_n cx.1 cx.2.1 dX6_pair_35 rfl (lv_at hl 2 rfl) ?_
          by_cases w_5 : what = 0
          · refine lv_lookup (tgt := 64) (off := 28) cx.1 cx.2.1 dX6_pair_36 (by decide) (by rw [w_5]; decide) (by decide) ?_
            refine lv_aload_n cx.1 cx.2.1 dX6_pair_64 rfl (lv_at hl 0 rfl) ?_
            refine va_get (ci := 5) (C := RX6) (T := TX6) (N := 5) (v := .ref (AD 5 0)) cx.1 cx.2.1 cx.2.2.2.2 iw_X6_pair_X6 cx.2.2.2.1 hK hP 0 rfl rfl 0 (by decide) (cx.2.2.2.2 _ fw_X6_pair_f10) (fun _ h9 => h9) rfl dX6_pair_65 ?_
            refine va_getN (ci := 3) (C := RX4) (T := TX4) (N := 10) (v := .ref (AD 5 2)) cx.1 cx.2.1 cx.2.2.2.2 iw_X6_pair_X4 cx.2.2.2.1 hK hP5 0 rfl rfl 1 (by decide) (va_Nw.use rfl (hN.at 10 rfl)) (fun _ h9 => h9) rfl dX6_pair_68 ?_
            refine lv_iload_n cx.1 cx.2.1 dX6_pair_71 rfl (lv_at hl 1 rfl) ?_
            refine RO.callV (As := [.int (nI q)]) (rest := []) cx (c_X2_leftAt l G (AD 5) (Y 5) q hok (by omega)) gX6_pair_X2_leftAt rfl hd_X2_leftAt ⟨Nat.le_of_ble_eq_true rfl, Nat.le_of_ble_eq_true rfl⟩ (va_recv hK hP5 (ci := 2) (q0 := 2) rfl rfl) hK hN hP5 rfl hl.1 rfl (Nat.le_of_ble_eq_true rfl) dX6_pair_72 ⟨Nat.zero_le _, Nat.zero_le _⟩ ?_
            exact RO.ret (x := (Y 5) 2 q) cx hr hlocks dX6_pair_75 (by simp [yPair, xAt, xIp_in hp16 hq, nI_clamp (show q < 2147483648 by omega), nI_pos (show q < 2147483648 by omega), hq, c_1, c_2, c_3, c_4, w_5])
          by_cases w_6 : what = 1
          · refine lv_lookup (tgt := 76) (off := 40) cx.1 cx.2.1 dX6_pair_36 (by decide) (by rw [w_6]; decide) (by decide) ?_
            refine lv_aload_n cx.1 cx.2.1 dX6_pair_76 rfl (lv_at hl 0 rfl) ?_
            refine va_get (ci := 5) (C := RX6) (T := TX6) (N := 5) (v := .ref (AD 5 0)) cx.1 cx.2.1 cx.2.2.2.2 iw_X6_pair_X6 cx.2.2.2.1 hK hP 0 rfl rfl 0 (by decide) (cx.2.2.2.2 _ fw_X6_pair_f10) (fun _ h9 => h9) rfl dX6_pair_77 ?_
            refine va_getN (ci := 3) (C := RX4) (T := TX4) (N := 10) (v := .ref (AD 5 2)) cx.1 cx.2.1 cx.2.2.2.2 iw_X6_pair_X4 cx.2.2.2.1 hK hP5 0 rfl rfl 1 (by decide) (va_Nw.use rfl (hN.at 10 rfl)) (fun _ h9 => h9) rfl dX6_pair_80 ?_
            refine lv_iload_n cx.1 cx.2.1 dX6_pair_83 rfl (lv_at hl 1 rfl) ?_
            refine RO.callV (As := [.int (nI q)]) (rest := []) cx (c_X2_rightAt l G (AD 5) (Y 5) q hok (by omega)) gX6_pair_X2_rightAt rfl hd_X2_rightAt ⟨Nat.le_of_ble_eq_true rfl, Nat.le_of_ble_eq_true rfl⟩ (va_recv hK hP5 (ci := 2) (q0 := 2) rfl rfl) hK hN hP5 rfl hl.1 rfl (Nat.le_of_ble_eq_true rfl) dX6_pair_84 ⟨Nat.zero_le _, Nat.zero_le _⟩ ?_
            exact RO.ret (x := (Y 5) 3 q) cx hr hlocks dX6_pair_87 (by simp [yPair, xAt, xIp_in hp16 hq, nI_clamp (show q < 2147483648 by omega), nI_pos (show q < 2147483648 by omega), hq, c_1, c_2, c_3, c_4, w_6])
          refine lv_lookup (tgt := 88) (off := 52) cx.1 cx.2.1 dX6_pair_36 (by decide) (by show Op.lookupswitch.offset [(0, 28), (1, 40)] (52) _ = _; rw [lv_osw w_5 (by decide), lv_osw w_6 (by decide)]; rfl) (by decide) ?_
          refine lv_aload_n cx.1 cx.2.1 dX6_pair_88 rfl (lv_at hl 0 rfl) ?_
          refine va_get (ci := 5) (C := RX6) (T := TX6) (N := 5) (v := .ref (AD 5 0)) cx.1 cx.2.1 cx.2.2.2.2 iw_X6_pair_X6 cx.2.2.2.1 hK hP 0 rfl rfl 0 (by decide) (cx.2.2.2.2 _ fw_X6_pair_f10) (fun _ h9 => h9) rfl dX6_pair_89 ?_
          refine va_getN (ci := 3) (C := RX4) (T := TX4) (N := 10) (v := .ref (AD 5 2)) cx.1 cx.2.1 cx.2.2.2.2 iw_X6_pair_X4 cx.2.2.2.1 hK hP5 0 rfl rfl 1 (by decide) (va_Nw.use rfl (hN.at 10 rfl)) (fun _ h9 => h9) rfl dX6_pair_92 ?_
          refine lv_iload_n cx.1 cx.2.1 dX6_pair_95 rfl (lv_at hl 1 rfl) ?_
          refine RO.callV (As := [.int (nI q)]) (rest := []) cx (c_X2_adjustmentAt l G (AD 5) (Y 5) q hok (by omega)) gX6_pair_X2_adjustmentAt rfl hd_X2_adjustmentAt ⟨Nat.le_of_ble_eq_true rfl, Nat.le_of_ble_eq_true rfl⟩ (va_recv hK hP5 (ci := 2) (q0 := 2) rfl rfl) hK hN hP5 rfl hl.1 rfl (Nat.le_of_ble_eq_true rfl) dX6_pair_96 ⟨Nat.zero_le _, Nat.zero_le _⟩ ?_
          exact RO.ret (x := xAt (Y 5) q) cx hr hlocks dX6_pair_99 (by simp [yPair, xAt, xIp_in hp16 hq, nI_clamp (show q < 2147483648 by omega), nI_pos (show q < 2147483648 by omega), hq, c_1, c_2, c_3, c_4, w_5, w_6])
        · refine lv_sipush (v := (-1005)) cx.1 cx.2.1 dX6_pair_31 (by decide) ?_
          exact RO.ret (x := (-1005)) cx hr hlocks dX6_pair_34 (by simp [yPair, c_1, c_2, c_3, c_4])
      · refine lv_sipush (v := (-1002)) cx.1 cx.2.1 dX6_pair_13 (by decide) ?_
        exact RO.ret (x := (-1002)) cx hr hlocks dX6_pair_16 (by first | (simp [yPair, c_1, c_2, c_3]; done) | (simp [yPair, Int32.not_le, c_1, c_2, c_3]; done))

theorem iw_X6_count_X6 : ∀ w ∈ wsX60, w ∈ wsX6_count := fun _ h => List.mem_cons_of_mem _ (List.mem_append_left _ (List.mem_append_left _ (List.mem_append_left _ (List.mem_append_left _ (List.mem_append_left _ (List.mem_append_right _ h))))))
theorem fw_X6_count_f10 : (Cond.fieldLink RX6 10 "NamePlate" "now" "LNamePlate$State;") ∈ wsX6_count := List.mem_of_getElem? (i := 1) rfl
theorem iw_X6_count_X4 : ∀ w ∈ wsX40, w ∈ wsX6_count := fun _ h => List.mem_cons_of_mem _ (List.mem_append_left _ (List.mem_append_left _ (List.mem_append_left _ (List.mem_append_left _ (List.mem_append_right _ h)))))
theorem iw_X6_count_X1 : ∀ w ∈ wsX10, w ∈ wsX6_count := fun _ h => List.mem_cons_of_mem _ (List.mem_append_left _ (List.mem_append_left _ (List.mem_append_left _ (List.mem_append_right _ h))))
theorem iw_X6_count_X2 : ∀ w ∈ wsX20, w ∈ wsX6_count := fun _ h => List.mem_cons_of_mem _ (List.mem_append_left _ (List.mem_append_left _ (List.mem_append_right _ h)))
theorem fw_X6_count_f22 : (Cond.fieldLink RX6 22 "NamePlate" "history" "LNamePlate$History;") ∈ wsX6_count := List.mem_of_getElem? (i := 2) rfl
theorem iw_X6_count_X0 : ∀ w ∈ wsX00, w ∈ wsX6_count := fun _ h => List.mem_cons_of_mem _ (List.mem_append_left _ (List.mem_append_right _ h))
theorem fw_X6_count_f29 : (Cond.fieldLink RX6 29 "NamePlate" "text" "LNamePlate$Text;") ∈ wsX6_count := List.mem_of_getElem? (i := 3) rfl
theorem iw_X6_count_X5 : ∀ w ∈ wsX50, w ∈ wsX6_count := fun _ h => List.mem_cons_of_mem _ (List.mem_append_right _ h)
set_option maxHeartbeats 4000000 in
set_option maxRecDepth 100000 in
theorem c_X6_count (l : Launch) (G : GG) (a : Nat → Nat) (AD : Nat → Nat → Nat) (Y : Nat → XS) (what : Int32) (hok : okX (Y 5)) : RO l yX6_count wsX6_count 3 64 G (plC G a AD Y) [.ref (a 0), .int what] (yCount Y what) := by
  refine RO.start (cc := cX6_count) (maxL := 2) (ret := (some .int)) (by decide) rfl (Nat.le_of_ble_eq_true rfl) ?_
  intro p e s m below meth c ls cx hr hlocks hK hN hP hl
  have cx : CallFix p m c cX6_count 2 s [.ref (a 0), .int what].toArray wsX6_count RX6 := cx
  have hl : lv_has ls 2 [(0, .ref (a 0)), (1, .int what)] := hl
  refine lv_iload_n cx.1 cx.2.1 dX6_count_0 rfl (lv_at hl 1 rfl) ?_
  by_cases w_1 : what = 0
  · refine lv_tableIn (tgt := 64) (off := 63) cx.1 cx.2.1 dX6_count_1 (by rw [w_1]; decide) (by rw [w_1]; decide) (by rw [w_1]; decide) (by decide) ?_
    refine lv_aload_n cx.1 cx.2.1 dX6_count_64 rfl (lv_at hl 0 rfl) ?_
    refine va_get (ci := 5) (C := RX6) (T := TX6) (N := 5) (v := .ref (AD 5 0)) cx.1 cx.2.1 cx.2.2.2.2 iw_X6_count_X6 cx.2.2.2.1 hK hP 0 rfl rfl 0 (by decide) (cx.2.2.2.2 _ fw_X6_count_f10) (fun _ h9 => h9) rfl dX6_count_65 ?_
    have hP5 : va_P G.1 vwCl (stC G (AD 5) (Y 5)) s.heap := pl_st hP (by decide)
    refine va_getN (ci := 3) (C := RX4) (T := TX4) (N := 10) (v := .int ((Y 5) 5 2)) cx.1 cx.2.1 cx.2.2.2.2 iw_X6_count_X4 cx.2.2.2.1 hK hP5 0 rfl rfl 2 (by decide) (va_Nw.use rfl (hN.at 3 rfl)) (fun _ h9 => h9) rfl dX6_count_68 ?_
    exact RO.ret (x := (Y 5) 5 2) cx hr hlocks dX6_count_71 (by simp [yCount, w_1])
  by_cases w_2 : what = 1
  · refine lv_tableIn (tgt := 72) (off := 71) cx.1 cx.2.1 dX6_count_1 (by rw [w_2]; decide) (by rw [w_2]; decide) (by rw [w_2]; decide) (by decide) ?_
    refine lv_aload_n cx.1 cx.2.1 dX6_count_72 rfl (lv_at hl 0 rfl) ?_
    refine va_get (ci := 5) (C := RX6) (T := TX6) (N := 5) (v := .ref (AD 5 0)) cx.1 cx.2.1 cx.2.2.2.2 iw_X6_count_X6 cx.2.2.2.1 hK hP 0 rfl rfl 0 (by decide) (cx.2.2.2.2 _ fw_X6_count_f10) (fun _ h9 => h9) rfl dX6_count_73 ?_
    have hP5 : va_P G.1 vwCl (stC G (AD 5) (Y 5)) s.heap := pl_st hP (by decide)
    refine va_getN (ci := 3) (C := RX4) (T := TX4) (N := 10) (v := .int ((Y 5) 5 3)) cx.1 cx.2.1 cx.2.2.2.2 iw_X6_count_X4 cx.2.2.2.1 hK hP5 0 rfl rfl 3 (by decide) (va_Nw.use rfl (hN.at 4 rfl)) (fun _ h9 => h9) rfl dX6_count_76 ?_
    exact RO.ret (x := (Y 5) 5 3) cx hr hlocks dX6_count_79 (by simp [yCount, w_2])
  by_cases w_3 : what = 2
  · refine lv_tableIn (tgt := 80) (off := 79) cx.1 cx.2.1 dX6_count_1 (by rw [w_3]; decide) (by rw [w_3]; decide) (by rw [w_3]; decide) (by decide) ?_
    refine lv_aload_n cx.1 cx.2.1 dX6_count_80 rfl (lv_at hl 0 rfl) ?_
    refine va_get (ci := 5) (C := RX6) (T := TX6) (N := 5) (v := .ref (AD 5 0)) cx.1 cx.2.1 cx.2.2.2.2 iw_X6_count_X6 cx.2.2.2.1 hK hP 0 rfl rfl 0 (by decide) (cx.2.2.2.2 _ fw_X6_count_f10) (fun _ h9 => h9) rfl dX6_count_81 ?_
    have hP5 : va_P G.1 vwCl (stC G (AD 5) (Y 5)) s.heap := pl_st hP (by decide)
    refine va_getN (ci := 3) (C := RX4) (T := TX4) (N := 10) (v := .int ((Y 5) 5 4)) cx.1 cx.2.1 cx.2.2.2.2 iw_X6_count_X4 cx.2.2.2.1 hK hP5 0 rfl rfl 4 (by decide) (va_Nw.use rfl (hN.at 8 rfl)) (fun _ h9 => h9) rfl dX6_count_84 ?_
    exact RO.ret (x := (Y 5) 5 4) cx hr hlocks dX6_count_87 (by simp [yCount, w_3])
  by_cases w_4 : what = 3
  · refine lv_tableIn (tgt := 88) (off := 87) cx.1 cx.2.1 dX6_count_1 (by rw [w_4]; decide) (by rw [w_4]; decide) (by rw [w_4]; decide) (by decide) ?_
    refine lv_aload_n cx.1 cx.2.1 dX6_count_88 rfl (lv_at hl 0 rfl) ?_
    refine va_get (ci := 5) (C := RX6) (T := TX6) (N := 5) (v := .ref (AD 5 0)) cx.1 cx.2.1 cx.2.2.2.2 iw_X6_count_X6 cx.2.2.2.1 hK hP 0 rfl rfl 0 (by decide) (cx.2.2.2.2 _ fw_X6_count_f10) (fun _ h9 => h9) rfl dX6_count_89 ?_
    have hP5 : va_P G.1 vwCl (stC G (AD 5) (Y 5)) s.heap := pl_st hP (by decide)
    refine va_getN (ci := 3) (C := RX4) (T := TX4) (N := 10) (v := .int ((Y 5) 5 5)) cx.1 cx.2.1 cx.2.2.2.2 iw_X6_count_X4 cx.2.2.2.1 hK hP5 0 rfl rfl 5 (by decide) (va_Nw.use rfl (hN.at 9 rfl)) (fun _ h9 => h9) rfl dX6_count_92 ?_
    exact RO.ret (x := (Y 5) 5 5) cx hr hlocks dX6_count_95 (by simp [yCount, w_4])
  by_cases w_5 : what = 4
  · refine lv_tableIn (tgt := 96) (off := 95) cx.1 cx.2.1 dX6_count_1 (by rw [w_5]; decide) (by rw [w_5]; decide) (by rw [w_5]; decide) (by decide) ?_
    refine lv_aload_n cx.1 cx.2.1 dX6_count_96 rfl (lv_at hl 0 rfl) ?_
    refine va_get (ci := 5) (C := RX6) (T := TX6) (N := 5) (v := .ref (AD 5 0)) cx.1 cx.2.1 cx.2.2.2.2 iw_X6_count_X6 cx.2.2.2.1 hK hP 0 rfl rfl 0 (by decide) (cx.2.2.2.2 _ fw_X6_count_f10) (fun _ h9 => h9) rfl dX6_count_97 ?_
    have hP5 : va_P G.1 vwCl (stC G (AD 5) (Y 5)) s.heap := pl_st hP (by decide)
    refine va_getN (ci := 3) (C := RX4) (T := TX4) (N := 10) (v := .ref (AD 5 1)) cx.1 cx.2.1 cx.2.2.2.2 iw_X6_count_X4 cx.2.2.2.1 hK hP5 0 rfl rfl 0 (by decide) (va_Nw.use rfl (hN.at 0 rfl)) (fun _ h9 => h9) rfl dX6_count_100 ?_
    refine va_getN (ci := 1) (C := RX1) (T := TX1) (N := 3) (v := .int ((Y 5) 5 0)) cx.1 cx.2.1 cx.2.2.2.2 iw_X6_count_X1 cx.2.2.2.1 hK hP5 1 rfl rfl 2 (by decide) (va_Nw.use rfl (hN.at 1 rfl)) (fun _ h9 => h9) rfl dX6_count_103 ?_
    exact RO.ret (x := (Y 5) 5 0) cx hr hlocks dX6_count_106 (by simp [yCount, w_5])
  by_cases w_6 : what = 5
  · refine lv_tableIn (tgt := 107) (off := 106) cx.1 cx.2.1 dX6_count_1 (by rw [w_6]; decide) (by rw [w_6]; decide) (by rw [w_6]; decide) (by decide) ?_
    refine lv_aload_n cx.1 cx.2.1 dX6_count_107 rfl (lv_at hl 0 rfl) ?_
    refine va_get (ci := 5) (C := RX6) (T := TX6) (N := 5) (v := .ref (AD 5 0)) cx.1 cx.2.1 cx.2.2.2.2 iw_X6_count_X6 cx.2.2.2.1 hK hP 0 rfl rfl 0 (by decide) (cx.2.2.2.2 _ fw_X6_count_f10) (fun _ h9 => h9) rfl dX6_count_108 ?_
    have hP5 : va_P G.1 vwCl (stC G (AD 5) (Y 5)) s.heap := pl_st hP (by decide)
    refine RO.callV (As := []) (rest := []) cx (c_X4_engravedNames l G (AD 5) (Y 5)) gX6_count_X4_engravedNames rfl hd_X4_engravedNames ⟨Nat.le_of_ble_eq_true rfl, Nat.le_of_ble_eq_true rfl⟩ (va_recv hK hP5 (ci := 3) (q0 := 0) rfl rfl) hK hN hP5 rfl hl.1 rfl (Nat.le_of_ble_eq_true rfl) dX6_count_111 ⟨Nat.zero_le _, Nat.zero_le _⟩ ?_
    exact RO.ret (x := bitc ((Y 5) 5 6)) cx hr hlocks dX6_count_114 (by simp [yCount, w_6])
  by_cases w_7 : what = 6
  · refine lv_tableIn (tgt := 115) (off := 114) cx.1 cx.2.1 dX6_count_1 (by rw [w_7]; decide) (by rw [w_7]; decide) (by rw [w_7]; decide) (by decide) ?_
    refine lv_aload_n cx.1 cx.2.1 dX6_count_115 rfl (lv_at hl 0 rfl) ?_
    refine va_get (ci := 5) (C := RX6) (T := TX6) (N := 5) (v := .ref (AD 5 0)) cx.1 cx.2.1 cx.2.2.2.2 iw_X6_count_X6 cx.2.2.2.1 hK hP 0 rfl rfl 0 (by decide) (cx.2.2.2.2 _ fw_X6_count_f10) (fun _ h9 => h9) rfl dX6_count_116 ?_
    refine lv_aload_n cx.1 cx.2.1 dX6_count_119 rfl (lv_at hl 0 rfl) ?_
    refine va_get (ci := 5) (C := RX6) (T := TX6) (N := 5) (v := .ref (AD 5 0)) cx.1 cx.2.1 cx.2.2.2.2 iw_X6_count_X6 cx.2.2.2.1 hK hP 0 rfl rfl 0 (by decide) (cx.2.2.2.2 _ fw_X6_count_f10) (fun _ h9 => h9) rfl dX6_count_120 ?_
    have hP5 : va_P G.1 vwCl (stC G (AD 5) (Y 5)) s.heap := pl_st hP (by decide)
    refine va_getN (ci := 3) (C := RX4) (T := TX4) (N := 10) (v := .ref (AD 5 1)) cx.1 cx.2.1 cx.2.2.2.2 iw_X6_count_X4 cx.2.2.2.1 hK hP5 0 rfl rfl 0 (by decide) (va_Nw.use rfl (hN.at 0 rfl)) (fun _ h9 => h9) rfl dX6_count_123 ?_
    refine va_getN (ci := 1) (C := RX1) (T := TX1) (N := 3) (v := .int ((Y 5) 5 0)) cx.1 cx.2.1 cx.2.2.2.2 iw_X6_count_X1 cx.2.2.2.1 hK hP5 1 rfl rfl 2 (by decide) (va_Nw.use rfl (hN.at 1 rfl)) (fun _ h9 => h9) rfl dX6_count_126 ?_
    refine RO.callV (As := [.int ((Y 5) 5 0)]) (rest := []) cx (c_X4_rowsFor l G (AD 5) (Y 5) ((Y 5) 5 0)) gX6_count_X4_rowsFor rfl hd_X4_rowsFor ⟨Nat.le_of_ble_eq_true rfl, Nat.le_of_ble_eq_true rfl⟩ (va_recv hK hP5 (ci := 3) (q0 := 0) rfl rfl) hK hN hP5 rfl hl.1 rfl (Nat.le_of_ble_eq_true rfl) dX6_count_129 ⟨Nat.zero_le _, Nat.zero_le _⟩ ?_
    exact RO.ret (x := xRows (Y 5) ((Y 5) 5 0)) cx hr hlocks dX6_count_132 (by simp [yCount, w_7])
  by_cases w_8 : what = 7
  · refine lv_tableIn (tgt := 133) (off := 132) cx.1 cx.2.1 dX6_count_1 (by rw [w_8]; decide) (by rw [w_8]; decide) (by rw [w_8]; decide) (by decide) ?_
    refine lv_aload_n cx.1 cx.2.1 dX6_count_133 rfl (lv_at hl 0 rfl) ?_
    refine va_get (ci := 5) (C := RX6) (T := TX6) (N := 5) (v := .ref (AD 5 0)) cx.1 cx.2.1 cx.2.2.2.2 iw_X6_count_X6 cx.2.2.2.1 hK hP 0 rfl rfl 0 (by decide) (cx.2.2.2.2 _ fw_X6_count_f10) (fun _ h9 => h9) rfl dX6_count_134 ?_
    have hP5 : va_P G.1 vwCl (stC G (AD 5) (Y 5)) s.heap := pl_st hP (by decide)
    refine va_getN (ci := 3) (C := RX4) (T := TX4) (N := 10) (v := .int ((Y 5) 5 8)) cx.1 cx.2.1 cx.2.2.2.2 iw_X6_count_X4 cx.2.2.2.1 hK hP5 0 rfl rfl 8 (by decide) (va_Nw.use rfl (hN.at 5 rfl)) (fun _ h9 => h9) rfl dX6_count_137 ?_
    exact RO.ret (x := (Y 5) 5 8) cx hr hlocks dX6_count_140 (by simp [yCount, w_8])
  by_cases w_9 : what = 8
  · refine lv_tableIn (tgt := 141) (off := 140) cx.1 cx.2.1 dX6_count_1 (by rw [w_9]; decide) (by rw [w_9]; decide) (by rw [w_9]; decide) (by decide) ?_
    refine lv_aload_n cx.1 cx.2.1 dX6_count_141 rfl (lv_at hl 0 rfl) ?_
    refine va_get (ci := 5) (C := RX6) (T := TX6) (N := 5) (v := .ref (AD 5 0)) cx.1 cx.2.1 cx.2.2.2.2 iw_X6_count_X6 cx.2.2.2.1 hK hP 0 rfl rfl 0 (by decide) (cx.2.2.2.2 _ fw_X6_count_f10) (fun _ h9 => h9) rfl dX6_count_142 ?_
    have hP5 : va_P G.1 vwCl (stC G (AD 5) (Y 5)) s.heap := pl_st hP (by decide)
    refine va_getN (ci := 3) (C := RX4) (T := TX4) (N := 10) (v := .int ((Y 5) 5 9)) cx.1 cx.2.1 cx.2.2.2.2 iw_X6_count_X4 cx.2.2.2.1 hK hP5 0 rfl rfl 9 (by decide) (va_Nw.use rfl (hN.at 6 rfl)) (fun _ h9 => h9) rfl dX6_count_145 ?_
    exact RO.ret (x := (Y 5) 5 9) cx hr hlocks dX6_count_148 (by simp [yCount, w_9])
  by_cases w_10 : what = 9
  · refine lv_tableIn (tgt := 149) (off := 148) cx.1 cx.2.1 dX6_count_1 (by rw [w_10]; decide) (by rw [w_10]; decide) (by rw [w_10]; decide) (by decide) ?_
    refine lv_aload_n cx.1 cx.2.1 dX6_count_149 rfl (lv_at hl 0 rfl) ?_
    refine va_get (ci := 5) (C := RX6) (T := TX6) (N := 5) (v := .ref (AD 5 0)) cx.1 cx.2.1 cx.2.2.2.2 iw_X6_count_X6 cx.2.2.2.1 hK hP 0 rfl rfl 0 (by decide) (cx.2.2.2.2 _ fw_X6_count_f10) (fun _ h9 => h9) rfl dX6_count_150 ?_
    have hP5 : va_P G.1 vwCl (stC G (AD 5) (Y 5)) s.heap := pl_st hP (by decide)
    refine va_getN (ci := 3) (C := RX4) (T := TX4) (N := 10) (v := .ref (AD 5 2)) cx.1 cx.2.1 cx.2.2.2.2 iw_X6_count_X4 cx.2.2.2.1 hK hP5 0 rfl rfl 1 (by decide) (va_Nw.use rfl (hN.at 10 rfl)) (fun _ h9 => h9) rfl dX6_count_153 ?_
    refine va_getN (ci := 2) (C := RX2) (T := TX2) (N := 4) (v := .int ((Y 5) 5 1)) cx.1 cx.2.1 cx.2.2.2.2 iw_X6_count_X2 cx.2.2.2.1 hK hP5 2 rfl rfl 3 (by decide) (va_Nw.use rfl (hN.at 7 rfl)) (fun _ h9 => h9) rfl dX6_count_156 ?_
    exact RO.ret (x := (Y 5) 5 1) cx hr hlocks dX6_count_159 (by simp [yCount, w_10])
  by_cases w_11 : what = 10
  · refine lv_tableIn (tgt := 160) (off := 159) cx.1 cx.2.1 dX6_count_1 (by rw [w_11]; decide) (by rw [w_11]; decide) (by rw [w_11]; decide) (by decide) ?_
    refine lv_aload_n cx.1 cx.2.1 dX6_count_160 rfl (lv_at hl 0 rfl) ?_
    refine va_get (ci := 5) (C := RX6) (T := TX6) (N := 5) (v := .ref (a 1)) cx.1 cx.2.1 cx.2.2.2.2 iw_X6_count_X6 cx.2.2.2.1 hK hP 0 rfl rfl 2 (by decide) (cx.2.2.2.2 _ fw_X6_count_f22) (fun _ h9 => h9) rfl dX6_count_161 ?_
    refine va_getN (ci := 0) (C := RX0) (T := TX0) (N := 3) (v := .int (Y 7 5 1)) cx.1 cx.2.1 cx.2.2.2.2 iw_X6_count_X0 cx.2.2.2.1 hK hP 1 rfl rfl 2 (by decide) (va_Nw.use rfl (hN.at 2 rfl)) (fun _ h9 => h9) rfl dX6_count_164 ?_
    exact RO.ret (x := Y 7 5 1) cx hr hlocks dX6_count_167 (by simp [yCount, w_11])
  by_cases w_12 : what = 11
  · refine lv_tableIn (tgt := 168) (off := 167) cx.1 cx.2.1 dX6_count_1 (by rw [w_12]; decide) (by rw [w_12]; decide) (by rw [w_12]; decide) (by decide) ?_
    refine lv_aload_n cx.1 cx.2.1 dX6_count_168 rfl (lv_at hl 0 rfl) ?_
    refine va_get (ci := 5) (C := RX6) (T := TX6) (N := 5) (v := .ref (a 3)) cx.1 cx.2.1 cx.2.2.2.2 iw_X6_count_X6 cx.2.2.2.1 hK hP 0 rfl rfl 3 (by decide) (cx.2.2.2.2 _ fw_X6_count_f29) (fun _ h9 => h9) rfl dX6_count_169 ?_
    refine va_getN (ci := 4) (C := RX5) (T := TX5) (N := 2) (v := .int (Y 7 5 2)) cx.1 cx.2.1 cx.2.2.2.2 iw_X6_count_X5 cx.2.2.2.1 hK hP 3 rfl rfl 1 (by decide) (va_Nw.use rfl (hN.at 11 rfl)) (fun _ h9 => h9) rfl dX6_count_172 ?_
    exact RO.ret (x := Y 7 5 2) cx hr hlocks dX6_count_175 (by simp [yCount, w_12])
  refine lv_tableOut (tgt := 176) cx.1 cx.2.1 dX6_count_1 (sw_out what [0, 1, 2, 3, 4, 5, 6, 7, 8, 9, 10, 11] (List.forall_mem_cons.mpr ⟨sw_ne w_1 (by decide), (List.forall_mem_cons.mpr ⟨sw_ne w_2 (by decide), (List.forall_mem_cons.mpr ⟨sw_ne w_3 (by decide), (List.forall_mem_cons.mpr ⟨sw_ne w_4 (by decide), (List.forall_mem_cons.mpr ⟨sw_ne w_5 (by decide), (List.forall_mem_cons.mpr ⟨sw_ne w_6 (by decide), (List.forall_mem_cons.mpr ⟨sw_ne w_7 (by decide), (List.forall_mem_cons.mpr ⟨sw_ne w_8 (by decide), (List.forall_mem_cons.mpr ⟨sw_ne w_9 (by decide), (List.forall_mem_cons.mpr ⟨sw_ne w_10 (by decide), (List.forall_mem_cons.mpr ⟨sw_ne w_11 (by decide), (List.forall_mem_cons.mpr ⟨sw_ne w_12 (by decide), (fun _ h => absurd h List.not_mem_nil)⟩)⟩)⟩)⟩)⟩)⟩)⟩)⟩)⟩)⟩)⟩)⟩) (fun z h1 h2 => by simp only [List.mem_cons, List.not_mem_nil, or_false]; omega)) (by decide) ?_
  refine lv_sipush (v := (-1002)) cx.1 cx.2.1 dX6_count_176 (by decide) ?_
  exact RO.ret (x := (-1002)) cx hr hlocks dX6_count_179 (by simp [yCount, w_1, w_2, w_3, w_4, w_5, w_6, w_7, w_8, w_9, w_10, w_11, w_12])
