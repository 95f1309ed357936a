/-! ===== m2: laid by program ===== -/
set_option maxHeartbeats 4000000 in
set_option maxRecDepth 100000 in
theorem c_X7_columnWide (l : Launch) (G : GG)  (w : Int32) (g0 : Int32) (c0 : Int32) (hc : ¬ c0 = 0) : RO l yX7_columnWide wsX7_columnWide 0 0 G ([]) [.int w, .int g0, .int c0] ((w - 2 * g0) / c0) := by
  refine RO.start (cc := cX7_columnWide) (maxL := 3) (ret := (some .int)) (by decide) rfl (Nat.le_of_ble_eq_true rfl) ?_
  intro p e s m below meth c ls cx hr hlocks hK hN hP hl
  have cx : CallFix p m c cX7_columnWide 3 s [.int w, .int g0, .int c0].toArray wsX7_columnWide RX7 := cx
  have hl : lv_has ls 3 [(0, .int w), (1, .int g0), (2, .int c0)] := hl
  refine lv_iload_n cx.1 cx.2.1 dX7_columnWide_0 rfl (lv_at hl 0 rfl) ?_
  refine lv_iconst (v := nI 2) cx.1 cx.2.1 dX7_columnWide_1 (by decide) ?_
  refine lv_iload_n cx.1 cx.2.1 dX7_columnWide_2 rfl (lv_at hl 1 rfl) ?_
  refine lv_imul (x := 2) (y := g0) cx.1 cx.2.1 dX7_columnWide_3 ?_
  refine lv_isub (x := w) (y := 2 * g0) cx.1 cx.2.1 dX7_columnWide_4 ?_
  refine lv_iload_n cx.1 cx.2.1 dX7_columnWide_5 rfl (lv_at hl 2 rfl) ?_
  refine lv_idiv (x := w - (2 * g0)) (y := c0) cx.1 cx.2.1 dX7_columnWide_6 hc ?_
  exact RO.ret (x := (w - (2 * g0)) / c0) cx hr hlocks dX7_columnWide_7 rfl

theorem iw_X7_column_X7 : ∀ w ∈ wsX70, w ∈ wsX7_column := fun _ h => List.mem_cons_of_mem _ (List.mem_append_right _ h)
theorem fw_X7_column_f7 : (Cond.fieldLink RX7 7 "NamePlateModel" "now" "[I") ∈ wsX7_column := List.mem_of_getElem? (i := 1) rfl
set_option maxHeartbeats 4000000 in
set_option maxRecDepth 100000 in
theorem c_X7_column (l : Launch) (G : GG) (ad : Nat → Nat) (M : XS)  (hok : okM (M 0)) : RO l yX7_column wsX7_column 1 22 G (mdC G ad M) [.ref (ad 0)] (mCol (M 0)) := by
  refine RO.start (cc := cX7_column) (maxL := 1) (ret := (some .int)) (by decide) rfl (Nat.le_of_ble_eq_true rfl) ?_
  intro p e s m below meth c ls cx hr hlocks hK hN hP hl
  have cx : CallFix p m c cX7_column 1 s [.ref (ad 0)].toArray wsX7_column RX7 := cx
  have hl : lv_has ls 1 [(0, .ref (ad 0))] := hl
  refine lv_aload_n cx.1 cx.2.1 dX7_column_0 rfl (lv_at hl 0 rfl) ?_
  refine va_get (ci := 6) (C := RX7) (T := TX7) (N := 7) (v := .ref (ad 1)) cx.1 cx.2.1 cx.2.2.2.2 iw_X7_column_X7 cx.2.2.2.1 hK hP 0 rfl rfl 0 (by decide) (cx.2.2.2.2 _ fw_X7_column_f7) (fun _ h9 => h9) rfl dX7_column_1 ?_
  refine lv_iconst (v := nI 0) cx.1 cx.2.1 dX7_column_4 (by decide) ?_
  refine nv_iald (j := 0) cx hK hP 1 1 rfl rfl (by omega) (by decide) dX7_column_5 ?_
  refine lv_aload_n cx.1 cx.2.1 dX7_column_6 rfl (lv_at hl 0 rfl) ?_
  refine va_get (ci := 6) (C := RX7) (T := TX7) (N := 7) (v := .ref (ad 1)) cx.1 cx.2.1 cx.2.2.2.2 iw_X7_column_X7 cx.2.2.2.1 hK hP 0 rfl rfl 0 (by decide) (cx.2.2.2.2 _ fw_X7_column_f7) (fun _ h9 => h9) rfl dX7_column_7 ?_
  refine lv_iconst (v := nI 2) cx.1 cx.2.1 dX7_column_10 (by decide) ?_
  refine nv_iald (j := 2) cx hK hP 1 1 rfl rfl (by omega) (by decide) dX7_column_11 ?_
  refine lv_aload_n cx.1 cx.2.1 dX7_column_12 rfl (lv_at hl 0 rfl) ?_
  refine va_get (ci := 6) (C := RX7) (T := TX7) (N := 7) (v := .ref (ad 1)) cx.1 cx.2.1 cx.2.2.2.2 iw_X7_column_X7 cx.2.2.2.1 hK hP 0 rfl rfl 0 (by decide) (cx.2.2.2.2 _ fw_X7_column_f7) (fun _ h9 => h9) rfl dX7_column_13 ?_
  refine lv_iconst (v := nI 3) cx.1 cx.2.1 dX7_column_16 (by decide) ?_
  refine nv_iald (j := 3) cx hK hP 1 1 rfl rfl (by omega) (by decide) dX7_column_17 ?_
  refine RO.callS (As := [.int (M 0 0), .int (M 0 2), .int (M 0 3)]) (rest := []) cx (c_X7_columnWide l G (M 0 0) (M 0 2) (M 0 3) hok.c) gX7_column_X7_columnWide rfl hd_X7_columnWide ⟨Nat.le_of_ble_eq_true rfl, Nat.le_of_ble_eq_true rfl⟩ hK hN va_P.nil rfl hl.1 rfl (Nat.le_of_ble_eq_true rfl) dX7_column_18 ⟨Nat.zero_le _, Nat.zero_le _⟩ ?_
  exact RO.ret (x := ((M 0 0) - 2 * (M 0 2)) / (M 0 3)) cx hr hlocks dX7_column_21 rfl

theorem iw_X7_rowsOf_X7 : ∀ w ∈ wsX70, w ∈ wsX7_rowsOf := fun _ h => List.mem_cons_of_mem _ (List.mem_append_right _ h)
theorem fw_X7_rowsOf_f7 : (Cond.fieldLink RX7 7 "NamePlateModel" "now" "[I") ∈ wsX7_rowsOf := List.mem_of_getElem? (i := 1) rfl
set_option maxHeartbeats 4000000 in
set_option maxRecDepth 100000 in
theorem c_X7_rowsOf (l : Launch) (G : GG) (ad : Nat → Nat) (M : XS) (n : Int32) (hok : okM (M 0)) : RO l yX7_rowsOf wsX7_rowsOf 0 0 G (mdC G ad M) [.ref (ad 0), .int n] (mRows (M 0) n) := by
  refine RO.start (cc := cX7_rowsOf) (maxL := 2) (ret := (some .int)) (by decide) rfl (Nat.le_of_ble_eq_true rfl) ?_
  intro p e s m below meth c ls cx hr hlocks hK hN hP hl
  have cx : CallFix p m c cX7_rowsOf 2 s [.ref (ad 0), .int n].toArray wsX7_rowsOf RX7 := cx
  have hl : lv_has ls 2 [(0, .ref (ad 0)), (1, .int n)] := hl
  refine lv_iload_n cx.1 cx.2.1 dX7_rowsOf_0 rfl (lv_at hl 1 rfl) ?_
  refine lv_aload_n cx.1 cx.2.1 dX7_rowsOf_1 rfl (lv_at hl 0 rfl) ?_
  refine va_get (ci := 6) (C := RX7) (T := TX7) (N := 7) (v := .ref (ad 1)) cx.1 cx.2.1 cx.2.2.2.2 iw_X7_rowsOf_X7 cx.2.2.2.1 hK hP 0 rfl rfl 0 (by decide) (cx.2.2.2.2 _ fw_X7_rowsOf_f7) (fun _ h9 => h9) rfl dX7_rowsOf_2 ?_
  refine lv_iconst (v := nI 3) cx.1 cx.2.1 dX7_rowsOf_5 (by decide) ?_
  refine nv_iald (j := 3) cx hK hP 1 1 rfl rfl (by omega) (by decide) dX7_rowsOf_6 ?_
  refine lv_iadd (x := n) (y := M 0 3) cx.1 cx.2.1 dX7_rowsOf_7 ?_
  refine lv_iconst (v := nI 1) cx.1 cx.2.1 dX7_rowsOf_8 (by decide) ?_
  refine lv_isub (x := n + (M 0 3)) (y := 1) cx.1 cx.2.1 dX7_rowsOf_9 ?_
  refine lv_aload_n cx.1 cx.2.1 dX7_rowsOf_10 rfl (lv_at hl 0 rfl) ?_
  refine va_get (ci := 6) (C := RX7) (T := TX7) (N := 7) (v := .ref (ad 1)) cx.1 cx.2.1 cx.2.2.2.2 iw_X7_rowsOf_X7 cx.2.2.2.1 hK hP 0 rfl rfl 0 (by decide) (cx.2.2.2.2 _ fw_X7_rowsOf_f7) (fun _ h9 => h9) rfl dX7_rowsOf_11 ?_
  refine lv_iconst (v := nI 3) cx.1 cx.2.1 dX7_rowsOf_14 (by decide) ?_
  refine nv_iald (j := 3) cx hK hP 1 1 rfl rfl (by omega) (by decide) dX7_rowsOf_15 ?_
  refine lv_idiv (x := (n + (M 0 3)) - 1) (y := M 0 3) cx.1 cx.2.1 dX7_rowsOf_16 hok.c ?_
  exact RO.ret (x := ((n + (M 0 3)) - 1) / (M 0 3)) cx hr hlocks dX7_rowsOf_17 rfl

theorem iw_X7_rowOf_X7 : ∀ w ∈ wsX70, w ∈ wsX7_rowOf := fun _ h => List.mem_cons_of_mem _ (List.mem_append_right _ h)
theorem fw_X7_rowOf_f7 : (Cond.fieldLink RX7 7 "NamePlateModel" "now" "[I") ∈ wsX7_rowOf := List.mem_of_getElem? (i := 1) rfl
set_option maxHeartbeats 4000000 in
set_option maxRecDepth 100000 in
theorem c_X7_rowOf (l : Launch) (G : GG) (ad : Nat → Nat) (M : XS) (k : Nat) (hok : okM (M 0)) : RO l yX7_rowOf wsX7_rowOf 0 0 G (mdC G ad M) [.ref (ad 0), .int (nI k)] (mRow (M 0) k) := by
  refine RO.start (cc := cX7_rowOf) (maxL := 2) (ret := (some .int)) (by decide) rfl (Nat.le_of_ble_eq_true rfl) ?_
  intro p e s m below meth c ls cx hr hlocks hK hN hP hl
  have cx : CallFix p m c cX7_rowOf 2 s [.ref (ad 0), .int (nI k)].toArray wsX7_rowOf RX7 := cx
  have hl : lv_has ls 2 [(0, .ref (ad 0)), (1, .int (nI k))] := hl
  refine lv_iload_n cx.1 cx.2.1 dX7_rowOf_0 rfl (lv_at hl 1 rfl) ?_
  refine lv_aload_n cx.1 cx.2.1 dX7_rowOf_1 rfl (lv_at hl 0 rfl) ?_
  refine va_get (ci := 6) (C := RX7) (T := TX7) (N := 7) (v := .ref (ad 1)) cx.1 cx.2.1 cx.2.2.2.2 iw_X7_rowOf_X7 cx.2.2.2.1 hK hP 0 rfl rfl 0 (by decide) (cx.2.2.2.2 _ fw_X7_rowOf_f7) (fun _ h9 => h9) rfl dX7_rowOf_2 ?_
  refine lv_iconst (v := nI 3) cx.1 cx.2.1 dX7_rowOf_5 (by decide) ?_
  refine nv_iald (j := 3) cx hK hP 1 1 rfl rfl (by omega) (by decide) dX7_rowOf_6 ?_
  refine lv_idiv (x := nI k) (y := M 0 3) cx.1 cx.2.1 dX7_rowOf_7 hok.c ?_
  exact RO.ret (x := (nI k) / (M 0 3)) cx hr hlocks dX7_rowOf_8 rfl

theorem iw_X7_greatest_X7 : ∀ w ∈ wsX70, w ∈ wsX7_greatest := fun _ h => List.mem_cons_of_mem _ (List.mem_append_right _ h)
theorem fw_X7_greatest_f7 : (Cond.fieldLink RX7 7 "NamePlateModel" "now" "[I") ∈ wsX7_greatest := List.mem_of_getElem? (i := 1) rfl
set_option maxHeartbeats 4000000 in
set_option maxRecDepth 100000 in
theorem c_X7_greatest (l : Launch) (G : GG) (ad : Nat → Nat) (M : XS) (most : Int32) (rows : Int32) (w : Int32) (h : Int32) (hok : okM (M 0)) : RO l yX7_greatest wsX7_greatest 1 22 G (mdC G ad M) [.ref (ad 0), .int most, .int rows, .int w, .int h] (mGr (M 0) most rows w h) := by
  refine RO.start (cc := cX7_greatest) (maxL := 8) (ret := (some .int)) (by decide) rfl (Nat.le_of_ble_eq_true rfl) ?_
  intro p e s m below meth c ls cx hr hlocks hK hN hP hl
  have cx : CallFix p m c cX7_greatest 8 s [.ref (ad 0), .int most, .int rows, .int w, .int h].toArray wsX7_greatest RX7 := cx
  have hl : lv_has ls 8 [(0, .ref (ad 0)), (1, .int most), (2, .int rows), (3, .int w), (4, .int h)] := hl
  refine lv_iconst (v := nI 0) cx.1 cx.2.1 dX7_greatest_0 (by decide) ?_
  refine lv_istore (lv' := [(5, .int (nI 0)), (0, .ref (ad 0)), (1, .int most), (2, .int rows), (3, .int w), (4, .int h)]) cx.1 cx.2.1 dX7_greatest_1 hl (by decide) rfl (fun ls hl => ?_)
  refine lv_iconst (v := nI 1) cx.1 cx.2.1 dX7_greatest_3 (by decide) ?_
  refine lv_istore (lv' := [(6, .int (nI 1)), (5, .int (nI 0)), (0, .ref (ad 0)), (1, .int most), (2, .int rows), (3, .int w), (4, .int h)]) cx.1 cx.2.1 dX7_greatest_4 hl (by decide) rfl (fun ls hl => ?_)
  have lp6 : ∀ (r : Nat) (i : Nat) (hr9 : 40 - i < r) (hi : i ≤ 40) (ls : Array Slot), lv_has ls 8 [(6, .int (nI (i + 1))), (5, .int (mGrN (M 0) most rows w h i)), (0, .ref (ad 0)), (1, .int most), (2, .int rows), (3, .int w), (4, .int h)] → W p l e ({ frames := 1, cells := 0, slots := 0, locals := 22 } : Room) s m [.ref (ad 0), .int most, .int rows, .int w, .int h].toArray below meth c s.heap [] 0 0 (MQ below (vp_Si (fun r => r = (mGr (M 0) most rows w h))) [.ref (ad 0), .int most, .int rows, .int w, .int h].toArray s 0 0 (fun _ => False)) (F0 m 6 ls []) := by
    intro r
    induction r with
    | zero => intro i hr9; exact absurd hr9 (Nat.not_lt_zero _)
    | succ r ih6 =>
      intro i hr9 hi ls hl
      refine lv_iload cx.1 cx.2.1 dX7_greatest_6 (lv_at hl 0 rfl) ?_
      refine lv_bipush (v := nI 40) cx.1 cx.2.1 dX7_greatest_8 (by decide) ?_
      refine nv_icmp_gt (a := i + 1) (b := 40) (tgt := 88) cx dX7_greatest_10 (by decide) (by omega) (by omega) (fun c_1 => ?_) (fun c_1 => ?_)
      · refine lv_iload cx.1 cx.2.1 dX7_greatest_88 (lv_at hl 1 rfl) ?_
        exact RO.ret (x := mGrN (M 0) most rows w h i) cx hr hlocks dX7_greatest_90 (by have e : i = 40 := (by omega); rw [e]; rfl)
      · refine lv_iload_n cx.1 cx.2.1 dX7_greatest_13 rfl (lv_at hl 3 rfl) ?_
        refine lv_iload cx.1 cx.2.1 dX7_greatest_14 (lv_at hl 0 rfl) ?_
        refine lv_imul (x := most) (y := nI (i + 1)) cx.1 cx.2.1 dX7_greatest_16 ?_
        refine lv_iload_n cx.1 cx.2.1 dX7_greatest_17 rfl (lv_at hl 5 rfl) ?_
        refine lv_aload_n cx.1 cx.2.1 dX7_greatest_18 rfl (lv_at hl 2 rfl) ?_
        refine va_get (ci := 6) (C := RX7) (T := TX7) (N := 7) (v := .ref (ad 1)) cx.1 cx.2.1 cx.2.2.2.2 iw_X7_greatest_X7 cx.2.2.2.1 hK hP 0 rfl rfl 0 (by decide) (cx.2.2.2.2 _ fw_X7_greatest_f7) (fun _ h9 => h9) rfl dX7_greatest_19 ?_
        refine lv_iconst (v := nI 2) cx.1 cx.2.1 dX7_greatest_22 (by decide) ?_
        refine nv_iald (j := 2) cx hK hP 1 1 rfl rfl (by omega) (by decide) dX7_greatest_23 ?_
        refine lv_aload_n cx.1 cx.2.1 dX7_greatest_24 rfl (lv_at hl 2 rfl) ?_
        refine va_get (ci := 6) (C := RX7) (T := TX7) (N := 7) (v := .ref (ad 1)) cx.1 cx.2.1 cx.2.2.2.2 iw_X7_greatest_X7 cx.2.2.2.1 hK hP 0 rfl rfl 0 (by decide) (cx.2.2.2.2 _ fw_X7_greatest_f7) (fun _ h9 => h9) rfl dX7_greatest_25 ?_
        refine lv_iconst (v := nI 3) cx.1 cx.2.1 dX7_greatest_28 (by decide) ?_
        refine nv_iald (j := 3) cx hK hP 1 1 rfl rfl (by omega) (by decide) dX7_greatest_29 ?_
        refine RO.callS (As := [.int w, .int (M 0 2), .int (M 0 3)]) (rest := [.int (most * (nI (i + 1)))]) cx (c_X7_columnWide l G w (M 0 2) (M 0 3) hok.c) gX7_greatest_X7_columnWide rfl hd_X7_columnWide ⟨Nat.le_of_ble_eq_true rfl, Nat.le_of_ble_eq_true rfl⟩ hK hN va_P.nil rfl hl.1 rfl (Nat.le_of_ble_eq_true rfl) dX7_greatest_30 ⟨Nat.zero_le _, Nat.zero_le _⟩ ?_
        refine lv_icmp_gt (x := most * (nI (i + 1))) (y := (w - 2 * (M 0 2)) / (M 0 3)) (tgt := 61) cx.1 cx.2.1 dX7_greatest_33 (by decide) (fun c_2 => ?_) (fun c_2 => ?_)
        · refine lv_iconst (v := nI 0) cx.1 cx.2.1 dX7_greatest_61 (by decide) ?_
          refine lv_istore (lv' := [(7, .int (nI 0)), (6, .int (nI (i + 1))), (5, .int (mGrN (M 0) most rows w h i)), (0, .ref (ad 0)), (1, .int most), (2, .int rows), (3, .int w), (4, .int h)]) cx.1 cx.2.1 dX7_greatest_62 hl (by decide) rfl (fun ls hl => ?_)
          refine lv_iload cx.1 cx.2.1 dX7_greatest_64 (lv_at hl 0 rfl) ?_
          refine nv_if_ne (a := 0) (tgt := 73) cx dX7_greatest_66 (by decide) (by omega) (fun c_3 => ?_) (fun c_3 => ?_)
          · exact absurd c_3 (by decide)
          · refine lv_iload_n cx.1 cx.2.1 dX7_greatest_69 rfl (lv_at hl 5 rfl) ?_
            refine lv_if_ne (x := rows) (tgt := 78) cx.1 cx.2.1 dX7_greatest_70 (by decide) (fun c_4 => ?_) (fun c_4 => ?_)
            · refine lv_iload cx.1 cx.2.1 dX7_greatest_78 (lv_at hl 2 rfl) ?_
              refine lv_istore (lv' := [(5, .int (mGrN (M 0) most rows w h i)), (7, .int (nI 0)), (6, .int (nI (i + 1))), (0, .ref (ad 0)), (1, .int most), (2, .int rows), (3, .int w), (4, .int h)]) cx.1 cx.2.1 dX7_greatest_80 hl (by decide) rfl (fun ls hl => ?_)
              refine lv_iinc (v := nI (i + 1 + 1)) (lv' := [(6, .int (nI (i + 1 + 1))), (5, .int (mGrN (M 0) most rows w h i)), (7, .int (nI 0)), (0, .ref (ad 0)), (1, .int most), (2, .int rows), (3, .int w), (4, .int h)]) cx.1 cx.2.1 dX7_greatest_82 hl (k := 2) rfl (show nI (i + 1) + Int32.ofInt 1 = nI (i + 1 + 1) from nI_add (i + 1) 1) (by decide) rfl (fun ls hl => ?_)
              refine lv_goto (tgt := 6) cx.1 cx.2.1 dX7_greatest_85 (by decide) ?_
              have e5 : mGrN (M 0) most rows w h (i + 1) = mGrN (M 0) most rows w h i := by simp [mGrN, mFt, mCw, c_1, c_2, c_3, c_4]
              exact ih6 (i + 1) (by omega) (by omega) ls (lv_sub hl [0, 1, 3, 4, 5, 6, 7] (by rw [e5]; rfl))
            · refine lv_iload cx.1 cx.2.1 dX7_greatest_73 (lv_at hl 1 rfl) ?_
              refine lv_goto (tgt := 80) cx.1 cx.2.1 dX7_greatest_75 (by decide) ?_
              refine lv_istore (lv' := [(5, .int (nI (i + 1))), (7, .int (nI 0)), (6, .int (nI (i + 1))), (0, .ref (ad 0)), (1, .int most), (2, .int rows), (3, .int w), (4, .int h)]) cx.1 cx.2.1 dX7_greatest_80 hl (by decide) rfl (fun ls hl => ?_)
              refine lv_iinc (v := nI (i + 1 + 1)) (lv' := [(6, .int (nI (i + 1 + 1))), (5, .int (nI (i + 1))), (7, .int (nI 0)), (0, .ref (ad 0)), (1, .int most), (2, .int rows), (3, .int w), (4, .int h)]) cx.1 cx.2.1 dX7_greatest_82 hl (k := 2) rfl (show nI (i + 1) + Int32.ofInt 1 = nI (i + 1 + 1) from nI_add (i + 1) 1) (by decide) rfl (fun ls hl => ?_)
              refine lv_goto (tgt := 6) cx.1 cx.2.1 dX7_greatest_85 (by decide) ?_
              have e5 : mGrN (M 0) most rows w h (i + 1) = nI (i + 1) := by simp [mGrN, mFt, mCw, c_1, c_2, c_3, c_4]
              exact ih6 (i + 1) (by omega) (by omega) ls (lv_sub hl [0, 1, 3, 4, 5, 6, 7] (by rw [e5]; rfl))
        · refine lv_bipush (v := nI 12) cx.1 cx.2.1 dX7_greatest_36 (by decide) ?_
          refine lv_iload cx.1 cx.2.1 dX7_greatest_38 (lv_at hl 0 rfl) ?_
          refine lv_imul (x := 12) (y := nI (i + 1)) cx.1 cx.2.1 dX7_greatest_40 ?_
          refine lv_iload_n cx.1 cx.2.1 dX7_greatest_41 rfl (lv_at hl 4 rfl) ?_
          refine lv_imul (x := 12 * (nI (i + 1))) (y := rows) cx.1 cx.2.1 dX7_greatest_42 ?_
          refine lv_iload cx.1 cx.2.1 dX7_greatest_43 (lv_at hl 6 rfl) ?_
          refine lv_iconst (v := nI 2) cx.1 cx.2.1 dX7_greatest_45 (by decide) ?_
          refine lv_aload_n cx.1 cx.2.1 dX7_greatest_46 rfl (lv_at hl 2 rfl) ?_
          refine va_get (ci := 6) (C := RX7) (T := TX7) (N := 7) (v := .ref (ad 1)) cx.1 cx.2.1 cx.2.2.2.2 iw_X7_greatest_X7 cx.2.2.2.1 hK hP 0 rfl rfl 0 (by decide) (cx.2.2.2.2 _ fw_X7_greatest_f7) (fun _ h9 => h9) rfl dX7_greatest_47 ?_
          refine lv_iconst (v := nI 2) cx.1 cx.2.1 dX7_greatest_50 (by decide) ?_
          refine nv_iald (j := 2) cx hK hP 1 1 rfl rfl (by omega) (by decide) dX7_greatest_51 ?_
          refine lv_imul (x := 2) (y := M 0 2) cx.1 cx.2.1 dX7_greatest_52 ?_
          refine lv_isub (x := h) (y := 2 * (M 0 2)) cx.1 cx.2.1 dX7_greatest_53 ?_
          refine lv_icmp_gt (x := (12 * (nI (i + 1))) * rows) (y := h - (2 * (M 0 2))) (tgt := 61) cx.1 cx.2.1 dX7_greatest_54 (by decide) (fun c_5 => ?_) (fun c_5 => ?_)
          · refine lv_iconst (v := nI 0) cx.1 cx.2.1 dX7_greatest_61 (by decide) ?_
            refine lv_istore (lv' := [(7, .int (nI 0)), (6, .int (nI (i + 1))), (5, .int (mGrN (M 0) most rows w h i)), (0, .ref (ad 0)), (1, .int most), (2, .int rows), (3, .int w), (4, .int h)]) cx.1 cx.2.1 dX7_greatest_62 hl (by decide) rfl (fun ls hl => ?_)
            refine lv_iload cx.1 cx.2.1 dX7_greatest_64 (lv_at hl 0 rfl) ?_
            refine nv_if_ne (a := 0) (tgt := 73) cx dX7_greatest_66 (by decide) (by omega) (fun c_6 => ?_) (fun c_6 => ?_)
            · exact absurd c_6 (by decide)
            · refine lv_iload_n cx.1 cx.2.1 dX7_greatest_69 rfl (lv_at hl 5 rfl) ?_
              refine lv_if_ne (x := rows) (tgt := 78) cx.1 cx.2.1 dX7_greatest_70 (by decide) (fun c_7 => ?_) (fun c_7 => ?_)
              · refine lv_iload cx.1 cx.2.1 dX7_greatest_78 (lv_at hl 2 rfl) ?_
                refine lv_istore (lv' := [(5, .int (mGrN (M 0) most rows w h i)), (7, .int (nI 0)), (6, .int (nI (i + 1))), (0, .ref (ad 0)), (1, .int most), (2, .int rows), (3, .int w), (4, .int h)]) cx.1 cx.2.1 dX7_greatest_80 hl (by decide) rfl (fun ls hl => ?_)
                refine lv_iinc (v := nI (i + 1 + 1)) (lv' := [(6, .int (nI (i + 1 + 1))), (5, .int (mGrN (M 0) most rows w h i)), (7, .int (nI 0)), (0, .ref (ad 0)), (1, .int most), (2, .int rows), (3, .int w), (4, .int h)]) cx.1 cx.2.1 dX7_greatest_82 hl (k := 2) rfl (show nI (i + 1) + Int32.ofInt 1 = nI (i + 1 + 1) from nI_add (i + 1) 1) (by decide) rfl (fun ls hl => ?_)
                refine lv_goto (tgt := 6) cx.1 cx.2.1 dX7_greatest_85 (by decide) ?_
                have e5 : mGrN (M 0) most rows w h (i + 1) = mGrN (M 0) most rows w h i := by simp [mGrN, mFt, mCw, c_1, c_2, c_5, c_6, c_7]
                exact ih6 (i + 1) (by omega) (by omega) ls (lv_sub hl [0, 1, 3, 4, 5, 6, 7] (by rw [e5]; rfl))
              · refine lv_iload cx.1 cx.2.1 dX7_greatest_73 (lv_at hl 1 rfl) ?_
                refine lv_goto (tgt := 80) cx.1 cx.2.1 dX7_greatest_75 (by decide) ?_
                refine lv_istore (lv' := [(5, .int (nI (i + 1))), (7, .int (nI 0)), (6, .int (nI (i + 1))), (0, .ref (ad 0)), (1, .int most), (2, .int rows), (3, .int w), (4, .int h)]) cx.1 cx.2.1 dX7_greatest_80 hl (by decide) rfl (fun ls hl => ?_)
                refine lv_iinc (v := nI (i + 1 + 1)) (lv' := [(6, .int (nI (i + 1 + 1))), (5, .int (nI (i + 1))), (7, .int (nI 0)), (0, .ref (ad 0)), (1, .int most), (2, .int rows), (3, .int w), (4, .int h)]) cx.1 cx.2.1 dX7_greatest_82 hl (k := 2) rfl (show nI (i + 1) + Int32.ofInt 1 = nI (i + 1 + 1) from nI_add (i + 1) 1) (by decide) rfl (fun ls hl => ?_)
                refine lv_goto (tgt := 6) cx.1 cx.2.1 dX7_greatest_85 (by decide) ?_
                have e5 : mGrN (M 0) most rows w h (i + 1) = nI (i + 1) := by simp [mGrN, mFt, mCw, c_1, c_2, c_5, c_6, c_7]
                exact ih6 (i + 1) (by omega) (by omega) ls (lv_sub hl [0, 1, 3, 4, 5, 6, 7] (by rw [e5]; rfl))
          · refine lv_iconst (v := nI 1) cx.1 cx.2.1 dX7_greatest_57 (by decide) ?_
            refine lv_goto (tgt := 62) cx.1 cx.2.1 dX7_greatest_58 (by decide) ?_
            refine lv_istore (lv' := [(7, .int (nI 1)), (6, .int (nI (i + 1))), (5, .int (mGrN (M 0) most rows w h i)), (0, .ref (ad 0)), (1, .int most), (2, .int rows), (3, .int w), (4, .int h)]) cx.1 cx.2.1 dX7_greatest_62 hl (by decide) rfl (fun ls hl => ?_)
            refine lv_iload cx.1 cx.2.1 dX7_greatest_64 (lv_at hl 0 rfl) ?_
            refine nv_if_ne (a := 1) (tgt := 73) cx dX7_greatest_66 (by decide) (by omega) (fun c_8 => ?_) (fun c_8 => ?_)
            · refine lv_iload cx.1 cx.2.1 dX7_greatest_73 (lv_at hl 1 rfl) ?_
              refine lv_goto (tgt := 80) cx.1 cx.2.1 dX7_greatest_75 (by decide) ?_
              refine lv_istore (lv' := [(5, .int (nI (i + 1))), (7, .int (nI 1)), (6, .int (nI (i + 1))), (0, .ref (ad 0)), (1, .int most), (2, .int rows), (3, .int w), (4, .int h)]) cx.1 cx.2.1 dX7_greatest_80 hl (by decide) rfl (fun ls hl => ?_)
              refine lv_iinc (v := nI (i + 1 + 1)) (lv' := [(6, .int (nI (i + 1 + 1))), (5, .int (nI (i + 1))), (7, .int (nI 1)), (0, .ref (ad 0)), (1, .int most), (2, .int rows), (3, .int w), (4, .int h)]) cx.1 cx.2.1 dX7_greatest_82 hl (k := 2) rfl (show nI (i + 1) + Int32.ofInt 1 = nI (i + 1 + 1) from nI_add (i + 1) 1) (by decide) rfl (fun ls hl => ?_)
              refine lv_goto (tgt := 6) cx.1 cx.2.1 dX7_greatest_85 (by decide) ?_
              have e5 : mGrN (M 0) most rows w h (i + 1) = nI (i + 1) := by simp [mGrN, mFt, mCw, c_1, c_2, c_5, c_8]
              exact ih6 (i + 1) (by omega) (by omega) ls (lv_sub hl [0, 1, 3, 4, 5, 6, 7] (by rw [e5]; rfl))
            · exact absurd c_8 (by decide)
  exact lp6 _ 0 (Nat.lt_succ_self _) (by omega) ls (lv_sub hl [0, 1, 2, 3, 4, 5, 6] rfl)

theorem iw_X7_mostUnits_X7 : ∀ w ∈ wsX70, w ∈ wsX7_mostUnits := fun _ h => List.mem_cons_of_mem _ (List.mem_append_right _ h)
theorem fw_X7_mostUnits_f7 : (Cond.fieldLink RX7 7 "NamePlateModel" "now" "[I") ∈ wsX7_mostUnits := List.mem_of_getElem? (i := 1) rfl
set_option maxHeartbeats 4000000 in
set_option maxRecDepth 100000 in
theorem c_X7_mostUnits (l : Launch) (G : GG) (ad : Nat → Nat) (M : XS) (wo : Int32) (hok : okM (M 0)) : RO l yX7_mostUnits wsX7_mostUnits 6 131 G (mdC G ad M) [.ref (ad 0), .int wo] (mMost (M 0) wo) := by
  refine RO.start (cc := cX7_mostUnits) (maxL := 5) (ret := (some .int)) (by decide) rfl (Nat.le_of_ble_eq_true rfl) ?_
  intro p e s m below meth c ls cx hr hlocks hK hN hP hl
  have cx : CallFix p m c cX7_mostUnits 5 s [.ref (ad 0), .int wo].toArray wsX7_mostUnits RX7 := cx
  have hl : lv_has ls 5 [(0, .ref (ad 0)), (1, .int wo)] := hl
  have hn20 := hok.n20
  refine lv_iconst (v := nI 0) cx.1 cx.2.1 dX7_mostUnits_0 (by decide) ?_
  refine lv_istore_n (lv' := [(2, .int (nI 0)), (0, .ref (ad 0)), (1, .int wo)]) cx.1 cx.2.1 dX7_mostUnits_1 rfl hl (by decide) rfl (fun ls hl => ?_)
  refine lv_iconst (v := nI 0) cx.1 cx.2.1 dX7_mostUnits_2 (by decide) ?_
  refine lv_istore_n (lv' := [(3, .int (nI 0)), (2, .int (nI 0)), (0, .ref (ad 0)), (1, .int wo)]) cx.1 cx.2.1 dX7_mostUnits_3 rfl hl (by decide) rfl (fun ls hl => ?_)
  have lp4 : ∀ (r : Nat) (i : Nat) (hr9 : mn (M 0) - i < r) (hi : i ≤ mn (M 0)) (ls : Array Slot), lv_has ls 5 [(0, .ref (ad 0)), (1, .int wo), (2, .int (mMostN (M 0) wo i)), (3, .int (nI i))] → W p l e ({ frames := 6, cells := 0, slots := 0, locals := 131 } : Room) s m [.ref (ad 0), .int wo].toArray below meth c s.heap [] 0 0 (MQ below (vp_Si (fun r => r = (mMost (M 0) wo))) [.ref (ad 0), .int wo].toArray s 0 0 (fun _ => False)) (F0 m 4 ls []) := by
    intro r
    induction r with
    | zero => intro i hr9; exact absurd hr9 (Nat.not_lt_zero _)
    | succ r ih4 =>
      intro i hr9 hi ls hl
      refine lv_iload_n cx.1 cx.2.1 dX7_mostUnits_4 rfl (lv_at hl 3 rfl) ?_
      refine lv_aload_n cx.1 cx.2.1 dX7_mostUnits_5 rfl (lv_at hl 0 rfl) ?_
      refine va_get (ci := 6) (C := RX7) (T := TX7) (N := 7) (v := .ref (ad 1)) cx.1 cx.2.1 cx.2.2.2.2 iw_X7_mostUnits_X7 cx.2.2.2.1 hK hP 0 rfl rfl 0 (by decide) (cx.2.2.2.2 _ fw_X7_mostUnits_f7) (fun _ h9 => h9) rfl dX7_mostUnits_6 ?_
      refine lv_iconst (v := nI 4) cx.1 cx.2.1 dX7_mostUnits_9 (by decide) ?_
      refine nv_iald (j := 4) cx hK hP 1 1 rfl rfl (by omega) (by decide) dX7_mostUnits_10 ?_
      refine nv_eqi (y := nI (mn (M 0))) hok.n ?_
      refine nv_icmp_ge (a := i) (b := mn (M 0)) (tgt := 49) cx dX7_mostUnits_11 (by decide) (by omega) (by omega) (fun c_1 => ?_) (fun c_1 => ?_)
      · refine lv_iload_n cx.1 cx.2.1 dX7_mostUnits_49 rfl (lv_at hl 2 rfl) ?_
        exact RO.ret (x := mMostN (M 0) wo i) cx hr hlocks dX7_mostUnits_50 (by have e : i = mn (M 0) := (by omega); rw [e]; rfl)
      · refine lv_iload_n cx.1 cx.2.1 dX7_mostUnits_14 rfl (lv_at hl 3 rfl) ?_
        refine lv_iload_n cx.1 cx.2.1 dX7_mostUnits_15 rfl (lv_at hl 1 rfl) ?_
        refine lv_icmp_ne (x := nI i) (y := wo) (tgt := 23) cx.1 cx.2.1 dX7_mostUnits_16 (by decide) (fun c_2 => ?_) (fun c_2 => ?_)
        · refine lv_aload_n cx.1 cx.2.1 dX7_mostUnits_23 rfl (lv_at hl 0 rfl) ?_
          refine lv_iload_n cx.1 cx.2.1 dX7_mostUnits_24 rfl (lv_at hl 3 rfl) ?_
          refine RO.callV (As := [.int (nI i)]) (rest := []) cx (c_X7_units l G ad M i hok (by omega)) gX7_mostUnits_X7_units rfl hd_X7_units ⟨Nat.le_of_ble_eq_true rfl, Nat.le_of_ble_eq_true rfl⟩ (va_recv hK hP (ci := 6) (q0 := 0) rfl rfl) hK hN hP rfl hl.1 rfl (Nat.le_of_ble_eq_true rfl) dX7_mostUnits_25 ⟨Nat.zero_le _, Nat.zero_le _⟩ ?_
          refine lv_istore (lv' := [(4, .int (mU (M 0) i)), (0, .ref (ad 0)), (1, .int wo), (2, .int (mMostN (M 0) wo i)), (3, .int (nI i))]) cx.1 cx.2.1 dX7_mostUnits_28 hl (by decide) rfl (fun ls hl => ?_)
          refine lv_iload cx.1 cx.2.1 dX7_mostUnits_30 (lv_at hl 0 rfl) ?_
          refine lv_iload_n cx.1 cx.2.1 dX7_mostUnits_32 rfl (lv_at hl 3 rfl) ?_
          refine lv_icmp_le (x := mU (M 0) i) (y := mMostN (M 0) wo i) (tgt := 41) cx.1 cx.2.1 dX7_mostUnits_33 (by decide) (fun c_3 => ?_) (fun c_3 => ?_)
          · refine lv_iload_n cx.1 cx.2.1 dX7_mostUnits_41 rfl (lv_at hl 3 rfl) ?_
            refine lv_istore_n (lv' := [(2, .int (mMostN (M 0) wo i)), (4, .int (mU (M 0) i)), (0, .ref (ad 0)), (1, .int wo), (3, .int (nI i))]) cx.1 cx.2.1 dX7_mostUnits_42 rfl hl (by decide) rfl (fun ls hl => ?_)
            refine lv_iinc (v := nI (i + 1)) (lv' := [(3, .int (nI (i + 1))), (2, .int (mMostN (M 0) wo i)), (4, .int (mU (M 0) i)), (0, .ref (ad 0)), (1, .int wo)]) cx.1 cx.2.1 dX7_mostUnits_43 hl (k := 4) rfl (show nI i + Int32.ofInt 1 = nI (i + 1) from nI_add i 1) (by decide) rfl (fun ls hl => ?_)
            refine lv_goto (tgt := 4) cx.1 cx.2.1 dX7_mostUnits_46 (by decide) ?_
            have e2 : mMostN (M 0) wo (i + 1) = mMostN (M 0) wo i := by simp [mMostN, mIts, c_1, c_2, c_3]
            exact ih4 (i + 1) (by omega) (by omega) ls (lv_sub hl [3, 4, 1, 0] (by rw [e2]; rfl))
          · refine lv_iload cx.1 cx.2.1 dX7_mostUnits_36 (lv_at hl 0 rfl) ?_
            refine lv_goto (tgt := 42) cx.1 cx.2.1 dX7_mostUnits_38 (by decide) ?_
            refine lv_istore_n (lv' := [(2, .int (mU (M 0) i)), (4, .int (mU (M 0) i)), (0, .ref (ad 0)), (1, .int wo), (3, .int (nI i))]) cx.1 cx.2.1 dX7_mostUnits_42 rfl hl (by decide) rfl (fun ls hl => ?_)
            refine lv_iinc (v := nI (i + 1)) (lv' := [(3, .int (nI (i + 1))), (2, .int (mU (M 0) i)), (4, .int (mU (M 0) i)), (0, .ref (ad 0)), (1, .int wo)]) cx.1 cx.2.1 dX7_mostUnits_43 hl (k := 4) rfl (show nI i + Int32.ofInt 1 = nI (i + 1) from nI_add i 1) (by decide) rfl (fun ls hl => ?_)
            refine lv_goto (tgt := 4) cx.1 cx.2.1 dX7_mostUnits_46 (by decide) ?_
            have e2 : mMostN (M 0) wo (i + 1) = mU (M 0) i := by simp [mMostN, mIts, c_1, c_2, c_3]
            exact ih4 (i + 1) (by omega) (by omega) ls (lv_sub hl [3, 4, 1, 0] (by rw [e2]; rfl))
        · refine lv_iconst (v := nI 0) cx.1 cx.2.1 dX7_mostUnits_19 (by decide) ?_
          refine lv_goto (tgt := 28) cx.1 cx.2.1 dX7_mostUnits_20 (by decide) ?_
          refine lv_istore (lv' := [(4, .int (nI 0)), (0, .ref (ad 0)), (1, .int wo), (2, .int (mMostN (M 0) wo i)), (3, .int (nI i))]) cx.1 cx.2.1 dX7_mostUnits_28 hl (by decide) rfl (fun ls hl => ?_)
          refine lv_iload cx.1 cx.2.1 dX7_mostUnits_30 (lv_at hl 0 rfl) ?_
          refine lv_iload_n cx.1 cx.2.1 dX7_mostUnits_32 rfl (lv_at hl 3 rfl) ?_
          refine lv_icmp_le (x := 0) (y := mMostN (M 0) wo i) (tgt := 41) cx.1 cx.2.1 dX7_mostUnits_33 (by decide) (fun c_4 => ?_) (fun c_4 => ?_)
          · refine lv_iload_n cx.1 cx.2.1 dX7_mostUnits_41 rfl (lv_at hl 3 rfl) ?_
            refine lv_istore_n (lv' := [(2, .int (mMostN (M 0) wo i)), (4, .int (nI 0)), (0, .ref (ad 0)), (1, .int wo), (3, .int (nI i))]) cx.1 cx.2.1 dX7_mostUnits_42 rfl hl (by decide) rfl (fun ls hl => ?_)
            refine lv_iinc (v := nI (i + 1)) (lv' := [(3, .int (nI (i + 1))), (2, .int (mMostN (M 0) wo i)), (4, .int (nI 0)), (0, .ref (ad 0)), (1, .int wo)]) cx.1 cx.2.1 dX7_mostUnits_43 hl (k := 4) rfl (show nI i + Int32.ofInt 1 = nI (i + 1) from nI_add i 1) (by decide) rfl (fun ls hl => ?_)
            refine lv_goto (tgt := 4) cx.1 cx.2.1 dX7_mostUnits_46 (by decide) ?_
            have e2 : mMostN (M 0) wo (i + 1) = mMostN (M 0) wo i := by simp [mMostN, mIts, c_1, c_2, c_4]
            exact ih4 (i + 1) (by omega) (by omega) ls (lv_sub hl [3, 4, 1, 0] (by rw [e2]; rfl))
          · refine lv_iload cx.1 cx.2.1 dX7_mostUnits_36 (lv_at hl 0 rfl) ?_
            refine lv_goto (tgt := 42) cx.1 cx.2.1 dX7_mostUnits_38 (by decide) ?_
            refine lv_istore_n (lv' := [(2, .int (nI 0)), (4, .int (nI 0)), (0, .ref (ad 0)), (1, .int wo), (3, .int (nI i))]) cx.1 cx.2.1 dX7_mostUnits_42 rfl hl (by decide) rfl (fun ls hl => ?_)
            refine lv_iinc (v := nI (i + 1)) (lv' := [(3, .int (nI (i + 1))), (2, .int (nI 0)), (4, .int (nI 0)), (0, .ref (ad 0)), (1, .int wo)]) cx.1 cx.2.1 dX7_mostUnits_43 hl (k := 4) rfl (show nI i + Int32.ofInt 1 = nI (i + 1) from nI_add i 1) (by decide) rfl (fun ls hl => ?_)
            refine lv_goto (tgt := 4) cx.1 cx.2.1 dX7_mostUnits_46 (by decide) ?_
            have e2 : mMostN (M 0) wo (i + 1) = 0 := by simp [mMostN, mIts, c_1, c_2, c_4]
            exact ih4 (i + 1) (by omega) (by omega) ls (lv_sub hl [3, 4, 1, 0] (by rw [e2]; rfl))
  exact lp4 _ 0 (Nat.lt_succ_self _) (by omega) ls (lv_sub hl [2, 3, 1, 0] rfl)

theorem iw_X7_free_X7 : ∀ w ∈ wsX70, w ∈ wsX7_free := fun _ h => List.mem_cons_of_mem _ (List.mem_append_right _ h)
theorem fw_X7_free_f7 : (Cond.fieldLink RX7 7 "NamePlateModel" "now" "[I") ∈ wsX7_free := List.mem_of_getElem? (i := 1) rfl
set_option maxHeartbeats 4000000 in
set_option maxRecDepth 100000 in
theorem c_X7_free (l : Launch) (G : GG) (ad : Nat → Nat) (M : XS) (w : Int32) (h : Int32) (hok : okM (M 0)) : RO l yX7_free wsX7_free 7 155 G (mdC G ad M) [.ref (ad 0), .int w, .int h] (mFree (M 0) w h) := by
  refine RO.start (cc := cX7_free) (maxL := 3) (ret := (some .int)) (by decide) rfl (Nat.le_of_ble_eq_true rfl) ?_
  intro p e s m below meth c ls cx hr hlocks hK hN hP hl
  have cx : CallFix p m c cX7_free 3 s [.ref (ad 0), .int w, .int h].toArray wsX7_free RX7 := cx
  have hl : lv_has ls 3 [(0, .ref (ad 0)), (1, .int w), (2, .int h)] := hl
  have hn20 := hok.n20
  refine lv_aload_n cx.1 cx.2.1 dX7_free_0 rfl (lv_at hl 0 rfl) ?_
  refine lv_aload_n cx.1 cx.2.1 dX7_free_1 rfl (lv_at hl 0 rfl) ?_
  refine lv_sipush (v := (-1005)) cx.1 cx.2.1 dX7_free_2 (by decide) ?_
  refine RO.callV (As := [.int (-1005)]) (rest := [.ref (ad 0)]) cx (c_X7_mostUnits l G ad M (-1005) hok) gX7_free_X7_mostUnits rfl hd_X7_mostUnits ⟨Nat.le_of_ble_eq_true rfl, Nat.le_of_ble_eq_true rfl⟩ (va_recv hK hP (ci := 6) (q0 := 0) rfl rfl) hK hN hP rfl hl.1 rfl (Nat.le_of_ble_eq_true rfl) dX7_free_5 ⟨Nat.zero_le _, Nat.zero_le _⟩ ?_
  refine lv_aload_n cx.1 cx.2.1 dX7_free_8 rfl (lv_at hl 0 rfl) ?_
  refine lv_aload_n cx.1 cx.2.1 dX7_free_9 rfl (lv_at hl 0 rfl) ?_
  refine va_get (ci := 6) (C := RX7) (T := TX7) (N := 7) (v := .ref (ad 1)) cx.1 cx.2.1 cx.2.2.2.2 iw_X7_free_X7 cx.2.2.2.1 hK hP 0 rfl rfl 0 (by decide) (cx.2.2.2.2 _ fw_X7_free_f7) (fun _ h9 => h9) rfl dX7_free_10 ?_
  refine lv_iconst (v := nI 4) cx.1 cx.2.1 dX7_free_13 (by decide) ?_
  refine nv_iald (j := 4) cx hK hP 1 1 rfl rfl (by omega) (by decide) dX7_free_14 ?_
  refine nv_eqi (y := nI (mn (M 0))) hok.n ?_
  refine RO.callV (As := [.int (nI (mn (M 0)))]) (rest := [.int (mMost (M 0) (-1005)), .ref (ad 0)]) cx (c_X7_rowsOf l G ad M (nI (mn (M 0))) hok) gX7_free_X7_rowsOf rfl hd_X7_rowsOf ⟨Nat.le_of_ble_eq_true rfl, Nat.le_of_ble_eq_true rfl⟩ (va_recv hK hP (ci := 6) (q0 := 0) rfl rfl) hK hN hP rfl hl.1 rfl (Nat.le_of_ble_eq_true rfl) dX7_free_15 ⟨Nat.zero_le _, Nat.zero_le _⟩ ?_
  refine lv_iload_n cx.1 cx.2.1 dX7_free_18 rfl (lv_at hl 1 rfl) ?_
  refine lv_iload_n cx.1 cx.2.1 dX7_free_19 rfl (lv_at hl 2 rfl) ?_
  refine RO.callV (As := [.int (mMost (M 0) (-1005)), .int (mRows (M 0) (nI (mn (M 0)))), .int w, .int h]) (rest := []) cx (c_X7_greatest l G ad M (mMost (M 0) (-1005)) (mRows (M 0) (nI (mn (M 0)))) w h hok) gX7_free_X7_greatest rfl hd_X7_greatest ⟨Nat.le_of_ble_eq_true rfl, Nat.le_of_ble_eq_true rfl⟩ (va_recv hK hP (ci := 6) (q0 := 0) rfl rfl) hK hN hP rfl hl.1 rfl (Nat.le_of_ble_eq_true rfl) dX7_free_20 ⟨Nat.zero_le _, Nat.zero_le _⟩ ?_
  exact RO.ret (x := mGr (M 0) (mMost (M 0) (-1005)) (mRows (M 0) (nI (mn (M 0)))) w h) cx hr hlocks dX7_free_23 rfl

theorem iw_X7_size_X7 : ∀ w ∈ wsX70, w ∈ wsX7_size := fun _ h => List.mem_cons_of_mem _ (List.mem_append_right _ h)
theorem fw_X7_size_f7 : (Cond.fieldLink RX7 7 "NamePlateModel" "now" "[I") ∈ wsX7_size := List.mem_of_getElem? (i := 1) rfl
set_option maxHeartbeats 4000000 in
set_option maxRecDepth 100000 in
theorem c_X7_size (l : Launch) (G : GG) (ad : Nat → Nat) (M : XS)  (hok : okM (M 0)) : RO l yX7_size wsX7_size 8 177 G (mdC G ad M) [.ref (ad 0)] (mSize (M 0)) := by
  refine RO.start (cc := cX7_size) (maxL := 1) (ret := (some .int)) (by decide) rfl (Nat.le_of_ble_eq_true rfl) ?_
  intro p e s m below meth c ls cx hr hlocks hK hN hP hl
  have cx : CallFix p m c cX7_size 1 s [.ref (ad 0)].toArray wsX7_size RX7 := cx
  have hl : lv_has ls 1 [(0, .ref (ad 0))] := hl
  refine lv_aload_n cx.1 cx.2.1 dX7_size_0 rfl (lv_at hl 0 rfl) ?_
  refine RO.callV (As := []) (rest := []) cx (c_X7_engraved l G ad M hok) gX7_size_X7_engraved rfl hd_X7_engraved ⟨Nat.le_of_ble_eq_true rfl, Nat.le_of_ble_eq_true rfl⟩ (va_recv hK hP (ci := 6) (q0 := 0) rfl rfl) hK hN hP rfl hl.1 rfl (Nat.le_of_ble_eq_true rfl) dX7_size_1 ⟨Nat.zero_le _, Nat.zero_le _⟩ ?_
  refine lv_if_le (x := mEs (M 0)) (tgt := 16) cx.1 cx.2.1 dX7_size_4 (by decide) (fun c_1 => ?_) (fun c_1 => ?_)
  · refine lv_aload_n cx.1 cx.2.1 dX7_size_16 rfl (lv_at hl 0 rfl) ?_
    refine lv_aload_n cx.1 cx.2.1 dX7_size_17 rfl (lv_at hl 0 rfl) ?_
    refine va_get (ci := 6) (C := RX7) (T := TX7) (N := 7) (v := .ref (ad 1)) cx.1 cx.2.1 cx.2.2.2.2 iw_X7_size_X7 cx.2.2.2.1 hK hP 0 rfl rfl 0 (by decide) (cx.2.2.2.2 _ fw_X7_size_f7) (fun _ h9 => h9) rfl dX7_size_18 ?_
    refine lv_iconst (v := nI 0) cx.1 cx.2.1 dX7_size_21 (by decide) ?_
    refine nv_iald (j := 0) cx hK hP 1 1 rfl rfl (by omega) (by decide) dX7_size_22 ?_
    refine lv_aload_n cx.1 cx.2.1 dX7_size_23 rfl (lv_at hl 0 rfl) ?_
    refine va_get (ci := 6) (C := RX7) (T := TX7) (N := 7) (v := .ref (ad 1)) cx.1 cx.2.1 cx.2.2.2.2 iw_X7_size_X7 cx.2.2.2.1 hK hP 0 rfl rfl 0 (by decide) (cx.2.2.2.2 _ fw_X7_size_f7) (fun _ h9 => h9) rfl dX7_size_24 ?_
    refine lv_iconst (v := nI 1) cx.1 cx.2.1 dX7_size_27 (by decide) ?_
    refine nv_iald (j := 1) cx hK hP 1 1 rfl rfl (by omega) (by decide) dX7_size_28 ?_
    refine RO.callV (As := [.int (M 0 0), .int (M 0 1)]) (rest := []) cx (c_X7_free l G ad M (M 0 0) (M 0 1) hok) gX7_size_X7_free rfl hd_X7_free ⟨Nat.le_of_ble_eq_true rfl, Nat.le_of_ble_eq_true rfl⟩ (va_recv hK hP (ci := 6) (q0 := 0) rfl rfl) hK hN hP rfl hl.1 rfl (Nat.le_of_ble_eq_true rfl) dX7_size_29 ⟨Nat.zero_le _, Nat.zero_le _⟩ ?_
    exact RO.ret (x := mFree (M 0) (M 0 0) (M 0 1)) cx hr hlocks dX7_size_32 (by first | exact (if_pos c_1).symm | exact (if_neg c_1).symm)
  · refine lv_aload_n cx.1 cx.2.1 dX7_size_7 rfl (lv_at hl 0 rfl) ?_
    refine va_get (ci := 6) (C := RX7) (T := TX7) (N := 7) (v := .ref (ad 1)) cx.1 cx.2.1 cx.2.2.2.2 iw_X7_size_X7 cx.2.2.2.1 hK hP 0 rfl rfl 0 (by decide) (cx.2.2.2.2 _ fw_X7_size_f7) (fun _ h9 => h9) rfl dX7_size_8 ?_
    refine lv_iconst (v := nI 5) cx.1 cx.2.1 dX7_size_11 (by decide) ?_
    refine nv_iald (j := 5) cx hK hP 1 1 rfl rfl (by omega) (by decide) dX7_size_12 ?_
    refine lv_goto (tgt := 32) cx.1 cx.2.1 dX7_size_13 (by decide) ?_
    exact RO.ret (x := M 0 5) cx hr hlocks dX7_size_32 (by first | exact (if_pos c_1).symm | exact (if_neg c_1).symm)

theorem iw_X7_columnBegin_X7 : ∀ w ∈ wsX70, w ∈ wsX7_columnBegin := fun _ h => List.mem_cons_of_mem _ (List.mem_append_right _ h)
theorem fw_X7_columnBegin_f7 : (Cond.fieldLink RX7 7 "NamePlateModel" "now" "[I") ∈ wsX7_columnBegin := List.mem_of_getElem? (i := 1) rfl
set_option maxHeartbeats 4000000 in
set_option maxRecDepth 100000 in
theorem c_X7_columnBegin (l : Launch) (G : GG) (ad : Nat → Nat) (M : XS) (k : Nat) (hok : okM (M 0)) : RO l yX7_columnBegin wsX7_columnBegin 2 42 G (mdC G ad M) [.ref (ad 0), .int (nI k)] (mCb (M 0) k) := by
  refine RO.start (cc := cX7_columnBegin) (maxL := 2) (ret := (some .int)) (by decide) rfl (Nat.le_of_ble_eq_true rfl) ?_
  intro p e s m below meth c ls cx hr hlocks hK hN hP hl
  have cx : CallFix p m c cX7_columnBegin 2 s [.ref (ad 0), .int (nI k)].toArray wsX7_columnBegin RX7 := cx
  have hl : lv_has ls 2 [(0, .ref (ad 0)), (1, .int (nI k))] := hl
  refine lv_aload_n cx.1 cx.2.1 dX7_columnBegin_0 rfl (lv_at hl 0 rfl) ?_
  refine va_get (ci := 6) (C := RX7) (T := TX7) (N := 7) (v := .ref (ad 1)) cx.1 cx.2.1 cx.2.2.2.2 iw_X7_columnBegin_X7 cx.2.2.2.1 hK hP 0 rfl rfl 0 (by decide) (cx.2.2.2.2 _ fw_X7_columnBegin_f7) (fun _ h9 => h9) rfl dX7_columnBegin_1 ?_
  refine lv_iconst (v := nI 2) cx.1 cx.2.1 dX7_columnBegin_4 (by decide) ?_
  refine nv_iald (j := 2) cx hK hP 1 1 rfl rfl (by omega) (by decide) dX7_columnBegin_5 ?_
  refine lv_iload_n cx.1 cx.2.1 dX7_columnBegin_6 rfl (lv_at hl 1 rfl) ?_
  refine lv_aload_n cx.1 cx.2.1 dX7_columnBegin_7 rfl (lv_at hl 0 rfl) ?_
  refine va_get (ci := 6) (C := RX7) (T := TX7) (N := 7) (v := .ref (ad 1)) cx.1 cx.2.1 cx.2.2.2.2 iw_X7_columnBegin_X7 cx.2.2.2.1 hK hP 0 rfl rfl 0 (by decide) (cx.2.2.2.2 _ fw_X7_columnBegin_f7) (fun _ h9 => h9) rfl dX7_columnBegin_8 ?_
  refine lv_iconst (v := nI 3) cx.1 cx.2.1 dX7_columnBegin_11 (by decide) ?_
  refine nv_iald (j := 3) cx hK hP 1 1 rfl rfl (by omega) (by decide) dX7_columnBegin_12 ?_
  refine lv_irem (x := nI k) (y := M 0 3) cx.1 cx.2.1 dX7_columnBegin_13 hok.c ?_
  refine nv_eqi (y := irem (nI k) (M 0 3)) rfl ?_
  refine lv_aload_n cx.1 cx.2.1 dX7_columnBegin_14 rfl (lv_at hl 0 rfl) ?_
  refine RO.callV (As := []) (rest := [.int (irem (nI k) (M 0 3)), .int (M 0 2)]) cx (c_X7_column l G ad M hok) gX7_columnBegin_X7_column rfl hd_X7_column ⟨Nat.le_of_ble_eq_true rfl, Nat.le_of_ble_eq_true rfl⟩ (va_recv hK hP (ci := 6) (q0 := 0) rfl rfl) hK hN hP rfl hl.1 rfl (Nat.le_of_ble_eq_true rfl) dX7_columnBegin_15 ⟨Nat.zero_le _, Nat.zero_le _⟩ ?_
  refine lv_imul (x := irem (nI k) (M 0 3)) (y := mCol (M 0)) cx.1 cx.2.1 dX7_columnBegin_18 ?_
  refine lv_iadd (x := M 0 2) (y := (irem (nI k) (M 0 3)) * (mCol (M 0))) cx.1 cx.2.1 dX7_columnBegin_19 ?_
  exact RO.ret (x := (M 0 2) + ((irem (nI k) (M 0 3)) * (mCol (M 0)))) cx hr hlocks dX7_columnBegin_20 rfl

theorem iw_X7_fits_X7 : ∀ w ∈ wsX70, w ∈ wsX7_fits := fun _ h => List.mem_cons_of_mem _ (List.mem_append_right _ h)
theorem fw_X7_fits_f7 : (Cond.fieldLink RX7 7 "NamePlateModel" "now" "[I") ∈ wsX7_fits := List.mem_of_getElem? (i := 1) rfl
set_option maxHeartbeats 4000000 in
set_option maxRecDepth 100000 in
theorem c_X7_fits (l : Launch) (G : GG) (ad : Nat → Nat) (M : XS) (k : Nat) (z : Int32) (hok : okM (M 0)) (hk : k < mn (M 0)) : RO l yX7_fits wsX7_fits 6 131 G (mdC G ad M) [.ref (ad 0), .int (nI k), .int z] (b2i (mFits (M 0) k z)) := by
  refine RO.start (cc := cX7_fits) (maxL := 3) (ret := (some .boolean)) (by decide) rfl (Nat.le_of_ble_eq_true rfl) ?_
  intro p e s m below meth c ls cx hr hlocks hK hN hP hl
  have cx : CallFix p m c cX7_fits 3 s [.ref (ad 0), .int (nI k), .int z].toArray wsX7_fits RX7 := cx
  have hl : lv_has ls 3 [(0, .ref (ad 0)), (1, .int (nI k)), (2, .int z)] := hl
  refine lv_iload_n cx.1 cx.2.1 dX7_fits_0 rfl (lv_at hl 2 rfl) ?_
  refine lv_if_le (x := z) (tgt := 52) cx.1 cx.2.1 dX7_fits_1 (by decide) (fun c_1 => ?_) (fun c_1 => ?_)
  · refine lv_iconst (v := nI 0) cx.1 cx.2.1 dX7_fits_52 (by decide) ?_
    exact RO.retz (b := mFits (M 0) k z) (x := 0) cx hr hlocks dX7_fits_53 (by simp [mFits, b2i, c_1]) rfl
  · refine lv_aload_n cx.1 cx.2.1 dX7_fits_4 rfl (lv_at hl 0 rfl) ?_
    refine lv_iload_n cx.1 cx.2.1 dX7_fits_5 rfl (lv_at hl 1 rfl) ?_
    refine RO.callV (As := [.int (nI k)]) (rest := []) cx (c_X7_units l G ad M k hok (by omega)) gX7_fits_X7_units rfl hd_X7_units ⟨Nat.le_of_ble_eq_true rfl, Nat.le_of_ble_eq_true rfl⟩ (va_recv hK hP (ci := 6) (q0 := 0) rfl rfl) hK hN hP rfl hl.1 rfl (Nat.le_of_ble_eq_true rfl) dX7_fits_6 ⟨Nat.zero_le _, Nat.zero_le _⟩ ?_
    refine lv_iload_n cx.1 cx.2.1 dX7_fits_9 rfl (lv_at hl 2 rfl) ?_
    refine lv_imul (x := mU (M 0) k) (y := z) cx.1 cx.2.1 dX7_fits_10 ?_
    refine lv_aload_n cx.1 cx.2.1 dX7_fits_11 rfl (lv_at hl 0 rfl) ?_
    refine RO.callV (As := []) (rest := [.int ((mU (M 0) k) * z)]) cx (c_X7_column l G ad M hok) gX7_fits_X7_column rfl hd_X7_column ⟨Nat.le_of_ble_eq_true rfl, Nat.le_of_ble_eq_true rfl⟩ (va_recv hK hP (ci := 6) (q0 := 0) rfl rfl) hK hN hP rfl hl.1 rfl (Nat.le_of_ble_eq_true rfl) dX7_fits_12 ⟨Nat.zero_le _, Nat.zero_le _⟩ ?_
    refine lv_icmp_gt (x := (mU (M 0) k) * z) (y := mCol (M 0)) (tgt := 52) cx.1 cx.2.1 dX7_fits_15 (by decide) (fun c_2 => ?_) (fun c_2 => ?_)
    · refine lv_iconst (v := nI 0) cx.1 cx.2.1 dX7_fits_52 (by decide) ?_
      exact RO.retz (b := mFits (M 0) k z) (x := 0) cx hr hlocks dX7_fits_53 (by simp [mFits, b2i, c_1, c_2]) rfl
    · refine lv_bipush (v := nI 12) cx.1 cx.2.1 dX7_fits_18 (by decide) ?_
      refine lv_iload_n cx.1 cx.2.1 dX7_fits_20 rfl (lv_at hl 2 rfl) ?_
      refine lv_imul (x := 12) (y := z) cx.1 cx.2.1 dX7_fits_21 ?_
      refine lv_aload_n cx.1 cx.2.1 dX7_fits_22 rfl (lv_at hl 0 rfl) ?_
      refine lv_iload_n cx.1 cx.2.1 dX7_fits_23 rfl (lv_at hl 1 rfl) ?_
      refine RO.callV (As := [.int (nI k)]) (rest := [.int (12 * z)]) cx (c_X7_rowOf l G ad M k hok) gX7_fits_X7_rowOf rfl hd_X7_rowOf ⟨Nat.le_of_ble_eq_true rfl, Nat.le_of_ble_eq_true rfl⟩ (va_recv hK hP (ci := 6) (q0 := 0) rfl rfl) hK hN hP rfl hl.1 rfl (Nat.le_of_ble_eq_true rfl) dX7_fits_24 ⟨Nat.zero_le _, Nat.zero_le _⟩ ?_
      refine lv_iconst (v := nI 1) cx.1 cx.2.1 dX7_fits_27 (by decide) ?_
      refine lv_iadd (x := mRow (M 0) k) (y := 1) cx.1 cx.2.1 dX7_fits_28 ?_
      refine lv_imul (x := 12 * z) (y := (mRow (M 0) k) + 1) cx.1 cx.2.1 dX7_fits_29 ?_
      refine lv_aload_n cx.1 cx.2.1 dX7_fits_30 rfl (lv_at hl 0 rfl) ?_
      refine va_get (ci := 6) (C := RX7) (T := TX7) (N := 7) (v := .ref (ad 1)) cx.1 cx.2.1 cx.2.2.2.2 iw_X7_fits_X7 cx.2.2.2.1 hK hP 0 rfl rfl 0 (by decide) (cx.2.2.2.2 _ fw_X7_fits_f7) (fun _ h9 => h9) rfl dX7_fits_31 ?_
      refine lv_iconst (v := nI 1) cx.1 cx.2.1 dX7_fits_34 (by decide) ?_
      refine nv_iald (j := 1) cx hK hP 1 1 rfl rfl (by omega) (by decide) dX7_fits_35 ?_
      refine lv_iconst (v := nI 2) cx.1 cx.2.1 dX7_fits_36 (by decide) ?_
      refine lv_aload_n cx.1 cx.2.1 dX7_fits_37 rfl (lv_at hl 0 rfl) ?_
      refine va_get (ci := 6) (C := RX7) (T := TX7) (N := 7) (v := .ref (ad 1)) cx.1 cx.2.1 cx.2.2.2.2 iw_X7_fits_X7 cx.2.2.2.1 hK hP 0 rfl rfl 0 (by decide) (cx.2.2.2.2 _ fw_X7_fits_f7) (fun _ h9 => h9) rfl dX7_fits_38 ?_
      refine lv_iconst (v := nI 2) cx.1 cx.2.1 dX7_fits_41 (by decide) ?_
      refine nv_iald (j := 2) cx hK hP 1 1 rfl rfl (by omega) (by decide) dX7_fits_42 ?_
      refine lv_imul (x := 2) (y := M 0 2) cx.1 cx.2.1 dX7_fits_43 ?_
      refine lv_isub (x := M 0 1) (y := 2 * (M 0 2)) cx.1 cx.2.1 dX7_fits_44 ?_
      refine lv_icmp_gt (x := (12 * z) * ((mRow (M 0) k) + 1)) (y := (M 0 1) - (2 * (M 0 2))) (tgt := 52) cx.1 cx.2.1 dX7_fits_45 (by decide) (fun c_3 => ?_) (fun c_3 => ?_)
      · refine lv_iconst (v := nI 0) cx.1 cx.2.1 dX7_fits_52 (by decide) ?_
        exact RO.retz (b := mFits (M 0) k z) (x := 0) cx hr hlocks dX7_fits_53 (by simp [mFits, b2i, c_1, c_2, c_3]) rfl
      · refine lv_iconst (v := nI 1) cx.1 cx.2.1 dX7_fits_48 (by decide) ?_
        refine lv_goto (tgt := 53) cx.1 cx.2.1 dX7_fits_49 (by decide) ?_
        exact RO.retz (b := mFits (M 0) k z) (x := 1) cx hr hlocks dX7_fits_53 (by simp [mFits, b2i, c_1, c_2, c_3]) rfl

set_option maxHeartbeats 4000000 in
set_option maxRecDepth 100000 in
theorem c_X7_down (l : Launch) (G : GG)  (u : Int32) (d : Int32) (hd : ¬ d = 0) : RO l yX7_down wsX7_down 0 0 G ([]) [.int u, .int d] (mDown u d) := by
  refine RO.start (cc := cX7_down) (maxL := 3) (ret := (some .int)) (by decide) rfl (Nat.le_of_ble_eq_true rfl) ?_
  intro p e s m below meth c ls cx hr hlocks hK hN hP hl
  have cx : CallFix p m c cX7_down 3 s [.int u, .int d].toArray wsX7_down RX7 := cx
  have hl : lv_has ls 3 [(0, .int u), (1, .int d)] := hl
  refine lv_iload_n cx.1 cx.2.1 dX7_down_0 rfl (lv_at hl 0 rfl) ?_
  refine lv_iload_n cx.1 cx.2.1 dX7_down_1 rfl (lv_at hl 1 rfl) ?_
  refine lv_idiv (x := u) (y := d) cx.1 cx.2.1 dX7_down_2 hd ?_
  refine lv_istore_n (lv' := [(2, .int (u / d)), (0, .int u), (1, .int d)]) cx.1 cx.2.1 dX7_down_3 rfl hl (by decide) rfl (fun ls hl => ?_)
  refine lv_iload_n cx.1 cx.2.1 dX7_down_4 rfl (lv_at hl 0 rfl) ?_
  refine lv_iload_n cx.1 cx.2.1 dX7_down_5 rfl (lv_at hl 2 rfl) ?_
  refine lv_imul (x := u / d) (y := d) cx.1 cx.2.1 dX7_down_6 ?_
  refine lv_iload_n cx.1 cx.2.1 dX7_down_7 rfl (lv_at hl 1 rfl) ?_
  refine lv_icmp_le (x := (u / d) * d) (y := u) (tgt := 17) cx.1 cx.2.1 dX7_down_8 (by decide) (fun c_1 => ?_) (fun c_1 => ?_)
  · refine lv_iload_n cx.1 cx.2.1 dX7_down_17 rfl (lv_at hl 0 rfl) ?_
    exact RO.ret (x := u / d) cx hr hlocks dX7_down_18 (by first | exact (if_pos c_1).symm | exact (if_neg c_1).symm)
  · refine lv_iload_n cx.1 cx.2.1 dX7_down_11 rfl (lv_at hl 0 rfl) ?_
    refine lv_iconst (v := nI 1) cx.1 cx.2.1 dX7_down_12 (by decide) ?_
    refine lv_isub (x := u / d) (y := 1) cx.1 cx.2.1 dX7_down_13 ?_
    refine lv_goto (tgt := 18) cx.1 cx.2.1 dX7_down_14 (by decide) ?_
    exact RO.ret (x := (u / d) - 1) cx hr hlocks dX7_down_18 (by first | exact (if_pos c_1).symm | exact (if_neg c_1).symm)

set_option maxHeartbeats 4000000 in
set_option maxRecDepth 100000 in
theorem c_X7_begin (l : Launch) (G : GG) (ad : Nat → Nat) (M : XS) (k : Nat) (z : Int32) (hok : okM (M 0)) (hk : k < mn (M 0)) : RO l yX7_begin wsX7_begin 6 131 G (mdC G ad M) [.ref (ad 0), .int (nI k), .int z] (mBeg (M 0) k z) := by
  refine RO.start (cc := cX7_begin) (maxL := 8) (ret := (some .int)) (by decide) rfl (Nat.le_of_ble_eq_true rfl) ?_
  intro p e s m below meth c ls cx hr hlocks hK hN hP hl
  have cx : CallFix p m c cX7_begin 8 s [.ref (ad 0), .int (nI k), .int z].toArray wsX7_begin RX7 := cx
  have hl : lv_has ls 8 [(0, .ref (ad 0)), (1, .int (nI k)), (2, .int z)] := hl
  have hl1 := hok.l1 hk
  have hl16 := hok.l16 hk
  have hn20 := hok.n20
  refine lv_aload_n cx.1 cx.2.1 dX7_begin_0 rfl (lv_at hl 0 rfl) ?_
  refine lv_iload_n cx.1 cx.2.1 dX7_begin_1 rfl (lv_at hl 1 rfl) ?_
  refine RO.callV (As := [.int (nI k)]) (rest := []) cx (c_X7_inkOf l G ad M k hok (by omega)) gX7_begin_X7_inkOf rfl hd_X7_inkOf ⟨Nat.le_of_ble_eq_true rfl, Nat.le_of_ble_eq_true rfl⟩ (va_recv hK hP (ci := 6) (q0 := 0) rfl rfl) hK hN hP rfl hl.1 rfl (Nat.le_of_ble_eq_true rfl) dX7_begin_2 ⟨Nat.zero_le _, Nat.zero_le _⟩ ?_
  refine lv_istore_n (lv' := [(3, .int (mInk (M 0) k)), (0, .ref (ad 0)), (1, .int (nI k)), (2, .int z)]) cx.1 cx.2.1 dX7_begin_5 rfl hl (by decide) rfl (fun ls hl => ?_)
  refine lv_iconst (v := nI 0) cx.1 cx.2.1 dX7_begin_6 (by decide) ?_
  refine lv_istore (lv' := [(4, .int (nI 0)), (3, .int (mInk (M 0) k)), (0, .ref (ad 0)), (1, .int (nI k)), (2, .int z)]) cx.1 cx.2.1 dX7_begin_7 hl (by decide) rfl (fun ls hl => ?_)
  refine lv_iconst (v := nI 0) cx.1 cx.2.1 dX7_begin_9 (by decide) ?_
  refine lv_istore (lv' := [(5, .int (nI 0)), (4, .int (nI 0)), (3, .int (mInk (M 0) k)), (0, .ref (ad 0)), (1, .int (nI k)), (2, .int z)]) cx.1 cx.2.1 dX7_begin_10 hl (by decide) rfl (fun ls hl => ?_)
  have lp12 : ∀ (r : Nat) (i : Nat) (hr9 : ml (M 0) k - i < r) (hi : i ≤ ml (M 0) k) (ls : Array Slot), lv_has ls 8 [(5, .int (nI i)), (4, .int (sumI (mMt (M 0) k) i)), (3, .int (mInk (M 0) k)), (0, .ref (ad 0)), (1, .int (nI k)), (2, .int z)] → W p l e ({ frames := 6, cells := 0, slots := 0, locals := 131 } : Room) s m [.ref (ad 0), .int (nI k), .int z].toArray below meth c s.heap [] 0 0 (MQ below (vp_Si (fun r => r = (mBeg (M 0) k z))) [.ref (ad 0), .int (nI k), .int z].toArray s 0 0 (fun _ => False)) (F0 m 12 ls []) := by
    intro r
    induction r with
    | zero => intro i hr9; exact absurd hr9 (Nat.not_lt_zero _)
    | succ r ih12 =>
      intro i hr9 hi ls hl
      refine lv_iload cx.1 cx.2.1 dX7_begin_12 (lv_at hl 0 rfl) ?_
      refine lv_aload_n cx.1 cx.2.1 dX7_begin_14 rfl (lv_at hl 3 rfl) ?_
      refine lv_iload_n cx.1 cx.2.1 dX7_begin_15 rfl (lv_at hl 4 rfl) ?_
      refine lv_iconst (v := nI 0) cx.1 cx.2.1 dX7_begin_16 (by decide) ?_
      refine RO.callV (As := [.int (nI k), .int (nI 0)]) (rest := [.int (nI i)]) cx (c_X7_of l G ad M k 0 (by omega)) gX7_begin_X7_of rfl hd_X7_of ⟨Nat.le_of_ble_eq_true rfl, Nat.le_of_ble_eq_true rfl⟩ (va_recv hK hP (ci := 6) (q0 := 0) rfl rfl) hK hN hP rfl hl.1 rfl (Nat.le_of_ble_eq_true rfl) dX7_begin_17 ⟨Nat.zero_le _, Nat.zero_le _⟩ ?_
      refine nv_eqi (y := nI (ml (M 0) k)) (hok.l (by omega)) ?_
      refine nv_icmp_ge (a := i) (b := ml (M 0) k) (tgt := 65) cx dX7_begin_20 (by decide) (by omega) (by omega) (fun c_1 => ?_) (fun c_1 => ?_)
      · have ei : i = ml (M 0) k := by omega
        rw [ei] at hl
        refine lv_aload_n cx.1 cx.2.1 dX7_begin_65 rfl (lv_at hl 3 rfl) ?_
        refine lv_iload_n cx.1 cx.2.1 dX7_begin_66 rfl (lv_at hl 4 rfl) ?_
        refine RO.callV (As := [.int (nI k)]) (rest := []) cx (c_X7_columnBegin l G ad M k hok) gX7_begin_X7_columnBegin rfl hd_X7_columnBegin ⟨Nat.le_of_ble_eq_true rfl, Nat.le_of_ble_eq_true rfl⟩ (va_recv hK hP (ci := 6) (q0 := 0) rfl rfl) hK hN hP rfl hl.1 rfl (Nat.le_of_ble_eq_true rfl) dX7_begin_67 ⟨Nat.zero_le _, Nat.zero_le _⟩ ?_
        refine lv_istore (lv' := [(5, .int (mCb (M 0) k)), (4, .int (sumI (mMt (M 0) k) (ml (M 0) k))), (3, .int (mInk (M 0) k)), (0, .ref (ad 0)), (1, .int (nI k)), (2, .int z)]) cx.1 cx.2.1 dX7_begin_70 hl (by decide) rfl (fun ls hl => ?_)
        refine lv_iload_n cx.1 cx.2.1 dX7_begin_72 rfl (lv_at hl 2 rfl) ?_
        refine lv_iconst (v := nI 2) cx.1 cx.2.1 dX7_begin_73 (by decide) ?_
        refine lv_iload cx.1 cx.2.1 dX7_begin_74 (lv_at hl 0 rfl) ?_
        refine lv_imul (x := 2) (y := mCb (M 0) k) cx.1 cx.2.1 dX7_begin_76 ?_
        refine lv_aload_n cx.1 cx.2.1 dX7_begin_77 rfl (lv_at hl 3 rfl) ?_
        refine RO.callV (As := []) (rest := [.int (2 * (mCb (M 0) k)), .int (mInk (M 0) k)]) cx (c_X7_column l G ad M hok) gX7_begin_X7_column rfl hd_X7_column ⟨Nat.le_of_ble_eq_true rfl, Nat.le_of_ble_eq_true rfl⟩ (va_recv hK hP (ci := 6) (q0 := 0) rfl rfl) hK hN hP rfl hl.1 rfl (Nat.le_of_ble_eq_true rfl) dX7_begin_78 ⟨Nat.zero_le _, Nat.zero_le _⟩ ?_
        refine lv_iadd (x := 2 * (mCb (M 0) k)) (y := mCol (M 0)) cx.1 cx.2.1 dX7_begin_81 ?_
        refine lv_imul (x := mInk (M 0) k) (y := (2 * (mCb (M 0) k)) + (mCol (M 0))) cx.1 cx.2.1 dX7_begin_82 ?_
        refine lv_iload_n cx.1 cx.2.1 dX7_begin_83 rfl (lv_at hl 5 rfl) ?_
        refine lv_iload cx.1 cx.2.1 dX7_begin_84 (lv_at hl 1 rfl) ?_
        refine lv_imul (x := z) (y := sumI (mMt (M 0) k) (ml (M 0) k)) cx.1 cx.2.1 dX7_begin_86 ?_
        refine lv_isub (x := (mInk (M 0) k) * ((2 * (mCb (M 0) k)) + (mCol (M 0)))) (y := z * (sumI (mMt (M 0) k) (ml (M 0) k))) cx.1 cx.2.1 dX7_begin_87 ?_
        refine lv_iconst (v := nI 2) cx.1 cx.2.1 dX7_begin_88 (by decide) ?_
        refine lv_iload_n cx.1 cx.2.1 dX7_begin_89 rfl (lv_at hl 2 rfl) ?_
        refine lv_imul (x := 2) (y := mInk (M 0) k) cx.1 cx.2.1 dX7_begin_90 ?_
        refine RO.callS (As := [.int (((mInk (M 0) k) * ((2 * (mCb (M 0) k)) + (mCol (M 0)))) - (z * (sumI (mMt (M 0) k) (ml (M 0) k)))), .int (2 * (mInk (M 0) k))]) (rest := []) cx (c_X7_down l G (((mInk (M 0) k) * ((2 * (mCb (M 0) k)) + (mCol (M 0)))) - (z * (sumI (mMt (M 0) k) (ml (M 0) k)))) (2 * (mInk (M 0) k)) (mInk_ne hok hk)) gX7_begin_X7_down rfl hd_X7_down ⟨Nat.le_of_ble_eq_true rfl, Nat.le_of_ble_eq_true rfl⟩ hK hN va_P.nil rfl hl.1 rfl (Nat.le_of_ble_eq_true rfl) dX7_begin_91 ⟨Nat.zero_le _, Nat.zero_le _⟩ ?_
        refine lv_istore (lv' := [(6, .int (mDown (((mInk (M 0) k) * ((2 * (mCb (M 0) k)) + (mCol (M 0)))) - (z * (sumI (mMt (M 0) k) (ml (M 0) k)))) (2 * (mInk (M 0) k)))), (5, .int (mCb (M 0) k)), (4, .int (sumI (mMt (M 0) k) (ml (M 0) k))), (3, .int (mInk (M 0) k)), (0, .ref (ad 0)), (1, .int (nI k)), (2, .int z)]) cx.1 cx.2.1 dX7_begin_94 hl (by decide) rfl (fun ls hl => ?_)
        refine lv_iload cx.1 cx.2.1 dX7_begin_96 (lv_at hl 1 rfl) ?_
        refine lv_aload_n cx.1 cx.2.1 dX7_begin_98 rfl (lv_at hl 4 rfl) ?_
        refine RO.callV (As := []) (rest := [.int (mCb (M 0) k)]) cx (c_X7_column l G ad M hok) gX7_begin_X7_column rfl hd_X7_column ⟨Nat.le_of_ble_eq_true rfl, Nat.le_of_ble_eq_true rfl⟩ (va_recv hK hP (ci := 6) (q0 := 0) rfl rfl) hK hN hP rfl hl.1 rfl (Nat.le_of_ble_eq_true rfl) dX7_begin_99 ⟨Nat.zero_le _, Nat.zero_le _⟩ ?_
        refine lv_iadd (x := mCb (M 0) k) (y := mCol (M 0)) cx.1 cx.2.1 dX7_begin_102 ?_
        refine lv_aload_n cx.1 cx.2.1 dX7_begin_103 rfl (lv_at hl 4 rfl) ?_
        refine lv_iload_n cx.1 cx.2.1 dX7_begin_104 rfl (lv_at hl 5 rfl) ?_
        refine RO.callV (As := [.int (nI k)]) (rest := [.int ((mCb (M 0) k) + (mCol (M 0)))]) cx (c_X7_units l G ad M k hok (by omega)) gX7_begin_X7_units rfl hd_X7_units ⟨Nat.le_of_ble_eq_true rfl, Nat.le_of_ble_eq_true rfl⟩ (va_recv hK hP (ci := 6) (q0 := 0) rfl rfl) hK hN hP rfl hl.1 rfl (Nat.le_of_ble_eq_true rfl) dX7_begin_105 ⟨Nat.zero_le _, Nat.zero_le _⟩ ?_
        refine lv_iload_n cx.1 cx.2.1 dX7_begin_108 rfl (lv_at hl 6 rfl) ?_
        refine lv_imul (x := mU (M 0) k) (y := z) cx.1 cx.2.1 dX7_begin_109 ?_
        refine lv_isub (x := (mCb (M 0) k) + (mCol (M 0))) (y := (mU (M 0) k) * z) cx.1 cx.2.1 dX7_begin_110 ?_
        refine lv_istore (lv' := [(7, .int (((mCb (M 0) k) + (mCol (M 0))) - ((mU (M 0) k) * z))), (6, .int (mDown (((mInk (M 0) k) * ((2 * (mCb (M 0) k)) + (mCol (M 0)))) - (z * (sumI (mMt (M 0) k) (ml (M 0) k)))) (2 * (mInk (M 0) k)))), (5, .int (mCb (M 0) k)), (4, .int (sumI (mMt (M 0) k) (ml (M 0) k))), (3, .int (mInk (M 0) k)), (0, .ref (ad 0)), (1, .int (nI k)), (2, .int z)]) cx.1 cx.2.1 dX7_begin_111 hl (by decide) rfl (fun ls hl => ?_)
        refine lv_iload cx.1 cx.2.1 dX7_begin_113 (lv_at hl 1 rfl) ?_
        refine lv_iload cx.1 cx.2.1 dX7_begin_115 (lv_at hl 0 rfl) ?_
        refine lv_icmp_le (x := mDown (((mInk (M 0) k) * ((2 * (mCb (M 0) k)) + (mCol (M 0)))) - (z * (sumI (mMt (M 0) k) (ml (M 0) k)))) (2 * (mInk (M 0) k))) (y := ((mCb (M 0) k) + (mCol (M 0))) - ((mU (M 0) k) * z)) (tgt := 125) cx.1 cx.2.1 dX7_begin_117 (by decide) (fun c_2 => ?_) (fun c_2 => ?_)
        · refine lv_iload cx.1 cx.2.1 dX7_begin_125 (lv_at hl 1 rfl) ?_
          refine lv_istore (lv' := [(6, .int (mDown (((mInk (M 0) k) * ((2 * (mCb (M 0) k)) + (mCol (M 0)))) - (z * (sumI (mMt (M 0) k) (ml (M 0) k)))) (2 * (mInk (M 0) k)))), (7, .int (((mCb (M 0) k) + (mCol (M 0))) - ((mU (M 0) k) * z))), (5, .int (mCb (M 0) k)), (4, .int (sumI (mMt (M 0) k) (ml (M 0) k))), (3, .int (mInk (M 0) k)), (0, .ref (ad 0)), (1, .int (nI k)), (2, .int z)]) cx.1 cx.2.1 dX7_begin_127 hl (by decide) rfl (fun ls hl => ?_)
          refine lv_iload cx.1 cx.2.1 dX7_begin_129 (lv_at hl 0 rfl) ?_
          refine lv_iload cx.1 cx.2.1 dX7_begin_131 (lv_at hl 2 rfl) ?_
          refine lv_icmp_ge (x := mDown (((mInk (M 0) k) * ((2 * (mCb (M 0) k)) + (mCol (M 0)))) - (z * (sumI (mMt (M 0) k) (ml (M 0) k)))) (2 * (mInk (M 0) k))) (y := mCb (M 0) k) (tgt := 141) cx.1 cx.2.1 dX7_begin_133 (by decide) (fun c_3 => ?_) (fun c_3 => ?_)
          · refine lv_iload cx.1 cx.2.1 dX7_begin_141 (lv_at hl 0 rfl) ?_
            exact RO.ret (x := mDown (((mInk (M 0) k) * ((2 * (mCb (M 0) k)) + (mCol (M 0)))) - (z * (sumI (mMt (M 0) k) (ml (M 0) k)))) (2 * (mInk (M 0) k))) cx hr hlocks dX7_begin_143 (by simp only [mBeg, mMom, clampI, c_1, c_2, c_3, if_true, if_false, ↓reduceIte])
          · refine lv_iload cx.1 cx.2.1 dX7_begin_136 (lv_at hl 2 rfl) ?_
            refine lv_goto (tgt := 143) cx.1 cx.2.1 dX7_begin_138 (by decide) ?_
            exact RO.ret (x := mCb (M 0) k) cx hr hlocks dX7_begin_143 (by simp only [mBeg, mMom, clampI, c_1, c_2, c_3, if_true, if_false, ↓reduceIte])
        · refine lv_iload cx.1 cx.2.1 dX7_begin_120 (lv_at hl 0 rfl) ?_
          refine lv_goto (tgt := 127) cx.1 cx.2.1 dX7_begin_122 (by decide) ?_
          refine lv_istore (lv' := [(6, .int (((mCb (M 0) k) + (mCol (M 0))) - ((mU (M 0) k) * z))), (7, .int (((mCb (M 0) k) + (mCol (M 0))) - ((mU (M 0) k) * z))), (5, .int (mCb (M 0) k)), (4, .int (sumI (mMt (M 0) k) (ml (M 0) k))), (3, .int (mInk (M 0) k)), (0, .ref (ad 0)), (1, .int (nI k)), (2, .int z)]) cx.1 cx.2.1 dX7_begin_127 hl (by decide) rfl (fun ls hl => ?_)
          refine lv_iload cx.1 cx.2.1 dX7_begin_129 (lv_at hl 0 rfl) ?_
          refine lv_iload cx.1 cx.2.1 dX7_begin_131 (lv_at hl 2 rfl) ?_
          refine lv_icmp_ge (x := ((mCb (M 0) k) + (mCol (M 0))) - ((mU (M 0) k) * z)) (y := mCb (M 0) k) (tgt := 141) cx.1 cx.2.1 dX7_begin_133 (by decide) (fun c_4 => ?_) (fun c_4 => ?_)
          · refine lv_iload cx.1 cx.2.1 dX7_begin_141 (lv_at hl 0 rfl) ?_
            exact RO.ret (x := ((mCb (M 0) k) + (mCol (M 0))) - ((mU (M 0) k) * z)) cx hr hlocks dX7_begin_143 (by simp only [mBeg, mMom, clampI, c_1, c_2, c_4, if_true, if_false, ↓reduceIte])
          · refine lv_iload cx.1 cx.2.1 dX7_begin_136 (lv_at hl 2 rfl) ?_
            refine lv_goto (tgt := 143) cx.1 cx.2.1 dX7_begin_138 (by decide) ?_
            exact RO.ret (x := mCb (M 0) k) cx hr hlocks dX7_begin_143 (by simp only [mBeg, mMom, clampI, c_1, c_2, c_4, if_true, if_false, ↓reduceIte])
      · refine lv_iload cx.1 cx.2.1 dX7_begin_23 (lv_at hl 1 rfl) ?_
        refine lv_aload_n cx.1 cx.2.1 dX7_begin_25 rfl (lv_at hl 3 rfl) ?_
        refine lv_iload_n cx.1 cx.2.1 dX7_begin_26 rfl (lv_at hl 4 rfl) ?_
        refine lv_iload cx.1 cx.2.1 dX7_begin_27 (lv_at hl 0 rfl) ?_
        refine RO.callV (As := [.int (nI k), .int (nI i)]) (rest := [.int (sumI (mMt (M 0) k) i)]) cx (c_X7_signOf l G ad M k i (by omega)) gX7_begin_X7_signOf rfl hd_X7_signOf ⟨Nat.le_of_ble_eq_true rfl, Nat.le_of_ble_eq_true rfl⟩ (va_recv hK hP (ci := 6) (q0 := 0) rfl rfl) hK hN hP rfl hl.1 rfl (Nat.le_of_ble_eq_true rfl) dX7_begin_29 ⟨Nat.zero_le _, Nat.zero_le _⟩ ?_
        refine RO.callS (As := [.int (mSg (M 0) k i)]) (rest := [.int (sumI (mMt (M 0) k) i)]) cx (c_X7_ink l G (mSg (M 0) k i)) gX7_begin_X7_ink rfl hd_X7_ink ⟨Nat.le_of_ble_eq_true rfl, Nat.le_of_ble_eq_true rfl⟩ hK hN va_P.nil rfl hl.1 rfl (Nat.le_of_ble_eq_true rfl) dX7_begin_32 ⟨Nat.zero_le _, Nat.zero_le _⟩ ?_
        refine lv_iconst (v := nI 2) cx.1 cx.2.1 dX7_begin_35 (by decide) ?_
        refine lv_aload_n cx.1 cx.2.1 dX7_begin_36 rfl (lv_at hl 3 rfl) ?_
        refine lv_iload_n cx.1 cx.2.1 dX7_begin_37 rfl (lv_at hl 4 rfl) ?_
        refine lv_iload cx.1 cx.2.1 dX7_begin_38 (lv_at hl 0 rfl) ?_
        refine RO.callV (As := [.int (nI k), .int (nI i)]) (rest := [.int (nI 2), .int (mI (mSg (M 0) k i)), .int (sumI (mMt (M 0) k) i)]) cx (c_X7_unitsTo l G ad M k i hok (by omega) (by omega)) gX7_begin_X7_unitsTo rfl hd_X7_unitsTo ⟨Nat.le_of_ble_eq_true rfl, Nat.le_of_ble_eq_true rfl⟩ (va_recv hK hP (ci := 6) (q0 := 0) rfl rfl) hK hN hP rfl hl.1 rfl (Nat.le_of_ble_eq_true rfl) dX7_begin_40 ⟨Nat.zero_le _, Nat.zero_le _⟩ ?_
        refine lv_imul (x := 2) (y := mUt (M 0) k i) cx.1 cx.2.1 dX7_begin_43 ?_
        refine lv_aload_n cx.1 cx.2.1 dX7_begin_44 rfl (lv_at hl 3 rfl) ?_
        refine lv_iload_n cx.1 cx.2.1 dX7_begin_45 rfl (lv_at hl 4 rfl) ?_
        refine lv_iload cx.1 cx.2.1 dX7_begin_46 (lv_at hl 0 rfl) ?_
        refine RO.callV (As := [.int (nI k), .int (nI i)]) (rest := [.int (2 * (mUt (M 0) k i)), .int (mI (mSg (M 0) k i)), .int (sumI (mMt (M 0) k) i)]) cx (c_X7_signOf l G ad M k i (by omega)) gX7_begin_X7_signOf rfl hd_X7_signOf ⟨Nat.le_of_ble_eq_true rfl, Nat.le_of_ble_eq_true rfl⟩ (va_recv hK hP (ci := 6) (q0 := 0) rfl rfl) hK hN hP rfl hl.1 rfl (Nat.le_of_ble_eq_true rfl) dX7_begin_48 ⟨Nat.zero_le _, Nat.zero_le _⟩ ?_
        refine RO.callS (As := [.int (mSg (M 0) k i)]) (rest := [.int (2 * (mUt (M 0) k i)), .int (mI (mSg (M 0) k i)), .int (sumI (mMt (M 0) k) i)]) cx (c_X7_wide l G (mSg (M 0) k i)) gX7_begin_X7_wide rfl hd_X7_wide ⟨Nat.le_of_ble_eq_true rfl, Nat.le_of_ble_eq_true rfl⟩ hK hN va_P.nil rfl hl.1 rfl (Nat.le_of_ble_eq_true rfl) dX7_begin_51 ⟨Nat.zero_le _, Nat.zero_le _⟩ ?_
        refine lv_iadd (x := 2 * (mUt (M 0) k i)) (y := mW (mSg (M 0) k i)) cx.1 cx.2.1 dX7_begin_54 ?_
        refine lv_imul (x := mI (mSg (M 0) k i)) (y := (2 * (mUt (M 0) k i)) + (mW (mSg (M 0) k i))) cx.1 cx.2.1 dX7_begin_55 ?_
        refine lv_iadd (x := sumI (mMt (M 0) k) i) (y := (mI (mSg (M 0) k i)) * ((2 * (mUt (M 0) k i)) + (mW (mSg (M 0) k i)))) cx.1 cx.2.1 dX7_begin_56 ?_
        refine lv_istore (lv' := [(4, .int ((sumI (mMt (M 0) k) i) + ((mI (mSg (M 0) k i)) * ((2 * (mUt (M 0) k i)) + (mW (mSg (M 0) k i)))))), (5, .int (nI i)), (3, .int (mInk (M 0) k)), (0, .ref (ad 0)), (1, .int (nI k)), (2, .int z)]) cx.1 cx.2.1 dX7_begin_57 hl (by decide) rfl (fun ls hl => ?_)
        refine lv_iinc (v := nI (i + 1)) (lv' := [(5, .int (nI (i + 1))), (4, .int ((sumI (mMt (M 0) k) i) + ((mI (mSg (M 0) k i)) * ((2 * (mUt (M 0) k i)) + (mW (mSg (M 0) k i)))))), (3, .int (mInk (M 0) k)), (0, .ref (ad 0)), (1, .int (nI k)), (2, .int z)]) cx.1 cx.2.1 dX7_begin_59 hl (k := 1) rfl (show nI i + Int32.ofInt 1 = nI (i + 1) from nI_add i 1) (by decide) rfl (fun ls hl => ?_)
        refine lv_goto (tgt := 12) cx.1 cx.2.1 dX7_begin_62 (by decide) ?_
        exact ih12 (i + 1) (by omega) (by omega) ls (lv_sub hl [0, 1, 2, 3, 4, 5] rfl)
  exact lp12 _ 0 (Nat.lt_succ_self _) (by omega) ls (lv_sub hl [0, 1, 2, 3, 4, 5] rfl)
