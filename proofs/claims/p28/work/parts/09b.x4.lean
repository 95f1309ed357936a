/-! ===== x4: laid by program ===== -/
theorem iw_X5_append_X5 : ∀ w ∈ wsX50, w ∈ wsX5_append := fun _ h => List.mem_cons_of_mem _ (List.mem_append_right _ h)
theorem fw_X5_append_f15 : (Cond.fieldLink RX5 15 "NamePlate$Text" "length" "I") ∈ wsX5_append := List.mem_of_getElem? (i := 1) rfl
theorem fw_X5_append_f9 : (Cond.fieldLink RX5 9 "NamePlate$Text" "characters" "[C") ∈ wsX5_append := List.mem_of_getElem? (i := 2) rfl
set_option maxHeartbeats 4000000 in
set_option maxRecDepth 100000 in
theorem c_X5_append (l : Launch) (G : GG) (a : Nat → Nat) (AD : Nat → Nat → Nat) (Y : Nat → XS) (c0 : Int32) (hot : okT Y) (ht : yt Y < 60) (hc : chOk c0) : WR l yX5_append wsX5_append 0 0 G (plC G a AD Y) [.ref (a 3), .int c0] none (plC G a AD (yTy Y c0)) := by
  refine WR.start (cc := cX5_append) (maxL := 2) (ret := none) (by decide) rfl (Nat.le_of_ble_eq_true rfl) ?_
  intro p e s m below meth c ls cx hr hlocks hK hN hP hD hS hl
  have cx : CallFix p m c cX5_append 2 s [.ref (a 3), .int c0].toArray wsX5_append RX5 := cx
  have hl : lv_has ls 2 [(0, .ref (a 3)), (1, .int c0)] := hl
  refine lv_aload_n cx.1 cx.2.1 dX5_append_0 rfl (lv_at hl 0 rfl) ?_
  refine va_get (ci := 4) (C := RX5) (T := TX5) (N := 2) (v := .int (Y 7 5 2)) cx.1 cx.2.1 cx.2.2.2.2 iw_X5_append_X5 cx.2.2.2.1 hK hP 3 rfl rfl 1 (by decide) (cx.2.2.2.2 _ fw_X5_append_f15) (fun _ h9 => h9) rfl dX5_append_1 ?_
  refine nv_eqi (y := nI (yt Y)) hot.n ?_
  refine nv_if_lt (a := yt Y) cx dX5_append_4 (tgt := 39) (by decide) (by omega) ?_
  refine lv_aload_n cx.1 cx.2.1 dX5_append_7 rfl (lv_at hl 0 rfl) ?_
  refine va_get (ci := 4) (C := RX5) (T := TX5) (N := 2) (v := .int (Y 7 5 2)) cx.1 cx.2.1 cx.2.2.2.2 iw_X5_append_X5 cx.2.2.2.1 hK hP 3 rfl rfl 1 (by decide) (cx.2.2.2.2 _ fw_X5_append_f15) (fun _ h9 => h9) rfl dX5_append_8 ?_
  refine nv_eqi (y := nI (yt Y)) hot.n ?_
  refine lv_aload_n cx.1 cx.2.1 dX5_append_11 rfl (lv_at hl 0 rfl) ?_
  refine va_get (ci := 4) (C := RX5) (T := TX5) (N := 2) (v := .ref (a 4)) cx.1 cx.2.1 cx.2.2.2.2 iw_X5_append_X5 cx.2.2.2.1 hK hP 3 rfl rfl 0 (by decide) (cx.2.2.2.2 _ fw_X5_append_f9) (fun _ h9 => h9) rfl dX5_append_12 ?_
  refine va_alen (v := nI 60) cx.1 cx.2.1 hK hP 4 0 rfl rfl rfl dX5_append_15 ?_
  refine nv_icmp_ge (a := yt Y) (b := 60) (tgt := 39) cx dX5_append_16 (by decide) (by omega) (by omega) (fun c_1 => ?_) (fun c_1 => ?_)
  · exact absurd c_1 (by omega)
  · refine lv_aload_n cx.1 cx.2.1 dX5_append_19 rfl (lv_at hl 0 rfl) ?_
    refine va_get (ci := 4) (C := RX5) (T := TX5) (N := 2) (v := .ref (a 4)) cx.1 cx.2.1 cx.2.2.2.2 iw_X5_append_X5 cx.2.2.2.1 hK hP 3 rfl rfl 0 (by decide) (cx.2.2.2.2 _ fw_X5_append_f9) (fun _ h9 => h9) rfl dX5_append_20 ?_
    refine lv_aload_n cx.1 cx.2.1 dX5_append_23 rfl (lv_at hl 0 rfl) ?_
    refine va_get (ci := 4) (C := RX5) (T := TX5) (N := 2) (v := .int (Y 7 5 2)) cx.1 cx.2.1 cx.2.2.2.2 iw_X5_append_X5 cx.2.2.2.1 hK hP 3 rfl rfl 1 (by decide) (cx.2.2.2.2 _ fw_X5_append_f15) (fun _ h9 => h9) rfl dX5_append_24 ?_
    refine nv_eqi (y := nI (yt Y)) hot.n ?_
    refine lv_iload_n cx.1 cx.2.1 dX5_append_27 rfl (lv_at hl 1 rfl) ?_
    refine nv_cast (j := yt Y) (x := c0) cx hK hP hD hS 4 0 rfl rfl hc.1 (by omega) (by decide) dX5_append_28 (ws1 := plC G a AD (va_up Y 7 (va_up (Y 7) 0 (upd (Y 7 0) (yt Y) c0)))) rfl (fun H locs hP hD hS => ?_)
    refine lv_aload_n cx.1 cx.2.1 dX5_append_29 rfl (lv_at hl 0 rfl) ?_
    refine lv_dup cx.1 cx.2.1 dX5_append_30 rfl ?_
    refine va_get (ci := 4) (C := RX5) (T := TX5) (N := 2) (v := .int ((va_up Y 7 (va_up (Y 7) 0 (upd (Y 7 0) (yt Y) c0))) 7 5 2)) cx.1 cx.2.1 cx.2.2.2.2 iw_X5_append_X5 cx.2.2.2.1 hK hP 3 rfl rfl 1 (by decide) (cx.2.2.2.2 _ fw_X5_append_f15) (fun _ h9 => h9) rfl dX5_append_31 ?_
    refine nv_eqi (y := nI (yt Y)) hot.n ?_
    refine lv_iconst (v := nI 1) cx.1 cx.2.1 dX5_append_34 (by decide) ?_
    refine nv_iadd cx (a := yt Y) (b := 1) dX5_append_35 ?_
    refine va_put (ci := 4) (v := .int (nI (yt Y + 1))) (ty := .int) (C := RX5) (T := TX5) (N := 2) cx.1 cx.2.1 cx.2.2.2.2 iw_X5_append_X5 tyX5 tyX5_ok nmX5 cx.2.2.2.1 hK hP hD hS 3 rfl rfl 1 (by decide) (cx.2.2.2.2 _ fw_X5_append_f15) (fun _ h9 => h9) rfl (by decide +kernel) rfl rfl (Nat.le_of_ble_eq_true rfl) dX5_append_36 (fun H locs hP hD hS => ?_)
    have hP : va_P G.1 vwCl (plC G a AD (va_up (va_up Y 7 (va_up (Y 7) 0 (upd (Y 7 0) (yt Y) c0))) 7 (va_up ((va_up Y 7 (va_up (Y 7) 0 (upd (Y 7 0) (yt Y) c0))) 7) 5 (upd ((va_up Y 7 (va_up (Y 7) 0 (upd (Y 7 0) (yt Y) c0))) 7 5) 2 (nI (yt Y + 1)))))) H := hP
    have hD : va_D (wA (plC G a AD Y)) (plC G a AD (va_up (va_up Y 7 (va_up (Y 7) 0 (upd (Y 7 0) (yt Y) c0))) 7 (va_up ((va_up Y 7 (va_up (Y 7) 0 (upd (Y 7 0) (yt Y) c0))) 7) 5 (upd ((va_up Y 7 (va_up (Y 7) 0 (upd (Y 7 0) (yt Y) c0))) 7 5) 2 (nI (yt Y + 1)))))) := hD
    exact WR.retv cx hr hlocks dX5_append_39 hP hS

theorem iw_X0_slotAt_X0 : ∀ w ∈ wsX00, w ∈ wsX0_slotAt := fun _ h => List.mem_cons_of_mem _ (List.mem_append_right _ h)
theorem fw_X0_slotAt_f17 : (Cond.fieldLink RX0 17 "NamePlate$History" "oldest" "I") ∈ wsX0_slotAt := List.mem_of_getElem? (i := 1) rfl
theorem fw_X0_slotAt_f11 : (Cond.fieldLink RX0 11 "NamePlate$History" "states" "[LNamePlate$State;") ∈ wsX0_slotAt := List.mem_of_getElem? (i := 2) rfl
set_option maxHeartbeats 4000000 in
set_option maxRecDepth 100000 in
theorem c_X0_slotAt (l : Launch) (G : GG) (a : Nat → Nat) (AD : Nat → Nat → Nat) (Y : Nat → XS) (q0 : Nat) (o0 : Nat) (ho0 : Y 7 5 0 = nI o0) (ho : o0 < 5) (hq : q0 < 10) : ROr l yX0_slotAt wsX0_slotAt 0 0 G (plC G a AD Y) [.ref (a 1), .int (nI q0)] (AD ((o0 + q0) % 5) 0) := by
  refine ROr.start (cc := cX0_slotAt) (maxL := 3) (ret := (some (.object "NamePlate$State"))) (by decide) rfl (Nat.le_of_ble_eq_true rfl) ?_
  intro p e s m below meth c ls cx hr hlocks hK hN hP hl
  have cx : CallFix p m c cX0_slotAt 3 s [.ref (a 1), .int (nI q0)].toArray wsX0_slotAt RX0 := cx
  have hl : lv_has ls 3 [(0, .ref (a 1)), (1, .int (nI q0))] := hl
  refine lv_aload_n cx.1 cx.2.1 dX0_slotAt_0 rfl (lv_at hl 0 rfl) ?_
  refine va_get (ci := 0) (C := RX0) (T := TX0) (N := 3) (v := .int (Y 7 5 0)) cx.1 cx.2.1 cx.2.2.2.2 iw_X0_slotAt_X0 cx.2.2.2.1 hK hP 1 rfl rfl 1 (by decide) (cx.2.2.2.2 _ fw_X0_slotAt_f17) (fun _ h9 => h9) rfl dX0_slotAt_1 ?_
  refine nv_eqi (y := nI o0) ho0 ?_
  refine lv_iload_n cx.1 cx.2.1 dX0_slotAt_4 rfl (lv_at hl 1 rfl) ?_
  refine nv_iadd cx (a := o0) (b := q0) dX0_slotAt_5 ?_
  refine lv_iconst (v := nI 5) cx.1 cx.2.1 dX0_slotAt_6 (by decide) ?_
  refine lv_irem (x := nI (o0 + q0)) (y := 5) cx.1 cx.2.1 dX0_slotAt_7 (by decide) ?_
  refine nv_eqi (y := irem (nI (o0 + q0)) 5) rfl ?_
  refine nv_eqi (y := nI ((o0 + q0) % 5)) (irem_n (by omega) (by decide) (by decide)) ?_
  refine lv_istore_n (lv' := [(2, .int (nI ((o0 + q0) % 5))), (0, .ref (a 1)), (1, .int (nI q0))]) cx.1 cx.2.1 dX0_slotAt_8 rfl hl (by decide) rfl (fun ls hl => ?_)
  refine lv_iload_n cx.1 cx.2.1 dX0_slotAt_9 rfl (lv_at hl 0 rfl) ?_
  refine nv_if_lt (a := (o0 + q0) % 5) cx dX0_slotAt_10 (tgt := 31) (by decide) (by omega) ?_
  refine lv_iload_n cx.1 cx.2.1 dX0_slotAt_13 rfl (lv_at hl 0 rfl) ?_
  refine lv_aload_n cx.1 cx.2.1 dX0_slotAt_14 rfl (lv_at hl 1 rfl) ?_
  refine va_get (ci := 0) (C := RX0) (T := TX0) (N := 3) (v := .ref (a 2)) cx.1 cx.2.1 cx.2.2.2.2 iw_X0_slotAt_X0 cx.2.2.2.1 hK hP 1 rfl rfl 0 (by decide) (cx.2.2.2.2 _ fw_X0_slotAt_f11) (fun _ h9 => h9) rfl dX0_slotAt_15 ?_
  refine va_alen (v := nI 5) cx.1 cx.2.1 hK hP 2 2 rfl rfl rfl dX0_slotAt_18 ?_
  refine nv_icmp_ge (a := (o0 + q0) % 5) (b := 5) (tgt := 31) cx dX0_slotAt_19 (by decide) (by omega) (by omega) (fun c_1 => ?_) (fun c_1 => ?_)
  · exact absurd c_1 (by omega)
  · refine lv_aload_n cx.1 cx.2.1 dX0_slotAt_22 rfl (lv_at hl 1 rfl) ?_
    refine va_get (ci := 0) (C := RX0) (T := TX0) (N := 3) (v := .ref (a 2)) cx.1 cx.2.1 cx.2.2.2.2 iw_X0_slotAt_X0 cx.2.2.2.1 hK hP 1 rfl rfl 0 (by decide) (cx.2.2.2.2 _ fw_X0_slotAt_f11) (fun _ h9 => h9) rfl dX0_slotAt_23 ?_
    refine lv_iload_n cx.1 cx.2.1 dX0_slotAt_26 rfl (lv_at hl 0 rfl) ?_
    refine nv_aald (j := (o0 + q0) % 5) cx hK hP 2 rfl (by omega) (by decide) dX0_slotAt_27 ?_
    refine lv_goto (tgt := 32) cx.1 cx.2.1 dX0_slotAt_28 (by decide) ?_
    exact ROr.ret (x := AD ((o0 + q0) % 5) 0) cx hr hlocks dX0_slotAt_32 rfl

theorem iw_X0_record_X0 : ∀ w ∈ wsX00, w ∈ wsX0_record := fun _ h => List.mem_cons_of_mem _ (List.mem_append_left _ (List.mem_append_left _ (List.mem_append_left _ (List.mem_append_right _ h))))
theorem fw_X0_record_f21 : (Cond.fieldLink RX0 21 "NamePlate$History" "number" "I") ∈ wsX0_record := List.mem_of_getElem? (i := 1) rfl
theorem fw_X0_record_f17 : (Cond.fieldLink RX0 17 "NamePlate$History" "oldest" "I") ∈ wsX0_record := List.mem_of_getElem? (i := 2) rfl
set_option maxHeartbeats 4000000 in
set_option maxRecDepth 100000 in
theorem c_X0_record (l : Launch) (G : GG) (a : Nat → Nat) (AD : Nat → Nat → Nat) (Y : Nat → XS)  (hoh : okH Y) (hok5 : okX (Y 5)) : WR l yX0_record wsX0_record 3 60 G (plC G a AD Y) [.ref (a 1), .ref (AD 5 0)] none (plC G a AD (yRec Y)) := by
  refine WR.start (cc := cX0_record) (maxL := 3) (ret := none) (by decide) rfl (Nat.le_of_ble_eq_true rfl) ?_
  intro p e s m below meth c ls cx hr hlocks hK hN hP hD hS hl
  have cx : CallFix p m c cX0_record 3 s [.ref (a 1), .ref (AD 5 0)].toArray wsX0_record RX0 := cx
  have hl : lv_has ls 3 [(0, .ref (a 1)), (1, .ref (AD 5 0))] := hl
  have ho5 := hoh.o5
  have hq5 := hoh.q5
  refine lv_aload_n cx.1 cx.2.1 dX0_record_0 rfl (lv_at hl 0 rfl) ?_
  refine va_get (ci := 0) (C := RX0) (T := TX0) (N := 3) (v := .int (Y 7 5 1)) cx.1 cx.2.1 cx.2.2.2.2 iw_X0_record_X0 cx.2.2.2.1 hK hP 1 rfl rfl 2 (by decide) (cx.2.2.2.2 _ fw_X0_record_f21) (fun _ h9 => h9) rfl dX0_record_1 ?_
  refine nv_eqi (y := nI (yq Y)) hoh.q ?_
  refine lv_iconst (v := nI 5) cx.1 cx.2.1 dX0_record_4 (by decide) ?_
  refine nv_icmp_lt (a := yq Y) (b := 5) (tgt := 30) cx dX0_record_5 (by decide) (by omega) (by omega) (fun c_1 => ?_) (fun c_1 => ?_)
  · refine lv_aload_n cx.1 cx.2.1 dX0_record_30 rfl (lv_at hl 0 rfl) ?_
    refine lv_aload_n cx.1 cx.2.1 dX0_record_31 rfl (lv_at hl 0 rfl) ?_
    refine va_get (ci := 0) (C := RX0) (T := TX0) (N := 3) (v := .int (Y 7 5 1)) cx.1 cx.2.1 cx.2.2.2.2 iw_X0_record_X0 cx.2.2.2.1 hK hP 1 rfl rfl 2 (by decide) (cx.2.2.2.2 _ fw_X0_record_f21) (fun _ h9 => h9) rfl dX0_record_32 ?_
    refine nv_eqi (y := nI (yq Y)) hoh.q ?_
    refine ROr.callV (As := [.int (nI (yq Y))]) (rest := []) cx (c_X0_slotAt l G a AD Y (yq Y) (yo Y) hoh.o hoh.o5 (by omega)) gX0_record_X0_slotAt rfl hd_X0_slotAt ⟨Nat.le_of_ble_eq_true rfl, Nat.le_of_ble_eq_true rfl⟩ (va_recv hK hP (ci := 0) (q0 := 1) rfl rfl) hK hN hP rfl hl.1 rfl (Nat.le_of_ble_eq_true rfl) dX0_record_35 ⟨Nat.zero_le _, Nat.zero_le _⟩ ?_
    refine lv_astore_n (lv' := [(2, .ref (AD ((yo Y + (yq Y)) % 5) 0)), (0, .ref (a 1)), (1, .ref (AD 5 0))]) cx.1 cx.2.1 dX0_record_38 rfl hl (by decide) rfl (fun ls hl => ?_)
    refine lv_aload_n cx.1 cx.2.1 dX0_record_39 rfl (lv_at hl 0 rfl) ?_
    refine lv_ifnull cx.1 cx.2.1 dX0_record_40 ?_
    refine lv_aload_n cx.1 cx.2.1 dX0_record_43 rfl (lv_at hl 0 rfl) ?_
    refine lv_aload_n cx.1 cx.2.1 dX0_record_44 rfl (lv_at hl 2 rfl) ?_
    have hPc : va_P G.1 vwCl (stC G (AD ((yo Y + (yq Y)) % 5)) (Y ((yo Y + (yq Y)) % 5)) ++ stC G (AD 5) (Y 5)) s.heap := pl_st2 (Y := Y) hP (by omega) (by decide)
    refine WR.callV (As := [.ref (AD 5 0)]) (rest := []) cx (c_X4_copyFrom l G (AD ((yo Y + (yq Y)) % 5)) (Y ((yo Y + (yq Y)) % 5)) (AD 5) (Y 5) hok5) gX0_record_X4_copyFrom rfl hd_X4_copyFrom ⟨Nat.le_of_ble_eq_true rfl, Nat.le_of_ble_eq_true rfl⟩ (va_recv hK hPc (ci := 3) (q0 := 0) rfl rfl) hK hN hPc (pl_D2x hD (by omega) (by decide) (by omega)) hS (fun _ h => pl_wA2x (by omega) (by decide) h) rfl hl.1 rfl (Nat.le_of_ble_eq_true rfl) dX0_record_45 ⟨Nat.zero_le _, Nat.zero_le _⟩ (fun H1 locs hP1 hk1 hS => ?_)
    have hP : va_P G.1 vwCl (plC G a AD (ysH Y ((yo Y + (yq Y)) % 5) (Y 5))) H1 := pl_put2H hP hD (by omega) (by decide) hk1 hP1
    have hD : va_D (wA (plC G a AD Y)) (plC G a AD (ysH Y ((yo Y + (yq Y)) % 5) (Y 5))) := pl_Dput hD
    generalize H1 = H at hP hS ⊢
    clear hP1 hk1 hPc
    refine lv_aload_n cx.1 cx.2.1 dX0_record_48 rfl (lv_at hl 1 rfl) ?_
    refine lv_dup cx.1 cx.2.1 dX0_record_49 rfl ?_
    refine va_get (ci := 0) (C := RX0) (T := TX0) (N := 3) (v := .int ((ysH Y ((yo Y + (yq Y)) % 5) (Y 5)) 7 5 1)) cx.1 cx.2.1 cx.2.2.2.2 iw_X0_record_X0 cx.2.2.2.1 hK hP 1 rfl rfl 2 (by decide) (cx.2.2.2.2 _ fw_X0_record_f21) (fun _ h9 => h9) rfl dX0_record_50 ?_
    refine nv_eqi (y := nI (yq Y)) hoh.q ?_
    refine lv_iconst (v := nI 1) cx.1 cx.2.1 dX0_record_53 (by decide) ?_
    refine nv_iadd cx (a := yq Y) (b := 1) dX0_record_54 ?_
    refine va_put (ci := 0) (v := .int (nI (yq Y + 1))) (ty := .int) (C := RX0) (T := TX0) (N := 3) cx.1 cx.2.1 cx.2.2.2.2 iw_X0_record_X0 tyX0 tyX0_ok nmX0 cx.2.2.2.1 hK hP hD hS 1 rfl rfl 2 (by decide) (cx.2.2.2.2 _ fw_X0_record_f21) (fun _ h9 => h9) rfl (by decide +kernel) rfl rfl (Nat.le_of_ble_eq_true rfl) dX0_record_55 (fun H locs hP hD hS => ?_)
    have hP : va_P G.1 vwCl (plC G a AD (va_up (ysH Y ((yo Y + (yq Y)) % 5) (Y 5)) 7 (va_up ((ysH Y ((yo Y + (yq Y)) % 5) (Y 5)) 7) 5 (upd ((ysH Y ((yo Y + (yq Y)) % 5) (Y 5)) 7 5) 1 (nI (yq Y + 1)))))) H := hP
    have hD : va_D (wA (plC G a AD Y)) (plC G a AD (va_up (ysH Y ((yo Y + (yq Y)) % 5) (Y 5)) 7 (va_up ((ysH Y ((yo Y + (yq Y)) % 5) (Y 5)) 7) 5 (upd ((ysH Y ((yo Y + (yq Y)) % 5) (Y 5)) 7 5) 1 (nI (yq Y + 1)))))) := hD
    exact WR.retv cx hr hlocks dX0_record_58 (by first | (rw [yRec_lt (by assumption)]; exact hP) | (rw [yRec_ge (by assumption)]; exact hP)) hS
  · refine lv_aload_n cx.1 cx.2.1 dX0_record_8 rfl (lv_at hl 0 rfl) ?_
    refine lv_aload_n cx.1 cx.2.1 dX0_record_9 rfl (lv_at hl 0 rfl) ?_
    refine va_get (ci := 0) (C := RX0) (T := TX0) (N := 3) (v := .int (Y 7 5 0)) cx.1 cx.2.1 cx.2.2.2.2 iw_X0_record_X0 cx.2.2.2.1 hK hP 1 rfl rfl 1 (by decide) (cx.2.2.2.2 _ fw_X0_record_f17) (fun _ h9 => h9) rfl dX0_record_10 ?_
    refine nv_eqi (y := nI (yo Y)) hoh.o ?_
    refine lv_iconst (v := nI 1) cx.1 cx.2.1 dX0_record_13 (by decide) ?_
    refine nv_iadd cx (a := yo Y) (b := 1) dX0_record_14 ?_
    refine lv_iconst (v := nI 5) cx.1 cx.2.1 dX0_record_15 (by decide) ?_
    refine lv_irem (x := nI (yo Y + 1)) (y := 5) cx.1 cx.2.1 dX0_record_16 (by decide) ?_
    refine nv_eqi (y := irem (nI (yo Y + 1)) 5) rfl ?_
    refine nv_eqi (y := nI ((yo Y + 1) % 5)) (irem_n (by omega) (by decide) (by decide)) ?_
    refine va_put (ci := 0) (v := .int (nI ((yo Y + 1) % 5))) (ty := .int) (C := RX0) (T := TX0) (N := 3) cx.1 cx.2.1 cx.2.2.2.2 iw_X0_record_X0 tyX0 tyX0_ok nmX0 cx.2.2.2.1 hK hP hD hS 1 rfl rfl 1 (by decide) (cx.2.2.2.2 _ fw_X0_record_f17) (fun _ h9 => h9) rfl (by decide +kernel) rfl rfl (Nat.le_of_ble_eq_true rfl) dX0_record_17 (fun H locs hP hD hS => ?_)
    have hP : va_P G.1 vwCl (plC G a AD (va_up Y 7 (va_up (Y 7) 5 (upd (Y 7 5) 0 (nI ((yo Y + 1) % 5)))))) H := hP
    have hD : va_D (wA (plC G a AD Y)) (plC G a AD (va_up Y 7 (va_up (Y 7) 5 (upd (Y 7 5) 0 (nI ((yo Y + 1) % 5)))))) := hD
    refine lv_aload_n cx.1 cx.2.1 dX0_record_20 rfl (lv_at hl 0 rfl) ?_
    refine lv_dup cx.1 cx.2.1 dX0_record_21 rfl ?_
    refine va_get (ci := 0) (C := RX0) (T := TX0) (N := 3) (v := .int ((va_up Y 7 (va_up (Y 7) 5 (upd (Y 7 5) 0 (nI ((yo Y + 1) % 5))))) 7 5 1)) cx.1 cx.2.1 cx.2.2.2.2 iw_X0_record_X0 cx.2.2.2.1 hK hP 1 rfl rfl 2 (by decide) (cx.2.2.2.2 _ fw_X0_record_f21) (fun _ h9 => h9) rfl dX0_record_22 ?_
    refine nv_eqi (y := nI (yq Y)) hoh.q ?_
    refine lv_iconst (v := nI 1) cx.1 cx.2.1 dX0_record_25 (by decide) ?_
    refine nv_isub cx (a := yq Y) (b := 1) (by omega) dX0_record_26 ?_
    refine va_put (ci := 0) (v := .int (nI (yq Y - 1))) (ty := .int) (C := RX0) (T := TX0) (N := 3) cx.1 cx.2.1 cx.2.2.2.2 iw_X0_record_X0 tyX0 tyX0_ok nmX0 cx.2.2.2.1 hK hP hD hS 1 rfl rfl 2 (by decide) (cx.2.2.2.2 _ fw_X0_record_f21) (fun _ h9 => h9) rfl (by decide +kernel) rfl rfl (Nat.le_of_ble_eq_true rfl) dX0_record_27 (fun H locs hP hD hS => ?_)
    have hP : va_P G.1 vwCl (plC G a AD (va_up (va_up Y 7 (va_up (Y 7) 5 (upd (Y 7 5) 0 (nI ((yo Y + 1) % 5))))) 7 (va_up ((va_up Y 7 (va_up (Y 7) 5 (upd (Y 7 5) 0 (nI ((yo Y + 1) % 5))))) 7) 5 (upd ((va_up Y 7 (va_up (Y 7) 5 (upd (Y 7 5) 0 (nI ((yo Y + 1) % 5))))) 7 5) 1 (nI (yq Y - 1)))))) H := hP
    have hD : va_D (wA (plC G a AD Y)) (plC G a AD (va_up (va_up Y 7 (va_up (Y 7) 5 (upd (Y 7 5) 0 (nI ((yo Y + 1) % 5))))) 7 (va_up ((va_up Y 7 (va_up (Y 7) 5 (upd (Y 7 5) 0 (nI ((yo Y + 1) % 5))))) 7) 5 (upd ((va_up Y 7 (va_up (Y 7) 5 (upd (Y 7 5) 0 (nI ((yo Y + 1) % 5))))) 7 5) 1 (nI (yq Y - 1)))))) := hD
    have hP : va_P G.1 vwCl (plC G a AD (va_up Y 7 (va_up (Y 7) 5 (upd (upd (Y 7 5) 0 (nI ((yo Y + 1) % 5))) 1 (nI (yq Y - 1)))))) H := hP
    have hD : va_D (wA (plC G a AD Y)) (plC G a AD (va_up Y 7 (va_up (Y 7) 5 (upd (upd (Y 7 5) 0 (nI ((yo Y + 1) % 5))) 1 (nI (yq Y - 1)))))) := pl_Dput hD
    refine lv_aload_n cx.1 cx.2.1 dX0_record_30 rfl (lv_at hl 0 rfl) ?_
    refine lv_aload_n cx.1 cx.2.1 dX0_record_31 rfl (lv_at hl 0 rfl) ?_
    refine va_get (ci := 0) (C := RX0) (T := TX0) (N := 3) (v := .int ((va_up Y 7 (va_up (Y 7) 5 (upd (upd (Y 7 5) 0 (nI ((yo Y + 1) % 5))) 1 (nI (yq Y - 1))))) 7 5 1)) cx.1 cx.2.1 cx.2.2.2.2 iw_X0_record_X0 cx.2.2.2.1 hK hP 1 rfl rfl 2 (by decide) (cx.2.2.2.2 _ fw_X0_record_f21) (fun _ h9 => h9) rfl dX0_record_32 ?_
    refine nv_eqi (y := nI (yq Y - 1)) rfl ?_
    refine ROr.callV (As := [.int (nI (yq Y - 1))]) (rest := []) cx (c_X0_slotAt l G a AD (va_up Y 7 (va_up (Y 7) 5 (upd (upd (Y 7 5) 0 (nI ((yo Y + 1) % 5))) 1 (nI (yq Y - 1))))) (yq Y - 1) ((yo Y + 1) % 5) rfl (by omega) (by omega)) gX0_record_X0_slotAt rfl hd_X0_slotAt ⟨Nat.le_of_ble_eq_true rfl, Nat.le_of_ble_eq_true rfl⟩ (va_recv hK hP (ci := 0) (q0 := 1) rfl rfl) hK hN hP rfl hl.1 rfl (Nat.le_of_ble_eq_true rfl) dX0_record_35 ⟨Nat.zero_le _, Nat.zero_le _⟩ ?_
    refine lv_astore_n (lv' := [(2, .ref (AD (((yo Y + 1) % 5 + (yq Y - 1)) % 5) 0)), (0, .ref (a 1)), (1, .ref (AD 5 0))]) cx.1 cx.2.1 dX0_record_38 rfl hl (by decide) rfl (fun ls hl => ?_)
    refine lv_aload_n cx.1 cx.2.1 dX0_record_39 rfl (lv_at hl 0 rfl) ?_
    refine lv_ifnull cx.1 cx.2.1 dX0_record_40 ?_
    refine lv_aload_n cx.1 cx.2.1 dX0_record_43 rfl (lv_at hl 0 rfl) ?_
    refine lv_aload_n cx.1 cx.2.1 dX0_record_44 rfl (lv_at hl 2 rfl) ?_
    have hPc : va_P G.1 vwCl (stC G (AD (((yo Y + 1) % 5 + (yq Y - 1)) % 5)) ((va_up Y 7 (va_up (Y 7) 5 (upd (upd (Y 7 5) 0 (nI ((yo Y + 1) % 5))) 1 (nI (yq Y - 1))))) (((yo Y + 1) % 5 + (yq Y - 1)) % 5)) ++ stC G (AD 5) (Y 5)) H := pl_st2 (Y := va_up Y 7 (va_up (Y 7) 5 (upd (upd (Y 7 5) 0 (nI ((yo Y + 1) % 5))) 1 (nI (yq Y - 1))))) hP (by omega) (by decide)
    refine WR.callV (As := [.ref (AD 5 0)]) (rest := []) cx (c_X4_copyFrom l G (AD (((yo Y + 1) % 5 + (yq Y - 1)) % 5)) ((va_up Y 7 (va_up (Y 7) 5 (upd (upd (Y 7 5) 0 (nI ((yo Y + 1) % 5))) 1 (nI (yq Y - 1))))) (((yo Y + 1) % 5 + (yq Y - 1)) % 5)) (AD 5) (Y 5) hok5) gX0_record_X4_copyFrom rfl hd_X4_copyFrom ⟨Nat.le_of_ble_eq_true rfl, Nat.le_of_ble_eq_true rfl⟩ (va_recv hK hPc (ci := 3) (q0 := 0) rfl rfl) hK hN hPc (pl_D2x hD (by omega) (by decide) (by omega)) hS (fun _ h => pl_wA2x (by omega) (by decide) h) rfl hl.1 rfl (Nat.le_of_ble_eq_true rfl) dX0_record_45 ⟨Nat.zero_le _, Nat.zero_le _⟩ (fun H1 locs hP1 hk1 hS => ?_)
    have hP : va_P G.1 vwCl (plC G a AD (ysH (va_up Y 7 (va_up (Y 7) 5 (upd (upd (Y 7 5) 0 (nI ((yo Y + 1) % 5))) 1 (nI (yq Y - 1))))) (((yo Y + 1) % 5 + (yq Y - 1)) % 5) (Y 5))) H1 := pl_put2H hP hD (by omega) (by decide) hk1 hP1
    have hD : va_D (wA (plC G a AD Y)) (plC G a AD (ysH (va_up Y 7 (va_up (Y 7) 5 (upd (upd (Y 7 5) 0 (nI ((yo Y + 1) % 5))) 1 (nI (yq Y - 1))))) (((yo Y + 1) % 5 + (yq Y - 1)) % 5) (Y 5))) := pl_Dput hD
    generalize H1 = H at hP hS ⊢
    clear hP1 hk1 hPc
    refine lv_aload_n cx.1 cx.2.1 dX0_record_48 rfl (lv_at hl 1 rfl) ?_
    refine lv_dup cx.1 cx.2.1 dX0_record_49 rfl ?_
    refine va_get (ci := 0) (C := RX0) (T := TX0) (N := 3) (v := .int ((ysH (va_up Y 7 (va_up (Y 7) 5 (upd (upd (Y 7 5) 0 (nI ((yo Y + 1) % 5))) 1 (nI (yq Y - 1))))) (((yo Y + 1) % 5 + (yq Y - 1)) % 5) (Y 5)) 7 5 1)) cx.1 cx.2.1 cx.2.2.2.2 iw_X0_record_X0 cx.2.2.2.1 hK hP 1 rfl rfl 2 (by decide) (cx.2.2.2.2 _ fw_X0_record_f21) (fun _ h9 => h9) rfl dX0_record_50 ?_
    refine nv_eqi (y := nI (yq Y - 1)) rfl ?_
    refine lv_iconst (v := nI 1) cx.1 cx.2.1 dX0_record_53 (by decide) ?_
    refine nv_iadd cx (a := yq Y - 1) (b := 1) dX0_record_54 ?_
    refine va_put (ci := 0) (v := .int (nI (yq Y - 1 + 1))) (ty := .int) (C := RX0) (T := TX0) (N := 3) cx.1 cx.2.1 cx.2.2.2.2 iw_X0_record_X0 tyX0 tyX0_ok nmX0 cx.2.2.2.1 hK hP hD hS 1 rfl rfl 2 (by decide) (cx.2.2.2.2 _ fw_X0_record_f21) (fun _ h9 => h9) rfl (by decide +kernel) rfl rfl (Nat.le_of_ble_eq_true rfl) dX0_record_55 (fun H locs hP hD hS => ?_)
    have hP : va_P G.1 vwCl (plC G a AD (va_up (ysH (va_up Y 7 (va_up (Y 7) 5 (upd (upd (Y 7 5) 0 (nI ((yo Y + 1) % 5))) 1 (nI (yq Y - 1))))) (((yo Y + 1) % 5 + (yq Y - 1)) % 5) (Y 5)) 7 (va_up ((ysH (va_up Y 7 (va_up (Y 7) 5 (upd (upd (Y 7 5) 0 (nI ((yo Y + 1) % 5))) 1 (nI (yq Y - 1))))) (((yo Y + 1) % 5 + (yq Y - 1)) % 5) (Y 5)) 7) 5 (upd ((ysH (va_up Y 7 (va_up (Y 7) 5 (upd (upd (Y 7 5) 0 (nI ((yo Y + 1) % 5))) 1 (nI (yq Y - 1))))) (((yo Y + 1) % 5 + (yq Y - 1)) % 5) (Y 5)) 7 5) 1 (nI (yq Y - 1 + 1)))))) H := hP
    have hD : va_D (wA (plC G a AD Y)) (plC G a AD (va_up (ysH (va_up Y 7 (va_up (Y 7) 5 (upd (upd (Y 7 5) 0 (nI ((yo Y + 1) % 5))) 1 (nI (yq Y - 1))))) (((yo Y + 1) % 5 + (yq Y - 1)) % 5) (Y 5)) 7 (va_up ((ysH (va_up Y 7 (va_up (Y 7) 5 (upd (upd (Y 7 5) 0 (nI ((yo Y + 1) % 5))) 1 (nI (yq Y - 1))))) (((yo Y + 1) % 5 + (yq Y - 1)) % 5) (Y 5)) 7) 5 (upd ((ysH (va_up Y 7 (va_up (Y 7) 5 (upd (upd (Y 7 5) 0 (nI ((yo Y + 1) % 5))) 1 (nI (yq Y - 1))))) (((yo Y + 1) % 5 + (yq Y - 1)) % 5) (Y 5)) 7 5) 1 (nI (yq Y - 1 + 1)))))) := hD
    exact WR.retv cx hr hlocks dX0_record_58 (by first | (rw [yRec_lt (by assumption)]; exact hP) | (rw [yRec_ge (by assumption)]; exact hP)) hS

theorem iw_X0_takeLatest_X0 : ∀ w ∈ wsX00, w ∈ wsX0_takeLatest := fun _ h => List.mem_cons_of_mem _ (List.mem_append_left _ (List.mem_append_left _ (List.mem_append_left _ (List.mem_append_right _ h))))
theorem fw_X0_takeLatest_f21 : (Cond.fieldLink RX0 21 "NamePlate$History" "number" "I") ∈ wsX0_takeLatest := List.mem_of_getElem? (i := 1) rfl
set_option maxHeartbeats 4000000 in
set_option maxRecDepth 100000 in
theorem c_X0_takeLatest (l : Launch) (G : GG) (a : Nat → Nat) (AD : Nat → Nat → Nat) (Y : Nat → XS)  (hoh : okH Y) (hq0 : 0 < yq Y) (hall : ∀ i, i < 7 → okX (Y i)) : WR l yX0_takeLatest wsX0_takeLatest 3 60 G (plC G a AD Y) [.ref (a 1), .ref (AD 5 0)] none (plC G a AD (yTl Y)) := by
  refine WR.start (cc := cX0_takeLatest) (maxL := 3) (ret := none) (by decide) rfl (Nat.le_of_ble_eq_true rfl) ?_
  intro p e s m below meth c ls cx hr hlocks hK hN hP hD hS hl
  have cx : CallFix p m c cX0_takeLatest 3 s [.ref (a 1), .ref (AD 5 0)].toArray wsX0_takeLatest RX0 := cx
  have hl : lv_has ls 3 [(0, .ref (a 1)), (1, .ref (AD 5 0))] := hl
  have ho5 := hoh.o5
  have hq5 := hoh.q5
  refine lv_aload_n cx.1 cx.2.1 dX0_takeLatest_0 rfl (lv_at hl 0 rfl) ?_
  refine lv_aload_n cx.1 cx.2.1 dX0_takeLatest_1 rfl (lv_at hl 0 rfl) ?_
  refine va_get (ci := 0) (C := RX0) (T := TX0) (N := 3) (v := .int (Y 7 5 1)) cx.1 cx.2.1 cx.2.2.2.2 iw_X0_takeLatest_X0 cx.2.2.2.1 hK hP 1 rfl rfl 2 (by decide) (cx.2.2.2.2 _ fw_X0_takeLatest_f21) (fun _ h9 => h9) rfl dX0_takeLatest_2 ?_
  refine nv_eqi (y := nI (yq Y)) hoh.q ?_
  refine lv_iconst (v := nI 1) cx.1 cx.2.1 dX0_takeLatest_5 (by decide) ?_
  refine nv_isub cx (a := yq Y) (b := 1) (by omega) dX0_takeLatest_6 ?_
  refine ROr.callV (As := [.int (nI (yq Y - 1))]) (rest := []) cx (c_X0_slotAt l G a AD Y (yq Y - 1) (yo Y) hoh.o hoh.o5 (by omega)) gX0_takeLatest_X0_slotAt rfl hd_X0_slotAt ⟨Nat.le_of_ble_eq_true rfl, Nat.le_of_ble_eq_true rfl⟩ (va_recv hK hP (ci := 0) (q0 := 1) rfl rfl) hK hN hP rfl hl.1 rfl (Nat.le_of_ble_eq_true rfl) dX0_takeLatest_7 ⟨Nat.zero_le _, Nat.zero_le _⟩ ?_
  refine lv_astore_n (lv' := [(2, .ref (AD ((yo Y + (yq Y - 1)) % 5) 0)), (0, .ref (a 1)), (1, .ref (AD 5 0))]) cx.1 cx.2.1 dX0_takeLatest_10 rfl hl (by decide) rfl (fun ls hl => ?_)
  refine lv_aload_n cx.1 cx.2.1 dX0_takeLatest_11 rfl (lv_at hl 1 rfl) ?_
  refine va_get (ci := 0) (C := RX0) (T := TX0) (N := 3) (v := .int (Y 7 5 1)) cx.1 cx.2.1 cx.2.2.2.2 iw_X0_takeLatest_X0 cx.2.2.2.1 hK hP 1 rfl rfl 2 (by decide) (cx.2.2.2.2 _ fw_X0_takeLatest_f21) (fun _ h9 => h9) rfl dX0_takeLatest_12 ?_
  refine nv_eqi (y := nI (yq Y)) hoh.q ?_
  refine nv_if_le (a := yq Y) (tgt := 37) cx dX0_takeLatest_15 (by decide) (by omega) (fun c_1 => ?_) (fun c_1 => ?_)
  · exact absurd c_1 (by omega)
  · refine lv_aload_n cx.1 cx.2.1 dX0_takeLatest_18 rfl (lv_at hl 0 rfl) ?_
    refine lv_ifnull cx.1 cx.2.1 dX0_takeLatest_19 ?_
    refine lv_aload_n cx.1 cx.2.1 dX0_takeLatest_22 rfl (lv_at hl 2 rfl) ?_
    refine lv_aload_n cx.1 cx.2.1 dX0_takeLatest_23 rfl (lv_at hl 0 rfl) ?_
    have hPc : va_P G.1 vwCl (stC G (AD 5) (Y 5) ++ stC G (AD ((yo Y + (yq Y - 1)) % 5)) (Y ((yo Y + (yq Y - 1)) % 5))) s.heap := pl_st2 (Y := Y) hP (by decide) (by omega)
    refine WR.callV (As := [.ref (AD ((yo Y + (yq Y - 1)) % 5) 0)]) (rest := []) cx (c_X4_copyFrom l G (AD 5) (Y 5) (AD ((yo Y + (yq Y - 1)) % 5)) (Y ((yo Y + (yq Y - 1)) % 5)) (hall _ (by omega))) gX0_takeLatest_X4_copyFrom rfl hd_X4_copyFrom ⟨Nat.le_of_ble_eq_true rfl, Nat.le_of_ble_eq_true rfl⟩ (va_recv hK hPc (ci := 3) (q0 := 0) rfl rfl) hK hN hPc (pl_D2x hD (by decide) (by omega) (by omega)) hS (fun _ h => pl_wA2x (by decide) (by omega) h) rfl hl.1 rfl (Nat.le_of_ble_eq_true rfl) dX0_takeLatest_24 ⟨Nat.zero_le _, Nat.zero_le _⟩ (fun H1 locs hP1 hk1 hS => ?_)
    have hP : va_P G.1 vwCl (plC G a AD (va_up Y 5 (Y ((yo Y + (yq Y - 1)) % 5)))) H1 := pl_put2 hP hD (by decide) (by omega) hk1 hP1
    have hD : va_D (wA (plC G a AD Y)) (plC G a AD (va_up Y 5 (Y ((yo Y + (yq Y - 1)) % 5)))) := pl_Dput hD
    generalize H1 = H at hP hS ⊢
    clear hP1 hk1 hPc
    refine lv_aload_n cx.1 cx.2.1 dX0_takeLatest_27 rfl (lv_at hl 1 rfl) ?_
    refine lv_dup cx.1 cx.2.1 dX0_takeLatest_28 rfl ?_
    refine va_get (ci := 0) (C := RX0) (T := TX0) (N := 3) (v := .int ((va_up Y 5 (Y ((yo Y + (yq Y - 1)) % 5))) 7 5 1)) cx.1 cx.2.1 cx.2.2.2.2 iw_X0_takeLatest_X0 cx.2.2.2.1 hK hP 1 rfl rfl 2 (by decide) (cx.2.2.2.2 _ fw_X0_takeLatest_f21) (fun _ h9 => h9) rfl dX0_takeLatest_29 ?_
    refine nv_eqi (y := nI (yq Y)) hoh.q ?_
    refine lv_iconst (v := nI 1) cx.1 cx.2.1 dX0_takeLatest_32 (by decide) ?_
    refine nv_isub cx (a := yq Y) (b := 1) (by omega) dX0_takeLatest_33 ?_
    refine va_put (ci := 0) (v := .int (nI (yq Y - 1))) (ty := .int) (C := RX0) (T := TX0) (N := 3) cx.1 cx.2.1 cx.2.2.2.2 iw_X0_takeLatest_X0 tyX0 tyX0_ok nmX0 cx.2.2.2.1 hK hP hD hS 1 rfl rfl 2 (by decide) (cx.2.2.2.2 _ fw_X0_takeLatest_f21) (fun _ h9 => h9) rfl (by decide +kernel) rfl rfl (Nat.le_of_ble_eq_true rfl) dX0_takeLatest_34 (fun H locs hP hD hS => ?_)
    have hP : va_P G.1 vwCl (plC G a AD (va_up (va_up Y 5 (Y ((yo Y + (yq Y - 1)) % 5))) 7 (va_up ((va_up Y 5 (Y ((yo Y + (yq Y - 1)) % 5))) 7) 5 (upd ((va_up Y 5 (Y ((yo Y + (yq Y - 1)) % 5))) 7 5) 1 (nI (yq Y - 1)))))) H := hP
    have hD : va_D (wA (plC G a AD Y)) (plC G a AD (va_up (va_up Y 5 (Y ((yo Y + (yq Y - 1)) % 5))) 7 (va_up ((va_up Y 5 (Y ((yo Y + (yq Y - 1)) % 5))) 7) 5 (upd ((va_up Y 5 (Y ((yo Y + (yq Y - 1)) % 5))) 7 5) 1 (nI (yq Y - 1)))))) := hD
    exact WR.retv cx hr hlocks dX0_takeLatest_37 hP hS

theorem iw_X6_recut_X6 : ∀ w ∈ wsX60, w ∈ wsX6_recut := fun _ h => List.mem_cons_of_mem _ (List.mem_append_left _ (List.mem_append_left _ (List.mem_append_left _ (List.mem_append_left _ (List.mem_append_right _ h)))))
theorem fw_X6_recut_f22 : (Cond.fieldLink RX6 22 "NamePlate" "history" "LNamePlate$History;") ∈ wsX6_recut := List.mem_of_getElem? (i := 1) rfl
theorem fw_X6_recut_f10 : (Cond.fieldLink RX6 10 "NamePlate" "now" "LNamePlate$State;") ∈ wsX6_recut := List.mem_of_getElem? (i := 2) rfl
set_option maxHeartbeats 4000000 in
set_option maxRecDepth 100000 in
theorem c_X6_recut (l : Launch) (G : GG) (a : Nat → Nat) (AD : Nat → Nat → Nat) (Y : Nat → XS) (w : Int32) (h : Int32) (hoh : okH Y) (hall : ∀ i, i < 7 → okX (Y i)) : WR l yX6_recut wsX6_recut 4 82 G (plC G a AD Y) [.ref (a 0), .int w, .int h] (some (.int ((yRecut Y w h).1))) (plC G a AD ((yRecut Y w h).2)) := by
  refine WR.start (cc := cX6_recut) (maxL := 3) (ret := (some .int)) (by decide) rfl (Nat.le_of_ble_eq_true rfl) ?_
  intro p e s m below meth c ls cx hr hlocks hK hN hP hD hS hl
  have cx : CallFix p m c cX6_recut 3 s [.ref (a 0), .int w, .int h].toArray wsX6_recut RX6 := cx
  have hl : lv_has ls 3 [(0, .ref (a 0)), (1, .int w), (2, .int h)] := hl
  have hok := hall 5 (by decide)
  refine lv_iload_n cx.1 cx.2.1 dX6_recut_0 rfl (lv_at hl 1 rfl) ?_
  refine lv_iload_n cx.1 cx.2.1 dX6_recut_1 rfl (lv_at hl 2 rfl) ?_
  refine RO.callS (As := [.int w, .int h]) (rest := []) cx (c_X6_isPlate l G w h) gX6_recut_X6_isPlate rfl hd_X6_isPlate ⟨Nat.le_of_ble_eq_true rfl, Nat.le_of_ble_eq_true rfl⟩ hK hN va_P.nil rfl hl.1 rfl (Nat.le_of_ble_eq_true rfl) dX6_recut_2 ⟨Nat.zero_le _, Nat.zero_le _⟩ ?_
  refine nv_ifnz (b := isPl w h) (tgt := 12) cx dX6_recut_5 (by decide) (fun c_1 => ?_) (fun c_1 => ?_)
  · refine lv_aload_n cx.1 cx.2.1 dX6_recut_12 rfl (lv_at hl 0 rfl) ?_
    refine va_get (ci := 5) (C := RX6) (T := TX6) (N := 5) (v := .ref (a 1)) cx.1 cx.2.1 cx.2.2.2.2 iw_X6_recut_X6 cx.2.2.2.1 hK hP 0 rfl rfl 2 (by decide) (cx.2.2.2.2 _ fw_X6_recut_f22) (fun _ h9 => h9) rfl dX6_recut_13 ?_
    refine lv_aload_n cx.1 cx.2.1 dX6_recut_16 rfl (lv_at hl 0 rfl) ?_
    refine va_get (ci := 5) (C := RX6) (T := TX6) (N := 5) (v := .ref (AD 5 0)) cx.1 cx.2.1 cx.2.2.2.2 iw_X6_recut_X6 cx.2.2.2.1 hK hP 0 rfl rfl 0 (by decide) (cx.2.2.2.2 _ fw_X6_recut_f10) (fun _ h9 => h9) rfl dX6_recut_17 ?_
    refine WR.callV (As := [.ref (AD 5 0)]) (rest := []) cx (c_X0_record l G a AD Y hoh hok) gX6_recut_X0_record rfl hd_X0_record ⟨Nat.le_of_ble_eq_true rfl, Nat.le_of_ble_eq_true rfl⟩ (va_recv hK hP (ci := 0) (q0 := 1) rfl rfl) hK hN hP hD hS (fun _ h => pl_wA0 h) rfl hl.1 rfl (Nat.le_of_ble_eq_true rfl) dX6_recut_20 ⟨Nat.zero_le _, Nat.zero_le _⟩ (fun H1 locs hP1 hk1 hS => ?_)
    have hP : va_P G.1 vwCl (plC G a AD (yRec Y)) H1 := hP1
    have hD : va_D (wA (plC G a AD Y)) (plC G a AD (yRec Y)) := pl_Dput hD
    generalize H1 = H at hP hS ⊢
    clear hP1 hk1
    refine lv_aload_n cx.1 cx.2.1 dX6_recut_23 rfl (lv_at hl 0 rfl) ?_
    refine va_get (ci := 5) (C := RX6) (T := TX6) (N := 5) (v := .ref (AD 5 0)) cx.1 cx.2.1 cx.2.2.2.2 iw_X6_recut_X6 cx.2.2.2.1 hK hP 0 rfl rfl 0 (by decide) (cx.2.2.2.2 _ fw_X6_recut_f10) (fun _ h9 => h9) rfl dX6_recut_24 ?_
    refine lv_iload_n cx.1 cx.2.1 dX6_recut_27 rfl (lv_at hl 1 rfl) ?_
    refine lv_iload_n cx.1 cx.2.1 dX6_recut_28 rfl (lv_at hl 2 rfl) ?_
    have hP5 : va_P G.1 vwCl (stC G (AD 5) (Y 5)) H := pl_st (Y := yRec Y) hP (by decide)
    refine WR.callV (As := [.int w, .int h]) (rest := []) cx (c_X4_cutAnew l G (AD 5) (Y 5) w h) gX6_recut_X4_cutAnew rfl hd_X4_cutAnew ⟨Nat.le_of_ble_eq_true rfl, Nat.le_of_ble_eq_true rfl⟩ (va_recv hK hP5 (ci := 3) (q0 := 0) rfl rfl) hK hN hP5 (pl_Dx hD (by decide)) hS (fun _ h => pl_wAx (by decide) h) rfl hl.1 rfl (Nat.le_of_ble_eq_true rfl) dX6_recut_29 ⟨Nat.zero_le _, Nat.zero_le _⟩ (fun H1 locs hP1 hk1 hS => ?_)
    have hP : va_P G.1 vwCl (plC G a AD (va_up (yRec Y) 5 (xRe (Y 5) w h))) H1 := pl_put hP hD (by decide) hk1 hP1
    have hD : va_D (wA (plC G a AD Y)) (plC G a AD (va_up (yRec Y) 5 (xRe (Y 5) w h))) := pl_Dput hD
    generalize H1 = H at hP hS ⊢
    clear hP1 hk1
    exact WR.ret (x := bitc ((Y 5) 5 6)) cx hr hlocks dX6_recut_32 (by simp [yRecut, c_1]) (by simp only [yRecut, c_1, if_true, if_false, ↓reduceIte, Bool.false_eq_true]; exact hP) hS
  · refine lv_sipush (v := (-1002)) cx.1 cx.2.1 dX6_recut_8 (by decide) ?_
    exact WR.ret (x := (-1002)) cx hr hlocks dX6_recut_11 (by simp [yRecut, c_1]) (by simp only [yRecut, c_1, if_true, if_false, ↓reduceIte, Bool.false_eq_true]; exact hP) hS

theorem iw_X6_setMargin_X6 : ∀ w ∈ wsX60, w ∈ wsX6_setMargin := fun _ h => List.mem_cons_of_mem _ (List.mem_append_left _ (List.mem_append_left _ (List.mem_append_left _ (List.mem_append_left _ (List.mem_append_right _ h)))))
theorem fw_X6_setMargin_f10 : (Cond.fieldLink RX6 10 "NamePlate" "now" "LNamePlate$State;") ∈ wsX6_setMargin := List.mem_of_getElem? (i := 1) rfl
theorem iw_X6_setMargin_X4 : ∀ w ∈ wsX40, w ∈ wsX6_setMargin := fun _ h => List.mem_cons_of_mem _ (List.mem_append_left _ (List.mem_append_left _ (List.mem_append_left _ (List.mem_append_right _ h))))
theorem fw_X6_setMargin_f22 : (Cond.fieldLink RX6 22 "NamePlate" "history" "LNamePlate$History;") ∈ wsX6_setMargin := List.mem_of_getElem? (i := 2) rfl
set_option maxHeartbeats 4000000 in
set_option maxRecDepth 100000 in
theorem c_X6_setMargin (l : Launch) (G : GG) (a : Nat → Nat) (AD : Nat → Nat → Nat) (Y : Nat → XS) (v : Int32) (hoh : okH Y) (hall : ∀ i, i < 7 → okX (Y i)) : WR l yX6_setMargin wsX6_setMargin 4 82 G (plC G a AD Y) [.ref (a 0), .int v] (some (.int ((ySet Y 0 100 4 v).1))) (plC G a AD ((ySet Y 0 100 4 v).2)) := by
  refine WR.start (cc := cX6_setMargin) (maxL := 3) (ret := (some .int)) (by decide) rfl (Nat.le_of_ble_eq_true rfl) ?_
  intro p e s m below meth c ls cx hr hlocks hK hN hP hD hS hl
  have cx : CallFix p m c cX6_setMargin 3 s [.ref (a 0), .int v].toArray wsX6_setMargin RX6 := cx
  have hl : lv_has ls 3 [(0, .ref (a 0)), (1, .int v)] := hl
  have hok := hall 5 (by decide)
  refine lv_iload_n cx.1 cx.2.1 dX6_setMargin_0 rfl (lv_at hl 1 rfl) ?_
  refine lv_if_lt (x := v) (tgt := 10) cx.1 cx.2.1 dX6_setMargin_1 (by decide) (fun c_1 => ?_) (fun c_1 => ?_)
  · refine lv_sipush (v := (-1002)) cx.1 cx.2.1 dX6_setMargin_10 (by decide) ?_
    exact WR.ret (x := (-1002)) cx hr hlocks dX6_setMargin_13 (by simp [ySet, c_1]) (by simp only [ySet, c_1, true_or, or_true, or_self, not_true_eq_false, not_false_eq_true, if_true, if_false, ↓reduceIte, Bool.false_eq_true]; exact hP) hS
  · refine lv_iload_n cx.1 cx.2.1 dX6_setMargin_4 rfl (lv_at hl 1 rfl) ?_
    refine lv_bipush (v := nI 100) cx.1 cx.2.1 dX6_setMargin_5 (by decide) ?_
    refine lv_icmp_le (x := v) (y := 100) (tgt := 14) cx.1 cx.2.1 dX6_setMargin_7 (by decide) (fun c_2 => ?_) (fun c_2 => ?_)
    · refine lv_aload_n cx.1 cx.2.1 dX6_setMargin_14 rfl (lv_at hl 0 rfl) ?_
      refine va_get (ci := 5) (C := RX6) (T := TX6) (N := 5) (v := .ref (AD 5 0)) cx.1 cx.2.1 cx.2.2.2.2 iw_X6_setMargin_X6 cx.2.2.2.1 hK hP 0 rfl rfl 0 (by decide) (cx.2.2.2.2 _ fw_X6_setMargin_f10) (fun _ h9 => h9) rfl dX6_setMargin_15 ?_
      have hP5 : va_P G.1 vwCl (stC G (AD 5) (Y 5)) s.heap := pl_st (Y := Y) hP (by decide)
      refine RO.callV (As := []) (rest := []) cx (c_X4_hasEngraved l G (AD 5) (Y 5)) gX6_setMargin_X4_hasEngraved rfl hd_X4_hasEngraved ⟨Nat.le_of_ble_eq_true rfl, Nat.le_of_ble_eq_true rfl⟩ (va_recv hK hP5 (ci := 3) (q0 := 0) rfl rfl) hK hN hP5 rfl hl.1 rfl (Nat.le_of_ble_eq_true rfl) dX6_setMargin_18 ⟨Nat.zero_le _, Nat.zero_le _⟩ ?_
      refine nv_ifz (b := xEng (Y 5)) (tgt := 28) cx dX6_setMargin_21 (by decide) (fun c_3 => ?_) (fun c_3 => ?_)
      · refine lv_aload_n cx.1 cx.2.1 dX6_setMargin_28 rfl (lv_at hl 0 rfl) ?_
        refine va_get (ci := 5) (C := RX6) (T := TX6) (N := 5) (v := .ref (AD 5 0)) cx.1 cx.2.1 cx.2.2.2.2 iw_X6_setMargin_X6 cx.2.2.2.1 hK hP 0 rfl rfl 0 (by decide) (cx.2.2.2.2 _ fw_X6_setMargin_f10) (fun _ h9 => h9) rfl dX6_setMargin_29 ?_
        refine va_getN (ci := 3) (C := RX4) (T := TX4) (N := 10) (v := .int ((Y 5) 5 4)) cx.1 cx.2.1 cx.2.2.2.2 iw_X6_setMargin_X4 cx.2.2.2.1 hK hP5 0 rfl rfl 4 (by decide) (va_Nw.use rfl (hN.at 8 rfl)) (fun _ h9 => h9) rfl dX6_setMargin_32 ?_
        refine lv_istore_n (lv' := [(2, .int ((Y 5) 5 4)), (0, .ref (a 0)), (1, .int v)]) cx.1 cx.2.1 dX6_setMargin_35 rfl hl (by decide) rfl (fun ls hl => ?_)
        refine lv_iload_n cx.1 cx.2.1 dX6_setMargin_36 rfl (lv_at hl 0 rfl) ?_
        refine lv_iload_n cx.1 cx.2.1 dX6_setMargin_37 rfl (lv_at hl 2 rfl) ?_
        refine lv_icmp_ne (x := (Y 5) 5 4) (y := v) (tgt := 45) cx.1 cx.2.1 dX6_setMargin_38 (by decide) (fun c_4 => ?_) (fun c_4 => ?_)
        · refine lv_aload_n cx.1 cx.2.1 dX6_setMargin_45 rfl (lv_at hl 1 rfl) ?_
          refine va_get (ci := 5) (C := RX6) (T := TX6) (N := 5) (v := .ref (a 1)) cx.1 cx.2.1 cx.2.2.2.2 iw_X6_setMargin_X6 cx.2.2.2.1 hK hP 0 rfl rfl 2 (by decide) (cx.2.2.2.2 _ fw_X6_setMargin_f22) (fun _ h9 => h9) rfl dX6_setMargin_46 ?_
          refine lv_aload_n cx.1 cx.2.1 dX6_setMargin_49 rfl (lv_at hl 1 rfl) ?_
          refine va_get (ci := 5) (C := RX6) (T := TX6) (N := 5) (v := .ref (AD 5 0)) cx.1 cx.2.1 cx.2.2.2.2 iw_X6_setMargin_X6 cx.2.2.2.1 hK hP 0 rfl rfl 0 (by decide) (cx.2.2.2.2 _ fw_X6_setMargin_f10) (fun _ h9 => h9) rfl dX6_setMargin_50 ?_
          refine WR.callV (As := [.ref (AD 5 0)]) (rest := []) cx (c_X0_record l G a AD Y hoh hok) gX6_setMargin_X0_record rfl hd_X0_record ⟨Nat.le_of_ble_eq_true rfl, Nat.le_of_ble_eq_true rfl⟩ (va_recv hK hP (ci := 0) (q0 := 1) rfl rfl) hK hN hP hD hS (fun _ h => pl_wA0 h) rfl hl.1 rfl (Nat.le_of_ble_eq_true rfl) dX6_setMargin_53 ⟨Nat.zero_le _, Nat.zero_le _⟩ (fun H1 locs hP1 hk1 hS => ?_)
          have hP : va_P G.1 vwCl (plC G a AD (yRec Y)) H1 := hP1
          have hD : va_D (wA (plC G a AD Y)) (plC G a AD (yRec Y)) := pl_Dput hD
          generalize H1 = H at hP hS ⊢
          clear hP1 hk1
          refine lv_aload_n cx.1 cx.2.1 dX6_setMargin_56 rfl (lv_at hl 1 rfl) ?_
          refine va_get (ci := 5) (C := RX6) (T := TX6) (N := 5) (v := .ref (AD 5 0)) cx.1 cx.2.1 cx.2.2.2.2 iw_X6_setMargin_X6 cx.2.2.2.1 hK hP 0 rfl rfl 0 (by decide) (cx.2.2.2.2 _ fw_X6_setMargin_f10) (fun _ h9 => h9) rfl dX6_setMargin_57 ?_
          refine lv_iload_n cx.1 cx.2.1 dX6_setMargin_60 rfl (lv_at hl 2 rfl) ?_
          have hP5 : va_P G.1 vwCl (stC G (AD 5) (Y 5)) H := pl_st (Y := yRec Y) hP (by decide)
          refine va_putN (ci := 3) (v := .int v) (ty := .int) (C := RX4) (T := TX4) (N := 10) cx.1 cx.2.1 cx.2.2.2.2 iw_X6_setMargin_X4 tyX4 tyX4_ok nmX4 cx.2.2.2.1 hK hP hD hS 45 rfl rfl 4 (by decide) (va_Nw.use rfl (hN.at 8 rfl)) (fun _ h9 => h9) rfl (by decide +kernel) rfl rfl (Nat.le_of_ble_eq_true rfl) dX6_setMargin_61 (fun H locs hP hD hS => ?_)
          have hP : va_P G.1 vwCl (plC G a AD (va_up (yRec Y) 5 (va_up (Y 5) 5 (upd ((Y 5) 5) 4 v)))) H := hP
          have hD : va_D (wA (plC G a AD Y)) (plC G a AD (va_up (yRec Y) 5 (va_up (Y 5) 5 (upd ((Y 5) 5) 4 v)))) := hD
          refine lv_iload_n cx.1 cx.2.1 dX6_setMargin_64 rfl (lv_at hl 0 rfl) ?_
          exact WR.ret (x := (Y 5) 5 4) cx hr hlocks dX6_setMargin_65 (by simp [ySet, c_1, c_2, c_3, c_4]) (by simp only [ySet, c_1, c_2, c_3, c_4, true_or, or_true, or_self, not_true_eq_false, not_false_eq_true, if_true, if_false, ↓reduceIte, Bool.false_eq_true]; exact hP) hS
        · refine lv_sipush (v := (-1005)) cx.1 cx.2.1 dX6_setMargin_41 (by decide) ?_
          exact WR.ret (x := (-1005)) cx hr hlocks dX6_setMargin_44 (by simp [ySet, c_1, c_2, c_3, c_4]) (by simp only [ySet, c_1, c_2, c_3, c_4, true_or, or_true, or_self, not_true_eq_false, not_false_eq_true, if_true, if_false, ↓reduceIte, Bool.false_eq_true]; exact hP) hS
      · refine lv_sipush (v := (-1004)) cx.1 cx.2.1 dX6_setMargin_24 (by decide) ?_
        exact WR.ret (x := (-1004)) cx hr hlocks dX6_setMargin_27 (by simp [ySet, c_1, c_2, c_3]) (by simp only [ySet, c_1, c_2, c_3, true_or, or_true, or_self, not_true_eq_false, not_false_eq_true, if_true, if_false, ↓reduceIte, Bool.false_eq_true]; exact hP) hS
    · refine lv_sipush (v := (-1002)) cx.1 cx.2.1 dX6_setMargin_10 (by decide) ?_
      exact WR.ret (x := (-1002)) cx hr hlocks dX6_setMargin_13 (by simp [ySet, c_1, c_2]) (by simp only [ySet, c_1, c_2, true_or, or_true, or_self, not_true_eq_false, not_false_eq_true, if_true, if_false, ↓reduceIte, Bool.false_eq_true]; exact hP) hS

theorem iw_X6_setColumns_X6 : ∀ w ∈ wsX60, w ∈ wsX6_setColumns := fun _ h => List.mem_cons_of_mem _ (List.mem_append_left _ (List.mem_append_left _ (List.mem_append_left _ (List.mem_append_left _ (List.mem_append_right _ h)))))
theorem fw_X6_setColumns_f10 : (Cond.fieldLink RX6 10 "NamePlate" "now" "LNamePlate$State;") ∈ wsX6_setColumns := List.mem_of_getElem? (i := 1) rfl
theorem iw_X6_setColumns_X4 : ∀ w ∈ wsX40, w ∈ wsX6_setColumns := fun _ h => List.mem_cons_of_mem _ (List.mem_append_left _ (List.mem_append_left _ (List.mem_append_left _ (List.mem_append_right _ h))))
theorem fw_X6_setColumns_f22 : (Cond.fieldLink RX6 22 "NamePlate" "history" "LNamePlate$History;") ∈ wsX6_setColumns := List.mem_of_getElem? (i := 2) rfl
set_option maxHeartbeats 4000000 in
set_option maxRecDepth 100000 in
theorem c_X6_setColumns (l : Launch) (G : GG) (a : Nat → Nat) (AD : Nat → Nat → Nat) (Y : Nat → XS) (v : Int32) (hoh : okH Y) (hall : ∀ i, i < 7 → okX (Y i)) : WR l yX6_setColumns wsX6_setColumns 4 82 G (plC G a AD Y) [.ref (a 0), .int v] (some (.int ((ySet Y 1 3 5 v).1))) (plC G a AD ((ySet Y 1 3 5 v).2)) := by
  refine WR.start (cc := cX6_setColumns) (maxL := 3) (ret := (some .int)) (by decide) rfl (Nat.le_of_ble_eq_true rfl) ?_
  intro p e s m below meth c ls cx hr hlocks hK hN hP hD hS hl
  have cx : CallFix p m c cX6_setColumns 3 s [.ref (a 0), .int v].toArray wsX6_setColumns RX6 := cx
  have hl : lv_has ls 3 [(0, .ref (a 0)), (1, .int v)] := hl
  have hok := hall 5 (by decide)
  refine lv_iload_n cx.1 cx.2.1 dX6_setColumns_0 rfl (lv_at hl 1 rfl) ?_
  refine lv_iconst (v := nI 1) cx.1 cx.2.1 dX6_setColumns_1 (by decide) ?_
  refine lv_icmp_lt (x := v) (y := 1) (tgt := 10) cx.1 cx.2.1 dX6_setColumns_2 (by decide) (fun c_1 => ?_) (fun c_1 => ?_)
  · refine lv_sipush (v := (-1002)) cx.1 cx.2.1 dX6_setColumns_10 (by decide) ?_
    exact WR.ret (x := (-1002)) cx hr hlocks dX6_setColumns_13 (by simp [ySet, c_1]) (by simp only [ySet, c_1, true_or, or_true, or_self, not_true_eq_false, not_false_eq_true, if_true, if_false, ↓reduceIte, Bool.false_eq_true]; exact hP) hS
  · refine lv_iload_n cx.1 cx.2.1 dX6_setColumns_5 rfl (lv_at hl 1 rfl) ?_
    refine lv_iconst (v := nI 3) cx.1 cx.2.1 dX6_setColumns_6 (by decide) ?_
    refine lv_icmp_le (x := v) (y := 3) (tgt := 14) cx.1 cx.2.1 dX6_setColumns_7 (by decide) (fun c_2 => ?_) (fun c_2 => ?_)
    · refine lv_aload_n cx.1 cx.2.1 dX6_setColumns_14 rfl (lv_at hl 0 rfl) ?_
      refine va_get (ci := 5) (C := RX6) (T := TX6) (N := 5) (v := .ref (AD 5 0)) cx.1 cx.2.1 cx.2.2.2.2 iw_X6_setColumns_X6 cx.2.2.2.1 hK hP 0 rfl rfl 0 (by decide) (cx.2.2.2.2 _ fw_X6_setColumns_f10) (fun _ h9 => h9) rfl dX6_setColumns_15 ?_
      have hP5 : va_P G.1 vwCl (stC G (AD 5) (Y 5)) s.heap := pl_st (Y := Y) hP (by decide)
      refine RO.callV (As := []) (rest := []) cx (c_X4_hasEngraved l G (AD 5) (Y 5)) gX6_setColumns_X4_hasEngraved rfl hd_X4_hasEngraved ⟨Nat.le_of_ble_eq_true rfl, Nat.le_of_ble_eq_true rfl⟩ (va_recv hK hP5 (ci := 3) (q0 := 0) rfl rfl) hK hN hP5 rfl hl.1 rfl (Nat.le_of_ble_eq_true rfl) dX6_setColumns_18 ⟨Nat.zero_le _, Nat.zero_le _⟩ ?_
      refine nv_ifz (b := xEng (Y 5)) (tgt := 28) cx dX6_setColumns_21 (by decide) (fun c_3 => ?_) (fun c_3 => ?_)
      · refine lv_aload_n cx.1 cx.2.1 dX6_setColumns_28 rfl (lv_at hl 0 rfl) ?_
        refine va_get (ci := 5) (C := RX6) (T := TX6) (N := 5) (v := .ref (AD 5 0)) cx.1 cx.2.1 cx.2.2.2.2 iw_X6_setColumns_X6 cx.2.2.2.1 hK hP 0 rfl rfl 0 (by decide) (cx.2.2.2.2 _ fw_X6_setColumns_f10) (fun _ h9 => h9) rfl dX6_setColumns_29 ?_
        refine va_getN (ci := 3) (C := RX4) (T := TX4) (N := 10) (v := .int ((Y 5) 5 5)) cx.1 cx.2.1 cx.2.2.2.2 iw_X6_setColumns_X4 cx.2.2.2.1 hK hP5 0 rfl rfl 5 (by decide) (va_Nw.use rfl (hN.at 9 rfl)) (fun _ h9 => h9) rfl dX6_setColumns_32 ?_
        refine lv_istore_n (lv' := [(2, .int ((Y 5) 5 5)), (0, .ref (a 0)), (1, .int v)]) cx.1 cx.2.1 dX6_setColumns_35 rfl hl (by decide) rfl (fun ls hl => ?_)
        refine lv_iload_n cx.1 cx.2.1 dX6_setColumns_36 rfl (lv_at hl 0 rfl) ?_
        refine lv_iload_n cx.1 cx.2.1 dX6_setColumns_37 rfl (lv_at hl 2 rfl) ?_
        refine lv_icmp_ne (x := (Y 5) 5 5) (y := v) (tgt := 45) cx.1 cx.2.1 dX6_setColumns_38 (by decide) (fun c_4 => ?_) (fun c_4 => ?_)
        · refine lv_aload_n cx.1 cx.2.1 dX6_setColumns_45 rfl (lv_at hl 1 rfl) ?_
          refine va_get (ci := 5) (C := RX6) (T := TX6) (N := 5) (v := .ref (a 1)) cx.1 cx.2.1 cx.2.2.2.2 iw_X6_setColumns_X6 cx.2.2.2.1 hK hP 0 rfl rfl 2 (by decide) (cx.2.2.2.2 _ fw_X6_setColumns_f22) (fun _ h9 => h9) rfl dX6_setColumns_46 ?_
          refine lv_aload_n cx.1 cx.2.1 dX6_setColumns_49 rfl (lv_at hl 1 rfl) ?_
          refine va_get (ci := 5) (C := RX6) (T := TX6) (N := 5) (v := .ref (AD 5 0)) cx.1 cx.2.1 cx.2.2.2.2 iw_X6_setColumns_X6 cx.2.2.2.1 hK hP 0 rfl rfl 0 (by decide) (cx.2.2.2.2 _ fw_X6_setColumns_f10) (fun _ h9 => h9) rfl dX6_setColumns_50 ?_
          refine WR.callV (As := [.ref (AD 5 0)]) (rest := []) cx (c_X0_record l G a AD Y hoh hok) gX6_setColumns_X0_record rfl hd_X0_record ⟨Nat.le_of_ble_eq_true rfl, Nat.le_of_ble_eq_true rfl⟩ (va_recv hK hP (ci := 0) (q0 := 1) rfl rfl) hK hN hP hD hS (fun _ h => pl_wA0 h) rfl hl.1 rfl (Nat.le_of_ble_eq_true rfl) dX6_setColumns_53 ⟨Nat.zero_le _, Nat.zero_le _⟩ (fun H1 locs hP1 hk1 hS => ?_)
          have hP : va_P G.1 vwCl (plC G a AD (yRec Y)) H1 := hP1
          have hD : va_D (wA (plC G a AD Y)) (plC G a AD (yRec Y)) := pl_Dput hD
          generalize H1 = H at hP hS ⊢
          clear hP1 hk1
          refine lv_aload_n cx.1 cx.2.1 dX6_setColumns_56 rfl (lv_at hl 1 rfl) ?_
          refine va_get (ci := 5) (C := RX6) (T := TX6) (N := 5) (v := .ref (AD 5 0)) cx.1 cx.2.1 cx.2.2.2.2 iw_X6_setColumns_X6 cx.2.2.2.1 hK hP 0 rfl rfl 0 (by decide) (cx.2.2.2.2 _ fw_X6_setColumns_f10) (fun _ h9 => h9) rfl dX6_setColumns_57 ?_
          refine lv_iload_n cx.1 cx.2.1 dX6_setColumns_60 rfl (lv_at hl 2 rfl) ?_
          have hP5 : va_P G.1 vwCl (stC G (AD 5) (Y 5)) H := pl_st (Y := yRec Y) hP (by decide)
          refine va_putN (ci := 3) (v := .int v) (ty := .int) (C := RX4) (T := TX4) (N := 10) cx.1 cx.2.1 cx.2.2.2.2 iw_X6_setColumns_X4 tyX4 tyX4_ok nmX4 cx.2.2.2.1 hK hP hD hS 45 rfl rfl 5 (by decide) (va_Nw.use rfl (hN.at 9 rfl)) (fun _ h9 => h9) rfl (by decide +kernel) rfl rfl (Nat.le_of_ble_eq_true rfl) dX6_setColumns_61 (fun H locs hP hD hS => ?_)
          have hP : va_P G.1 vwCl (plC G a AD (va_up (yRec Y) 5 (va_up (Y 5) 5 (upd ((Y 5) 5) 5 v)))) H := hP
          have hD : va_D (wA (plC G a AD Y)) (plC G a AD (va_up (yRec Y) 5 (va_up (Y 5) 5 (upd ((Y 5) 5) 5 v)))) := hD
          refine lv_iload_n cx.1 cx.2.1 dX6_setColumns_64 rfl (lv_at hl 0 rfl) ?_
          exact WR.ret (x := (Y 5) 5 5) cx hr hlocks dX6_setColumns_65 (by simp [ySet, c_1, c_2, c_3, c_4]) (by simp only [ySet, c_1, c_2, c_3, c_4, true_or, or_true, or_self, not_true_eq_false, not_false_eq_true, if_true, if_false, ↓reduceIte, Bool.false_eq_true]; exact hP) hS
        · refine lv_sipush (v := (-1005)) cx.1 cx.2.1 dX6_setColumns_41 (by decide) ?_
          exact WR.ret (x := (-1005)) cx hr hlocks dX6_setColumns_44 (by simp [ySet, c_1, c_2, c_3, c_4]) (by simp only [ySet, c_1, c_2, c_3, c_4, true_or, or_true, or_self, not_true_eq_false, not_false_eq_true, if_true, if_false, ↓reduceIte, Bool.false_eq_true]; exact hP) hS
      · refine lv_sipush (v := (-1004)) cx.1 cx.2.1 dX6_setColumns_24 (by decide) ?_
        exact WR.ret (x := (-1004)) cx hr hlocks dX6_setColumns_27 (by simp [ySet, c_1, c_2, c_3]) (by simp only [ySet, c_1, c_2, c_3, true_or, or_true, or_self, not_true_eq_false, not_false_eq_true, if_true, if_false, ↓reduceIte, Bool.false_eq_true]; exact hP) hS
    · refine lv_sipush (v := (-1002)) cx.1 cx.2.1 dX6_setColumns_10 (by decide) ?_
      exact WR.ret (x := (-1002)) cx hr hlocks dX6_setColumns_13 (by simp [ySet, c_1, c_2]) (by simp only [ySet, c_1, c_2, true_or, or_true, or_self, not_true_eq_false, not_false_eq_true, if_true, if_false, ↓reduceIte, Bool.false_eq_true]; exact hP) hS

theorem iw_X6_adjust_X6 : ∀ w ∈ wsX60, w ∈ wsX6_adjust := fun _ h => List.mem_cons_of_mem _ (List.mem_append_left _ (List.mem_append_left _ (List.mem_append_left _ (List.mem_append_left _ (List.mem_append_right _ h)))))
theorem fw_X6_adjust_f10 : (Cond.fieldLink RX6 10 "NamePlate" "now" "LNamePlate$State;") ∈ wsX6_adjust := List.mem_of_getElem? (i := 1) rfl
theorem fw_X6_adjust_f22 : (Cond.fieldLink RX6 22 "NamePlate" "history" "LNamePlate$History;") ∈ wsX6_adjust := List.mem_of_getElem? (i := 2) rfl
theorem iw_X6_adjust_X4 : ∀ w ∈ wsX40, w ∈ wsX6_adjust := fun _ h => List.mem_cons_of_mem _ (List.mem_append_left _ (List.mem_append_left _ (List.mem_append_left _ (List.mem_append_right _ h))))
set_option maxHeartbeats 4000000 in
set_option maxRecDepth 100000 in
theorem c_X6_adjust (l : Launch) (G : GG) (a : Nat → Nat) (AD : Nat → Nat → Nat) (Y : Nat → XS) (a0 : Int32) (b0 : Int32) (v : Int32) (hoh : okH Y) (hall : ∀ i, i < 7 → okX (Y i)) : WR l yX6_adjust wsX6_adjust 4 82 G (plC G a AD Y) [.ref (a 0), .int a0, .int b0, .int v] (some (.int ((yAdj Y a0 b0 v).1))) (plC G a AD ((yAdj Y a0 b0 v).2)) := by
  refine WR.start (cc := cX6_adjust) (maxL := 5) (ret := (some .int)) (by decide) rfl (Nat.le_of_ble_eq_true rfl) ?_
  intro p e s m below meth c ls cx hr hlocks hK hN hP hD hS hl
  have cx : CallFix p m c cX6_adjust 5 s [.ref (a 0), .int a0, .int b0, .int v].toArray wsX6_adjust RX6 := cx
  have hl : lv_has ls 5 [(0, .ref (a 0)), (1, .int a0), (2, .int b0), (3, .int v)] := hl
  have hok := hall 5 (by decide)
  refine lv_iload_n cx.1 cx.2.1 dX6_adjust_0 rfl (lv_at hl 1 rfl) ?_
  refine RO.callS (As := [.int a0]) (rest := []) cx (c_X3_isKnown l G a0) gX6_adjust_X3_isKnown rfl hd_X3_isKnown ⟨Nat.le_of_ble_eq_true rfl, Nat.le_of_ble_eq_true rfl⟩ hK hN va_P.nil rfl hl.1 rfl (Nat.le_of_ble_eq_true rfl) dX6_adjust_1 ⟨Nat.zero_le _, Nat.zero_le _⟩ ?_
  refine nv_ifz (b := xOk a0) (tgt := 14) cx dX6_adjust_4 (by decide) (fun c_1 => ?_) (fun c_1 => ?_)
  · refine lv_sipush (v := (-1001)) cx.1 cx.2.1 dX6_adjust_14 (by decide) ?_
    exact WR.ret (x := (-1001)) cx hr hlocks dX6_adjust_17 (by simp only [yAdj, c_1, Bool.and_self, Bool.and_false, Bool.false_and, Bool.and_true, Bool.true_and, and_self, and_true, true_and, and_false, false_and, or_self, or_true, true_or, not_true_eq_false, not_false_eq_true, if_true, if_false, ↓reduceIte, Bool.false_eq_true, Bool.true_eq_false]) (by simp only [yAdj, c_1, Bool.and_self, Bool.and_false, Bool.false_and, Bool.and_true, Bool.true_and, and_self, and_true, true_and, and_false, false_and, or_self, or_true, true_or, not_true_eq_false, not_false_eq_true, if_true, if_false, ↓reduceIte, Bool.false_eq_true, Bool.true_eq_false]; exact hP) hS
  · refine lv_iload_n cx.1 cx.2.1 dX6_adjust_7 rfl (lv_at hl 2 rfl) ?_
    refine RO.callS (As := [.int b0]) (rest := []) cx (c_X3_isKnown l G b0) gX6_adjust_X3_isKnown rfl hd_X3_isKnown ⟨Nat.le_of_ble_eq_true rfl, Nat.le_of_ble_eq_true rfl⟩ hK hN va_P.nil rfl hl.1 rfl (Nat.le_of_ble_eq_true rfl) dX6_adjust_8 ⟨Nat.zero_le _, Nat.zero_le _⟩ ?_
    refine nv_ifnz (b := xOk b0) (tgt := 18) cx dX6_adjust_11 (by decide) (fun c_2 => ?_) (fun c_2 => ?_)
    · have hcb := chOk_ok c_2
      have hca := chOk_ok c_1
      refine lv_iload_n cx.1 cx.2.1 dX6_adjust_18 rfl (lv_at hl 3 rfl) ?_
      refine lv_bipush (v := (-3)) cx.1 cx.2.1 dX6_adjust_19 (by decide) ?_
      refine lv_icmp_lt (x := v) (y := (-3)) (tgt := 29) cx.1 cx.2.1 dX6_adjust_21 (by decide) (fun c_3 => ?_) (fun c_3 => ?_)
      · refine lv_sipush (v := (-1002)) cx.1 cx.2.1 dX6_adjust_29 (by decide) ?_
        exact WR.ret (x := (-1002)) cx hr hlocks dX6_adjust_32 (by simp only [yAdj, c_1, c_2, c_3, Bool.and_self, Bool.and_false, Bool.false_and, Bool.and_true, Bool.true_and, and_self, and_true, true_and, and_false, false_and, or_self, or_true, true_or, not_true_eq_false, not_false_eq_true, if_true, if_false, ↓reduceIte, Bool.false_eq_true, Bool.true_eq_false]) (by simp only [yAdj, c_1, c_2, c_3, Bool.and_self, Bool.and_false, Bool.false_and, Bool.and_true, Bool.true_and, and_self, and_true, true_and, and_false, false_and, or_self, or_true, true_or, not_true_eq_false, not_false_eq_true, if_true, if_false, ↓reduceIte, Bool.false_eq_true, Bool.true_eq_false]; exact hP) hS
      · refine lv_iload_n cx.1 cx.2.1 dX6_adjust_24 rfl (lv_at hl 3 rfl) ?_
        refine lv_iconst (v := nI 3) cx.1 cx.2.1 dX6_adjust_25 (by decide) ?_
        refine lv_icmp_le (x := v) (y := 3) (tgt := 33) cx.1 cx.2.1 dX6_adjust_26 (by decide) (fun c_4 => ?_) (fun c_4 => ?_)
        · refine lv_aload_n cx.1 cx.2.1 dX6_adjust_33 rfl (lv_at hl 0 rfl) ?_
          refine va_get (ci := 5) (C := RX6) (T := TX6) (N := 5) (v := .ref (AD 5 0)) cx.1 cx.2.1 cx.2.2.2.2 iw_X6_adjust_X6 cx.2.2.2.1 hK hP 0 rfl rfl 0 (by decide) (cx.2.2.2.2 _ fw_X6_adjust_f10) (fun _ h9 => h9) rfl dX6_adjust_34 ?_
          refine lv_iload_n cx.1 cx.2.1 dX6_adjust_37 rfl (lv_at hl 1 rfl) ?_
          refine lv_iload_n cx.1 cx.2.1 dX6_adjust_38 rfl (lv_at hl 2 rfl) ?_
          have hP5 : va_P G.1 vwCl (stC G (AD 5) (Y 5)) s.heap := pl_st (Y := Y) hP (by decide)
          refine RO.callV (As := [.int a0, .int b0]) (rest := []) cx (c_X4_isEngravedPair l G (AD 5) (Y 5) a0 b0 hok) gX6_adjust_X4_isEngravedPair rfl hd_X4_isEngravedPair ⟨Nat.le_of_ble_eq_true rfl, Nat.le_of_ble_eq_true rfl⟩ (va_recv hK hP5 (ci := 3) (q0 := 0) rfl rfl) hK hN hP5 rfl hl.1 rfl (Nat.le_of_ble_eq_true rfl) dX6_adjust_39 ⟨Nat.zero_le _, Nat.zero_le _⟩ ?_
          refine nv_ifz (b := xCut (Y 5) a0 b0) (tgt := 49) cx dX6_adjust_42 (by decide) (fun c_5 => ?_) (fun c_5 => ?_)
          · refine lv_aload_n cx.1 cx.2.1 dX6_adjust_49 rfl (lv_at hl 0 rfl) ?_
            refine va_get (ci := 5) (C := RX6) (T := TX6) (N := 5) (v := .ref (AD 5 0)) cx.1 cx.2.1 cx.2.2.2.2 iw_X6_adjust_X6 cx.2.2.2.1 hK hP 0 rfl rfl 0 (by decide) (cx.2.2.2.2 _ fw_X6_adjust_f10) (fun _ h9 => h9) rfl dX6_adjust_50 ?_
            refine lv_iload_n cx.1 cx.2.1 dX6_adjust_53 rfl (lv_at hl 1 rfl) ?_
            refine lv_iload_n cx.1 cx.2.1 dX6_adjust_54 rfl (lv_at hl 2 rfl) ?_
            refine RO.callV (As := [.int a0, .int b0]) (rest := []) cx (c_X4_adjustmentOf l G (AD 5) (Y 5) a0 b0 hok) gX6_adjust_X4_adjustmentOf rfl hd_X4_adjustmentOf ⟨Nat.le_of_ble_eq_true rfl, Nat.le_of_ble_eq_true rfl⟩ (va_recv hK hP5 (ci := 3) (q0 := 0) rfl rfl) hK hN hP5 rfl hl.1 rfl (Nat.le_of_ble_eq_true rfl) dX6_adjust_55 ⟨Nat.zero_le _, Nat.zero_le _⟩ ?_
            refine lv_istore (lv' := [(4, .int (xAdj (Y 5) a0 b0)), (0, .ref (a 0)), (1, .int a0), (2, .int b0), (3, .int v)]) cx.1 cx.2.1 dX6_adjust_58 hl (by decide) rfl (fun ls hl => ?_)
            refine lv_iload cx.1 cx.2.1 dX6_adjust_60 (lv_at hl 0 rfl) ?_
            refine lv_iload_n cx.1 cx.2.1 dX6_adjust_62 rfl (lv_at hl 4 rfl) ?_
            refine lv_icmp_ne (x := xAdj (Y 5) a0 b0) (y := v) (tgt := 70) cx.1 cx.2.1 dX6_adjust_63 (by decide) (fun c_6 => ?_) (fun c_6 => ?_)
            · refine lv_iload cx.1 cx.2.1 dX6_adjust_70 (lv_at hl 0 rfl) ?_
              refine lv_if_ne (x := xAdj (Y 5) a0 b0) (tgt := 92) cx.1 cx.2.1 dX6_adjust_72 (by decide) (fun c_7 => ?_) (fun c_7 => ?_)
              · have hf : xPl (Y 5) a0 b0 < xp (Y 5) ∨ v = 0 ∨ xp (Y 5) < 16 := Or.inl (xAdj_in c_7)
                refine lv_aload_n cx.1 cx.2.1 dX6_adjust_92 rfl (lv_at hl 1 rfl) ?_
                refine va_get (ci := 5) (C := RX6) (T := TX6) (N := 5) (v := .ref (a 1)) cx.1 cx.2.1 cx.2.2.2.2 iw_X6_adjust_X6 cx.2.2.2.1 hK hP 0 rfl rfl 2 (by decide) (cx.2.2.2.2 _ fw_X6_adjust_f22) (fun _ h9 => h9) rfl dX6_adjust_93 ?_
                refine lv_aload_n cx.1 cx.2.1 dX6_adjust_96 rfl (lv_at hl 1 rfl) ?_
                refine va_get (ci := 5) (C := RX6) (T := TX6) (N := 5) (v := .ref (AD 5 0)) cx.1 cx.2.1 cx.2.2.2.2 iw_X6_adjust_X6 cx.2.2.2.1 hK hP 0 rfl rfl 0 (by decide) (cx.2.2.2.2 _ fw_X6_adjust_f10) (fun _ h9 => h9) rfl dX6_adjust_97 ?_
                refine WR.callV (As := [.ref (AD 5 0)]) (rest := []) cx (c_X0_record l G a AD Y hoh hok) gX6_adjust_X0_record rfl hd_X0_record ⟨Nat.le_of_ble_eq_true rfl, Nat.le_of_ble_eq_true rfl⟩ (va_recv hK hP (ci := 0) (q0 := 1) rfl rfl) hK hN hP hD hS (fun _ h => pl_wA0 h) rfl hl.1 rfl (Nat.le_of_ble_eq_true rfl) dX6_adjust_100 ⟨Nat.zero_le _, Nat.zero_le _⟩ (fun H1 locs hP1 hk1 hS => ?_)
                have hP : va_P G.1 vwCl (plC G a AD (yRec Y)) H1 := hP1
                have hD : va_D (wA (plC G a AD Y)) (plC G a AD (yRec Y)) := pl_Dput hD
                generalize H1 = H at hP hS ⊢
                clear hP1 hk1
                refine lv_aload_n cx.1 cx.2.1 dX6_adjust_103 rfl (lv_at hl 1 rfl) ?_
                refine va_get (ci := 5) (C := RX6) (T := TX6) (N := 5) (v := .ref (AD 5 0)) cx.1 cx.2.1 cx.2.2.2.2 iw_X6_adjust_X6 cx.2.2.2.1 hK hP 0 rfl rfl 0 (by decide) (cx.2.2.2.2 _ fw_X6_adjust_f10) (fun _ h9 => h9) rfl dX6_adjust_104 ?_
                have hP5 : va_P G.1 vwCl (stC G (AD 5) (Y 5)) H := pl_st (Y := yRec Y) hP (by decide)
                refine va_getN (ci := 3) (C := RX4) (T := TX4) (N := 10) (v := .ref (AD 5 2)) cx.1 cx.2.1 cx.2.2.2.2 iw_X6_adjust_X4 cx.2.2.2.1 hK hP5 0 rfl rfl 1 (by decide) (va_Nw.use rfl (hN.at 10 rfl)) (fun _ h9 => h9) rfl dX6_adjust_107 ?_
                refine lv_iload_n cx.1 cx.2.1 dX6_adjust_110 rfl (lv_at hl 2 rfl) ?_
                refine lv_iload_n cx.1 cx.2.1 dX6_adjust_111 rfl (lv_at hl 3 rfl) ?_
                refine lv_iload_n cx.1 cx.2.1 dX6_adjust_112 rfl (lv_at hl 4 rfl) ?_
                refine WR.callV (As := [.int a0, .int b0, .int v]) (rest := []) cx (c_X2_put l G (AD 5) (Y 5) a0 b0 v hok hf hca hcb) gX6_adjust_X2_put rfl hd_X2_put ⟨Nat.le_of_ble_eq_true rfl, Nat.le_of_ble_eq_true rfl⟩ (va_recv hK hP5 (ci := 2) (q0 := 2) rfl rfl) hK hN hP5 (pl_Dx hD (by decide)) hS (fun _ h => pl_wAx (by decide) h) rfl hl.1 rfl (Nat.le_of_ble_eq_true rfl) dX6_adjust_113 ⟨Nat.zero_le _, Nat.zero_le _⟩ (fun H1 locs hP1 hk1 hS => ?_)
                have hP : va_P G.1 vwCl (plC G a AD (va_up (yRec Y) 5 (xPut (Y 5) a0 b0 v))) H1 := pl_put hP hD (by decide) hk1 hP1
                have hD : va_D (wA (plC G a AD Y)) (plC G a AD (va_up (yRec Y) 5 (xPut (Y 5) a0 b0 v))) := pl_Dput hD
                generalize H1 = H at hP hS ⊢
                clear hP1 hk1
                refine lv_iload cx.1 cx.2.1 dX6_adjust_116 (lv_at hl 0 rfl) ?_
                exact WR.ret (x := xAdj (Y 5) a0 b0) cx hr hlocks dX6_adjust_118 (by simp only [yAdj, c_1, c_2, c_3, c_4, c_5, c_6, c_7, Bool.and_self, Bool.and_false, Bool.false_and, Bool.and_true, Bool.true_and, and_self, and_true, true_and, and_false, false_and, or_self, or_true, true_or, not_true_eq_false, not_false_eq_true, if_true, if_false, ↓reduceIte, Bool.false_eq_true, Bool.true_eq_false]) (by simp only [yAdj, c_1, c_2, c_3, c_4, c_5, c_6, c_7, Bool.and_self, Bool.and_false, Bool.false_and, Bool.and_true, Bool.true_and, and_self, and_true, true_and, and_false, false_and, or_self, or_true, true_or, not_true_eq_false, not_false_eq_true, if_true, if_false, ↓reduceIte, Bool.false_eq_true, Bool.true_eq_false]; exact hP) hS
              · refine lv_aload_n cx.1 cx.2.1 dX6_adjust_75 rfl (lv_at hl 1 rfl) ?_
                refine va_get (ci := 5) (C := RX6) (T := TX6) (N := 5) (v := .ref (AD 5 0)) cx.1 cx.2.1 cx.2.2.2.2 iw_X6_adjust_X6 cx.2.2.2.1 hK hP 0 rfl rfl 0 (by decide) (cx.2.2.2.2 _ fw_X6_adjust_f10) (fun _ h9 => h9) rfl dX6_adjust_76 ?_
                refine va_getN (ci := 3) (C := RX4) (T := TX4) (N := 10) (v := .ref (AD 5 2)) cx.1 cx.2.1 cx.2.2.2.2 iw_X6_adjust_X4 cx.2.2.2.1 hK hP5 0 rfl rfl 1 (by decide) (va_Nw.use rfl (hN.at 10 rfl)) (fun _ h9 => h9) rfl dX6_adjust_79 ?_
                refine RO.callV (As := []) (rest := []) cx (c_X2_isFull l G (AD 5) (Y 5) hok) gX6_adjust_X2_isFull rfl hd_X2_isFull ⟨Nat.le_of_ble_eq_true rfl, Nat.le_of_ble_eq_true rfl⟩ (va_recv hK hP5 (ci := 2) (q0 := 2) rfl rfl) hK hN hP5 rfl hl.1 rfl (Nat.le_of_ble_eq_true rfl) dX6_adjust_82 ⟨Nat.zero_le _, Nat.zero_le _⟩ ?_
                refine nv_ifz (b := decide (16 ≤ xp (Y 5))) (tgt := 92) cx dX6_adjust_85 (by decide) (fun c_8 => ?_) (fun c_8 => ?_)
                · have h16 : ¬ 16 ≤ xp (Y 5) := of_decide_eq_false c_8
                  have hf : xPl (Y 5) a0 b0 < xp (Y 5) ∨ v = 0 ∨ xp (Y 5) < 16 := Or.inr (Or.inr (Nat.lt_of_not_le h16))
                  refine lv_aload_n cx.1 cx.2.1 dX6_adjust_92 rfl (lv_at hl 1 rfl) ?_
                  refine va_get (ci := 5) (C := RX6) (T := TX6) (N := 5) (v := .ref (a 1)) cx.1 cx.2.1 cx.2.2.2.2 iw_X6_adjust_X6 cx.2.2.2.1 hK hP 0 rfl rfl 2 (by decide) (cx.2.2.2.2 _ fw_X6_adjust_f22) (fun _ h9 => h9) rfl dX6_adjust_93 ?_
                  refine lv_aload_n cx.1 cx.2.1 dX6_adjust_96 rfl (lv_at hl 1 rfl) ?_
                  refine va_get (ci := 5) (C := RX6) (T := TX6) (N := 5) (v := .ref (AD 5 0)) cx.1 cx.2.1 cx.2.2.2.2 iw_X6_adjust_X6 cx.2.2.2.1 hK hP 0 rfl rfl 0 (by decide) (cx.2.2.2.2 _ fw_X6_adjust_f10) (fun _ h9 => h9) rfl dX6_adjust_97 ?_
                  refine WR.callV (As := [.ref (AD 5 0)]) (rest := []) cx (c_X0_record l G a AD Y hoh hok) gX6_adjust_X0_record rfl hd_X0_record ⟨Nat.le_of_ble_eq_true rfl, Nat.le_of_ble_eq_true rfl⟩ (va_recv hK hP (ci := 0) (q0 := 1) rfl rfl) hK hN hP hD hS (fun _ h => pl_wA0 h) rfl hl.1 rfl (Nat.le_of_ble_eq_true rfl) dX6_adjust_100 ⟨Nat.zero_le _, Nat.zero_le _⟩ (fun H1 locs hP1 hk1 hS => ?_)
                  have hP : va_P G.1 vwCl (plC G a AD (yRec Y)) H1 := hP1
                  have hD : va_D (wA (plC G a AD Y)) (plC G a AD (yRec Y)) := pl_Dput hD
                  generalize H1 = H at hP hS ⊢
                  clear hP1 hk1
                  refine lv_aload_n cx.1 cx.2.1 dX6_adjust_103 rfl (lv_at hl 1 rfl) ?_
                  refine va_get (ci := 5) (C := RX6) (T := TX6) (N := 5) (v := .ref (AD 5 0)) cx.1 cx.2.1 cx.2.2.2.2 iw_X6_adjust_X6 cx.2.2.2.1 hK hP 0 rfl rfl 0 (by decide) (cx.2.2.2.2 _ fw_X6_adjust_f10) (fun _ h9 => h9) rfl dX6_adjust_104 ?_
                  have hP5 : va_P G.1 vwCl (stC G (AD 5) (Y 5)) H := pl_st (Y := yRec Y) hP (by decide)
                  refine va_getN (ci := 3) (C := RX4) (T := TX4) (N := 10) (v := .ref (AD 5 2)) cx.1 cx.2.1 cx.2.2.2.2 iw_X6_adjust_X4 cx.2.2.2.1 hK hP5 0 rfl rfl 1 (by decide) (va_Nw.use rfl (hN.at 10 rfl)) (fun _ h9 => h9) rfl dX6_adjust_107 ?_
                  refine lv_iload_n cx.1 cx.2.1 dX6_adjust_110 rfl (lv_at hl 2 rfl) ?_
                  refine lv_iload_n cx.1 cx.2.1 dX6_adjust_111 rfl (lv_at hl 3 rfl) ?_
                  refine lv_iload_n cx.1 cx.2.1 dX6_adjust_112 rfl (lv_at hl 4 rfl) ?_
                  refine WR.callV (As := [.int a0, .int b0, .int v]) (rest := []) cx (c_X2_put l G (AD 5) (Y 5) a0 b0 v hok hf hca hcb) gX6_adjust_X2_put rfl hd_X2_put ⟨Nat.le_of_ble_eq_true rfl, Nat.le_of_ble_eq_true rfl⟩ (va_recv hK hP5 (ci := 2) (q0 := 2) rfl rfl) hK hN hP5 (pl_Dx hD (by decide)) hS (fun _ h => pl_wAx (by decide) h) rfl hl.1 rfl (Nat.le_of_ble_eq_true rfl) dX6_adjust_113 ⟨Nat.zero_le _, Nat.zero_le _⟩ (fun H1 locs hP1 hk1 hS => ?_)
                  have hP : va_P G.1 vwCl (plC G a AD (va_up (yRec Y) 5 (xPut (Y 5) a0 b0 v))) H1 := pl_put hP hD (by decide) hk1 hP1
                  have hD : va_D (wA (plC G a AD Y)) (plC G a AD (va_up (yRec Y) 5 (xPut (Y 5) a0 b0 v))) := pl_Dput hD
                  generalize H1 = H at hP hS ⊢
                  clear hP1 hk1
                  refine lv_iload cx.1 cx.2.1 dX6_adjust_116 (lv_at hl 0 rfl) ?_
                  exact WR.ret (x := xAdj (Y 5) a0 b0) cx hr hlocks dX6_adjust_118 (by simp only [yAdj, c_1, c_2, c_3, c_4, c_5, c_6, eq_true c_7, h16, Bool.and_self, Bool.and_false, Bool.false_and, Bool.and_true, Bool.true_and, and_self, and_true, true_and, and_false, false_and, or_self, or_true, true_or, not_true_eq_false, not_false_eq_true, if_true, if_false, ↓reduceIte, Bool.false_eq_true, Bool.true_eq_false]) (by simp only [yAdj, c_1, c_2, c_3, c_4, c_5, c_6, eq_true c_7, h16, Bool.and_self, Bool.and_false, Bool.false_and, Bool.and_true, Bool.true_and, and_self, and_true, true_and, and_false, false_and, or_self, or_true, true_or, not_true_eq_false, not_false_eq_true, if_true, if_false, ↓reduceIte, Bool.false_eq_true, Bool.true_eq_false]; exact hP) hS
                · have h16 : 16 ≤ xp (Y 5) := of_decide_eq_true c_8
                  refine lv_sipush (v := (-1003)) cx.1 cx.2.1 dX6_adjust_88 (by decide) ?_
                  exact WR.ret (x := (-1003)) cx hr hlocks dX6_adjust_91 (by simp only [yAdj, c_1, c_2, c_3, c_4, c_5, c_6, eq_true c_7, h16, Bool.and_self, Bool.and_false, Bool.false_and, Bool.and_true, Bool.true_and, and_self, and_true, true_and, and_false, false_and, or_self, or_true, true_or, not_true_eq_false, not_false_eq_true, if_true, if_false, ↓reduceIte, Bool.false_eq_true, Bool.true_eq_false]) (by simp only [yAdj, c_1, c_2, c_3, c_4, c_5, c_6, eq_true c_7, h16, Bool.and_self, Bool.and_false, Bool.false_and, Bool.and_true, Bool.true_and, and_self, and_true, true_and, and_false, false_and, or_self, or_true, true_or, not_true_eq_false, not_false_eq_true, if_true, if_false, ↓reduceIte, Bool.false_eq_true, Bool.true_eq_false]; exact hP) hS
            · refine lv_sipush (v := (-1005)) cx.1 cx.2.1 dX6_adjust_66 (by decide) ?_
              exact WR.ret (x := (-1005)) cx hr hlocks dX6_adjust_69 (by simp only [yAdj, c_1, c_2, c_3, c_4, c_5, c_6, Bool.and_self, Bool.and_false, Bool.false_and, Bool.and_true, Bool.true_and, and_self, and_true, true_and, and_false, false_and, or_self, or_true, true_or, not_true_eq_false, not_false_eq_true, if_true, if_false, ↓reduceIte, Bool.false_eq_true, Bool.true_eq_false]) (by simp only [yAdj, c_1, c_2, c_3, c_4, c_5, c_6, Bool.and_self, Bool.and_false, Bool.false_and, Bool.and_true, Bool.true_and, and_self, and_true, true_and, and_false, false_and, or_self, or_true, true_or, not_true_eq_false, not_false_eq_true, if_true, if_false, ↓reduceIte, Bool.false_eq_true, Bool.true_eq_false]; exact hP) hS
          · refine lv_sipush (v := (-1004)) cx.1 cx.2.1 dX6_adjust_45 (by decide) ?_
            exact WR.ret (x := (-1004)) cx hr hlocks dX6_adjust_48 (by simp only [yAdj, c_1, c_2, c_3, c_4, c_5, Bool.and_self, Bool.and_false, Bool.false_and, Bool.and_true, Bool.true_and, and_self, and_true, true_and, and_false, false_and, or_self, or_true, true_or, not_true_eq_false, not_false_eq_true, if_true, if_false, ↓reduceIte, Bool.false_eq_true, Bool.true_eq_false]) (by simp only [yAdj, c_1, c_2, c_3, c_4, c_5, Bool.and_self, Bool.and_false, Bool.false_and, Bool.and_true, Bool.true_and, and_self, and_true, true_and, and_false, false_and, or_self, or_true, true_or, not_true_eq_false, not_false_eq_true, if_true, if_false, ↓reduceIte, Bool.false_eq_true, Bool.true_eq_false]; exact hP) hS
        · refine lv_sipush (v := (-1002)) cx.1 cx.2.1 dX6_adjust_29 (by decide) ?_
          exact WR.ret (x := (-1002)) cx hr hlocks dX6_adjust_32 (by simp only [yAdj, c_1, c_2, c_3, c_4, Bool.and_self, Bool.and_false, Bool.false_and, Bool.and_true, Bool.true_and, and_self, and_true, true_and, and_false, false_and, or_self, or_true, true_or, not_true_eq_false, not_false_eq_true, if_true, if_false, ↓reduceIte, Bool.false_eq_true, Bool.true_eq_false]) (by simp only [yAdj, c_1, c_2, c_3, c_4, Bool.and_self, Bool.and_false, Bool.false_and, Bool.and_true, Bool.true_and, and_self, and_true, true_and, and_false, false_and, or_self, or_true, true_or, not_true_eq_false, not_false_eq_true, if_true, if_false, ↓reduceIte, Bool.false_eq_true, Bool.true_eq_false]; exact hP) hS
    · refine lv_sipush (v := (-1001)) cx.1 cx.2.1 dX6_adjust_14 (by decide) ?_
      exact WR.ret (x := (-1001)) cx hr hlocks dX6_adjust_17 (by simp only [yAdj, c_1, c_2, Bool.and_self, Bool.and_false, Bool.false_and, Bool.and_true, Bool.true_and, and_self, and_true, true_and, and_false, false_and, or_self, or_true, true_or, not_true_eq_false, not_false_eq_true, if_true, if_false, ↓reduceIte, Bool.false_eq_true, Bool.true_eq_false]) (by simp only [yAdj, c_1, c_2, Bool.and_self, Bool.and_false, Bool.false_and, Bool.and_true, Bool.true_and, and_self, and_true, true_and, and_false, false_and, or_self, or_true, true_or, not_true_eq_false, not_false_eq_true, if_true, if_false, ↓reduceIte, Bool.false_eq_true, Bool.true_eq_false]; exact hP) hS

theorem iw_X6_type_X6 : ∀ w ∈ wsX60, w ∈ wsX6_type := fun _ h => List.mem_cons_of_mem _ (List.mem_append_left _ (List.mem_append_right _ h))
theorem fw_X6_type_f29 : (Cond.fieldLink RX6 29 "NamePlate" "text" "LNamePlate$Text;") ∈ wsX6_type := List.mem_of_getElem? (i := 1) rfl
theorem iw_X6_type_X5 : ∀ w ∈ wsX50, w ∈ wsX6_type := fun _ h => List.mem_cons_of_mem _ (List.mem_append_right _ h)
set_option maxHeartbeats 4000000 in
set_option maxRecDepth 100000 in
theorem c_X6_type (l : Launch) (G : GG) (a : Nat → Nat) (AD : Nat → Nat → Nat) (Y : Nat → XS) (c0 : Int32) (hot : okT Y) (hc : chOk c0) : WR l yX6_type wsX6_type 1 21 G (plC G a AD Y) [.ref (a 0), .int c0] (some (.int ((yType Y c0).1))) (plC G a AD ((yType Y c0).2)) := by
  refine WR.start (cc := cX6_type) (maxL := 2) (ret := (some .int)) (by decide) rfl (Nat.le_of_ble_eq_true rfl) ?_
  intro p e s m below meth c ls cx hr hlocks hK hN hP hD hS hl
  have cx : CallFix p m c cX6_type 2 s [.ref (a 0), .int c0].toArray wsX6_type RX6 := cx
  have hl : lv_has ls 2 [(0, .ref (a 0)), (1, .int c0)] := hl
  refine lv_aload_n cx.1 cx.2.1 dX6_type_0 rfl (lv_at hl 0 rfl) ?_
  refine va_get (ci := 5) (C := RX6) (T := TX6) (N := 5) (v := .ref (a 3)) cx.1 cx.2.1 cx.2.2.2.2 iw_X6_type_X6 cx.2.2.2.1 hK hP 0 rfl rfl 3 (by decide) (cx.2.2.2.2 _ fw_X6_type_f29) (fun _ h9 => h9) rfl dX6_type_1 ?_
  refine RO.callV (As := []) (rest := []) cx (c_X5_isFull l G a AD Y hot) gX6_type_X5_isFull rfl hd_X5_isFull ⟨Nat.le_of_ble_eq_true rfl, Nat.le_of_ble_eq_true rfl⟩ (va_recv hK hP (ci := 4) (q0 := 3) rfl rfl) hK hN hP rfl hl.1 rfl (Nat.le_of_ble_eq_true rfl) dX6_type_4 ⟨Nat.zero_le _, Nat.zero_le _⟩ ?_
  refine nv_ifz (b := decide (60 ≤ yt Y)) (tgt := 14) cx dX6_type_7 (by decide) (fun c_1 => ?_) (fun c_1 => ?_)
  · have h60 : ¬ 60 ≤ yt Y := of_decide_eq_false c_1
    refine lv_aload_n cx.1 cx.2.1 dX6_type_14 rfl (lv_at hl 0 rfl) ?_
    refine va_get (ci := 5) (C := RX6) (T := TX6) (N := 5) (v := .ref (a 3)) cx.1 cx.2.1 cx.2.2.2.2 iw_X6_type_X6 cx.2.2.2.1 hK hP 0 rfl rfl 3 (by decide) (cx.2.2.2.2 _ fw_X6_type_f29) (fun _ h9 => h9) rfl dX6_type_15 ?_
    refine lv_iload_n cx.1 cx.2.1 dX6_type_18 rfl (lv_at hl 1 rfl) ?_
    refine WR.callV (As := [.int c0]) (rest := []) cx (c_X5_append l G a AD Y c0 hot (by omega) (by omega)) gX6_type_X5_append rfl hd_X5_append ⟨Nat.le_of_ble_eq_true rfl, Nat.le_of_ble_eq_true rfl⟩ (va_recv hK hP (ci := 4) (q0 := 3) rfl rfl) hK hN hP hD hS (fun _ h => pl_wA0 h) rfl hl.1 rfl (Nat.le_of_ble_eq_true rfl) dX6_type_19 ⟨Nat.zero_le _, Nat.zero_le _⟩ (fun H1 locs hP1 hk1 hS => ?_)
    have hP : va_P G.1 vwCl (plC G a AD (yTy Y c0)) H1 := hP1
    have hD : va_D (wA (plC G a AD Y)) (plC G a AD (yTy Y c0)) := pl_Dput hD
    generalize H1 = H at hP hS ⊢
    clear hP1 hk1
    refine lv_aload_n cx.1 cx.2.1 dX6_type_22 rfl (lv_at hl 0 rfl) ?_
    refine va_get (ci := 5) (C := RX6) (T := TX6) (N := 5) (v := .ref (a 3)) cx.1 cx.2.1 cx.2.2.2.2 iw_X6_type_X6 cx.2.2.2.1 hK hP 0 rfl rfl 3 (by decide) (cx.2.2.2.2 _ fw_X6_type_f29) (fun _ h9 => h9) rfl dX6_type_23 ?_
    refine va_getN (ci := 4) (C := RX5) (T := TX5) (N := 2) (v := .int ((yTy Y c0) 7 5 2)) cx.1 cx.2.1 cx.2.2.2.2 iw_X6_type_X5 cx.2.2.2.1 hK hP 3 rfl rfl 1 (by decide) (va_Nw.use rfl (hN.at 11 rfl)) (fun _ h9 => h9) rfl dX6_type_26 ?_
    exact WR.ret (x := (yTy Y c0) 7 5 2) cx hr hlocks dX6_type_29 (by first | (simp [yType, h60]; done) | (simp only [yType, h60, if_false, ↓reduceIte]; rfl)) (by simp only [yType, h60, if_true, if_false, ↓reduceIte]; exact hP) hS
  · have h60 : 60 ≤ yt Y := of_decide_eq_true c_1
    refine lv_sipush (v := (-1003)) cx.1 cx.2.1 dX6_type_10 (by decide) ?_
    exact WR.ret (x := (-1003)) cx hr hlocks dX6_type_13 (by first | (simp [yType, h60]; done) | (simp only [yType, h60, if_false, ↓reduceIte]; rfl)) (by simp only [yType, h60, if_true, if_false, ↓reduceIte]; exact hP) hS

theorem iw_X6_clearText_X6 : ∀ w ∈ wsX60, w ∈ wsX6_clearText := fun _ h => List.mem_cons_of_mem _ (List.mem_append_left _ (List.mem_append_right _ h))
theorem fw_X6_clearText_f29 : (Cond.fieldLink RX6 29 "NamePlate" "text" "LNamePlate$Text;") ∈ wsX6_clearText := List.mem_of_getElem? (i := 1) rfl
theorem iw_X6_clearText_X5 : ∀ w ∈ wsX50, w ∈ wsX6_clearText := fun _ h => List.mem_cons_of_mem _ (List.mem_append_right _ h)
set_option maxHeartbeats 4000000 in
set_option maxRecDepth 100000 in
theorem c_X6_clearText (l : Launch) (G : GG) (a : Nat → Nat) (AD : Nat → Nat → Nat) (Y : Nat → XS)   : WR l yX6_clearText wsX6_clearText 0 0 G (plC G a AD Y) [.ref (a 0)] (some (.int ((yClear Y).1))) (plC G a AD ((yClear Y).2)) := by
  refine WR.start (cc := cX6_clearText) (maxL := 2) (ret := (some .int)) (by decide) rfl (Nat.le_of_ble_eq_true rfl) ?_
  intro p e s m below meth c ls cx hr hlocks hK hN hP hD hS hl
  have cx : CallFix p m c cX6_clearText 2 s [.ref (a 0)].toArray wsX6_clearText RX6 := cx
  have hl : lv_has ls 2 [(0, .ref (a 0))] := hl
  refine lv_aload_n cx.1 cx.2.1 dX6_clearText_0 rfl (lv_at hl 0 rfl) ?_
  refine va_get (ci := 5) (C := RX6) (T := TX6) (N := 5) (v := .ref (a 3)) cx.1 cx.2.1 cx.2.2.2.2 iw_X6_clearText_X6 cx.2.2.2.1 hK hP 0 rfl rfl 3 (by decide) (cx.2.2.2.2 _ fw_X6_clearText_f29) (fun _ h9 => h9) rfl dX6_clearText_1 ?_
  refine va_getN (ci := 4) (C := RX5) (T := TX5) (N := 2) (v := .int (Y 7 5 2)) cx.1 cx.2.1 cx.2.2.2.2 iw_X6_clearText_X5 cx.2.2.2.1 hK hP 3 rfl rfl 1 (by decide) (va_Nw.use rfl (hN.at 11 rfl)) (fun _ h9 => h9) rfl dX6_clearText_4 ?_
  refine lv_istore_n (lv' := [(1, .int (Y 7 5 2)), (0, .ref (a 0))]) cx.1 cx.2.1 dX6_clearText_7 rfl hl (by decide) rfl (fun ls hl => ?_)
  refine lv_aload_n cx.1 cx.2.1 dX6_clearText_8 rfl (lv_at hl 1 rfl) ?_
  refine va_get (ci := 5) (C := RX6) (T := TX6) (N := 5) (v := .ref (a 3)) cx.1 cx.2.1 cx.2.2.2.2 iw_X6_clearText_X6 cx.2.2.2.1 hK hP 0 rfl rfl 3 (by decide) (cx.2.2.2.2 _ fw_X6_clearText_f29) (fun _ h9 => h9) rfl dX6_clearText_9 ?_
  refine lv_iconst (v := nI 0) cx.1 cx.2.1 dX6_clearText_12 (by decide) ?_
  refine va_putN (ci := 4) (v := .int (nI 0)) (ty := .int) (C := RX5) (T := TX5) (N := 2) cx.1 cx.2.1 cx.2.2.2.2 iw_X6_clearText_X5 tyX5 tyX5_ok nmX5 cx.2.2.2.1 hK hP hD hS 3 rfl rfl 1 (by decide) (va_Nw.use rfl (hN.at 11 rfl)) (fun _ h9 => h9) rfl (by decide +kernel) rfl rfl (Nat.le_of_ble_eq_true rfl) dX6_clearText_13 (fun H locs hP hD hS => ?_)
  have hP : va_P G.1 vwCl (plC G a AD (va_up Y 7 (va_up (Y 7) 5 (upd (Y 7 5) 2 0)))) H := hP
  have hD : va_D (wA (plC G a AD Y)) (plC G a AD (va_up Y 7 (va_up (Y 7) 5 (upd (Y 7 5) 2 0)))) := hD
  refine lv_iload_n cx.1 cx.2.1 dX6_clearText_16 rfl (lv_at hl 0 rfl) ?_
  exact WR.ret (x := Y 7 5 2) cx hr hlocks dX6_clearText_17 rfl hP hS

theorem iw_X6_remove_X6 : ∀ w ∈ wsX60, w ∈ wsX6_remove := fun _ h => List.mem_cons_of_mem _ (List.mem_append_left _ (List.mem_append_left _ (List.mem_append_left _ (List.mem_append_left _ (List.mem_append_right _ h)))))
theorem fw_X6_remove_f10 : (Cond.fieldLink RX6 10 "NamePlate" "now" "LNamePlate$State;") ∈ wsX6_remove := List.mem_of_getElem? (i := 1) rfl
theorem iw_X6_remove_X4 : ∀ w ∈ wsX40, w ∈ wsX6_remove := fun _ h => List.mem_cons_of_mem _ (List.mem_append_left _ (List.mem_append_left _ (List.mem_append_left _ (List.mem_append_right _ h))))
theorem fw_X6_remove_f22 : (Cond.fieldLink RX6 22 "NamePlate" "history" "LNamePlate$History;") ∈ wsX6_remove := List.mem_of_getElem? (i := 2) rfl
theorem iw_X6_remove_X1 : ∀ w ∈ wsX10, w ∈ wsX6_remove := fun _ h => List.mem_cons_of_mem _ (List.mem_append_left _ (List.mem_append_left _ (List.mem_append_right _ h)))
set_option maxHeartbeats 4000000 in
set_option maxRecDepth 100000 in
theorem c_X6_remove (l : Launch) (G : GG) (a : Nat → Nat) (AD : Nat → Nat → Nat) (Y : Nat → XS) (seat : Int32) (hoh : okH Y) (hall : ∀ i, i < 7 → okX (Y i)) : WR l yX6_remove wsX6_remove 4 82 G (plC G a AD Y) [.ref (a 0), .int seat] (some (.int ((yRemove Y seat).1))) (plC G a AD ((yRemove Y seat).2)) := by
  refine WR.start (cc := cX6_remove) (maxL := 2) (ret := (some .int)) (by decide) rfl (Nat.le_of_ble_eq_true rfl) ?_
  intro p e s m below meth c ls cx hr hlocks hK hN hP hD hS hl
  have cx : CallFix p m c cX6_remove 2 s [.ref (a 0), .int seat].toArray wsX6_remove RX6 := cx
  have hl : lv_has ls 2 [(0, .ref (a 0)), (1, .int seat)] := hl
  have hok := hall 5 (by decide)
  refine lv_aload_n cx.1 cx.2.1 dX6_remove_0 rfl (lv_at hl 0 rfl) ?_
  refine va_get (ci := 5) (C := RX6) (T := TX6) (N := 5) (v := .ref (AD 5 0)) cx.1 cx.2.1 cx.2.2.2.2 iw_X6_remove_X6 cx.2.2.2.1 hK hP 0 rfl rfl 0 (by decide) (cx.2.2.2.2 _ fw_X6_remove_f10) (fun _ h9 => h9) rfl dX6_remove_1 ?_
  have hP5 : va_P G.1 vwCl (stC G (AD 5) (Y 5)) s.heap := pl_st (Y := Y) hP (by decide)
  refine va_getN (ci := 3) (C := RX4) (T := TX4) (N := 10) (v := .ref (AD 5 1)) cx.1 cx.2.1 cx.2.2.2.2 iw_X6_remove_X4 cx.2.2.2.1 hK hP5 0 rfl rfl 0 (by decide) (va_Nw.use rfl (hN.at 0 rfl)) (fun _ h9 => h9) rfl dX6_remove_4 ?_
  refine lv_iload_n cx.1 cx.2.1 dX6_remove_7 rfl (lv_at hl 1 rfl) ?_
  refine RO.callV (As := [.int seat]) (rest := []) cx (c_X1_isTaken l G (AD 5) (Y 5) seat hok) gX6_remove_X1_isTaken rfl hd_X1_isTaken ⟨Nat.le_of_ble_eq_true rfl, Nat.le_of_ble_eq_true rfl⟩ (va_recv hK hP5 (ci := 1) (q0 := 1) rfl rfl) hK hN hP5 rfl hl.1 rfl (Nat.le_of_ble_eq_true rfl) dX6_remove_8 ⟨Nat.zero_le _, Nat.zero_le _⟩ ?_
  refine nv_ifnz (b := xTk (xn (Y 5)) seat) (tgt := 18) cx dX6_remove_11 (by decide) (fun c_1 => ?_) (fun c_1 => ?_)
  · obtain ⟨k, hk, rfl⟩ := xTk_of (Nat.lt_of_le_of_lt hok.n20 (by decide)) c_1
    have hn20 := hok.n20
    have ck := nI_clamp (show k < 2147483648 by omega)
    have tk := xTk_in hn20 hk
    refine lv_aload_n cx.1 cx.2.1 dX6_remove_18 rfl (lv_at hl 0 rfl) ?_
    refine va_get (ci := 5) (C := RX6) (T := TX6) (N := 5) (v := .ref (AD 5 0)) cx.1 cx.2.1 cx.2.2.2.2 iw_X6_remove_X6 cx.2.2.2.1 hK hP 0 rfl rfl 0 (by decide) (cx.2.2.2.2 _ fw_X6_remove_f10) (fun _ h9 => h9) rfl dX6_remove_19 ?_
    refine lv_iload_n cx.1 cx.2.1 dX6_remove_22 rfl (lv_at hl 1 rfl) ?_
    refine RO.callV (As := [.int (nI k)]) (rest := []) cx (c_X4_isEngravedFrom l G (AD 5) (Y 5) k) gX6_remove_X4_isEngravedFrom rfl hd_X4_isEngravedFrom ⟨Nat.le_of_ble_eq_true rfl, Nat.le_of_ble_eq_true rfl⟩ (va_recv hK hP5 (ci := 3) (q0 := 0) rfl rfl) hK hN hP5 rfl hl.1 rfl (Nat.le_of_ble_eq_true rfl) dX6_remove_23 ⟨Nat.zero_le _, Nat.zero_le _⟩ ?_
    refine nv_ifz (b := xEf (Y 5) k) (tgt := 33) cx dX6_remove_26 (by decide) (fun c_2 => ?_) (fun c_2 => ?_)
    · refine lv_aload_n cx.1 cx.2.1 dX6_remove_33 rfl (lv_at hl 0 rfl) ?_
      refine va_get (ci := 5) (C := RX6) (T := TX6) (N := 5) (v := .ref (a 1)) cx.1 cx.2.1 cx.2.2.2.2 iw_X6_remove_X6 cx.2.2.2.1 hK hP 0 rfl rfl 2 (by decide) (cx.2.2.2.2 _ fw_X6_remove_f22) (fun _ h9 => h9) rfl dX6_remove_34 ?_
      refine lv_aload_n cx.1 cx.2.1 dX6_remove_37 rfl (lv_at hl 0 rfl) ?_
      refine va_get (ci := 5) (C := RX6) (T := TX6) (N := 5) (v := .ref (AD 5 0)) cx.1 cx.2.1 cx.2.2.2.2 iw_X6_remove_X6 cx.2.2.2.1 hK hP 0 rfl rfl 0 (by decide) (cx.2.2.2.2 _ fw_X6_remove_f10) (fun _ h9 => h9) rfl dX6_remove_38 ?_
      refine WR.callV (As := [.ref (AD 5 0)]) (rest := []) cx (c_X0_record l G a AD Y hoh hok) gX6_remove_X0_record rfl hd_X0_record ⟨Nat.le_of_ble_eq_true rfl, Nat.le_of_ble_eq_true rfl⟩ (va_recv hK hP (ci := 0) (q0 := 1) rfl rfl) hK hN hP hD hS (fun _ h => pl_wA0 h) rfl hl.1 rfl (Nat.le_of_ble_eq_true rfl) dX6_remove_41 ⟨Nat.zero_le _, Nat.zero_le _⟩ (fun H1 locs hP1 hk1 hS => ?_)
      have hP : va_P G.1 vwCl (plC G a AD (yRec Y)) H1 := hP1
      have hD : va_D (wA (plC G a AD Y)) (plC G a AD (yRec Y)) := pl_Dput hD
      generalize H1 = H at hP hS ⊢
      clear hP1 hk1
      refine lv_aload_n cx.1 cx.2.1 dX6_remove_44 rfl (lv_at hl 0 rfl) ?_
      refine va_get (ci := 5) (C := RX6) (T := TX6) (N := 5) (v := .ref (AD 5 0)) cx.1 cx.2.1 cx.2.2.2.2 iw_X6_remove_X6 cx.2.2.2.1 hK hP 0 rfl rfl 0 (by decide) (cx.2.2.2.2 _ fw_X6_remove_f10) (fun _ h9 => h9) rfl dX6_remove_45 ?_
      have hP5 : va_P G.1 vwCl (stC G (AD 5) (Y 5)) H := pl_st (Y := yRec Y) hP (by decide)
      refine va_getN (ci := 3) (C := RX4) (T := TX4) (N := 10) (v := .ref (AD 5 1)) cx.1 cx.2.1 cx.2.2.2.2 iw_X6_remove_X4 cx.2.2.2.1 hK hP5 0 rfl rfl 0 (by decide) (va_Nw.use rfl (hN.at 0 rfl)) (fun _ h9 => h9) rfl dX6_remove_48 ?_
      refine lv_iload_n cx.1 cx.2.1 dX6_remove_51 rfl (lv_at hl 1 rfl) ?_
      refine WR.callV (As := [.int (nI k)]) (rest := []) cx (c_X1_takeOut l G (AD 5) (Y 5) k hok (by omega)) gX6_remove_X1_takeOut rfl hd_X1_takeOut ⟨Nat.le_of_ble_eq_true rfl, Nat.le_of_ble_eq_true rfl⟩ (va_recv hK hP5 (ci := 1) (q0 := 1) rfl rfl) hK hN hP5 (pl_Dx hD (by decide)) hS (fun _ h => pl_wAx (by decide) h) rfl hl.1 rfl (Nat.le_of_ble_eq_true rfl) dX6_remove_52 ⟨Nat.zero_le _, Nat.zero_le _⟩ (fun H1 locs hP1 hk1 hS => ?_)
      have hP : va_P G.1 vwCl (plC G a AD (va_up (yRec Y) 5 (xTo (Y 5) k))) H1 := pl_put hP hD (by decide) hk1 hP1
      have hD : va_D (wA (plC G a AD Y)) (plC G a AD (va_up (yRec Y) 5 (xTo (Y 5) k))) := pl_Dput hD
      generalize H1 = H at hP hS ⊢
      clear hP1 hk1
      refine lv_aload_n cx.1 cx.2.1 dX6_remove_55 rfl (lv_at hl 0 rfl) ?_
      refine va_get (ci := 5) (C := RX6) (T := TX6) (N := 5) (v := .ref (AD 5 0)) cx.1 cx.2.1 cx.2.2.2.2 iw_X6_remove_X6 cx.2.2.2.1 hK hP 0 rfl rfl 0 (by decide) (cx.2.2.2.2 _ fw_X6_remove_f10) (fun _ h9 => h9) rfl dX6_remove_56 ?_
      have hP5 : va_P G.1 vwCl (stC G (AD 5) (xTo (Y 5) k)) H := pl_st (Y := va_up (yRec Y) 5 (xTo (Y 5) k)) hP (by decide)
      refine va_getN (ci := 3) (C := RX4) (T := TX4) (N := 10) (v := .ref (AD 5 1)) cx.1 cx.2.1 cx.2.2.2.2 iw_X6_remove_X4 cx.2.2.2.1 hK hP5 0 rfl rfl 0 (by decide) (va_Nw.use rfl (hN.at 0 rfl)) (fun _ h9 => h9) rfl dX6_remove_59 ?_
      refine va_getN (ci := 1) (C := RX1) (T := TX1) (N := 3) (v := .int ((xTo (Y 5) k) 5 0)) cx.1 cx.2.1 cx.2.2.2.2 iw_X6_remove_X1 cx.2.2.2.1 hK hP5 1 rfl rfl 2 (by decide) (va_Nw.use rfl (hN.at 1 rfl)) (fun _ h9 => h9) rfl dX6_remove_62 ?_
      refine nv_eqi (y := nI (xn (Y 5) - 1)) rfl ?_
      exact WR.ret (x := nI (xn (Y 5) - 1)) cx hr hlocks dX6_remove_65 (by simp [yRemove, ck, tk, c_1, c_2]) (by simp only [yRemove, ck, tk, c_1, c_2, if_true, if_false, ↓reduceIte, Bool.false_eq_true, Bool.true_eq_false]; exact hP) hS
    · refine lv_sipush (v := (-1004)) cx.1 cx.2.1 dX6_remove_29 (by decide) ?_
      exact WR.ret (x := (-1004)) cx hr hlocks dX6_remove_32 (by simp [yRemove, ck, tk, c_1, c_2]) (by simp only [yRemove, ck, tk, c_1, c_2, if_true, if_false, ↓reduceIte, Bool.false_eq_true, Bool.true_eq_false]; exact hP) hS
  · refine lv_sipush (v := (-1001)) cx.1 cx.2.1 dX6_remove_14 (by decide) ?_
    exact WR.ret (x := (-1001)) cx hr hlocks dX6_remove_17 (by simp [yRemove, c_1]) (by simp only [yRemove, c_1, if_true, ↓reduceIte]; exact hP) hS

theorem iw_X6_swap_X6 : ∀ w ∈ wsX60, w ∈ wsX6_swap := fun _ h => List.mem_cons_of_mem _ (List.mem_append_left _ (List.mem_append_left _ (List.mem_append_left _ (List.mem_append_left _ (List.mem_append_right _ h)))))
theorem fw_X6_swap_f10 : (Cond.fieldLink RX6 10 "NamePlate" "now" "LNamePlate$State;") ∈ wsX6_swap := List.mem_of_getElem? (i := 1) rfl
theorem iw_X6_swap_X4 : ∀ w ∈ wsX40, w ∈ wsX6_swap := fun _ h => List.mem_cons_of_mem _ (List.mem_append_left _ (List.mem_append_left _ (List.mem_append_left _ (List.mem_append_right _ h))))
theorem fw_X6_swap_f22 : (Cond.fieldLink RX6 22 "NamePlate" "history" "LNamePlate$History;") ∈ wsX6_swap := List.mem_of_getElem? (i := 2) rfl
set_option maxHeartbeats 4000000 in
set_option maxRecDepth 100000 in
theorem c_X6_swap (l : Launch) (G : GG) (a : Nat → Nat) (AD : Nat → Nat → Nat) (Y : Nat → XS) (seat : Int32) (other : Int32) (hoh : okH Y) (hall : ∀ i, i < 7 → okX (Y i)) : WR l yX6_swap wsX6_swap 6 136 G (plC G a AD Y) [.ref (a 0), .int seat, .int other] (some (.int ((ySwap Y seat other).1))) (plC G a AD ((ySwap Y seat other).2)) := by
  refine WR.start (cc := cX6_swap) (maxL := 3) (ret := (some .int)) (by decide) rfl (Nat.le_of_ble_eq_true rfl) ?_
  intro p e s m below meth c ls cx hr hlocks hK hN hP hD hS hl
  have cx : CallFix p m c cX6_swap 3 s [.ref (a 0), .int seat, .int other].toArray wsX6_swap RX6 := cx
  have hl : lv_has ls 3 [(0, .ref (a 0)), (1, .int seat), (2, .int other)] := hl
  have hok := hall 5 (by decide)
  refine lv_aload_n cx.1 cx.2.1 dX6_swap_0 rfl (lv_at hl 0 rfl) ?_
  refine va_get (ci := 5) (C := RX6) (T := TX6) (N := 5) (v := .ref (AD 5 0)) cx.1 cx.2.1 cx.2.2.2.2 iw_X6_swap_X6 cx.2.2.2.1 hK hP 0 rfl rfl 0 (by decide) (cx.2.2.2.2 _ fw_X6_swap_f10) (fun _ h9 => h9) rfl dX6_swap_1 ?_
  have hP5 : va_P G.1 vwCl (stC G (AD 5) (Y 5)) s.heap := pl_st (Y := Y) hP (by decide)
  refine va_getN (ci := 3) (C := RX4) (T := TX4) (N := 10) (v := .ref (AD 5 1)) cx.1 cx.2.1 cx.2.2.2.2 iw_X6_swap_X4 cx.2.2.2.1 hK hP5 0 rfl rfl 0 (by decide) (va_Nw.use rfl (hN.at 0 rfl)) (fun _ h9 => h9) rfl dX6_swap_4 ?_
  refine lv_iload_n cx.1 cx.2.1 dX6_swap_7 rfl (lv_at hl 1 rfl) ?_
  refine RO.callV (As := [.int seat]) (rest := []) cx (c_X1_isTaken l G (AD 5) (Y 5) seat hok) gX6_swap_X1_isTaken rfl hd_X1_isTaken ⟨Nat.le_of_ble_eq_true rfl, Nat.le_of_ble_eq_true rfl⟩ (va_recv hK hP5 (ci := 1) (q0 := 1) rfl rfl) hK hN hP5 rfl hl.1 rfl (Nat.le_of_ble_eq_true rfl) dX6_swap_8 ⟨Nat.zero_le _, Nat.zero_le _⟩ ?_
  refine nv_ifz (b := xTk (xn (Y 5)) seat) (tgt := 28) cx dX6_swap_11 (by decide) (fun c_1 => ?_) (fun c_1 => ?_)
  · refine lv_sipush (v := (-1001)) cx.1 cx.2.1 dX6_swap_28 (by decide) ?_
    exact WR.ret (x := (-1001)) cx hr hlocks dX6_swap_31 (by first | (simp [ySwap, c_1]; done) | simp [ySwap, ti, c_1]) (by first | (simp only [ySwap, c_1, true_or, if_true, ↓reduceIte]; exact hP) | (simp only [ySwap, c_1, or_true, if_true, ↓reduceIte]; exact hP)) hS
  · obtain ⟨i, hi, rfl⟩ := xTk_of (Nat.lt_of_le_of_lt hok.n20 (by decide)) c_1
    have hn20 := hok.n20
    have ci := nI_clamp (show i < 2147483648 by omega)
    have ti := xTk_in hn20 hi
    refine lv_aload_n cx.1 cx.2.1 dX6_swap_14 rfl (lv_at hl 0 rfl) ?_
    refine va_get (ci := 5) (C := RX6) (T := TX6) (N := 5) (v := .ref (AD 5 0)) cx.1 cx.2.1 cx.2.2.2.2 iw_X6_swap_X6 cx.2.2.2.1 hK hP 0 rfl rfl 0 (by decide) (cx.2.2.2.2 _ fw_X6_swap_f10) (fun _ h9 => h9) rfl dX6_swap_15 ?_
    refine va_getN (ci := 3) (C := RX4) (T := TX4) (N := 10) (v := .ref (AD 5 1)) cx.1 cx.2.1 cx.2.2.2.2 iw_X6_swap_X4 cx.2.2.2.1 hK hP5 0 rfl rfl 0 (by decide) (va_Nw.use rfl (hN.at 0 rfl)) (fun _ h9 => h9) rfl dX6_swap_18 ?_
    refine lv_iload_n cx.1 cx.2.1 dX6_swap_21 rfl (lv_at hl 2 rfl) ?_
    refine RO.callV (As := [.int other]) (rest := []) cx (c_X1_isTaken l G (AD 5) (Y 5) other hok) gX6_swap_X1_isTaken rfl hd_X1_isTaken ⟨Nat.le_of_ble_eq_true rfl, Nat.le_of_ble_eq_true rfl⟩ (va_recv hK hP5 (ci := 1) (q0 := 1) rfl rfl) hK hN hP5 rfl hl.1 rfl (Nat.le_of_ble_eq_true rfl) dX6_swap_22 ⟨Nat.zero_le _, Nat.zero_le _⟩ ?_
    refine nv_ifnz (b := xTk (xn (Y 5)) other) (tgt := 32) cx dX6_swap_25 (by decide) (fun c_2 => ?_) (fun c_2 => ?_)
    · obtain ⟨j, hj, rfl⟩ := xTk_of (Nat.lt_of_le_of_lt hok.n20 (by decide)) c_2
      have cj := nI_clamp (show j < 2147483648 by omega)
      have tj := xTk_in hn20 hj
      refine lv_aload_n cx.1 cx.2.1 dX6_swap_32 rfl (lv_at hl 0 rfl) ?_
      refine va_get (ci := 5) (C := RX6) (T := TX6) (N := 5) (v := .ref (AD 5 0)) cx.1 cx.2.1 cx.2.2.2.2 iw_X6_swap_X6 cx.2.2.2.1 hK hP 0 rfl rfl 0 (by decide) (cx.2.2.2.2 _ fw_X6_swap_f10) (fun _ h9 => h9) rfl dX6_swap_33 ?_
      refine lv_iload_n cx.1 cx.2.1 dX6_swap_36 rfl (lv_at hl 1 rfl) ?_
      refine RO.callV (As := [.int (nI i)]) (rest := []) cx (c_X4_isEngraved l G (AD 5) (Y 5) i) gX6_swap_X4_isEngraved rfl hd_X4_isEngraved ⟨Nat.le_of_ble_eq_true rfl, Nat.le_of_ble_eq_true rfl⟩ (va_recv hK hP5 (ci := 3) (q0 := 0) rfl rfl) hK hN hP5 rfl hl.1 rfl (Nat.le_of_ble_eq_true rfl) dX6_swap_37 ⟨Nat.zero_le _, Nat.zero_le _⟩ ?_
      refine nv_ifnz (b := xEb (Y 5) i) (tgt := 54) cx dX6_swap_40 (by decide) (fun c_3 => ?_) (fun c_3 => ?_)
      · refine lv_sipush (v := (-1004)) cx.1 cx.2.1 dX6_swap_54 (by decide) ?_
        exact WR.ret (x := (-1004)) cx hr hlocks dX6_swap_57 (by simp [ySwap, ySwapK, ci, cj, ti, tj, c_1, c_2, c_3]) (by simp only [ySwap, ySwapK, ci, cj, ti, tj, c_1, c_2, c_3, or_self, or_true, true_or, or_false, false_or, if_true, if_false, ↓reduceIte, Bool.false_eq_true, Bool.true_eq_false]; exact hP) hS
      · refine lv_aload_n cx.1 cx.2.1 dX6_swap_43 rfl (lv_at hl 0 rfl) ?_
        refine va_get (ci := 5) (C := RX6) (T := TX6) (N := 5) (v := .ref (AD 5 0)) cx.1 cx.2.1 cx.2.2.2.2 iw_X6_swap_X6 cx.2.2.2.1 hK hP 0 rfl rfl 0 (by decide) (cx.2.2.2.2 _ fw_X6_swap_f10) (fun _ h9 => h9) rfl dX6_swap_44 ?_
        refine lv_iload_n cx.1 cx.2.1 dX6_swap_47 rfl (lv_at hl 2 rfl) ?_
        refine RO.callV (As := [.int (nI j)]) (rest := []) cx (c_X4_isEngraved l G (AD 5) (Y 5) j) gX6_swap_X4_isEngraved rfl hd_X4_isEngraved ⟨Nat.le_of_ble_eq_true rfl, Nat.le_of_ble_eq_true rfl⟩ (va_recv hK hP5 (ci := 3) (q0 := 0) rfl rfl) hK hN hP5 rfl hl.1 rfl (Nat.le_of_ble_eq_true rfl) dX6_swap_48 ⟨Nat.zero_le _, Nat.zero_le _⟩ ?_
        refine nv_ifz (b := xEb (Y 5) j) (tgt := 58) cx dX6_swap_51 (by decide) (fun c_4 => ?_) (fun c_4 => ?_)
        · refine lv_iload_n cx.1 cx.2.1 dX6_swap_58 rfl (lv_at hl 1 rfl) ?_
          refine lv_iload_n cx.1 cx.2.1 dX6_swap_59 rfl (lv_at hl 2 rfl) ?_
          refine nv_icmp_ne (a := i) (b := j) (tgt := 67) cx dX6_swap_60 (by decide) (by omega) (by omega) (fun c_5 => ?_) (fun c_5 => ?_)
          · refine lv_aload_n cx.1 cx.2.1 dX6_swap_67 rfl (lv_at hl 0 rfl) ?_
            refine va_get (ci := 5) (C := RX6) (T := TX6) (N := 5) (v := .ref (a 1)) cx.1 cx.2.1 cx.2.2.2.2 iw_X6_swap_X6 cx.2.2.2.1 hK hP 0 rfl rfl 2 (by decide) (cx.2.2.2.2 _ fw_X6_swap_f22) (fun _ h9 => h9) rfl dX6_swap_68 ?_
            refine lv_aload_n cx.1 cx.2.1 dX6_swap_71 rfl (lv_at hl 0 rfl) ?_
            refine va_get (ci := 5) (C := RX6) (T := TX6) (N := 5) (v := .ref (AD 5 0)) cx.1 cx.2.1 cx.2.2.2.2 iw_X6_swap_X6 cx.2.2.2.1 hK hP 0 rfl rfl 0 (by decide) (cx.2.2.2.2 _ fw_X6_swap_f10) (fun _ h9 => h9) rfl dX6_swap_72 ?_
            refine WR.callV (As := [.ref (AD 5 0)]) (rest := []) cx (c_X0_record l G a AD Y hoh hok) gX6_swap_X0_record rfl hd_X0_record ⟨Nat.le_of_ble_eq_true rfl, Nat.le_of_ble_eq_true rfl⟩ (va_recv hK hP (ci := 0) (q0 := 1) rfl rfl) hK hN hP hD hS (fun _ h => pl_wA0 h) rfl hl.1 rfl (Nat.le_of_ble_eq_true rfl) dX6_swap_75 ⟨Nat.zero_le _, Nat.zero_le _⟩ (fun H1 locs hP1 hk1 hS => ?_)
            have hP : va_P G.1 vwCl (plC G a AD (yRec Y)) H1 := hP1
            have hD : va_D (wA (plC G a AD Y)) (plC G a AD (yRec Y)) := pl_Dput hD
            generalize H1 = H at hP hS ⊢
            clear hP1 hk1
            refine lv_aload_n cx.1 cx.2.1 dX6_swap_78 rfl (lv_at hl 0 rfl) ?_
            refine va_get (ci := 5) (C := RX6) (T := TX6) (N := 5) (v := .ref (AD 5 0)) cx.1 cx.2.1 cx.2.2.2.2 iw_X6_swap_X6 cx.2.2.2.1 hK hP 0 rfl rfl 0 (by decide) (cx.2.2.2.2 _ fw_X6_swap_f10) (fun _ h9 => h9) rfl dX6_swap_79 ?_
            have hP5 : va_P G.1 vwCl (stC G (AD 5) (Y 5)) H := pl_st (Y := yRec Y) hP (by decide)
            refine va_getN (ci := 3) (C := RX4) (T := TX4) (N := 10) (v := .ref (AD 5 1)) cx.1 cx.2.1 cx.2.2.2.2 iw_X6_swap_X4 cx.2.2.2.1 hK hP5 0 rfl rfl 0 (by decide) (va_Nw.use rfl (hN.at 0 rfl)) (fun _ h9 => h9) rfl dX6_swap_82 ?_
            refine lv_iload_n cx.1 cx.2.1 dX6_swap_85 rfl (lv_at hl 1 rfl) ?_
            refine lv_iload_n cx.1 cx.2.1 dX6_swap_86 rfl (lv_at hl 2 rfl) ?_
            refine WR.callV (As := [.int (nI i), .int (nI j)]) (rest := []) cx (c_X1_exchange l G (AD 5) (Y 5) i j hok (by omega) (by omega) (by assumption)) gX6_swap_X1_exchange rfl hd_X1_exchange ⟨Nat.le_of_ble_eq_true rfl, Nat.le_of_ble_eq_true rfl⟩ (va_recv hK hP5 (ci := 1) (q0 := 1) rfl rfl) hK hN hP5 (pl_Dx hD (by decide)) hS (fun _ h => pl_wAx (by decide) h) rfl hl.1 rfl (Nat.le_of_ble_eq_true rfl) dX6_swap_87 ⟨Nat.zero_le _, Nat.zero_le _⟩ (fun H1 locs hP1 hk1 hS => ?_)
            have hP : va_P G.1 vwCl (plC G a AD (va_up (yRec Y) 5 (xEx (Y 5) i j))) H1 := pl_put hP hD (by decide) hk1 hP1
            have hD : va_D (wA (plC G a AD Y)) (plC G a AD (va_up (yRec Y) 5 (xEx (Y 5) i j))) := pl_Dput hD
            generalize H1 = H at hP hS ⊢
            clear hP1 hk1
            refine lv_aload_n cx.1 cx.2.1 dX6_swap_90 rfl (lv_at hl 0 rfl) ?_
            refine va_get (ci := 5) (C := RX6) (T := TX6) (N := 5) (v := .ref (AD 5 0)) cx.1 cx.2.1 cx.2.2.2.2 iw_X6_swap_X6 cx.2.2.2.1 hK hP 0 rfl rfl 0 (by decide) (cx.2.2.2.2 _ fw_X6_swap_f10) (fun _ h9 => h9) rfl dX6_swap_91 ?_
            have hP5 : va_P G.1 vwCl (stC G (AD 5) (xEx (Y 5) i j)) H := pl_st (Y := va_up (yRec Y) 5 (xEx (Y 5) i j)) hP (by decide)
            refine RO.callV (As := []) (rest := []) cx (c_X4_sizeNow l G (AD 5) (xEx (Y 5) i j) (okX_ex hok (by omega) (by omega))) gX6_swap_X4_sizeNow rfl hd_X4_sizeNow ⟨Nat.le_of_ble_eq_true rfl, Nat.le_of_ble_eq_true rfl⟩ (va_recv hK hP5 (ci := 3) (q0 := 0) rfl rfl) hK hN hP5 rfl hl.1 rfl (Nat.le_of_ble_eq_true rfl) dX6_swap_94 ⟨Nat.zero_le _, Nat.zero_le _⟩ ?_
            exact WR.ret (x := xSize (xEx (Y 5) i j)) cx hr hlocks dX6_swap_97 (by simp [ySwap, ySwapK, ci, cj, ti, tj, c_1, c_2, c_3, c_4, c_5]) (by simp only [ySwap, ySwapK, ci, cj, ti, tj, c_1, c_2, c_3, c_4, c_5, or_self, or_true, true_or, or_false, false_or, if_true, if_false, ↓reduceIte, Bool.false_eq_true, Bool.true_eq_false]; exact hP) hS
          · refine lv_sipush (v := (-1005)) cx.1 cx.2.1 dX6_swap_63 (by decide) ?_
            exact WR.ret (x := (-1005)) cx hr hlocks dX6_swap_66 (by simp [ySwap, ySwapK, ci, cj, ti, tj, c_1, c_2, c_3, c_4, c_5]) (by simp only [ySwap, ySwapK, ci, cj, ti, tj, c_1, c_2, c_3, c_4, c_5, or_self, or_true, true_or, or_false, false_or, if_true, if_false, ↓reduceIte, Bool.false_eq_true, Bool.true_eq_false]; exact hP) hS
        · refine lv_sipush (v := (-1004)) cx.1 cx.2.1 dX6_swap_54 (by decide) ?_
          exact WR.ret (x := (-1004)) cx hr hlocks dX6_swap_57 (by simp [ySwap, ySwapK, ci, cj, ti, tj, c_1, c_2, c_3, c_4]) (by simp only [ySwap, ySwapK, ci, cj, ti, tj, c_1, c_2, c_3, c_4, or_self, or_true, true_or, or_false, false_or, if_true, if_false, ↓reduceIte, Bool.false_eq_true, Bool.true_eq_false]; exact hP) hS
    · refine lv_sipush (v := (-1001)) cx.1 cx.2.1 dX6_swap_28 (by decide) ?_
      exact WR.ret (x := (-1001)) cx hr hlocks dX6_swap_31 (by first | (simp [ySwap, c_1, c_2]; done) | simp [ySwap, ti, c_1, c_2]) (by first | (simp only [ySwap, c_1, c_2, true_or, if_true, ↓reduceIte]; exact hP) | (simp only [ySwap, c_1, c_2, or_true, if_true, ↓reduceIte]; exact hP)) hS

theorem iw_X6_engrave_X6 : ∀ w ∈ wsX60, w ∈ wsX6_engrave := fun _ h => List.mem_cons_of_mem _ (List.mem_append_left _ (List.mem_append_left _ (List.mem_append_left _ (List.mem_append_left _ (List.mem_append_right _ h)))))
theorem fw_X6_engrave_f10 : (Cond.fieldLink RX6 10 "NamePlate" "now" "LNamePlate$State;") ∈ wsX6_engrave := List.mem_of_getElem? (i := 1) rfl
theorem iw_X6_engrave_X4 : ∀ w ∈ wsX40, w ∈ wsX6_engrave := fun _ h => List.mem_cons_of_mem _ (List.mem_append_left _ (List.mem_append_left _ (List.mem_append_left _ (List.mem_append_right _ h))))
theorem fw_X6_engrave_f22 : (Cond.fieldLink RX6 22 "NamePlate" "history" "LNamePlate$History;") ∈ wsX6_engrave := List.mem_of_getElem? (i := 2) rfl
set_option maxHeartbeats 4000000 in
set_option maxRecDepth 100000 in
theorem c_X6_engrave (l : Launch) (G : GG) (a : Nat → Nat) (AD : Nat → Nat → Nat) (Y : Nat → XS) (seat : Int32) (hoh : okH Y) (hall : ∀ i, i < 7 → okX (Y i)) : WR l yX6_engrave wsX6_engrave 6 136 G (plC G a AD Y) [.ref (a 0), .int seat] (some (.int ((yEng Y seat).1))) (plC G a AD ((yEng Y seat).2)) := by
  refine WR.start (cc := cX6_engrave) (maxL := 3) (ret := (some .int)) (by decide) rfl (Nat.le_of_ble_eq_true rfl) ?_
  intro p e s m below meth c ls cx hr hlocks hK hN hP hD hS hl
  have cx : CallFix p m c cX6_engrave 3 s [.ref (a 0), .int seat].toArray wsX6_engrave RX6 := cx
  have hl : lv_has ls 3 [(0, .ref (a 0)), (1, .int seat)] := hl
  have hok := hall 5 (by decide)
  refine lv_aload_n cx.1 cx.2.1 dX6_engrave_0 rfl (lv_at hl 0 rfl) ?_
  refine va_get (ci := 5) (C := RX6) (T := TX6) (N := 5) (v := .ref (AD 5 0)) cx.1 cx.2.1 cx.2.2.2.2 iw_X6_engrave_X6 cx.2.2.2.1 hK hP 0 rfl rfl 0 (by decide) (cx.2.2.2.2 _ fw_X6_engrave_f10) (fun _ h9 => h9) rfl dX6_engrave_1 ?_
  have hP5 : va_P G.1 vwCl (stC G (AD 5) (Y 5)) s.heap := pl_st (Y := Y) hP (by decide)
  refine va_getN (ci := 3) (C := RX4) (T := TX4) (N := 10) (v := .ref (AD 5 1)) cx.1 cx.2.1 cx.2.2.2.2 iw_X6_engrave_X4 cx.2.2.2.1 hK hP5 0 rfl rfl 0 (by decide) (va_Nw.use rfl (hN.at 0 rfl)) (fun _ h9 => h9) rfl dX6_engrave_4 ?_
  refine lv_iload_n cx.1 cx.2.1 dX6_engrave_7 rfl (lv_at hl 1 rfl) ?_
  refine RO.callV (As := [.int seat]) (rest := []) cx (c_X1_isTaken l G (AD 5) (Y 5) seat hok) gX6_engrave_X1_isTaken rfl hd_X1_isTaken ⟨Nat.le_of_ble_eq_true rfl, Nat.le_of_ble_eq_true rfl⟩ (va_recv hK hP5 (ci := 1) (q0 := 1) rfl rfl) hK hN hP5 rfl hl.1 rfl (Nat.le_of_ble_eq_true rfl) dX6_engrave_8 ⟨Nat.zero_le _, Nat.zero_le _⟩ ?_
  refine nv_ifnz (b := xTk (xn (Y 5)) seat) (tgt := 18) cx dX6_engrave_11 (by decide) (fun c_1 => ?_) (fun c_1 => ?_)
  · obtain ⟨k, hk, rfl⟩ := xTk_of (Nat.lt_of_le_of_lt hok.n20 (by decide)) c_1
    have hn20 := hok.n20
    have ck := nI_clamp (show k < 2147483648 by omega)
    have tk := xTk_in hn20 hk
    refine lv_aload_n cx.1 cx.2.1 dX6_engrave_18 rfl (lv_at hl 0 rfl) ?_
    refine va_get (ci := 5) (C := RX6) (T := TX6) (N := 5) (v := .ref (AD 5 0)) cx.1 cx.2.1 cx.2.2.2.2 iw_X6_engrave_X6 cx.2.2.2.1 hK hP 0 rfl rfl 0 (by decide) (cx.2.2.2.2 _ fw_X6_engrave_f10) (fun _ h9 => h9) rfl dX6_engrave_19 ?_
    refine RO.callV (As := []) (rest := []) cx (c_X4_sizeNow l G (AD 5) (Y 5) hok) gX6_engrave_X4_sizeNow rfl hd_X4_sizeNow ⟨Nat.le_of_ble_eq_true rfl, Nat.le_of_ble_eq_true rfl⟩ (va_recv hK hP5 (ci := 3) (q0 := 0) rfl rfl) hK hN hP5 rfl hl.1 rfl (Nat.le_of_ble_eq_true rfl) dX6_engrave_22 ⟨Nat.zero_le _, Nat.zero_le _⟩ ?_
    refine lv_istore_n (lv' := [(2, .int (xSize (Y 5))), (0, .ref (a 0)), (1, .int (nI k))]) cx.1 cx.2.1 dX6_engrave_25 rfl hl (by decide) rfl (fun ls hl => ?_)
    refine lv_aload_n cx.1 cx.2.1 dX6_engrave_26 rfl (lv_at hl 1 rfl) ?_
    refine va_get (ci := 5) (C := RX6) (T := TX6) (N := 5) (v := .ref (AD 5 0)) cx.1 cx.2.1 cx.2.2.2.2 iw_X6_engrave_X6 cx.2.2.2.1 hK hP 0 rfl rfl 0 (by decide) (cx.2.2.2.2 _ fw_X6_engrave_f10) (fun _ h9 => h9) rfl dX6_engrave_27 ?_
    refine lv_iload_n cx.1 cx.2.1 dX6_engrave_30 rfl (lv_at hl 2 rfl) ?_
    refine lv_iload_n cx.1 cx.2.1 dX6_engrave_31 rfl (lv_at hl 0 rfl) ?_
    refine RO.callV (As := [.int (nI k), .int (xSize (Y 5))]) (rest := []) cx (c_X4_fits l G (AD 5) (Y 5) k (xSize (Y 5)) hok (by omega)) gX6_engrave_X4_fits rfl hd_X4_fits ⟨Nat.le_of_ble_eq_true rfl, Nat.le_of_ble_eq_true rfl⟩ (va_recv hK hP5 (ci := 3) (q0 := 0) rfl rfl) hK hN hP5 rfl hl.1 rfl (Nat.le_of_ble_eq_true rfl) dX6_engrave_32 ⟨Nat.zero_le _, Nat.zero_le _⟩ ?_
    refine nv_ifnz (b := xFits (Y 5) k (xSize (Y 5))) (tgt := 42) cx dX6_engrave_35 (by decide) (fun c_2 => ?_) (fun c_2 => ?_)
    · refine lv_aload_n cx.1 cx.2.1 dX6_engrave_42 rfl (lv_at hl 1 rfl) ?_
      refine va_get (ci := 5) (C := RX6) (T := TX6) (N := 5) (v := .ref (AD 5 0)) cx.1 cx.2.1 cx.2.2.2.2 iw_X6_engrave_X6 cx.2.2.2.1 hK hP 0 rfl rfl 0 (by decide) (cx.2.2.2.2 _ fw_X6_engrave_f10) (fun _ h9 => h9) rfl dX6_engrave_43 ?_
      refine lv_iload_n cx.1 cx.2.1 dX6_engrave_46 rfl (lv_at hl 2 rfl) ?_
      refine RO.callV (As := [.int (nI k)]) (rest := []) cx (c_X4_isEngraved l G (AD 5) (Y 5) k) gX6_engrave_X4_isEngraved rfl hd_X4_isEngraved ⟨Nat.le_of_ble_eq_true rfl, Nat.le_of_ble_eq_true rfl⟩ (va_recv hK hP5 (ci := 3) (q0 := 0) rfl rfl) hK hN hP5 rfl hl.1 rfl (Nat.le_of_ble_eq_true rfl) dX6_engrave_47 ⟨Nat.zero_le _, Nat.zero_le _⟩ ?_
      refine nv_ifz (b := xEb (Y 5) k) (tgt := 57) cx dX6_engrave_50 (by decide) (fun c_3 => ?_) (fun c_3 => ?_)
      · refine lv_aload_n cx.1 cx.2.1 dX6_engrave_57 rfl (lv_at hl 1 rfl) ?_
        refine va_get (ci := 5) (C := RX6) (T := TX6) (N := 5) (v := .ref (a 1)) cx.1 cx.2.1 cx.2.2.2.2 iw_X6_engrave_X6 cx.2.2.2.1 hK hP 0 rfl rfl 2 (by decide) (cx.2.2.2.2 _ fw_X6_engrave_f22) (fun _ h9 => h9) rfl dX6_engrave_58 ?_
        refine lv_aload_n cx.1 cx.2.1 dX6_engrave_61 rfl (lv_at hl 1 rfl) ?_
        refine va_get (ci := 5) (C := RX6) (T := TX6) (N := 5) (v := .ref (AD 5 0)) cx.1 cx.2.1 cx.2.2.2.2 iw_X6_engrave_X6 cx.2.2.2.1 hK hP 0 rfl rfl 0 (by decide) (cx.2.2.2.2 _ fw_X6_engrave_f10) (fun _ h9 => h9) rfl dX6_engrave_62 ?_
        refine WR.callV (As := [.ref (AD 5 0)]) (rest := []) cx (c_X0_record l G a AD Y hoh hok) gX6_engrave_X0_record rfl hd_X0_record ⟨Nat.le_of_ble_eq_true rfl, Nat.le_of_ble_eq_true rfl⟩ (va_recv hK hP (ci := 0) (q0 := 1) rfl rfl) hK hN hP hD hS (fun _ h => pl_wA0 h) rfl hl.1 rfl (Nat.le_of_ble_eq_true rfl) dX6_engrave_65 ⟨Nat.zero_le _, Nat.zero_le _⟩ (fun H1 locs hP1 hk1 hS => ?_)
        have hP : va_P G.1 vwCl (plC G a AD (yRec Y)) H1 := hP1
        have hD : va_D (wA (plC G a AD Y)) (plC G a AD (yRec Y)) := pl_Dput hD
        generalize H1 = H at hP hS ⊢
        clear hP1 hk1
        refine lv_aload_n cx.1 cx.2.1 dX6_engrave_68 rfl (lv_at hl 1 rfl) ?_
        refine va_get (ci := 5) (C := RX6) (T := TX6) (N := 5) (v := .ref (AD 5 0)) cx.1 cx.2.1 cx.2.2.2.2 iw_X6_engrave_X6 cx.2.2.2.1 hK hP 0 rfl rfl 0 (by decide) (cx.2.2.2.2 _ fw_X6_engrave_f10) (fun _ h9 => h9) rfl dX6_engrave_69 ?_
        refine lv_iconst (v := nI 1) cx.1 cx.2.1 dX6_engrave_72 (by decide) ?_
        refine lv_iload_n cx.1 cx.2.1 dX6_engrave_73 rfl (lv_at hl 2 rfl) ?_
        refine lv_ishl (x := 1) (y := nI k) cx.1 cx.2.1 dX6_engrave_74 ?_
        refine lv_iload_n cx.1 cx.2.1 dX6_engrave_75 rfl (lv_at hl 0 rfl) ?_
        have hP5 : va_P G.1 vwCl (stC G (AD 5) (Y 5)) H := pl_st (Y := yRec Y) hP (by decide)
        refine WR.callV (As := [.int (1 <<< ((nI k) &&& 31)), .int (xSize (Y 5))]) (rest := []) cx (c_X4_markEngraved l G (AD 5) (Y 5) (1 <<< ((nI k) &&& 31)) (xSize (Y 5))) gX6_engrave_X4_markEngraved rfl hd_X4_markEngraved ⟨Nat.le_of_ble_eq_true rfl, Nat.le_of_ble_eq_true rfl⟩ (va_recv hK hP5 (ci := 3) (q0 := 0) rfl rfl) hK hN hP5 (pl_Dx hD (by decide)) hS (fun _ h => pl_wAx (by decide) h) rfl hl.1 rfl (Nat.le_of_ble_eq_true rfl) dX6_engrave_76 ⟨Nat.zero_le _, Nat.zero_le _⟩ (fun H1 locs hP1 hk1 hS => ?_)
        have hP : va_P G.1 vwCl (plC G a AD (va_up (yRec Y) 5 (xMe (Y 5) (1 <<< ((nI k) &&& 31)) (xSize (Y 5))))) H1 := pl_put hP hD (by decide) hk1 hP1
        have hD : va_D (wA (plC G a AD Y)) (plC G a AD (va_up (yRec Y) 5 (xMe (Y 5) (1 <<< ((nI k) &&& 31)) (xSize (Y 5))))) := pl_Dput hD
        generalize H1 = H at hP hS ⊢
        clear hP1 hk1
        refine lv_aload_n cx.1 cx.2.1 dX6_engrave_79 rfl (lv_at hl 1 rfl) ?_
        refine va_get (ci := 5) (C := RX6) (T := TX6) (N := 5) (v := .ref (AD 5 0)) cx.1 cx.2.1 cx.2.2.2.2 iw_X6_engrave_X6 cx.2.2.2.1 hK hP 0 rfl rfl 0 (by decide) (cx.2.2.2.2 _ fw_X6_engrave_f10) (fun _ h9 => h9) rfl dX6_engrave_80 ?_
        refine lv_iload_n cx.1 cx.2.1 dX6_engrave_83 rfl (lv_at hl 2 rfl) ?_
        refine lv_iload_n cx.1 cx.2.1 dX6_engrave_84 rfl (lv_at hl 0 rfl) ?_
        have hP5 : va_P G.1 vwCl (stC G (AD 5) (xMe (Y 5) (1 <<< ((nI k) &&& 31)) (xSize (Y 5)))) H := pl_st (Y := va_up (yRec Y) 5 (xMe (Y 5) (1 <<< ((nI k) &&& 31)) (xSize (Y 5)))) hP (by decide)
        refine RO.callV (As := [.int (nI k), .int (xSize (Y 5))]) (rest := []) cx (c_X4_beginOf l G (AD 5) (xMe (Y 5) (1 <<< ((nI k) &&& 31)) (xSize (Y 5))) k (xSize (Y 5)) hok (by omega)) gX6_engrave_X4_beginOf rfl hd_X4_beginOf ⟨Nat.le_of_ble_eq_true rfl, Nat.le_of_ble_eq_true rfl⟩ (va_recv hK hP5 (ci := 3) (q0 := 0) rfl rfl) hK hN hP5 rfl hl.1 rfl (Nat.le_of_ble_eq_true rfl) dX6_engrave_85 ⟨Nat.zero_le _, Nat.zero_le _⟩ ?_
        exact WR.ret (x := xBeg (xMe (Y 5) (1 <<< ((nI k) &&& 31)) (xSize (Y 5))) k (xSize (Y 5))) cx hr hlocks dX6_engrave_88 (by simp [yEng, yEngK, ck, tk, c_1, c_2, c_3]) (by simp only [yEng, yEngK, ck, tk, c_1, c_2, c_3, if_true, if_false, ↓reduceIte, Bool.false_eq_true, Bool.true_eq_false]; exact hP) hS
      · refine lv_sipush (v := (-1005)) cx.1 cx.2.1 dX6_engrave_53 (by decide) ?_
        exact WR.ret (x := (-1005)) cx hr hlocks dX6_engrave_56 (by simp [yEng, yEngK, ck, tk, c_1, c_2, c_3]) (by simp only [yEng, yEngK, ck, tk, c_1, c_2, c_3, if_true, if_false, ↓reduceIte, Bool.false_eq_true, Bool.true_eq_false]; exact hP) hS
    · refine lv_sipush (v := (-1004)) cx.1 cx.2.1 dX6_engrave_38 (by decide) ?_
      exact WR.ret (x := (-1004)) cx hr hlocks dX6_engrave_41 (by simp [yEng, yEngK, ck, tk, c_1, c_2]) (by simp only [yEng, yEngK, ck, tk, c_1, c_2, if_true, if_false, ↓reduceIte, Bool.false_eq_true, Bool.true_eq_false]; exact hP) hS
  · refine lv_sipush (v := (-1001)) cx.1 cx.2.1 dX6_engrave_14 (by decide) ?_
    exact WR.ret (x := (-1001)) cx hr hlocks dX6_engrave_17 (by simp [yEng, c_1]) (by simp only [yEng, c_1, if_true, ↓reduceIte]; exact hP) hS

theorem iw_X6_engraveAll_X6 : ∀ w ∈ wsX60, w ∈ wsX6_engraveAll := fun _ h => List.mem_cons_of_mem _ (List.mem_append_left _ (List.mem_append_left _ (List.mem_append_left _ (List.mem_append_left _ (List.mem_append_right _ h)))))
theorem fw_X6_engraveAll_f10 : (Cond.fieldLink RX6 10 "NamePlate" "now" "LNamePlate$State;") ∈ wsX6_engraveAll := List.mem_of_getElem? (i := 1) rfl
theorem fw_X6_engraveAll_f22 : (Cond.fieldLink RX6 22 "NamePlate" "history" "LNamePlate$History;") ∈ wsX6_engraveAll := List.mem_of_getElem? (i := 2) rfl
set_option maxHeartbeats 4000000 in
set_option maxRecDepth 100000 in
theorem c_X6_engraveAll (l : Launch) (G : GG) (a : Nat → Nat) (AD : Nat → Nat → Nat) (Y : Nat → XS)  (hoh : okH Y) (hall : ∀ i, i < 7 → okX (Y i)) : WR l yX6_engraveAll wsX6_engraveAll 6 138 G (plC G a AD Y) [.ref (a 0)] (some (.int ((yEngA Y).1))) (plC G a AD ((yEngA Y).2)) := by
  refine WR.start (cc := cX6_engraveAll) (maxL := 3) (ret := (some .int)) (by decide) rfl (Nat.le_of_ble_eq_true rfl) ?_
  intro p e s m below meth c ls cx hr hlocks hK hN hP hD hS hl
  have cx : CallFix p m c cX6_engraveAll 3 s [.ref (a 0)].toArray wsX6_engraveAll RX6 := cx
  have hl : lv_has ls 3 [(0, .ref (a 0))] := hl
  have hok := hall 5 (by decide)
  refine lv_aload_n cx.1 cx.2.1 dX6_engraveAll_0 rfl (lv_at hl 0 rfl) ?_
  refine va_get (ci := 5) (C := RX6) (T := TX6) (N := 5) (v := .ref (AD 5 0)) cx.1 cx.2.1 cx.2.2.2.2 iw_X6_engraveAll_X6 cx.2.2.2.1 hK hP 0 rfl rfl 0 (by decide) (cx.2.2.2.2 _ fw_X6_engraveAll_f10) (fun _ h9 => h9) rfl dX6_engraveAll_1 ?_
  have hP5 : va_P G.1 vwCl (stC G (AD 5) (Y 5)) s.heap := pl_st (Y := Y) hP (by decide)
  refine RO.callV (As := []) (rest := []) cx (c_X4_sizeNow l G (AD 5) (Y 5) hok) gX6_engraveAll_X4_sizeNow rfl hd_X4_sizeNow ⟨Nat.le_of_ble_eq_true rfl, Nat.le_of_ble_eq_true rfl⟩ (va_recv hK hP5 (ci := 3) (q0 := 0) rfl rfl) hK hN hP5 rfl hl.1 rfl (Nat.le_of_ble_eq_true rfl) dX6_engraveAll_4 ⟨Nat.zero_le _, Nat.zero_le _⟩ ?_
  refine lv_istore_n (lv' := [(1, .int (xSize (Y 5))), (0, .ref (a 0))]) cx.1 cx.2.1 dX6_engraveAll_7 rfl hl (by decide) rfl (fun ls hl => ?_)
  refine lv_aload_n cx.1 cx.2.1 dX6_engraveAll_8 rfl (lv_at hl 1 rfl) ?_
  refine va_get (ci := 5) (C := RX6) (T := TX6) (N := 5) (v := .ref (AD 5 0)) cx.1 cx.2.1 cx.2.2.2.2 iw_X6_engraveAll_X6 cx.2.2.2.1 hK hP 0 rfl rfl 0 (by decide) (cx.2.2.2.2 _ fw_X6_engraveAll_f10) (fun _ h9 => h9) rfl dX6_engraveAll_9 ?_
  refine lv_iload_n cx.1 cx.2.1 dX6_engraveAll_12 rfl (lv_at hl 0 rfl) ?_
  refine RO.callV (As := [.int (xSize (Y 5))]) (rest := []) cx (c_X4_engravableSeats l G (AD 5) (Y 5) (xSize (Y 5)) hok) gX6_engraveAll_X4_engravableSeats rfl hd_X4_engravableSeats ⟨Nat.le_of_ble_eq_true rfl, Nat.le_of_ble_eq_true rfl⟩ (va_recv hK hP5 (ci := 3) (q0 := 0) rfl rfl) hK hN hP5 rfl hl.1 rfl (Nat.le_of_ble_eq_true rfl) dX6_engraveAll_13 ⟨Nat.zero_le _, Nat.zero_le _⟩ ?_
  refine lv_istore_n (lv' := [(2, .int (xEs (Y 5) (xSize (Y 5)) (xn (Y 5)))), (1, .int (xSize (Y 5))), (0, .ref (a 0))]) cx.1 cx.2.1 dX6_engraveAll_16 rfl hl (by decide) rfl (fun ls hl => ?_)
  refine lv_iload_n cx.1 cx.2.1 dX6_engraveAll_17 rfl (lv_at hl 0 rfl) ?_
  refine lv_if_ne (x := xEs (Y 5) (xSize (Y 5)) (xn (Y 5))) (tgt := 25) cx.1 cx.2.1 dX6_engraveAll_18 (by decide) (fun c_1 => ?_) (fun c_1 => ?_)
  · refine lv_aload_n cx.1 cx.2.1 dX6_engraveAll_25 rfl (lv_at hl 2 rfl) ?_
    refine va_get (ci := 5) (C := RX6) (T := TX6) (N := 5) (v := .ref (a 1)) cx.1 cx.2.1 cx.2.2.2.2 iw_X6_engraveAll_X6 cx.2.2.2.1 hK hP 0 rfl rfl 2 (by decide) (cx.2.2.2.2 _ fw_X6_engraveAll_f22) (fun _ h9 => h9) rfl dX6_engraveAll_26 ?_
    refine lv_aload_n cx.1 cx.2.1 dX6_engraveAll_29 rfl (lv_at hl 2 rfl) ?_
    refine va_get (ci := 5) (C := RX6) (T := TX6) (N := 5) (v := .ref (AD 5 0)) cx.1 cx.2.1 cx.2.2.2.2 iw_X6_engraveAll_X6 cx.2.2.2.1 hK hP 0 rfl rfl 0 (by decide) (cx.2.2.2.2 _ fw_X6_engraveAll_f10) (fun _ h9 => h9) rfl dX6_engraveAll_30 ?_
    refine WR.callV (As := [.ref (AD 5 0)]) (rest := []) cx (c_X0_record l G a AD Y hoh hok) gX6_engraveAll_X0_record rfl hd_X0_record ⟨Nat.le_of_ble_eq_true rfl, Nat.le_of_ble_eq_true rfl⟩ (va_recv hK hP (ci := 0) (q0 := 1) rfl rfl) hK hN hP hD hS (fun _ h => pl_wA0 h) rfl hl.1 rfl (Nat.le_of_ble_eq_true rfl) dX6_engraveAll_33 ⟨Nat.zero_le _, Nat.zero_le _⟩ (fun H1 locs hP1 hk1 hS => ?_)
    have hP : va_P G.1 vwCl (plC G a AD (yRec Y)) H1 := hP1
    have hD : va_D (wA (plC G a AD Y)) (plC G a AD (yRec Y)) := pl_Dput hD
    generalize H1 = H at hP hS ⊢
    clear hP1 hk1
    refine lv_aload_n cx.1 cx.2.1 dX6_engraveAll_36 rfl (lv_at hl 2 rfl) ?_
    refine va_get (ci := 5) (C := RX6) (T := TX6) (N := 5) (v := .ref (AD 5 0)) cx.1 cx.2.1 cx.2.2.2.2 iw_X6_engraveAll_X6 cx.2.2.2.1 hK hP 0 rfl rfl 0 (by decide) (cx.2.2.2.2 _ fw_X6_engraveAll_f10) (fun _ h9 => h9) rfl dX6_engraveAll_37 ?_
    refine lv_iload_n cx.1 cx.2.1 dX6_engraveAll_40 rfl (lv_at hl 0 rfl) ?_
    refine lv_iload_n cx.1 cx.2.1 dX6_engraveAll_41 rfl (lv_at hl 1 rfl) ?_
    have hP5 : va_P G.1 vwCl (stC G (AD 5) (Y 5)) H := pl_st (Y := yRec Y) hP (by decide)
    refine WR.callV (As := [.int (xEs (Y 5) (xSize (Y 5)) (xn (Y 5))), .int (xSize (Y 5))]) (rest := []) cx (c_X4_markEngraved l G (AD 5) (Y 5) (xEs (Y 5) (xSize (Y 5)) (xn (Y 5))) (xSize (Y 5))) gX6_engraveAll_X4_markEngraved rfl hd_X4_markEngraved ⟨Nat.le_of_ble_eq_true rfl, Nat.le_of_ble_eq_true rfl⟩ (va_recv hK hP5 (ci := 3) (q0 := 0) rfl rfl) hK hN hP5 (pl_Dx hD (by decide)) hS (fun _ h => pl_wAx (by decide) h) rfl hl.1 rfl (Nat.le_of_ble_eq_true rfl) dX6_engraveAll_42 ⟨Nat.zero_le _, Nat.zero_le _⟩ (fun H1 locs hP1 hk1 hS => ?_)
    have hP : va_P G.1 vwCl (plC G a AD (va_up (yRec Y) 5 (xMe (Y 5) (xEs (Y 5) (xSize (Y 5)) (xn (Y 5))) (xSize (Y 5))))) H1 := pl_put hP hD (by decide) hk1 hP1
    have hD : va_D (wA (plC G a AD Y)) (plC G a AD (va_up (yRec Y) 5 (xMe (Y 5) (xEs (Y 5) (xSize (Y 5)) (xn (Y 5))) (xSize (Y 5))))) := pl_Dput hD
    generalize H1 = H at hP hS ⊢
    clear hP1 hk1
    refine lv_iload_n cx.1 cx.2.1 dX6_engraveAll_45 rfl (lv_at hl 0 rfl) ?_
    refine RO.callS (As := [.int (xEs (Y 5) (xSize (Y 5)) (xn (Y 5)))]) (rest := []) cx (c_J6_bitCount_0f7a4 l G (xEs (Y 5) (xSize (Y 5)) (xn (Y 5)))) gX6_engraveAll_J6_bitCount_0f7a4 rfl hd_J6_bitCount_0f7a4 ⟨Nat.le_of_ble_eq_true rfl, Nat.le_of_ble_eq_true rfl⟩ hK hN va_P.nil rfl hl.1 rfl (Nat.le_of_ble_eq_true rfl) dX6_engraveAll_46 ⟨Nat.zero_le _, Nat.zero_le _⟩ ?_
    exact WR.ret (x := bitc (xEs (Y 5) (xSize (Y 5)) (xn (Y 5)))) cx hr hlocks dX6_engraveAll_49 (by simp [yEngA, c_1]) (by simp only [yEngA, c_1, if_true, if_false, ↓reduceIte, Bool.false_eq_true]; exact hP) hS
  · refine lv_sipush (v := (-1005)) cx.1 cx.2.1 dX6_engraveAll_21 (by decide) ?_
    exact WR.ret (x := (-1005)) cx hr hlocks dX6_engraveAll_24 (by simp [yEngA, c_1]) (by simp only [yEngA, c_1, if_true, if_false, ↓reduceIte, Bool.false_eq_true]; exact hP) hS

theorem iw_X6_undo_X6 : ∀ w ∈ wsX60, w ∈ wsX6_undo := fun _ h => List.mem_cons_of_mem _ (List.mem_append_left _ (List.mem_append_left _ (List.mem_append_left _ (List.mem_append_left _ (List.mem_append_right _ h)))))
theorem fw_X6_undo_f22 : (Cond.fieldLink RX6 22 "NamePlate" "history" "LNamePlate$History;") ∈ wsX6_undo := List.mem_of_getElem? (i := 1) rfl
theorem iw_X6_undo_X0 : ∀ w ∈ wsX00, w ∈ wsX6_undo := fun _ h => List.mem_cons_of_mem _ (List.mem_append_left _ (List.mem_append_left _ (List.mem_append_left _ (List.mem_append_right _ h))))
theorem fw_X6_undo_f10 : (Cond.fieldLink RX6 10 "NamePlate" "now" "LNamePlate$State;") ∈ wsX6_undo := List.mem_of_getElem? (i := 2) rfl
set_option maxHeartbeats 4000000 in
set_option maxRecDepth 100000 in
theorem c_X6_undo (l : Launch) (G : GG) (a : Nat → Nat) (AD : Nat → Nat → Nat) (Y : Nat → XS)  (hoh : okH Y) (hall : ∀ i, i < 7 → okX (Y i)) : WR l yX6_undo wsX6_undo 4 82 G (plC G a AD Y) [.ref (a 0)] (some (.int ((yUndo Y).1))) (plC G a AD ((yUndo Y).2)) := by
  refine WR.start (cc := cX6_undo) (maxL := 1) (ret := (some .int)) (by decide) rfl (Nat.le_of_ble_eq_true rfl) ?_
  intro p e s m below meth c ls cx hr hlocks hK hN hP hD hS hl
  have cx : CallFix p m c cX6_undo 1 s [.ref (a 0)].toArray wsX6_undo RX6 := cx
  have hl : lv_has ls 1 [(0, .ref (a 0))] := hl
  have hok := hall 5 (by decide)
  have hq5 := hoh.q5
  refine lv_aload_n cx.1 cx.2.1 dX6_undo_0 rfl (lv_at hl 0 rfl) ?_
  refine va_get (ci := 5) (C := RX6) (T := TX6) (N := 5) (v := .ref (a 1)) cx.1 cx.2.1 cx.2.2.2.2 iw_X6_undo_X6 cx.2.2.2.1 hK hP 0 rfl rfl 2 (by decide) (cx.2.2.2.2 _ fw_X6_undo_f22) (fun _ h9 => h9) rfl dX6_undo_1 ?_
  refine va_getN (ci := 0) (C := RX0) (T := TX0) (N := 3) (v := .int (Y 7 5 1)) cx.1 cx.2.1 cx.2.2.2.2 iw_X6_undo_X0 cx.2.2.2.1 hK hP 1 rfl rfl 2 (by decide) (va_Nw.use rfl (hN.at 2 rfl)) (fun _ h9 => h9) rfl dX6_undo_4 ?_
  refine nv_eqi (y := nI (yq Y)) hoh.q ?_
  refine nv_if_ne (a := yq Y) (tgt := 14) cx dX6_undo_7 (by decide) (by omega) (fun c_1 => ?_) (fun c_1 => ?_)
  · refine lv_aload_n cx.1 cx.2.1 dX6_undo_14 rfl (lv_at hl 0 rfl) ?_
    refine va_get (ci := 5) (C := RX6) (T := TX6) (N := 5) (v := .ref (a 1)) cx.1 cx.2.1 cx.2.2.2.2 iw_X6_undo_X6 cx.2.2.2.1 hK hP 0 rfl rfl 2 (by decide) (cx.2.2.2.2 _ fw_X6_undo_f22) (fun _ h9 => h9) rfl dX6_undo_15 ?_
    refine lv_aload_n cx.1 cx.2.1 dX6_undo_18 rfl (lv_at hl 0 rfl) ?_
    refine va_get (ci := 5) (C := RX6) (T := TX6) (N := 5) (v := .ref (AD 5 0)) cx.1 cx.2.1 cx.2.2.2.2 iw_X6_undo_X6 cx.2.2.2.1 hK hP 0 rfl rfl 0 (by decide) (cx.2.2.2.2 _ fw_X6_undo_f10) (fun _ h9 => h9) rfl dX6_undo_19 ?_
    refine WR.callV (As := [.ref (AD 5 0)]) (rest := []) cx (c_X0_takeLatest l G a AD Y hoh (Nat.pos_of_ne_zero (by assumption)) hall) gX6_undo_X0_takeLatest rfl hd_X0_takeLatest ⟨Nat.le_of_ble_eq_true rfl, Nat.le_of_ble_eq_true rfl⟩ (va_recv hK hP (ci := 0) (q0 := 1) rfl rfl) hK hN hP hD hS (fun _ h => pl_wA0 h) rfl hl.1 rfl (Nat.le_of_ble_eq_true rfl) dX6_undo_22 ⟨Nat.zero_le _, Nat.zero_le _⟩ (fun H1 locs hP1 hk1 hS => ?_)
    have hP : va_P G.1 vwCl (plC G a AD (yTl Y)) H1 := hP1
    have hD : va_D (wA (plC G a AD Y)) (plC G a AD (yTl Y)) := pl_Dput hD
    generalize H1 = H at hP hS ⊢
    clear hP1 hk1
    refine lv_aload_n cx.1 cx.2.1 dX6_undo_25 rfl (lv_at hl 0 rfl) ?_
    refine va_get (ci := 5) (C := RX6) (T := TX6) (N := 5) (v := .ref (a 1)) cx.1 cx.2.1 cx.2.2.2.2 iw_X6_undo_X6 cx.2.2.2.1 hK hP 0 rfl rfl 2 (by decide) (cx.2.2.2.2 _ fw_X6_undo_f22) (fun _ h9 => h9) rfl dX6_undo_26 ?_
    refine va_getN (ci := 0) (C := RX0) (T := TX0) (N := 3) (v := .int ((yTl Y) 7 5 1)) cx.1 cx.2.1 cx.2.2.2.2 iw_X6_undo_X0 cx.2.2.2.1 hK hP 1 rfl rfl 2 (by decide) (va_Nw.use rfl (hN.at 2 rfl)) (fun _ h9 => h9) rfl dX6_undo_29 ?_
    refine nv_eqi (y := nI (yq Y - 1)) rfl ?_
    exact WR.ret (x := nI (yq Y - 1)) cx hr hlocks dX6_undo_32 (by simp [yUndo, c_1]) (by simp only [yUndo, c_1, if_true, if_false, ↓reduceIte, Bool.false_eq_true]; exact hP) hS
  · refine lv_sipush (v := (-1005)) cx.1 cx.2.1 dX6_undo_10 (by decide) ?_
    exact WR.ret (x := (-1005)) cx hr hlocks dX6_undo_13 (by simp [yUndo, c_1]) (by simp only [yUndo, c_1, if_true, if_false, ↓reduceIte, Bool.false_eq_true]; exact hP) hS

theorem iw_X6_restore_X6 : ∀ w ∈ wsX60, w ∈ wsX6_restore := fun _ h => List.mem_cons_of_mem _ (List.mem_append_left _ (List.mem_append_left _ (List.mem_append_left _ (List.mem_append_left _ (List.mem_append_right _ h)))))
theorem fw_X6_restore_f33 : (Cond.fieldLink RX6 33 "NamePlate" "hasSnapshot" "Z") ∈ wsX6_restore := List.mem_of_getElem? (i := 1) rfl
theorem fw_X6_restore_f22 : (Cond.fieldLink RX6 22 "NamePlate" "history" "LNamePlate$History;") ∈ wsX6_restore := List.mem_of_getElem? (i := 2) rfl
theorem fw_X6_restore_f10 : (Cond.fieldLink RX6 10 "NamePlate" "now" "LNamePlate$State;") ∈ wsX6_restore := List.mem_of_getElem? (i := 3) rfl
theorem fw_X6_restore_f16 : (Cond.fieldLink RX6 16 "NamePlate" "snapshot" "LNamePlate$State;") ∈ wsX6_restore := List.mem_of_getElem? (i := 4) rfl
theorem iw_X6_restore_X4 : ∀ w ∈ wsX40, w ∈ wsX6_restore := fun _ h => List.mem_cons_of_mem _ (List.mem_append_left _ (List.mem_append_left _ (List.mem_append_left _ (List.mem_append_right _ h))))
theorem iw_X6_restore_X1 : ∀ w ∈ wsX10, w ∈ wsX6_restore := fun _ h => List.mem_cons_of_mem _ (List.mem_append_left _ (List.mem_append_left _ (List.mem_append_right _ h)))
set_option maxHeartbeats 4000000 in
set_option maxRecDepth 100000 in
theorem c_X6_restore (l : Launch) (G : GG) (a : Nat → Nat) (AD : Nat → Nat → Nat) (Y : Nat → XS)  (hoh : okH Y) (hall : ∀ i, i < 7 → okX (Y i)) : WR l yX6_restore wsX6_restore 4 82 G (plC G a AD Y) [.ref (a 0)] (some (.int ((yRest Y).1))) (plC G a AD ((yRest Y).2)) := by
  refine WR.start (cc := cX6_restore) (maxL := 1) (ret := (some .int)) (by decide) rfl (Nat.le_of_ble_eq_true rfl) ?_
  intro p e s m below meth c ls cx hr hlocks hK hN hP hD hS hl
  have cx : CallFix p m c cX6_restore 1 s [.ref (a 0)].toArray wsX6_restore RX6 := cx
  have hl : lv_has ls 1 [(0, .ref (a 0))] := hl
  have hok := hall 5 (by decide)
  refine lv_aload_n cx.1 cx.2.1 dX6_restore_0 rfl (lv_at hl 0 rfl) ?_
  refine va_get (ci := 5) (C := RX6) (T := TX6) (N := 5) (v := .int (Y 7 5 3)) cx.1 cx.2.1 cx.2.2.2.2 iw_X6_restore_X6 cx.2.2.2.1 hK hP 0 rfl rfl 4 (by decide) (cx.2.2.2.2 _ fw_X6_restore_f33) (fun _ h9 => h9) rfl dX6_restore_1 ?_
  refine lv_if_ne (x := Y 7 5 3) (tgt := 11) cx.1 cx.2.1 dX6_restore_4 (by decide) (fun c_1 => ?_) (fun c_1 => ?_)
  · refine lv_aload_n cx.1 cx.2.1 dX6_restore_11 rfl (lv_at hl 0 rfl) ?_
    refine va_get (ci := 5) (C := RX6) (T := TX6) (N := 5) (v := .ref (a 1)) cx.1 cx.2.1 cx.2.2.2.2 iw_X6_restore_X6 cx.2.2.2.1 hK hP 0 rfl rfl 2 (by decide) (cx.2.2.2.2 _ fw_X6_restore_f22) (fun _ h9 => h9) rfl dX6_restore_12 ?_
    refine lv_aload_n cx.1 cx.2.1 dX6_restore_15 rfl (lv_at hl 0 rfl) ?_
    refine va_get (ci := 5) (C := RX6) (T := TX6) (N := 5) (v := .ref (AD 5 0)) cx.1 cx.2.1 cx.2.2.2.2 iw_X6_restore_X6 cx.2.2.2.1 hK hP 0 rfl rfl 0 (by decide) (cx.2.2.2.2 _ fw_X6_restore_f10) (fun _ h9 => h9) rfl dX6_restore_16 ?_
    refine WR.callV (As := [.ref (AD 5 0)]) (rest := []) cx (c_X0_record l G a AD Y hoh hok) gX6_restore_X0_record rfl hd_X0_record ⟨Nat.le_of_ble_eq_true rfl, Nat.le_of_ble_eq_true rfl⟩ (va_recv hK hP (ci := 0) (q0 := 1) rfl rfl) hK hN hP hD hS (fun _ h => pl_wA0 h) rfl hl.1 rfl (Nat.le_of_ble_eq_true rfl) dX6_restore_19 ⟨Nat.zero_le _, Nat.zero_le _⟩ (fun H1 locs hP1 hk1 hS => ?_)
    have hP : va_P G.1 vwCl (plC G a AD (yRec Y)) H1 := hP1
    have hD : va_D (wA (plC G a AD Y)) (plC G a AD (yRec Y)) := pl_Dput hD
    generalize H1 = H at hP hS ⊢
    clear hP1 hk1
    refine lv_aload_n cx.1 cx.2.1 dX6_restore_22 rfl (lv_at hl 0 rfl) ?_
    refine va_get (ci := 5) (C := RX6) (T := TX6) (N := 5) (v := .ref (AD 5 0)) cx.1 cx.2.1 cx.2.2.2.2 iw_X6_restore_X6 cx.2.2.2.1 hK hP 0 rfl rfl 0 (by decide) (cx.2.2.2.2 _ fw_X6_restore_f10) (fun _ h9 => h9) rfl dX6_restore_23 ?_
    refine lv_aload_n cx.1 cx.2.1 dX6_restore_26 rfl (lv_at hl 0 rfl) ?_
    refine va_get (ci := 5) (C := RX6) (T := TX6) (N := 5) (v := .ref (AD 6 0)) cx.1 cx.2.1 cx.2.2.2.2 iw_X6_restore_X6 cx.2.2.2.1 hK hP 0 rfl rfl 1 (by decide) (cx.2.2.2.2 _ fw_X6_restore_f16) (fun _ h9 => h9) rfl dX6_restore_27 ?_
    have hPc : va_P G.1 vwCl (stC G (AD 5) (Y 5) ++ stC G (AD 6) (Y 6)) H := pl_st2 (Y := yRec Y) hP (by decide) (by decide)
    refine WR.callV (As := [.ref (AD 6 0)]) (rest := []) cx (c_X4_copyFrom l G (AD 5) (Y 5) (AD 6) (Y 6) (hall 6 (by decide))) gX6_restore_X4_copyFrom rfl hd_X4_copyFrom ⟨Nat.le_of_ble_eq_true rfl, Nat.le_of_ble_eq_true rfl⟩ (va_recv hK hPc (ci := 3) (q0 := 0) rfl rfl) hK hN hPc (pl_D2x hD (by decide) (by decide) (by decide)) hS (fun _ h => pl_wA2x (by decide) (by decide) h) rfl hl.1 rfl (Nat.le_of_ble_eq_true rfl) dX6_restore_30 ⟨Nat.zero_le _, Nat.zero_le _⟩ (fun H1 locs hP1 hk1 hS => ?_)
    have hP : va_P G.1 vwCl (plC G a AD (va_up (yRec Y) 5 (Y 6))) H1 := pl_put2 hP hD (by decide) (by decide) hk1 hP1
    have hD : va_D (wA (plC G a AD Y)) (plC G a AD (va_up (yRec Y) 5 (Y 6))) := pl_Dput hD
    generalize H1 = H at hP hS ⊢
    clear hP1 hk1 hPc
    refine lv_aload_n cx.1 cx.2.1 dX6_restore_33 rfl (lv_at hl 0 rfl) ?_
    refine va_get (ci := 5) (C := RX6) (T := TX6) (N := 5) (v := .ref (AD 5 0)) cx.1 cx.2.1 cx.2.2.2.2 iw_X6_restore_X6 cx.2.2.2.1 hK hP 0 rfl rfl 0 (by decide) (cx.2.2.2.2 _ fw_X6_restore_f10) (fun _ h9 => h9) rfl dX6_restore_34 ?_
    have hP5 : va_P G.1 vwCl (stC G (AD 5) (Y 6)) H := pl_st (Y := va_up (yRec Y) 5 (Y 6)) hP (by decide)
    refine va_getN (ci := 3) (C := RX4) (T := TX4) (N := 10) (v := .ref (AD 5 1)) cx.1 cx.2.1 cx.2.2.2.2 iw_X6_restore_X4 cx.2.2.2.1 hK hP5 0 rfl rfl 0 (by decide) (va_Nw.use rfl (hN.at 0 rfl)) (fun _ h9 => h9) rfl dX6_restore_37 ?_
    refine va_getN (ci := 1) (C := RX1) (T := TX1) (N := 3) (v := .int ((Y 6) 5 0)) cx.1 cx.2.1 cx.2.2.2.2 iw_X6_restore_X1 cx.2.2.2.1 hK hP5 1 rfl rfl 2 (by decide) (va_Nw.use rfl (hN.at 1 rfl)) (fun _ h9 => h9) rfl dX6_restore_40 ?_
    exact WR.ret (x := (Y 6) 5 0) cx hr hlocks dX6_restore_43 (by simp [yRest, c_1]) (by simp only [yRest, c_1, if_true, if_false, ↓reduceIte, Bool.false_eq_true]; exact hP) hS
  · refine lv_sipush (v := (-1005)) cx.1 cx.2.1 dX6_restore_7 (by decide) ?_
    exact WR.ret (x := (-1005)) cx hr hlocks dX6_restore_10 (by simp [yRest, c_1]) (by simp only [yRest, c_1, if_true, if_false, ↓reduceIte, Bool.false_eq_true]; exact hP) hS
