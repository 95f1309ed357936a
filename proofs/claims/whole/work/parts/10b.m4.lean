/-! ===== m4: laid by program ===== -/
theorem iw_X7_record_X7 : ∀ w ∈ wsX70, w ∈ wsX7_record := fun _ h => List.mem_cons_of_mem _ (List.mem_append_right _ h)
theorem fw_X7_record_f23 : (Cond.fieldLink RX7 23 "NamePlateModel" "kept" "I") ∈ wsX7_record := List.mem_of_getElem? (i := 1) rfl
theorem fw_X7_record_f13 : (Cond.fieldLink RX7 13 "NamePlateModel" "history" "[I") ∈ wsX7_record := List.mem_of_getElem? (i := 2) rfl
theorem fw_X7_record_f7 : (Cond.fieldLink RX7 7 "NamePlateModel" "now" "[I") ∈ wsX7_record := List.mem_of_getElem? (i := 3) rfl
set_option maxHeartbeats 4000000 in
set_option maxRecDepth 100000 in
theorem c_X7_record (l : Launch) (G : GG) (ad : Nat → Nat) (M : XS)  (hkk : okK M) : WR l yX7_record wsX7_record 0 0 G (mdC G ad M) [.ref (ad 0)] none (mdC G ad (mRec M)) := by
  refine WR.start (cc := cX7_record) (maxL := 2) (ret := none) (by decide) rfl (Nat.le_of_ble_eq_true rfl) ?_
  intro p e s m below meth c ls cx hr hlocks hK hN hP hD hS hl
  have cx : CallFix p m c cX7_record 2 s [.ref (ad 0)].toArray wsX7_record RX7 := cx
  have hl : lv_has ls 2 [(0, .ref (ad 0))] := hl
  have hk5 := hkk.2
  refine lv_aload_n cx.1 cx.2.1 dX7_record_0 rfl (lv_at hl 0 rfl) ?_
  refine va_get (ci := 6) (C := RX7) (T := TX7) (N := 7) (v := .int (M 4 0)) cx.1 cx.2.1 cx.2.2.2.2 iw_X7_record_X7 cx.2.2.2.1 hK hP 0 rfl rfl 2 (by decide) (cx.2.2.2.2 _ fw_X7_record_f23) (fun _ h9 => h9) rfl dX7_record_1 ?_
  refine nv_eqi (y := nI (mk M)) hkk.1 ?_
  refine lv_iconst (v := nI 5) cx.1 cx.2.1 dX7_record_4 (by decide) ?_
  refine nv_icmp_ne (a := mk M) (b := 5) (tgt := 49) cx dX7_record_5 (by decide) (by omega) (by omega) (fun c_1 => ?_) (fun c_1 => ?_)
  · refine lv_iconst (v := nI 0) cx.1 cx.2.1 dX7_record_49 (by decide) ?_
    refine lv_istore_n (lv' := [(1, .int (nI 0)), (0, .ref (ad 0))]) cx.1 cx.2.1 dX7_record_50 rfl hl (by decide) rfl (fun ls hl => ?_)
    have lp51 : ∀ (r : Nat) (t : Nat) (hr9 : 417 - t < r) (ht : t ≤ 417) (H : Heap) (locs : List Loc) (hP : va_P G.1 vwCl (mdC G ad (va_up M 1 (cpN (M 1) (M 0) (417 * mk M) t))) H) (hD : va_D (wA (mdC G ad M)) (mdC G ad (va_up M 1 (cpN (M 1) (M 0) (417 * mk M) t)))) (hS : va_S (wA (mdC G ad M)) s.heap H locs) (ls : Array Slot), lv_has ls 2 [(0, .ref (ad 0)), (1, .int (nI t))] → W p l e ({ frames := 0, cells := 0, slots := 0, locals := 0 } : Room) s m [.ref (ad 0)].toArray below meth c H locs 0 0 (MQ below (QW G (mdC G ad M) none (mdC G ad (mRec M))) [.ref (ad 0)].toArray s 0 0 (wA (mdC G ad M))) (F0 m 51 ls []) := by
      intro r
      induction r with
      | zero => intro t hr9; exact absurd hr9 (Nat.not_lt_zero _)
      | succ r ih51 =>
        intro t hr9 ht H locs hP hD hS ls hl
        refine lv_iload_n cx.1 cx.2.1 dX7_record_51 rfl (lv_at hl 1 rfl) ?_
        refine lv_sipush (v := nI 417) cx.1 cx.2.1 dX7_record_52 (by decide) ?_
        refine nv_icmp_ge (a := t) (b := 417) (tgt := 85) cx dX7_record_55 (by decide) (by omega) (by omega) (fun c_2 => ?_) (fun c_2 => ?_)
        · have et2 : t = 417 := by omega
          subst et2
          refine lv_aload_n cx.1 cx.2.1 dX7_record_85 rfl (lv_at hl 0 rfl) ?_
          refine lv_dup cx.1 cx.2.1 dX7_record_86 rfl ?_
          refine va_get (ci := 6) (C := RX7) (T := TX7) (N := 7) (v := .int ((va_up M 1 (cpN (M 1) (M 0) (417 * mk M) 417)) 4 0)) cx.1 cx.2.1 cx.2.2.2.2 iw_X7_record_X7 cx.2.2.2.1 hK hP 0 rfl rfl 2 (by decide) (cx.2.2.2.2 _ fw_X7_record_f23) (fun _ h9 => h9) rfl dX7_record_87 ?_
          refine nv_eqi (y := nI (mk M)) hkk.1 ?_
          refine lv_iconst (v := nI 1) cx.1 cx.2.1 dX7_record_90 (by decide) ?_
          refine nv_iadd cx (a := mk M) (b := 1) dX7_record_91 ?_
          refine va_put (ci := 6) (v := .int (nI (mk M + 1))) (ty := .int) (C := RX7) (T := TX7) (N := 7) cx.1 cx.2.1 cx.2.2.2.2 iw_X7_record_X7 tyX7 tyX7_ok nmX7 cx.2.2.2.1 hK hP hD hS 0 rfl rfl 2 (by decide) (cx.2.2.2.2 _ fw_X7_record_f23) (fun _ h9 => h9) rfl (by decide +kernel) rfl rfl (Nat.le_of_ble_eq_true rfl) dX7_record_92 (fun H locs hP hD hS => ?_)
          have hP : va_P G.1 vwCl (mdC G ad (va_up (va_up M 1 (cpN (M 1) (M 0) (417 * mk M) 417)) 4 (upd ((va_up M 1 (cpN (M 1) (M 0) (417 * mk M) 417)) 4) 0 (nI (mk M + 1))))) H := hP
          have hD : va_D (wA (mdC G ad M)) (mdC G ad (va_up (va_up M 1 (cpN (M 1) (M 0) (417 * mk M) 417)) 4 (upd ((va_up M 1 (cpN (M 1) (M 0) (417 * mk M) 417)) 4) 0 (nI (mk M + 1))))) := hD
          exact WR.retv cx hr hlocks dX7_record_95 (by first | (rw [mRec_5 (by assumption)]; exact hP) | (rw [mRec_n (by assumption)]; exact hP)) hS
        · refine lv_aload_n cx.1 cx.2.1 dX7_record_58 rfl (lv_at hl 0 rfl) ?_
          refine va_get (ci := 6) (C := RX7) (T := TX7) (N := 7) (v := .ref (ad 2)) cx.1 cx.2.1 cx.2.2.2.2 iw_X7_record_X7 cx.2.2.2.1 hK hP 0 rfl rfl 1 (by decide) (cx.2.2.2.2 _ fw_X7_record_f13) (fun _ h9 => h9) rfl dX7_record_59 ?_
          refine lv_sipush (v := nI 417) cx.1 cx.2.1 dX7_record_62 (by decide) ?_
          refine lv_aload_n cx.1 cx.2.1 dX7_record_65 rfl (lv_at hl 0 rfl) ?_
          refine va_get (ci := 6) (C := RX7) (T := TX7) (N := 7) (v := .int ((va_up M 1 (cpN (M 1) (M 0) (417 * mk M) t)) 4 0)) cx.1 cx.2.1 cx.2.2.2.2 iw_X7_record_X7 cx.2.2.2.1 hK hP 0 rfl rfl 2 (by decide) (cx.2.2.2.2 _ fw_X7_record_f23) (fun _ h9 => h9) rfl dX7_record_66 ?_
          refine nv_eqi (y := nI (mk M)) hkk.1 ?_
          refine nv_imul cx (a := 417) (b := mk M) dX7_record_69 ?_
          refine lv_iload_n cx.1 cx.2.1 dX7_record_70 rfl (lv_at hl 1 rfl) ?_
          refine nv_iadd cx (a := 417 * (mk M)) (b := t) dX7_record_71 ?_
          refine lv_aload_n cx.1 cx.2.1 dX7_record_72 rfl (lv_at hl 0 rfl) ?_
          refine va_get (ci := 6) (C := RX7) (T := TX7) (N := 7) (v := .ref (ad 1)) cx.1 cx.2.1 cx.2.2.2.2 iw_X7_record_X7 cx.2.2.2.1 hK hP 0 rfl rfl 0 (by decide) (cx.2.2.2.2 _ fw_X7_record_f7) (fun _ h9 => h9) rfl dX7_record_73 ?_
          refine lv_iload_n cx.1 cx.2.1 dX7_record_76 rfl (lv_at hl 1 rfl) ?_
          refine nv_iald (j := t) cx hK hP 1 1 rfl rfl (by omega) (by decide) dX7_record_77 ?_
          refine nv_iast (j := 417 * (mk M) + t) (x := ((va_up M 1 (cpN (M 1) (M 0) (417 * mk M) t)) 0) t) cx hK hP hD hS 2 1 rfl rfl (by omega) (by decide) dX7_record_78 (ws1 := mdC G ad (va_up (va_up M 1 (cpN (M 1) (M 0) (417 * mk M) t)) 1 (upd ((va_up M 1 (cpN (M 1) (M 0) (417 * mk M) t)) 1) (417 * (mk M) + t) (((va_up M 1 (cpN (M 1) (M 0) (417 * mk M) t)) 0) t)))) rfl (fun H locs hP hD hS => ?_)
          refine lv_iinc (v := nI (t + 1)) (lv' := [(1, .int (nI (t + 1))), (0, .ref (ad 0))]) cx.1 cx.2.1 dX7_record_79 hl (k := 1) rfl (show nI t + Int32.ofInt 1 = nI (t + 1) from nI_add t 1) (by decide) rfl (fun ls hl => ?_)
          refine lv_goto (tgt := 51) cx.1 cx.2.1 dX7_record_82 (by decide) ?_
          exact ih51 (t + 1) (by omega) (by omega) _ _ (by rw [cpN_step]; exact hP) (hD.fst rfl) hS ls (lv_sub hl [1, 0] rfl)
    exact lp51 _ 0 (Nat.lt_succ_self _) (by omega) s.heap [] (by rw [cpN_0]; exact hP) (hD.fst rfl) hS ls (lv_sub hl [1, 0] rfl)
  · refine lv_iconst (v := nI 0) cx.1 cx.2.1 dX7_record_8 (by decide) ?_
    refine lv_istore_n (lv' := [(1, .int (nI 0)), (0, .ref (ad 0))]) cx.1 cx.2.1 dX7_record_9 rfl hl (by decide) rfl (fun ls hl => ?_)
    have lp10 : ∀ (r : Nat) (t : Nat) (hr9 : 1668 - t < r) (ht : t ≤ 1668) (H : Heap) (locs : List Loc) (hP : va_P G.1 vwCl (mdC G ad (va_up M 1 (mvN (M 1) 417 0 t))) H) (hD : va_D (wA (mdC G ad M)) (mdC G ad (va_up M 1 (mvN (M 1) 417 0 t)))) (hS : va_S (wA (mdC G ad M)) s.heap H locs) (ls : Array Slot), lv_has ls 2 [(1, .int (nI t)), (0, .ref (ad 0))] → W p l e ({ frames := 0, cells := 0, slots := 0, locals := 0 } : Room) s m [.ref (ad 0)].toArray below meth c H locs 0 0 (MQ below (QW G (mdC G ad M) none (mdC G ad (mRec M))) [.ref (ad 0)].toArray s 0 0 (wA (mdC G ad M))) (F0 m 10 ls []) := by
      intro r
      induction r with
      | zero => intro t hr9; exact absurd hr9 (Nat.not_lt_zero _)
      | succ r ih10 =>
        intro t hr9 ht H locs hP hD hS ls hl
        refine lv_iload_n cx.1 cx.2.1 dX7_record_10 rfl (lv_at hl 0 rfl) ?_
        refine lv_sipush (v := nI 1668) cx.1 cx.2.1 dX7_record_11 (by decide) ?_
        refine nv_icmp_ge (a := t) (b := 1668) (tgt := 39) cx dX7_record_14 (by decide) (by omega) (by omega) (fun c_3 => ?_) (fun c_3 => ?_)
        · have et : t = 1668 := by omega
          subst et
          refine lv_aload_n cx.1 cx.2.1 dX7_record_39 rfl (lv_at hl 1 rfl) ?_
          refine lv_dup cx.1 cx.2.1 dX7_record_40 rfl ?_
          refine va_get (ci := 6) (C := RX7) (T := TX7) (N := 7) (v := .int ((va_up M 1 (mvN (M 1) 417 0 1668)) 4 0)) cx.1 cx.2.1 cx.2.2.2.2 iw_X7_record_X7 cx.2.2.2.1 hK hP 0 rfl rfl 2 (by decide) (cx.2.2.2.2 _ fw_X7_record_f23) (fun _ h9 => h9) rfl dX7_record_41 ?_
          refine nv_eqi (y := nI (mk M)) hkk.1 ?_
          refine lv_iconst (v := nI 1) cx.1 cx.2.1 dX7_record_44 (by decide) ?_
          refine nv_isub cx (a := mk M) (b := 1) (by omega) dX7_record_45 ?_
          refine va_put (ci := 6) (v := .int (nI (mk M - 1))) (ty := .int) (C := RX7) (T := TX7) (N := 7) cx.1 cx.2.1 cx.2.2.2.2 iw_X7_record_X7 tyX7 tyX7_ok nmX7 cx.2.2.2.1 hK hP hD hS 0 rfl rfl 2 (by decide) (cx.2.2.2.2 _ fw_X7_record_f23) (fun _ h9 => h9) rfl (by decide +kernel) rfl rfl (Nat.le_of_ble_eq_true rfl) dX7_record_46 (fun H locs hP hD hS => ?_)
          have hP : va_P G.1 vwCl (mdC G ad (va_up (va_up M 1 (mvN (M 1) 417 0 1668)) 4 (upd ((va_up M 1 (mvN (M 1) 417 0 1668)) 4) 0 (nI (mk M - 1))))) H := hP
          have hD : va_D (wA (mdC G ad M)) (mdC G ad (va_up (va_up M 1 (mvN (M 1) 417 0 1668)) 4 (upd ((va_up M 1 (mvN (M 1) 417 0 1668)) 4) 0 (nI (mk M - 1))))) := hD
          refine lv_iconst (v := nI 0) cx.1 cx.2.1 dX7_record_49 (by decide) ?_
          refine lv_istore_n (lv' := [(1, .int (nI 0)), (0, .ref (ad 0))]) cx.1 cx.2.1 dX7_record_50 rfl hl (by decide) rfl (fun ls hl => ?_)
          have lp51 : ∀ (r : Nat) (t : Nat) (hr9 : 417 - t < r) (ht : t ≤ 417) (H : Heap) (locs : List Loc) (hP : va_P G.1 vwCl (mdC G ad (va_up (va_up M 1 (cpN (mvN (M 1) 417 0 1668) (M 0) (417 * (mk M - 1)) t)) 4 (upd (M 4) 0 (nI (mk M - 1))))) H) (hD : va_D (wA (mdC G ad M)) (mdC G ad (va_up (va_up M 1 (cpN (mvN (M 1) 417 0 1668) (M 0) (417 * (mk M - 1)) t)) 4 (upd (M 4) 0 (nI (mk M - 1)))))) (hS : va_S (wA (mdC G ad M)) s.heap H locs) (ls : Array Slot), lv_has ls 2 [(0, .ref (ad 0)), (1, .int (nI t))] → W p l e ({ frames := 0, cells := 0, slots := 0, locals := 0 } : Room) s m [.ref (ad 0)].toArray below meth c H locs 0 0 (MQ below (QW G (mdC G ad M) none (mdC G ad (mRec M))) [.ref (ad 0)].toArray s 0 0 (wA (mdC G ad M))) (F0 m 51 ls []) := by
            intro r
            induction r with
            | zero => intro t hr9; exact absurd hr9 (Nat.not_lt_zero _)
            | succ r ih51 =>
              intro t hr9 ht H locs hP hD hS ls hl
              refine lv_iload_n cx.1 cx.2.1 dX7_record_51 rfl (lv_at hl 1 rfl) ?_
              refine lv_sipush (v := nI 417) cx.1 cx.2.1 dX7_record_52 (by decide) ?_
              refine nv_icmp_ge (a := t) (b := 417) (tgt := 85) cx dX7_record_55 (by decide) (by omega) (by omega) (fun c_4 => ?_) (fun c_4 => ?_)
              · have et2 : t = 417 := by omega
                subst et2
                refine lv_aload_n cx.1 cx.2.1 dX7_record_85 rfl (lv_at hl 0 rfl) ?_
                refine lv_dup cx.1 cx.2.1 dX7_record_86 rfl ?_
                refine va_get (ci := 6) (C := RX7) (T := TX7) (N := 7) (v := .int ((va_up (va_up M 1 (cpN (mvN (M 1) 417 0 1668) (M 0) (417 * (mk M - 1)) 417)) 4 (upd (M 4) 0 (nI (mk M - 1)))) 4 0)) cx.1 cx.2.1 cx.2.2.2.2 iw_X7_record_X7 cx.2.2.2.1 hK hP 0 rfl rfl 2 (by decide) (cx.2.2.2.2 _ fw_X7_record_f23) (fun _ h9 => h9) rfl dX7_record_87 ?_
                refine nv_eqi (y := nI (mk M - 1)) rfl ?_
                refine lv_iconst (v := nI 1) cx.1 cx.2.1 dX7_record_90 (by decide) ?_
                refine nv_iadd cx (a := mk M - 1) (b := 1) dX7_record_91 ?_
                refine va_put (ci := 6) (v := .int (nI (mk M - 1 + 1))) (ty := .int) (C := RX7) (T := TX7) (N := 7) cx.1 cx.2.1 cx.2.2.2.2 iw_X7_record_X7 tyX7 tyX7_ok nmX7 cx.2.2.2.1 hK hP hD hS 0 rfl rfl 2 (by decide) (cx.2.2.2.2 _ fw_X7_record_f23) (fun _ h9 => h9) rfl (by decide +kernel) rfl rfl (Nat.le_of_ble_eq_true rfl) dX7_record_92 (fun H locs hP hD hS => ?_)
                have hP : va_P G.1 vwCl (mdC G ad (va_up (va_up (va_up M 1 (cpN (mvN (M 1) 417 0 1668) (M 0) (417 * (mk M - 1)) 417)) 4 (upd (M 4) 0 (nI (mk M - 1)))) 4 (upd ((va_up (va_up M 1 (cpN (mvN (M 1) 417 0 1668) (M 0) (417 * (mk M - 1)) 417)) 4 (upd (M 4) 0 (nI (mk M - 1)))) 4) 0 (nI (mk M - 1 + 1))))) H := hP
                have hD : va_D (wA (mdC G ad M)) (mdC G ad (va_up (va_up (va_up M 1 (cpN (mvN (M 1) 417 0 1668) (M 0) (417 * (mk M - 1)) 417)) 4 (upd (M 4) 0 (nI (mk M - 1)))) 4 (upd ((va_up (va_up M 1 (cpN (mvN (M 1) 417 0 1668) (M 0) (417 * (mk M - 1)) 417)) 4 (upd (M 4) 0 (nI (mk M - 1)))) 4) 0 (nI (mk M - 1 + 1))))) := hD
                exact WR.retv cx hr hlocks dX7_record_95 (by first | (rw [mRec_5 (by assumption)]; exact hP) | (rw [mRec_n (by assumption)]; exact hP)) hS
              · refine lv_aload_n cx.1 cx.2.1 dX7_record_58 rfl (lv_at hl 0 rfl) ?_
                refine va_get (ci := 6) (C := RX7) (T := TX7) (N := 7) (v := .ref (ad 2)) cx.1 cx.2.1 cx.2.2.2.2 iw_X7_record_X7 cx.2.2.2.1 hK hP 0 rfl rfl 1 (by decide) (cx.2.2.2.2 _ fw_X7_record_f13) (fun _ h9 => h9) rfl dX7_record_59 ?_
                refine lv_sipush (v := nI 417) cx.1 cx.2.1 dX7_record_62 (by decide) ?_
                refine lv_aload_n cx.1 cx.2.1 dX7_record_65 rfl (lv_at hl 0 rfl) ?_
                refine va_get (ci := 6) (C := RX7) (T := TX7) (N := 7) (v := .int ((va_up (va_up M 1 (cpN (mvN (M 1) 417 0 1668) (M 0) (417 * (mk M - 1)) t)) 4 (upd (M 4) 0 (nI (mk M - 1)))) 4 0)) cx.1 cx.2.1 cx.2.2.2.2 iw_X7_record_X7 cx.2.2.2.1 hK hP 0 rfl rfl 2 (by decide) (cx.2.2.2.2 _ fw_X7_record_f23) (fun _ h9 => h9) rfl dX7_record_66 ?_
                refine nv_eqi (y := nI (mk M - 1)) rfl ?_
                refine nv_imul cx (a := 417) (b := mk M - 1) dX7_record_69 ?_
                refine lv_iload_n cx.1 cx.2.1 dX7_record_70 rfl (lv_at hl 1 rfl) ?_
                refine nv_iadd cx (a := 417 * (mk M - 1)) (b := t) dX7_record_71 ?_
                refine lv_aload_n cx.1 cx.2.1 dX7_record_72 rfl (lv_at hl 0 rfl) ?_
                refine va_get (ci := 6) (C := RX7) (T := TX7) (N := 7) (v := .ref (ad 1)) cx.1 cx.2.1 cx.2.2.2.2 iw_X7_record_X7 cx.2.2.2.1 hK hP 0 rfl rfl 0 (by decide) (cx.2.2.2.2 _ fw_X7_record_f7) (fun _ h9 => h9) rfl dX7_record_73 ?_
                refine lv_iload_n cx.1 cx.2.1 dX7_record_76 rfl (lv_at hl 1 rfl) ?_
                refine nv_iald (j := t) cx hK hP 1 1 rfl rfl (by omega) (by decide) dX7_record_77 ?_
                refine nv_iast (j := 417 * (mk M - 1) + t) (x := ((va_up (va_up M 1 (cpN (mvN (M 1) 417 0 1668) (M 0) (417 * (mk M - 1)) t)) 4 (upd (M 4) 0 (nI (mk M - 1)))) 0) t) cx hK hP hD hS 2 1 rfl rfl (by omega) (by decide) dX7_record_78 (ws1 := mdC G ad (va_up (va_up (va_up M 1 (cpN (mvN (M 1) 417 0 1668) (M 0) (417 * (mk M - 1)) t)) 4 (upd (M 4) 0 (nI (mk M - 1)))) 1 (upd ((va_up (va_up M 1 (cpN (mvN (M 1) 417 0 1668) (M 0) (417 * (mk M - 1)) t)) 4 (upd (M 4) 0 (nI (mk M - 1)))) 1) (417 * (mk M - 1) + t) (((va_up (va_up M 1 (cpN (mvN (M 1) 417 0 1668) (M 0) (417 * (mk M - 1)) t)) 4 (upd (M 4) 0 (nI (mk M - 1)))) 0) t)))) rfl (fun H locs hP hD hS => ?_)
                refine lv_iinc (v := nI (t + 1)) (lv' := [(1, .int (nI (t + 1))), (0, .ref (ad 0))]) cx.1 cx.2.1 dX7_record_79 hl (k := 1) rfl (show nI t + Int32.ofInt 1 = nI (t + 1) from nI_add t 1) (by decide) rfl (fun ls hl => ?_)
                refine lv_goto (tgt := 51) cx.1 cx.2.1 dX7_record_82 (by decide) ?_
                exact ih51 (t + 1) (by omega) (by omega) _ _ (by rw [cpN_step]; exact hP) (hD.fst rfl) hS ls (lv_sub hl [1, 0] rfl)
          exact lp51 _ 0 (Nat.lt_succ_self _) (by omega) H locs (by rw [cpN_0]; exact hP) (hD.fst rfl) hS ls (lv_sub hl [1, 0] rfl)
        · refine lv_aload_n cx.1 cx.2.1 dX7_record_17 rfl (lv_at hl 1 rfl) ?_
          refine va_get (ci := 6) (C := RX7) (T := TX7) (N := 7) (v := .ref (ad 2)) cx.1 cx.2.1 cx.2.2.2.2 iw_X7_record_X7 cx.2.2.2.1 hK hP 0 rfl rfl 1 (by decide) (cx.2.2.2.2 _ fw_X7_record_f13) (fun _ h9 => h9) rfl dX7_record_18 ?_
          refine lv_iload_n cx.1 cx.2.1 dX7_record_21 rfl (lv_at hl 0 rfl) ?_
          refine lv_aload_n cx.1 cx.2.1 dX7_record_22 rfl (lv_at hl 1 rfl) ?_
          refine va_get (ci := 6) (C := RX7) (T := TX7) (N := 7) (v := .ref (ad 2)) cx.1 cx.2.1 cx.2.2.2.2 iw_X7_record_X7 cx.2.2.2.1 hK hP 0 rfl rfl 1 (by decide) (cx.2.2.2.2 _ fw_X7_record_f13) (fun _ h9 => h9) rfl dX7_record_23 ?_
          refine lv_iload_n cx.1 cx.2.1 dX7_record_26 rfl (lv_at hl 0 rfl) ?_
          refine lv_sipush (v := nI 417) cx.1 cx.2.1 dX7_record_27 (by decide) ?_
          refine nv_iadd cx (a := t) (b := 417) dX7_record_30 ?_
          refine nv_iald (j := t + 417) cx hK hP 2 1 rfl rfl (by omega) (by decide) dX7_record_31 ?_
          refine nv_iast (j := t) (x := ((va_up M 1 (mvN (M 1) 417 0 t)) 1) (t + 417)) cx hK hP hD hS 2 1 rfl rfl (by omega) (by decide) dX7_record_32 (ws1 := mdC G ad (va_up (va_up M 1 (mvN (M 1) 417 0 t)) 1 (upd ((va_up M 1 (mvN (M 1) 417 0 t)) 1) t (((va_up M 1 (mvN (M 1) 417 0 t)) 1) (t + 417))))) rfl (fun H locs hP hD hS => ?_)
          refine lv_iinc (v := nI (t + 1)) (lv' := [(1, .int (nI (t + 1))), (0, .ref (ad 0))]) cx.1 cx.2.1 dX7_record_33 hl (k := 0) rfl (show nI t + Int32.ofInt 1 = nI (t + 1) from nI_add t 1) (by decide) rfl (fun ls hl => ?_)
          refine lv_goto (tgt := 10) cx.1 cx.2.1 dX7_record_36 (by decide) ?_
          exact ih10 (t + 1) (by omega) (by omega) _ _ (by rw [mvN_step (M 1) (by decide), Nat.zero_add]; exact hP) (hD.fst rfl) hS ls (lv_sub hl [0, 1] rfl)
    exact lp10 _ 0 (Nat.lt_succ_self _) (by omega) s.heap [] (by rw [mvN_0]; exact hP) (hD.fst rfl) hS ls (lv_sub hl [0, 1] rfl)

theorem iw_X7_recut_X7 : ∀ w ∈ wsX70, w ∈ wsX7_recut := fun _ h => List.mem_cons_of_mem _ (List.mem_append_right _ h)
theorem fw_X7_recut_f7 : (Cond.fieldLink RX7 7 "NamePlateModel" "now" "[I") ∈ wsX7_recut := List.mem_of_getElem? (i := 1) rfl
set_option maxHeartbeats 4000000 in
set_option maxRecDepth 100000 in
theorem c_X7_recut (l : Launch) (G : GG) (ad : Nat → Nat) (M : XS) (w : Int32) (h : Int32) (hkk : okK M) (hok : okM (M 0)) : WR l yX7_recut wsX7_recut 2 44 G (mdC G ad M) [.ref (ad 0), .int w, .int h] (some (.int ((mRecut M w h).1))) (mdC G ad ((mRecut M w h).2)) := by
  refine WR.start (cc := cX7_recut) (maxL := 5) (ret := (some .int)) (by decide) rfl (Nat.le_of_ble_eq_true rfl) ?_
  intro p e s m below meth c ls cx hr hlocks hK hN hP hD hS hl
  have cx : CallFix p m c cX7_recut 5 s [.ref (ad 0), .int w, .int h].toArray wsX7_recut RX7 := cx
  have hl : lv_has ls 5 [(0, .ref (ad 0)), (1, .int w), (2, .int h)] := hl
  have hn20 := hok.n20
  refine lv_iload_n cx.1 cx.2.1 dX7_recut_0 rfl (lv_at hl 1 rfl) ?_
  refine lv_sipush (v := nI 300) cx.1 cx.2.1 dX7_recut_1 (by decide) ?_
  refine lv_sipush (v := nI 6000) cx.1 cx.2.1 dX7_recut_4 (by decide) ?_
  refine RO.callS (As := [.int w, .int 300, .int 6000]) (rest := []) cx (c_X7_in l G w 300 6000) gX7_recut_X7_in rfl hd_X7_in ⟨Nat.le_of_ble_eq_true rfl, Nat.le_of_ble_eq_true rfl⟩ hK hN va_P.nil rfl hl.1 rfl (Nat.le_of_ble_eq_true rfl) dX7_recut_7 ⟨Nat.zero_le _, Nat.zero_le _⟩ ?_
  refine nv_ifz (b := inR w 300 6000) (tgt := 25) cx dX7_recut_10 (by decide) (fun c_1 => ?_) (fun c_1 => ?_)
  · refine lv_sipush (v := (-1002)) cx.1 cx.2.1 dX7_recut_25 (by decide) ?_
    exact WR.ret (x := (-1002)) cx hr hlocks dX7_recut_28 (by first | (simp [mRecut, c_1]; done) | (simp only [mRecut, c_1, Bool.true_eq_false, or_self, if_false, ↓reduceIte]; rfl)) (by simp only [mRecut, c_1, true_or, or_true, or_self, if_true, if_false, ↓reduceIte, Bool.false_eq_true, Bool.true_eq_false]; exact hP) hS
  · refine lv_iload_n cx.1 cx.2.1 dX7_recut_13 rfl (lv_at hl 2 rfl) ?_
    refine lv_bipush (v := nI 100) cx.1 cx.2.1 dX7_recut_14 (by decide) ?_
    refine lv_sipush (v := nI 3000) cx.1 cx.2.1 dX7_recut_16 (by decide) ?_
    refine RO.callS (As := [.int h, .int 100, .int 3000]) (rest := []) cx (c_X7_in l G h 100 3000) gX7_recut_X7_in rfl hd_X7_in ⟨Nat.le_of_ble_eq_true rfl, Nat.le_of_ble_eq_true rfl⟩ hK hN va_P.nil rfl hl.1 rfl (Nat.le_of_ble_eq_true rfl) dX7_recut_19 ⟨Nat.zero_le _, Nat.zero_le _⟩ ?_
    refine nv_ifnz (b := inR h 100 3000) (tgt := 29) cx dX7_recut_22 (by decide) (fun c_2 => ?_) (fun c_2 => ?_)
    · refine lv_aload_n cx.1 cx.2.1 dX7_recut_29 rfl (lv_at hl 0 rfl) ?_
      refine WR.callV (As := []) (rest := []) cx (c_X7_record l G ad M hkk) gX7_recut_X7_record rfl hd_X7_record ⟨Nat.le_of_ble_eq_true rfl, Nat.le_of_ble_eq_true rfl⟩ (va_recv hK hP (ci := 6) (q0 := 0) rfl rfl) hK hN hP hD hS (fun _ h => h) rfl hl.1 rfl (Nat.le_of_ble_eq_true rfl) dX7_recut_30 ⟨Nat.zero_le _, Nat.zero_le _⟩ (fun H1 locs hP1 hk1 hS => ?_)
      have hP : va_P G.1 vwCl (mdC G ad (mRec M)) H1 := hP1
      have hD : va_D (wA (mdC G ad M)) (mdC G ad (mRec M)) := hD.fst rfl
      generalize H1 = H at hP hS ⊢
      clear hP1 hk1
      refine lv_aload_n cx.1 cx.2.1 dX7_recut_33 rfl (lv_at hl 0 rfl) ?_
      refine RO.callV (As := []) (rest := []) cx (c_X7_engraved l G ad (mRec M) hok) gX7_recut_X7_engraved rfl hd_X7_engraved ⟨Nat.le_of_ble_eq_true rfl, Nat.le_of_ble_eq_true rfl⟩ (va_recv hK hP (ci := 6) (q0 := 0) rfl rfl) hK hN hP rfl hl.1 rfl (Nat.le_of_ble_eq_true rfl) dX7_recut_34 ⟨Nat.zero_le _, Nat.zero_le _⟩ ?_
      refine lv_istore_n (lv' := [(3, .int (mEs ((mRec M) 0))), (0, .ref (ad 0)), (1, .int w), (2, .int h)]) cx.1 cx.2.1 dX7_recut_37 rfl hl (by decide) rfl (fun ls hl => ?_)
      refine lv_aload_n cx.1 cx.2.1 dX7_recut_38 rfl (lv_at hl 1 rfl) ?_
      refine va_get (ci := 6) (C := RX7) (T := TX7) (N := 7) (v := .ref (ad 1)) cx.1 cx.2.1 cx.2.2.2.2 iw_X7_recut_X7 cx.2.2.2.1 hK hP 0 rfl rfl 0 (by decide) (cx.2.2.2.2 _ fw_X7_recut_f7) (fun _ h9 => h9) rfl dX7_recut_39 ?_
      refine lv_iconst (v := nI 0) cx.1 cx.2.1 dX7_recut_42 (by decide) ?_
      refine lv_iload_n cx.1 cx.2.1 dX7_recut_43 rfl (lv_at hl 2 rfl) ?_
      refine nv_iast (j := 0) (x := w) cx hK hP hD hS 1 1 rfl rfl (by omega) (by decide) dX7_recut_44 (ws1 := mdC G ad (va_up (mRec M) 0 (upd ((mRec M) 0) 0 w))) rfl (fun H locs hP hD hS => ?_)
      refine lv_aload_n cx.1 cx.2.1 dX7_recut_45 rfl (lv_at hl 1 rfl) ?_
      refine va_get (ci := 6) (C := RX7) (T := TX7) (N := 7) (v := .ref (ad 1)) cx.1 cx.2.1 cx.2.2.2.2 iw_X7_recut_X7 cx.2.2.2.1 hK hP 0 rfl rfl 0 (by decide) (cx.2.2.2.2 _ fw_X7_recut_f7) (fun _ h9 => h9) rfl dX7_recut_46 ?_
      refine lv_iconst (v := nI 1) cx.1 cx.2.1 dX7_recut_49 (by decide) ?_
      refine lv_iload_n cx.1 cx.2.1 dX7_recut_50 rfl (lv_at hl 3 rfl) ?_
      refine nv_iast (j := 1) (x := h) cx hK hP hD hS 1 1 rfl rfl (by omega) (by decide) dX7_recut_51 (ws1 := mdC G ad (va_up (va_up (mRec M) 0 (upd ((mRec M) 0) 0 w)) 0 (upd ((va_up (mRec M) 0 (upd ((mRec M) 0) 0 w)) 0) 1 h))) rfl (fun H locs hP hD hS => ?_)
      refine lv_iconst (v := nI 0) cx.1 cx.2.1 dX7_recut_52 (by decide) ?_
      refine lv_istore (lv' := [(4, .int (nI 0)), (3, .int (mEs ((mRec M) 0))), (0, .ref (ad 0)), (1, .int w), (2, .int h)]) cx.1 cx.2.1 dX7_recut_53 hl (by decide) rfl (fun ls hl => ?_)
      have lp55 : ∀ (r : Nat) (k : Nat) (hr9 : mn (M 0) - k < r) (hk9 : k ≤ mn (M 0)) (H : Heap) (locs : List Loc) (hP : va_P G.1 vwCl (mdC G ad (va_up (mRec M) 0 (clE (upd (upd (M 0) 0 w) 1 h) k))) H) (hD : va_D (wA (mdC G ad M)) (mdC G ad (va_up (mRec M) 0 (clE (upd (upd (M 0) 0 w) 1 h) k)))) (hS : va_S (wA (mdC G ad M)) s.heap H locs) (ls : Array Slot), lv_has ls 5 [(0, .ref (ad 0)), (1, .int w), (2, .int h), (3, .int (mEs ((mRec M) 0))), (4, .int (nI k))] → W p l e ({ frames := 2, cells := 0, slots := 0, locals := 44 } : Room) s m [.ref (ad 0), .int w, .int h].toArray below meth c H locs 0 0 (MQ below (QW G (mdC G ad M) (some (.int ((mRecut M w h).1))) (mdC G ad ((mRecut M w h).2))) [.ref (ad 0), .int w, .int h].toArray s 0 0 (wA (mdC G ad M))) (F0 m 55 ls []) := by
        intro r
        induction r with
        | zero => intro k hr9; exact absurd hr9 (Nat.not_lt_zero _)
        | succ r ih55 =>
          intro k hr9 hk9 H locs hP hD hS ls hl
          have h4 : clE (upd (upd (M 0) 0 w) 1 h) k 4 = nI (mn (M 0)) := by rw [clE_4]; exact hok.n
          refine lv_iload cx.1 cx.2.1 dX7_recut_55 (lv_at hl 4 rfl) ?_
          refine lv_aload_n cx.1 cx.2.1 dX7_recut_57 rfl (lv_at hl 0 rfl) ?_
          refine va_get (ci := 6) (C := RX7) (T := TX7) (N := 7) (v := .ref (ad 1)) cx.1 cx.2.1 cx.2.2.2.2 iw_X7_recut_X7 cx.2.2.2.1 hK hP 0 rfl rfl 0 (by decide) (cx.2.2.2.2 _ fw_X7_recut_f7) (fun _ h9 => h9) rfl dX7_recut_58 ?_
          refine lv_iconst (v := nI 4) cx.1 cx.2.1 dX7_recut_61 (by decide) ?_
          refine nv_iald (j := 4) cx hK hP 1 1 rfl rfl (by omega) (by decide) dX7_recut_62 ?_
          refine nv_eqi (y := nI (mn (M 0))) h4 ?_
          refine nv_icmp_ge (a := k) (b := mn (M 0)) (tgt := 88) cx dX7_recut_63 (by decide) (by omega) (by omega) (fun c_3 => ?_) (fun c_3 => ?_)
          · have et : k = mn (M 0) := by omega
            subst et
            refine lv_aload_n cx.1 cx.2.1 dX7_recut_88 rfl (lv_at hl 0 rfl) ?_
            refine va_get (ci := 6) (C := RX7) (T := TX7) (N := 7) (v := .ref (ad 1)) cx.1 cx.2.1 cx.2.2.2.2 iw_X7_recut_X7 cx.2.2.2.1 hK hP 0 rfl rfl 0 (by decide) (cx.2.2.2.2 _ fw_X7_recut_f7) (fun _ h9 => h9) rfl dX7_recut_89 ?_
            refine lv_iconst (v := nI 5) cx.1 cx.2.1 dX7_recut_92 (by decide) ?_
            refine lv_iconst (v := nI 0) cx.1 cx.2.1 dX7_recut_93 (by decide) ?_
            refine nv_iast (j := 5) (x := 0) cx hK hP hD hS 1 1 rfl rfl (by omega) (by decide) dX7_recut_94 (ws1 := mdC G ad (va_up (va_up (mRec M) 0 (clE (upd (upd (M 0) 0 w) 1 h) (mn (M 0)))) 0 (upd ((va_up (mRec M) 0 (clE (upd (upd (M 0) 0 w) 1 h) (mn (M 0)))) 0) 5 0))) rfl (fun H locs hP hD hS => ?_)
            refine lv_aload_n cx.1 cx.2.1 dX7_recut_95 rfl (lv_at hl 0 rfl) ?_
            refine va_get (ci := 6) (C := RX7) (T := TX7) (N := 7) (v := .ref (ad 1)) cx.1 cx.2.1 cx.2.2.2.2 iw_X7_recut_X7 cx.2.2.2.1 hK hP 0 rfl rfl 0 (by decide) (cx.2.2.2.2 _ fw_X7_recut_f7) (fun _ h9 => h9) rfl dX7_recut_96 ?_
            refine lv_bipush (v := nI 6) cx.1 cx.2.1 dX7_recut_99 (by decide) ?_
            refine lv_dup2_11 cx.1 cx.2.1 dX7_recut_101 rfl rfl ?_
            refine nv_iald (j := 6) cx hK hP 1 1 rfl rfl (by omega) (by decide) dX7_recut_102 ?_
            refine lv_iconst (v := nI 1) cx.1 cx.2.1 dX7_recut_103 (by decide) ?_
            refine lv_iadd (x := ((va_up (va_up (mRec M) 0 (clE (upd (upd (M 0) 0 w) 1 h) (mn (M 0)))) 0 (upd ((va_up (mRec M) 0 (clE (upd (upd (M 0) 0 w) 1 h) (mn (M 0)))) 0) 5 0)) 0) 6) (y := 1) cx.1 cx.2.1 dX7_recut_104 ?_
            refine nv_iast (j := 6) (x := (((va_up (va_up (mRec M) 0 (clE (upd (upd (M 0) 0 w) 1 h) (mn (M 0)))) 0 (upd ((va_up (mRec M) 0 (clE (upd (upd (M 0) 0 w) 1 h) (mn (M 0)))) 0) 5 0)) 0) 6) + 1) cx hK hP hD hS 1 1 rfl rfl (by omega) (by decide) dX7_recut_105 (ws1 := mdC G ad (va_up (va_up (va_up (mRec M) 0 (clE (upd (upd (M 0) 0 w) 1 h) (mn (M 0)))) 0 (upd ((va_up (mRec M) 0 (clE (upd (upd (M 0) 0 w) 1 h) (mn (M 0)))) 0) 5 0)) 0 (upd ((va_up (va_up (mRec M) 0 (clE (upd (upd (M 0) 0 w) 1 h) (mn (M 0)))) 0 (upd ((va_up (mRec M) 0 (clE (upd (upd (M 0) 0 w) 1 h) (mn (M 0)))) 0) 5 0)) 0) 6 ((((va_up (va_up (mRec M) 0 (clE (upd (upd (M 0) 0 w) 1 h) (mn (M 0)))) 0 (upd ((va_up (mRec M) 0 (clE (upd (upd (M 0) 0 w) 1 h) (mn (M 0)))) 0) 5 0)) 0) 6) + 1)))) rfl (fun H locs hP hD hS => ?_)
            refine lv_aload_n cx.1 cx.2.1 dX7_recut_106 rfl (lv_at hl 0 rfl) ?_
            refine va_get (ci := 6) (C := RX7) (T := TX7) (N := 7) (v := .ref (ad 1)) cx.1 cx.2.1 cx.2.2.2.2 iw_X7_recut_X7 cx.2.2.2.1 hK hP 0 rfl rfl 0 (by decide) (cx.2.2.2.2 _ fw_X7_recut_f7) (fun _ h9 => h9) rfl dX7_recut_107 ?_
            refine lv_bipush (v := nI 7) cx.1 cx.2.1 dX7_recut_110 (by decide) ?_
            refine lv_dup2_11 cx.1 cx.2.1 dX7_recut_112 rfl rfl ?_
            refine nv_iald (j := 7) cx hK hP 1 1 rfl rfl (by omega) (by decide) dX7_recut_113 ?_
            refine lv_iload_n cx.1 cx.2.1 dX7_recut_114 rfl (lv_at hl 3 rfl) ?_
            refine lv_iadd (x := ((va_up (va_up (va_up (mRec M) 0 (clE (upd (upd (M 0) 0 w) 1 h) (mn (M 0)))) 0 (upd ((va_up (mRec M) 0 (clE (upd (upd (M 0) 0 w) 1 h) (mn (M 0)))) 0) 5 0)) 0 (upd ((va_up (va_up (mRec M) 0 (clE (upd (upd (M 0) 0 w) 1 h) (mn (M 0)))) 0 (upd ((va_up (mRec M) 0 (clE (upd (upd (M 0) 0 w) 1 h) (mn (M 0)))) 0) 5 0)) 0) 6 ((((va_up (va_up (mRec M) 0 (clE (upd (upd (M 0) 0 w) 1 h) (mn (M 0)))) 0 (upd ((va_up (mRec M) 0 (clE (upd (upd (M 0) 0 w) 1 h) (mn (M 0)))) 0) 5 0)) 0) 6) + 1))) 0) 7) (y := mEs ((mRec M) 0)) cx.1 cx.2.1 dX7_recut_115 ?_
            refine nv_iast (j := 7) (x := (((va_up (va_up (va_up (mRec M) 0 (clE (upd (upd (M 0) 0 w) 1 h) (mn (M 0)))) 0 (upd ((va_up (mRec M) 0 (clE (upd (upd (M 0) 0 w) 1 h) (mn (M 0)))) 0) 5 0)) 0 (upd ((va_up (va_up (mRec M) 0 (clE (upd (upd (M 0) 0 w) 1 h) (mn (M 0)))) 0 (upd ((va_up (mRec M) 0 (clE (upd (upd (M 0) 0 w) 1 h) (mn (M 0)))) 0) 5 0)) 0) 6 ((((va_up (va_up (mRec M) 0 (clE (upd (upd (M 0) 0 w) 1 h) (mn (M 0)))) 0 (upd ((va_up (mRec M) 0 (clE (upd (upd (M 0) 0 w) 1 h) (mn (M 0)))) 0) 5 0)) 0) 6) + 1))) 0) 7) + (mEs ((mRec M) 0))) cx hK hP hD hS 1 1 rfl rfl (by omega) (by decide) dX7_recut_116 (ws1 := mdC G ad (va_up (va_up (va_up (va_up (mRec M) 0 (clE (upd (upd (M 0) 0 w) 1 h) (mn (M 0)))) 0 (upd ((va_up (mRec M) 0 (clE (upd (upd (M 0) 0 w) 1 h) (mn (M 0)))) 0) 5 0)) 0 (upd ((va_up (va_up (mRec M) 0 (clE (upd (upd (M 0) 0 w) 1 h) (mn (M 0)))) 0 (upd ((va_up (mRec M) 0 (clE (upd (upd (M 0) 0 w) 1 h) (mn (M 0)))) 0) 5 0)) 0) 6 ((((va_up (va_up (mRec M) 0 (clE (upd (upd (M 0) 0 w) 1 h) (mn (M 0)))) 0 (upd ((va_up (mRec M) 0 (clE (upd (upd (M 0) 0 w) 1 h) (mn (M 0)))) 0) 5 0)) 0) 6) + 1))) 0 (upd ((va_up (va_up (va_up (mRec M) 0 (clE (upd (upd (M 0) 0 w) 1 h) (mn (M 0)))) 0 (upd ((va_up (mRec M) 0 (clE (upd (upd (M 0) 0 w) 1 h) (mn (M 0)))) 0) 5 0)) 0 (upd ((va_up (va_up (mRec M) 0 (clE (upd (upd (M 0) 0 w) 1 h) (mn (M 0)))) 0 (upd ((va_up (mRec M) 0 (clE (upd (upd (M 0) 0 w) 1 h) (mn (M 0)))) 0) 5 0)) 0) 6 ((((va_up (va_up (mRec M) 0 (clE (upd (upd (M 0) 0 w) 1 h) (mn (M 0)))) 0 (upd ((va_up (mRec M) 0 (clE (upd (upd (M 0) 0 w) 1 h) (mn (M 0)))) 0) 5 0)) 0) 6) + 1))) 0) 7 ((((va_up (va_up (va_up (mRec M) 0 (clE (upd (upd (M 0) 0 w) 1 h) (mn (M 0)))) 0 (upd ((va_up (mRec M) 0 (clE (upd (upd (M 0) 0 w) 1 h) (mn (M 0)))) 0) 5 0)) 0 (upd ((va_up (va_up (mRec M) 0 (clE (upd (upd (M 0) 0 w) 1 h) (mn (M 0)))) 0 (upd ((va_up (mRec M) 0 (clE (upd (upd (M 0) 0 w) 1 h) (mn (M 0)))) 0) 5 0)) 0) 6 ((((va_up (va_up (mRec M) 0 (clE (upd (upd (M 0) 0 w) 1 h) (mn (M 0)))) 0 (upd ((va_up (mRec M) 0 (clE (upd (upd (M 0) 0 w) 1 h) (mn (M 0)))) 0) 5 0)) 0) 6) + 1))) 0) 7) + (mEs ((mRec M) 0)))))) rfl (fun H locs hP hD hS => ?_)
            refine lv_iload_n cx.1 cx.2.1 dX7_recut_117 rfl (lv_at hl 3 rfl) ?_
            exact WR.ret (x := mEs ((mRec M) 0)) cx hr hlocks dX7_recut_118 (by first | (simp [mRecut, c_1, c_2, c_3]; done) | (simp only [mRecut, c_1, c_2, c_3, Bool.true_eq_false, or_self, if_false, ↓reduceIte]; rfl)) (by simp only [mRecut, c_1, c_2, c_3, true_or, or_true, or_self, if_true, if_false, ↓reduceIte, Bool.false_eq_true, Bool.true_eq_false]; exact hP) hS
          · refine lv_aload_n cx.1 cx.2.1 dX7_recut_66 rfl (lv_at hl 0 rfl) ?_
            refine va_get (ci := 6) (C := RX7) (T := TX7) (N := 7) (v := .ref (ad 1)) cx.1 cx.2.1 cx.2.2.2.2 iw_X7_recut_X7 cx.2.2.2.1 hK hP 0 rfl rfl 0 (by decide) (cx.2.2.2.2 _ fw_X7_recut_f7) (fun _ h9 => h9) rfl dX7_recut_67 ?_
            refine lv_bipush (v := nI 57) cx.1 cx.2.1 dX7_recut_70 (by decide) ?_
            refine lv_bipush (v := nI 18) cx.1 cx.2.1 dX7_recut_72 (by decide) ?_
            refine lv_iload cx.1 cx.2.1 dX7_recut_74 (lv_at hl 4 rfl) ?_
            refine nv_imul cx (a := 18) (b := k) dX7_recut_76 ?_
            refine nv_iadd cx (a := 57) (b := 18 * k) dX7_recut_77 ?_
            refine lv_iconst (v := nI 1) cx.1 cx.2.1 dX7_recut_78 (by decide) ?_
            refine nv_iadd cx (a := 57 + (18 * k)) (b := 1) dX7_recut_79 ?_
            refine lv_iconst (v := nI 0) cx.1 cx.2.1 dX7_recut_80 (by decide) ?_
            refine nv_iast (j := 57 + (18 * k) + 1) (x := 0) cx hK hP hD hS 1 1 rfl rfl (by omega) (by decide) dX7_recut_81 (ws1 := mdC G ad (va_up (va_up (mRec M) 0 (clE (upd (upd (M 0) 0 w) 1 h) k)) 0 (upd ((va_up (mRec M) 0 (clE (upd (upd (M 0) 0 w) 1 h) k)) 0) (57 + (18 * k) + 1) 0))) rfl (fun H locs hP hD hS => ?_)
            refine lv_iinc (v := nI (k + 1)) (lv' := [(4, .int (nI (k + 1))), (0, .ref (ad 0)), (1, .int w), (2, .int h), (3, .int (mEs ((mRec M) 0)))]) cx.1 cx.2.1 dX7_recut_82 hl (k := 4) rfl (show nI k + Int32.ofInt 1 = nI (k + 1) from nI_add k 1) (by decide) rfl (fun ls hl => ?_)
            refine lv_goto (tgt := 55) cx.1 cx.2.1 dX7_recut_85 (by decide) ?_
            exact ih55 (k + 1) (by omega) (by omega) _ _ hP (hD.fst rfl) hS ls (lv_sub hl [1, 2, 3, 4, 0] rfl)
      exact lp55 _ 0 (Nat.lt_succ_self _) (by omega) H locs hP (hD.fst rfl) hS ls (lv_sub hl [2, 3, 4, 1, 0] rfl)
    · refine lv_sipush (v := (-1002)) cx.1 cx.2.1 dX7_recut_25 (by decide) ?_
      exact WR.ret (x := (-1002)) cx hr hlocks dX7_recut_28 (by first | (simp [mRecut, c_1, c_2]; done) | (simp only [mRecut, c_1, c_2, Bool.true_eq_false, or_self, if_false, ↓reduceIte]; rfl)) (by simp only [mRecut, c_1, c_2, true_or, or_true, or_self, if_true, if_false, ↓reduceIte, Bool.false_eq_true, Bool.true_eq_false]; exact hP) hS

theorem iw_X7_sets_X7 : ∀ w ∈ wsX70, w ∈ wsX7_sets := fun _ h => List.mem_cons_of_mem _ (List.mem_append_right _ h)
theorem fw_X7_sets_f7 : (Cond.fieldLink RX7 7 "NamePlateModel" "now" "[I") ∈ wsX7_sets := List.mem_of_getElem? (i := 1) rfl
set_option maxHeartbeats 4000000 in
set_option maxRecDepth 100000 in
theorem c_X7_sets (l : Launch) (G : GG) (ad : Nat → Nat) (M : XS) (c0 : Nat) (v : Int32) (hkk : okK M) (hok : okM (M 0)) (hc0 : c0 < 417) : WR l yX7_sets wsX7_sets 2 44 G (mdC G ad M) [.ref (ad 0), .int (nI c0), .int v] (some (.int ((mSet M c0 v).1))) (mdC G ad ((mSet M c0 v).2)) := by
  refine WR.start (cc := cX7_sets) (maxL := 4) (ret := (some .int)) (by decide) rfl (Nat.le_of_ble_eq_true rfl) ?_
  intro p e s m below meth c ls cx hr hlocks hK hN hP hD hS hl
  have cx : CallFix p m c cX7_sets 4 s [.ref (ad 0), .int (nI c0), .int v].toArray wsX7_sets RX7 := cx
  have hl : lv_has ls 4 [(0, .ref (ad 0)), (1, .int (nI c0)), (2, .int v)] := hl
  refine lv_aload_n cx.1 cx.2.1 dX7_sets_0 rfl (lv_at hl 0 rfl) ?_
  refine RO.callV (As := []) (rest := []) cx (c_X7_engraved l G ad M hok) gX7_sets_X7_engraved rfl hd_X7_engraved ⟨Nat.le_of_ble_eq_true rfl, Nat.le_of_ble_eq_true rfl⟩ (va_recv hK hP (ci := 6) (q0 := 0) rfl rfl) hK hN hP rfl hl.1 rfl (Nat.le_of_ble_eq_true rfl) dX7_sets_1 ⟨Nat.zero_le _, Nat.zero_le _⟩ ?_
  refine lv_if_le (x := mEs (M 0)) (tgt := 11) cx.1 cx.2.1 dX7_sets_4 (by decide) (fun c_1 => ?_) (fun c_1 => ?_)
  · refine lv_aload_n cx.1 cx.2.1 dX7_sets_11 rfl (lv_at hl 0 rfl) ?_
    refine va_get (ci := 6) (C := RX7) (T := TX7) (N := 7) (v := .ref (ad 1)) cx.1 cx.2.1 cx.2.2.2.2 iw_X7_sets_X7 cx.2.2.2.1 hK hP 0 rfl rfl 0 (by decide) (cx.2.2.2.2 _ fw_X7_sets_f7) (fun _ h9 => h9) rfl dX7_sets_12 ?_
    refine lv_iload_n cx.1 cx.2.1 dX7_sets_15 rfl (lv_at hl 1 rfl) ?_
    refine nv_iald (j := c0) cx hK hP 1 1 rfl rfl (by omega) (by decide) dX7_sets_16 ?_
    refine lv_istore_n (lv' := [(3, .int (M 0 c0)), (0, .ref (ad 0)), (1, .int (nI c0)), (2, .int v)]) cx.1 cx.2.1 dX7_sets_17 rfl hl (by decide) rfl (fun ls hl => ?_)
    refine lv_iload_n cx.1 cx.2.1 dX7_sets_18 rfl (lv_at hl 0 rfl) ?_
    refine lv_iload_n cx.1 cx.2.1 dX7_sets_19 rfl (lv_at hl 3 rfl) ?_
    refine lv_icmp_ne (x := M 0 c0) (y := v) (tgt := 27) cx.1 cx.2.1 dX7_sets_20 (by decide) (fun c_2 => ?_) (fun c_2 => ?_)
    · refine lv_aload_n cx.1 cx.2.1 dX7_sets_27 rfl (lv_at hl 1 rfl) ?_
      refine WR.callV (As := []) (rest := []) cx (c_X7_record l G ad M hkk) gX7_sets_X7_record rfl hd_X7_record ⟨Nat.le_of_ble_eq_true rfl, Nat.le_of_ble_eq_true rfl⟩ (va_recv hK hP (ci := 6) (q0 := 0) rfl rfl) hK hN hP hD hS (fun _ h => h) rfl hl.1 rfl (Nat.le_of_ble_eq_true rfl) dX7_sets_28 ⟨Nat.zero_le _, Nat.zero_le _⟩ (fun H1 locs hP1 hk1 hS => ?_)
      have hP : va_P G.1 vwCl (mdC G ad (mRec M)) H1 := hP1
      have hD : va_D (wA (mdC G ad M)) (mdC G ad (mRec M)) := hD.fst rfl
      generalize H1 = H at hP hS ⊢
      clear hP1 hk1
      refine lv_aload_n cx.1 cx.2.1 dX7_sets_31 rfl (lv_at hl 1 rfl) ?_
      refine va_get (ci := 6) (C := RX7) (T := TX7) (N := 7) (v := .ref (ad 1)) cx.1 cx.2.1 cx.2.2.2.2 iw_X7_sets_X7 cx.2.2.2.1 hK hP 0 rfl rfl 0 (by decide) (cx.2.2.2.2 _ fw_X7_sets_f7) (fun _ h9 => h9) rfl dX7_sets_32 ?_
      refine lv_iload_n cx.1 cx.2.1 dX7_sets_35 rfl (lv_at hl 2 rfl) ?_
      refine lv_iload_n cx.1 cx.2.1 dX7_sets_36 rfl (lv_at hl 3 rfl) ?_
      refine nv_iast (j := c0) (x := v) cx hK hP hD hS 1 1 rfl rfl (by omega) (by decide) dX7_sets_37 (ws1 := mdC G ad (va_up (mRec M) 0 (upd ((mRec M) 0) c0 v))) rfl (fun H locs hP hD hS => ?_)
      refine lv_iload_n cx.1 cx.2.1 dX7_sets_38 rfl (lv_at hl 0 rfl) ?_
      exact WR.ret (x := M 0 c0) cx hr hlocks dX7_sets_39 (by simp [mSet, c_1, c_2]) (by simp only [mSet, c_1, c_2, true_or, or_true, or_self, not_true_eq_false, not_false_eq_true, if_true, if_false, ↓reduceIte, Bool.false_eq_true, Bool.true_eq_false]; exact hP) hS
    · refine lv_sipush (v := (-1005)) cx.1 cx.2.1 dX7_sets_23 (by decide) ?_
      exact WR.ret (x := (-1005)) cx hr hlocks dX7_sets_26 (by simp [mSet, c_1, c_2]) (by simp only [mSet, c_1, c_2, true_or, or_true, or_self, not_true_eq_false, not_false_eq_true, if_true, if_false, ↓reduceIte, Bool.false_eq_true, Bool.true_eq_false]; exact hP) hS
  · refine lv_sipush (v := (-1004)) cx.1 cx.2.1 dX7_sets_7 (by decide) ?_
    exact WR.ret (x := (-1004)) cx hr hlocks dX7_sets_10 (by simp [mSet, c_1]) (by simp only [mSet, c_1, true_or, or_true, or_self, not_true_eq_false, not_false_eq_true, if_true, if_false, ↓reduceIte, Bool.false_eq_true, Bool.true_eq_false]; exact hP) hS

set_option maxHeartbeats 4000000 in
set_option maxRecDepth 100000 in
theorem c_X7_setMargin (l : Launch) (G : GG) (ad : Nat → Nat) (M : XS) (v : Int32) (hkk : okK M) (hok : okM (M 0)) : WR l yX7_setMargin wsX7_setMargin 3 67 G (mdC G ad M) [.ref (ad 0), .int v] (some (.int ((mMar M v).1))) (mdC G ad ((mMar M v).2)) := by
  refine WR.start (cc := cX7_setMargin) (maxL := 2) (ret := (some .int)) (by decide) rfl (Nat.le_of_ble_eq_true rfl) ?_
  intro p e s m below meth c ls cx hr hlocks hK hN hP hD hS hl
  have cx : CallFix p m c cX7_setMargin 2 s [.ref (ad 0), .int v].toArray wsX7_setMargin RX7 := cx
  have hl : lv_has ls 2 [(0, .ref (ad 0)), (1, .int v)] := hl
  refine lv_iload_n cx.1 cx.2.1 dX7_setMargin_0 rfl (lv_at hl 1 rfl) ?_
  refine lv_iconst (v := nI 0) cx.1 cx.2.1 dX7_setMargin_1 (by decide) ?_
  refine lv_bipush (v := nI 100) cx.1 cx.2.1 dX7_setMargin_2 (by decide) ?_
  refine RO.callS (As := [.int v, .int 0, .int 100]) (rest := []) cx (c_X7_in l G v 0 100) gX7_setMargin_X7_in rfl hd_X7_in ⟨Nat.le_of_ble_eq_true rfl, Nat.le_of_ble_eq_true rfl⟩ hK hN va_P.nil rfl hl.1 rfl (Nat.le_of_ble_eq_true rfl) dX7_setMargin_4 ⟨Nat.zero_le _, Nat.zero_le _⟩ ?_
  refine nv_ifz (b := inR v 0 100) (tgt := 19) cx dX7_setMargin_7 (by decide) (fun c_1 => ?_) (fun c_1 => ?_)
  · refine lv_sipush (v := (-1002)) cx.1 cx.2.1 dX7_setMargin_19 (by decide) ?_
    exact WR.ret (x := (-1002)) cx hr hlocks dX7_setMargin_22 (by simp [mMar, c_1]) (by simp only [mMar, c_1, true_or, or_true, or_self, not_true_eq_false, not_false_eq_true, if_true, if_false, ↓reduceIte, Bool.false_eq_true, Bool.true_eq_false]; exact hP) hS
  · refine lv_aload_n cx.1 cx.2.1 dX7_setMargin_10 rfl (lv_at hl 0 rfl) ?_
    refine lv_iconst (v := nI 2) cx.1 cx.2.1 dX7_setMargin_11 (by decide) ?_
    refine lv_iload_n cx.1 cx.2.1 dX7_setMargin_12 rfl (lv_at hl 1 rfl) ?_
    refine WR.callV (As := [.int (nI 2), .int v]) (rest := []) cx (c_X7_sets l G ad M 2 v hkk hok (by omega)) gX7_setMargin_X7_sets rfl hd_X7_sets ⟨Nat.le_of_ble_eq_true rfl, Nat.le_of_ble_eq_true rfl⟩ (va_recv hK hP (ci := 6) (q0 := 0) rfl rfl) hK hN hP hD hS (fun _ h => h) rfl hl.1 rfl (Nat.le_of_ble_eq_true rfl) dX7_setMargin_13 ⟨Nat.zero_le _, Nat.zero_le _⟩ (fun H1 locs hP1 hk1 hS => ?_)
    have hP : va_P G.1 vwCl (mdC G ad ((mSet M 2 v).2)) H1 := hP1
    have hD : va_D (wA (mdC G ad M)) (mdC G ad ((mSet M 2 v).2)) := hD.fst rfl
    generalize H1 = H at hP hS ⊢
    clear hP1 hk1
    refine lv_goto (tgt := 22) cx.1 cx.2.1 dX7_setMargin_16 (by decide) ?_
    exact WR.ret (x := (mSet M 2 v).1) cx hr hlocks dX7_setMargin_22 (by simp [mMar, c_1]) (by simp only [mMar, c_1, true_or, or_true, or_self, not_true_eq_false, not_false_eq_true, if_true, if_false, ↓reduceIte, Bool.false_eq_true, Bool.true_eq_false]; exact hP) hS

set_option maxHeartbeats 4000000 in
set_option maxRecDepth 100000 in
theorem c_X7_setColumns (l : Launch) (G : GG) (ad : Nat → Nat) (M : XS) (v : Int32) (hkk : okK M) (hok : okM (M 0)) : WR l yX7_setColumns wsX7_setColumns 3 67 G (mdC G ad M) [.ref (ad 0), .int v] (some (.int ((mColu M v).1))) (mdC G ad ((mColu M v).2)) := by
  refine WR.start (cc := cX7_setColumns) (maxL := 2) (ret := (some .int)) (by decide) rfl (Nat.le_of_ble_eq_true rfl) ?_
  intro p e s m below meth c ls cx hr hlocks hK hN hP hD hS hl
  have cx : CallFix p m c cX7_setColumns 2 s [.ref (ad 0), .int v].toArray wsX7_setColumns RX7 := cx
  have hl : lv_has ls 2 [(0, .ref (ad 0)), (1, .int v)] := hl
  refine lv_iload_n cx.1 cx.2.1 dX7_setColumns_0 rfl (lv_at hl 1 rfl) ?_
  refine lv_iconst (v := nI 1) cx.1 cx.2.1 dX7_setColumns_1 (by decide) ?_
  refine lv_iconst (v := nI 3) cx.1 cx.2.1 dX7_setColumns_2 (by decide) ?_
  refine RO.callS (As := [.int v, .int 1, .int 3]) (rest := []) cx (c_X7_in l G v 1 3) gX7_setColumns_X7_in rfl hd_X7_in ⟨Nat.le_of_ble_eq_true rfl, Nat.le_of_ble_eq_true rfl⟩ hK hN va_P.nil rfl hl.1 rfl (Nat.le_of_ble_eq_true rfl) dX7_setColumns_3 ⟨Nat.zero_le _, Nat.zero_le _⟩ ?_
  refine nv_ifz (b := inR v 1 3) (tgt := 18) cx dX7_setColumns_6 (by decide) (fun c_1 => ?_) (fun c_1 => ?_)
  · refine lv_sipush (v := (-1002)) cx.1 cx.2.1 dX7_setColumns_18 (by decide) ?_
    exact WR.ret (x := (-1002)) cx hr hlocks dX7_setColumns_21 (by simp [mColu, c_1]) (by simp only [mColu, c_1, true_or, or_true, or_self, not_true_eq_false, not_false_eq_true, if_true, if_false, ↓reduceIte, Bool.false_eq_true, Bool.true_eq_false]; exact hP) hS
  · refine lv_aload_n cx.1 cx.2.1 dX7_setColumns_9 rfl (lv_at hl 0 rfl) ?_
    refine lv_iconst (v := nI 3) cx.1 cx.2.1 dX7_setColumns_10 (by decide) ?_
    refine lv_iload_n cx.1 cx.2.1 dX7_setColumns_11 rfl (lv_at hl 1 rfl) ?_
    refine WR.callV (As := [.int (nI 3), .int v]) (rest := []) cx (c_X7_sets l G ad M 3 v hkk hok (by omega)) gX7_setColumns_X7_sets rfl hd_X7_sets ⟨Nat.le_of_ble_eq_true rfl, Nat.le_of_ble_eq_true rfl⟩ (va_recv hK hP (ci := 6) (q0 := 0) rfl rfl) hK hN hP hD hS (fun _ h => h) rfl hl.1 rfl (Nat.le_of_ble_eq_true rfl) dX7_setColumns_12 ⟨Nat.zero_le _, Nat.zero_le _⟩ (fun H1 locs hP1 hk1 hS => ?_)
    have hP : va_P G.1 vwCl (mdC G ad ((mSet M 3 v).2)) H1 := hP1
    have hD : va_D (wA (mdC G ad M)) (mdC G ad ((mSet M 3 v).2)) := hD.fst rfl
    generalize H1 = H at hP hS ⊢
    clear hP1 hk1
    refine lv_goto (tgt := 21) cx.1 cx.2.1 dX7_setColumns_15 (by decide) ?_
    exact WR.ret (x := (mSet M 3 v).1) cx hr hlocks dX7_setColumns_21 (by simp [mColu, c_1]) (by simp only [mColu, c_1, true_or, or_true, or_self, not_true_eq_false, not_false_eq_true, if_true, if_false, ↓reduceIte, Bool.false_eq_true, Bool.true_eq_false]; exact hP) hS

theorem iw_X7_type_X7 : ∀ w ∈ wsX70, w ∈ wsX7_type := fun _ h => List.mem_cons_of_mem _ (List.mem_append_right _ h)
theorem fw_X7_type_f122 : (Cond.fieldLink RX7 122 "NamePlateModel" "typed" "I") ∈ wsX7_type := List.mem_of_getElem? (i := 1) rfl
theorem fw_X7_type_f19 : (Cond.fieldLink RX7 19 "NamePlateModel" "text" "[C") ∈ wsX7_type := List.mem_of_getElem? (i := 2) rfl
set_option maxHeartbeats 4000000 in
set_option maxRecDepth 100000 in
theorem c_X7_type (l : Launch) (G : GG) (ad : Nat → Nat) (M : XS) (c0 : Int32) (hot : okMT M) (hc : chOk c0) : WR l yX7_type wsX7_type 0 0 G (mdC G ad M) [.ref (ad 0), .int c0] (some (.int ((mType M c0).1))) (mdC G ad ((mType M c0).2)) := by
  refine WR.start (cc := cX7_type) (maxL := 2) (ret := (some .int)) (by decide) rfl (Nat.le_of_ble_eq_true rfl) ?_
  intro p e s m below meth c ls cx hr hlocks hK hN hP hD hS hl
  have cx : CallFix p m c cX7_type 2 s [.ref (ad 0), .int c0].toArray wsX7_type RX7 := cx
  have hl : lv_has ls 2 [(0, .ref (ad 0)), (1, .int c0)] := hl
  have h60 := hot.2.1
  refine lv_aload_n cx.1 cx.2.1 dX7_type_0 rfl (lv_at hl 0 rfl) ?_
  refine va_get (ci := 6) (C := RX7) (T := TX7) (N := 7) (v := .int (M 4 2)) cx.1 cx.2.1 cx.2.2.2.2 iw_X7_type_X7 cx.2.2.2.1 hK hP 0 rfl rfl 5 (by decide) (cx.2.2.2.2 _ fw_X7_type_f122) (fun _ h9 => h9) rfl dX7_type_1 ?_
  refine nv_eqi (y := nI (mt M)) hot.1 ?_
  refine lv_bipush (v := nI 60) cx.1 cx.2.1 dX7_type_4 (by decide) ?_
  refine nv_icmp_ne (a := mt M) (b := 60) (tgt := 13) cx dX7_type_6 (by decide) (by omega) (by omega) (fun c_1 => ?_) (fun c_1 => ?_)
  · refine lv_aload_n cx.1 cx.2.1 dX7_type_13 rfl (lv_at hl 0 rfl) ?_
    refine va_get (ci := 6) (C := RX7) (T := TX7) (N := 7) (v := .ref (ad 4)) cx.1 cx.2.1 cx.2.2.2.2 iw_X7_type_X7 cx.2.2.2.1 hK hP 0 rfl rfl 6 (by decide) (cx.2.2.2.2 _ fw_X7_type_f19) (fun _ h9 => h9) rfl dX7_type_14 ?_
    refine lv_aload_n cx.1 cx.2.1 dX7_type_17 rfl (lv_at hl 0 rfl) ?_
    refine va_get (ci := 6) (C := RX7) (T := TX7) (N := 7) (v := .int (M 4 2)) cx.1 cx.2.1 cx.2.2.2.2 iw_X7_type_X7 cx.2.2.2.1 hK hP 0 rfl rfl 5 (by decide) (cx.2.2.2.2 _ fw_X7_type_f122) (fun _ h9 => h9) rfl dX7_type_18 ?_
    refine nv_eqi (y := nI (mt M)) hot.1 ?_
    refine lv_iload_n cx.1 cx.2.1 dX7_type_21 rfl (lv_at hl 1 rfl) ?_
    refine nv_cast (j := mt M) (x := c0) cx hK hP hD hS 4 0 rfl rfl hc.1 (by omega) (by decide) dX7_type_22 (ws1 := mdC G ad (va_up M 3 (upd (M 3) (mt M) c0))) rfl (fun H locs hP hD hS => ?_)
    refine lv_aload_n cx.1 cx.2.1 dX7_type_23 rfl (lv_at hl 0 rfl) ?_
    refine lv_dup cx.1 cx.2.1 dX7_type_24 rfl ?_
    refine va_get (ci := 6) (C := RX7) (T := TX7) (N := 7) (v := .int ((va_up M 3 (upd (M 3) (mt M) c0)) 4 2)) cx.1 cx.2.1 cx.2.2.2.2 iw_X7_type_X7 cx.2.2.2.1 hK hP 0 rfl rfl 5 (by decide) (cx.2.2.2.2 _ fw_X7_type_f122) (fun _ h9 => h9) rfl dX7_type_25 ?_
    refine nv_eqi (y := nI (mt M)) hot.1 ?_
    refine lv_iconst (v := nI 1) cx.1 cx.2.1 dX7_type_28 (by decide) ?_
    refine nv_iadd cx (a := mt M) (b := 1) dX7_type_29 ?_
    refine va_put (ci := 6) (v := .int (nI (mt M + 1))) (ty := .int) (C := RX7) (T := TX7) (N := 7) cx.1 cx.2.1 cx.2.2.2.2 iw_X7_type_X7 tyX7 tyX7_ok nmX7 cx.2.2.2.1 hK hP hD hS 0 rfl rfl 5 (by decide) (cx.2.2.2.2 _ fw_X7_type_f122) (fun _ h9 => h9) rfl (by decide +kernel) rfl rfl (Nat.le_of_ble_eq_true rfl) dX7_type_30 (fun H locs hP hD hS => ?_)
    have hP : va_P G.1 vwCl (mdC G ad (va_up (va_up M 3 (upd (M 3) (mt M) c0)) 4 (upd ((va_up M 3 (upd (M 3) (mt M) c0)) 4) 2 (nI (mt M + 1))))) H := hP
    have hD : va_D (wA (mdC G ad M)) (mdC G ad (va_up (va_up M 3 (upd (M 3) (mt M) c0)) 4 (upd ((va_up M 3 (upd (M 3) (mt M) c0)) 4) 2 (nI (mt M + 1))))) := hD
    refine lv_aload_n cx.1 cx.2.1 dX7_type_33 rfl (lv_at hl 0 rfl) ?_
    refine va_get (ci := 6) (C := RX7) (T := TX7) (N := 7) (v := .int ((va_up (va_up M 3 (upd (M 3) (mt M) c0)) 4 (upd ((va_up M 3 (upd (M 3) (mt M) c0)) 4) 2 (nI (mt M + 1)))) 4 2)) cx.1 cx.2.1 cx.2.2.2.2 iw_X7_type_X7 cx.2.2.2.1 hK hP 0 rfl rfl 5 (by decide) (cx.2.2.2.2 _ fw_X7_type_f122) (fun _ h9 => h9) rfl dX7_type_34 ?_
    refine nv_eqi (y := nI (mt M + 1)) rfl ?_
    exact WR.ret (x := nI (mt M + 1)) cx hr hlocks dX7_type_37 (by simp [mType, c_1]) (by simp only [mType, c_1, true_or, or_true, or_self, not_true_eq_false, not_false_eq_true, if_true, if_false, ↓reduceIte, Bool.false_eq_true, Bool.true_eq_false]; exact hP) hS
  · refine lv_sipush (v := (-1003)) cx.1 cx.2.1 dX7_type_9 (by decide) ?_
    exact WR.ret (x := (-1003)) cx hr hlocks dX7_type_12 (by simp [mType, c_1]) (by simp only [mType, c_1, true_or, or_true, or_self, not_true_eq_false, not_false_eq_true, if_true, if_false, ↓reduceIte, Bool.false_eq_true, Bool.true_eq_false]; exact hP) hS

theorem iw_X7_clearText_X7 : ∀ w ∈ wsX70, w ∈ wsX7_clearText := fun _ h => List.mem_cons_of_mem _ (List.mem_append_right _ h)
theorem fw_X7_clearText_f122 : (Cond.fieldLink RX7 122 "NamePlateModel" "typed" "I") ∈ wsX7_clearText := List.mem_of_getElem? (i := 1) rfl
set_option maxHeartbeats 4000000 in
set_option maxRecDepth 100000 in
theorem c_X7_clearText (l : Launch) (G : GG) (ad : Nat → Nat) (M : XS)   : WR l yX7_clearText wsX7_clearText 0 0 G (mdC G ad M) [.ref (ad 0)] (some (.int ((mClear M).1))) (mdC G ad ((mClear M).2)) := by
  refine WR.start (cc := cX7_clearText) (maxL := 2) (ret := (some .int)) (by decide) rfl (Nat.le_of_ble_eq_true rfl) ?_
  intro p e s m below meth c ls cx hr hlocks hK hN hP hD hS hl
  have cx : CallFix p m c cX7_clearText 2 s [.ref (ad 0)].toArray wsX7_clearText RX7 := cx
  have hl : lv_has ls 2 [(0, .ref (ad 0))] := hl
  refine lv_aload_n cx.1 cx.2.1 dX7_clearText_0 rfl (lv_at hl 0 rfl) ?_
  refine va_get (ci := 6) (C := RX7) (T := TX7) (N := 7) (v := .int (M 4 2)) cx.1 cx.2.1 cx.2.2.2.2 iw_X7_clearText_X7 cx.2.2.2.1 hK hP 0 rfl rfl 5 (by decide) (cx.2.2.2.2 _ fw_X7_clearText_f122) (fun _ h9 => h9) rfl dX7_clearText_1 ?_
  refine lv_istore_n (lv' := [(1, .int (M 4 2)), (0, .ref (ad 0))]) cx.1 cx.2.1 dX7_clearText_4 rfl hl (by decide) rfl (fun ls hl => ?_)
  refine lv_aload_n cx.1 cx.2.1 dX7_clearText_5 rfl (lv_at hl 1 rfl) ?_
  refine lv_iconst (v := nI 0) cx.1 cx.2.1 dX7_clearText_6 (by decide) ?_
  refine va_put (ci := 6) (v := .int (nI 0)) (ty := .int) (C := RX7) (T := TX7) (N := 7) cx.1 cx.2.1 cx.2.2.2.2 iw_X7_clearText_X7 tyX7 tyX7_ok nmX7 cx.2.2.2.1 hK hP hD hS 0 rfl rfl 5 (by decide) (cx.2.2.2.2 _ fw_X7_clearText_f122) (fun _ h9 => h9) rfl (by decide +kernel) rfl rfl (Nat.le_of_ble_eq_true rfl) dX7_clearText_7 (fun H locs hP hD hS => ?_)
  have hP : va_P G.1 vwCl (mdC G ad (va_up M 4 (upd (M 4) 2 0))) H := hP
  have hD : va_D (wA (mdC G ad M)) (mdC G ad (va_up M 4 (upd (M 4) 2 0))) := hD
  refine lv_iload_n cx.1 cx.2.1 dX7_clearText_10 rfl (lv_at hl 0 rfl) ?_
  exact WR.ret (x := M 4 2) cx hr hlocks dX7_clearText_11 rfl hP hS

theorem iw_X7_faultOf_X7 : ∀ w ∈ wsX70, w ∈ wsX7_faultOf := fun _ h => List.mem_cons_of_mem _ (List.mem_append_right _ h)
theorem fw_X7_faultOf_f122 : (Cond.fieldLink RX7 122 "NamePlateModel" "typed" "I") ∈ wsX7_faultOf := List.mem_of_getElem? (i := 1) rfl
theorem fw_X7_faultOf_f19 : (Cond.fieldLink RX7 19 "NamePlateModel" "text" "[C") ∈ wsX7_faultOf := List.mem_of_getElem? (i := 2) rfl
set_option maxHeartbeats 4000000 in
set_option maxRecDepth 100000 in
theorem c_X7_faultOf (l : Launch) (G : GG) (ad : Nat → Nat) (M : XS)  (hot : okMT M) : RO l yX7_faultOf wsX7_faultOf 2 42 G (mdC G ad M) [.ref (ad 0)] (mFault M) := by
  refine RO.start (cc := cX7_faultOf) (maxL := 5) (ret := (some .int)) (by decide) rfl (Nat.le_of_ble_eq_true rfl) ?_
  intro p e s m below meth c ls cx hr hlocks hK hN hP hl
  have cx : CallFix p m c cX7_faultOf 5 s [.ref (ad 0)].toArray wsX7_faultOf RX7 := cx
  have hl : lv_has ls 5 [(0, .ref (ad 0))] := hl
  have h60 := hot.2.1
  have hle := mSc_le M
  refine lv_iconst (v := nI 0) cx.1 cx.2.1 dX7_faultOf_0 (by decide) ?_
  refine lv_istore_n (lv' := [(1, .int (nI 0)), (0, .ref (ad 0))]) cx.1 cx.2.1 dX7_faultOf_1 rfl hl (by decide) rfl (fun ls hl => ?_)
  refine lv_iconst (v := nI 1) cx.1 cx.2.1 dX7_faultOf_2 (by decide) ?_
  refine lv_istore_n (lv' := [(2, .int (nI 1)), (1, .int (nI 0)), (0, .ref (ad 0))]) cx.1 cx.2.1 dX7_faultOf_3 rfl hl (by decide) rfl (fun ls hl => ?_)
  refine lv_iconst (v := nI 0) cx.1 cx.2.1 dX7_faultOf_4 (by decide) ?_
  refine lv_istore_n (lv' := [(3, .int (nI 0)), (2, .int (nI 1)), (1, .int (nI 0)), (0, .ref (ad 0))]) cx.1 cx.2.1 dX7_faultOf_5 rfl hl (by decide) rfl (fun ls hl => ?_)
  have lp6 : ∀ (r : Nat) (i : Nat) (hr9 : mt M - i < r) (hi : i ≤ mt M) (hno : ∀ j, j < i → mBad M j = false) (ls : Array Slot), lv_has ls 5 [(0, .ref (ad 0)), (1, .int (nI ((mSc M i).1))), (2, .int (b2i ((mSc M i).2))), (3, .int (nI i))] → W p l e ({ frames := 2, cells := 0, slots := 0, locals := 42 } : Room) s m [.ref (ad 0)].toArray below meth c s.heap [] 0 0 (MQ below (vp_Si (fun r => r = (mFault M))) [.ref (ad 0)].toArray s 0 0 (fun _ => False)) (F0 m 6 ls []) := by
    intro r
    induction r with
    | zero => intro i hr9; exact absurd hr9 (Nat.not_lt_zero _)
    | succ r ih6 =>
      intro i hr9 hi hno ls hl
      have hlei := hle i
      refine lv_iload_n cx.1 cx.2.1 dX7_faultOf_6 rfl (lv_at hl 3 rfl) ?_
      refine lv_aload_n cx.1 cx.2.1 dX7_faultOf_7 rfl (lv_at hl 0 rfl) ?_
      refine va_get (ci := 6) (C := RX7) (T := TX7) (N := 7) (v := .int (M 4 2)) cx.1 cx.2.1 cx.2.2.2.2 iw_X7_faultOf_X7 cx.2.2.2.1 hK hP 0 rfl rfl 5 (by decide) (cx.2.2.2.2 _ fw_X7_faultOf_f122) (fun _ h9 => h9) rfl dX7_faultOf_8 ?_
      refine nv_eqi (y := nI (mt M)) hot.1 ?_
      refine nv_icmp_ge (a := i) (b := mt M) (tgt := 85) cx dX7_faultOf_11 (by decide) (by omega) (by omega) (fun c_1 => ?_) (fun c_1 => ?_)
      · refine lv_iload_n cx.1 cx.2.1 dX7_faultOf_85 rfl (lv_at hl 2 rfl) ?_
        refine nv_ifz (b := (mSc M i).2) (tgt := 96) cx dX7_faultOf_86 (by decide) (fun c_2 => ?_) (fun c_2 => ?_)
        · refine lv_sipush (v := (-1005)) cx.1 cx.2.1 dX7_faultOf_96 (by decide) ?_
          exact RO.ret (x := (-1005)) cx hr hlocks dX7_faultOf_99 (by have e : mFl M = i := fstN_eq hi hno (fun q => absurd q (by omega)); have e2 : i = mt M := (by omega); rw [mFault, e, if_neg (by omega), ← e2]; simp [c_1, c_2])
        · refine lv_aload_n cx.1 cx.2.1 dX7_faultOf_89 rfl (lv_at hl 0 rfl) ?_
          refine va_get (ci := 6) (C := RX7) (T := TX7) (N := 7) (v := .int (M 4 2)) cx.1 cx.2.1 cx.2.2.2.2 iw_X7_faultOf_X7 cx.2.2.2.1 hK hP 0 rfl rfl 5 (by decide) (cx.2.2.2.2 _ fw_X7_faultOf_f122) (fun _ h9 => h9) rfl dX7_faultOf_90 ?_
          refine nv_eqi (y := nI (mt M)) hot.1 ?_
          refine lv_goto (tgt := 99) cx.1 cx.2.1 dX7_faultOf_93 (by decide) ?_
          exact RO.ret (x := nI (mt M)) cx hr hlocks dX7_faultOf_99 (by have e : mFl M = i := fstN_eq hi hno (fun q => absurd q (by omega)); have e2 : i = mt M := (by omega); rw [mFault, e, if_neg (by omega), ← e2]; simp [c_1, c_2])
      · refine lv_aload_n cx.1 cx.2.1 dX7_faultOf_14 rfl (lv_at hl 0 rfl) ?_
        refine va_get (ci := 6) (C := RX7) (T := TX7) (N := 7) (v := .ref (ad 4)) cx.1 cx.2.1 cx.2.2.2.2 iw_X7_faultOf_X7 cx.2.2.2.1 hK hP 0 rfl rfl 6 (by decide) (cx.2.2.2.2 _ fw_X7_faultOf_f19) (fun _ h9 => h9) rfl dX7_faultOf_15 ?_
        refine lv_iload_n cx.1 cx.2.1 dX7_faultOf_18 rfl (lv_at hl 3 rfl) ?_
        refine nv_cald (j := i) cx hK hP 4 0 rfl rfl (by omega) (by decide) dX7_faultOf_19 ?_
        refine lv_istore (lv' := [(4, .int (M 3 i)), (0, .ref (ad 0)), (1, .int (nI ((mSc M i).1))), (2, .int (b2i ((mSc M i).2))), (3, .int (nI i))]) cx.1 cx.2.1 dX7_faultOf_20 hl (by decide) rfl (fun ls hl => ?_)
        refine lv_iload cx.1 cx.2.1 dX7_faultOf_22 (lv_at hl 0 rfl) ?_
        refine lv_bipush (v := nI 59) cx.1 cx.2.1 dX7_faultOf_24 (by decide) ?_
        refine lv_icmp_ne (x := M 3 i) (y := 59) (tgt := 42) cx.1 cx.2.1 dX7_faultOf_26 (by decide) (fun c_3 => ?_) (fun c_3 => ?_)
        · refine lv_iload_n cx.1 cx.2.1 dX7_faultOf_42 rfl (lv_at hl 2 rfl) ?_
          refine lv_bipush (v := nI 16) cx.1 cx.2.1 dX7_faultOf_43 (by decide) ?_
          refine nv_icmp_eq (a := (mSc M i).1) (b := 16) (tgt := 68) cx dX7_faultOf_45 (by decide) (by omega) (by omega) (fun c_4 => ?_) (fun c_4 => ?_)
          · refine lv_iload_n cx.1 cx.2.1 dX7_faultOf_68 rfl (lv_at hl 4 rfl) ?_
            exact RO.ret (x := nI i) cx hr hlocks dX7_faultOf_69 (by have hb : mBad M i = true := (by unfold mBad; rw [if_neg (by assumption)]; simp [c_1, c_3, c_4]); have e : mFl M = i := fstN_eq hi hno (fun _ => hb); rw [mFault, e, if_pos (by omega)])
          · refine lv_iload cx.1 cx.2.1 dX7_faultOf_48 (lv_at hl 0 rfl) ?_
            refine RO.callS (As := [.int (M 3 i)]) (rest := []) cx (c_X7_isLetter l G (M 3 i)) gX7_faultOf_X7_isLetter rfl hd_X7_isLetter ⟨Nat.le_of_ble_eq_true rfl, Nat.le_of_ble_eq_true rfl⟩ hK hN va_P.nil rfl hl.1 rfl (Nat.le_of_ble_eq_true rfl) dX7_faultOf_50 ⟨Nat.zero_le _, Nat.zero_le _⟩ ?_
            refine nv_ifnz (b := mL (M 3 i)) (tgt := 70) cx dX7_faultOf_53 (by decide) (fun c_5 => ?_) (fun c_5 => ?_)
            · refine lv_iinc (v := nI ((mSc M i).1 + 1)) (lv' := [(1, .int (nI ((mSc M i).1 + 1))), (4, .int (M 3 i)), (0, .ref (ad 0)), (2, .int (b2i ((mSc M i).2))), (3, .int (nI i))]) cx.1 cx.2.1 dX7_faultOf_70 hl (k := 2) rfl (show nI ((mSc M i).1) + Int32.ofInt 1 = nI ((mSc M i).1 + 1) from nI_add ((mSc M i).1) 1) (by decide) rfl (fun ls hl => ?_)
              refine lv_iload cx.1 cx.2.1 dX7_faultOf_73 (lv_at hl 1 rfl) ?_
              refine RO.callS (As := [.int (M 3 i)]) (rest := []) cx (c_X7_isPoint l G (M 3 i)) gX7_faultOf_X7_isPoint rfl hd_X7_isPoint ⟨Nat.le_of_ble_eq_true rfl, Nat.le_of_ble_eq_true rfl⟩ hK hN va_P.nil rfl hl.1 rfl (Nat.le_of_ble_eq_true rfl) dX7_faultOf_75 ⟨Nat.zero_le _, Nat.zero_le _⟩ ?_
              refine lv_istore_n (lv' := [(2, .int (b2i (mPt (M 3 i)))), (1, .int (nI ((mSc M i).1 + 1))), (4, .int (M 3 i)), (0, .ref (ad 0)), (3, .int (nI i))]) cx.1 cx.2.1 dX7_faultOf_78 rfl hl (by decide) rfl (fun ls hl => ?_)
              refine lv_iinc (v := nI (i + 1)) (lv' := [(3, .int (nI (i + 1))), (2, .int (b2i (mPt (M 3 i)))), (1, .int (nI ((mSc M i).1 + 1))), (4, .int (M 3 i)), (0, .ref (ad 0))]) cx.1 cx.2.1 dX7_faultOf_79 hl (k := 4) rfl (show nI i + Int32.ofInt 1 = nI (i + 1) from nI_add i 1) (by decide) rfl (fun ls hl => ?_)
              refine lv_goto (tgt := 6) cx.1 cx.2.1 dX7_faultOf_82 (by decide) ?_
              have hno2 : ∀ j, j < i + 1 → mBad M j = false := lt_s hno (by unfold mBad; first | (rw [if_pos (by assumption)]; assumption) | (rw [if_neg (by assumption)]; simp [c_1, c_3, c_4, c_5]))
              have e1 : nI ((mSc M (i + 1)).1) = nI ((mSc M i).1 + 1) := by first | (simp only [mSc]; rw [if_pos (by assumption)]; rfl) | (simp only [mSc]; rw [if_neg (by assumption)])
              have e2 : b2i ((mSc M (i + 1)).2) = b2i (mPt (M 3 i)) := by first | (simp only [mSc]; rw [if_pos (by assumption)]; rfl) | (simp only [mSc]; rw [if_neg (by assumption)])
              exact ih6 (i + 1) (by omega) (by omega) hno2 ls (lv_sub hl [4, 2, 1, 0] (by rw [e1, e2]; rfl))
            · refine lv_iload_n cx.1 cx.2.1 dX7_faultOf_56 rfl (lv_at hl 3 rfl) ?_
              refine nv_ifnz (b := (mSc M i).2) (tgt := 68) cx dX7_faultOf_57 (by decide) (fun c_6 => ?_) (fun c_6 => ?_)
              · refine lv_iload_n cx.1 cx.2.1 dX7_faultOf_68 rfl (lv_at hl 4 rfl) ?_
                exact RO.ret (x := nI i) cx hr hlocks dX7_faultOf_69 (by have hb : mBad M i = true := (by unfold mBad; rw [if_neg (by assumption)]; simp [c_1, c_3, c_4, c_5, c_6]); have e : mFl M = i := fstN_eq hi hno (fun _ => hb); rw [mFault, e, if_pos (by omega)])
              · refine lv_iload cx.1 cx.2.1 dX7_faultOf_60 (lv_at hl 0 rfl) ?_
                refine RO.callS (As := [.int (M 3 i)]) (rest := []) cx (c_X7_isPoint l G (M 3 i)) gX7_faultOf_X7_isPoint rfl hd_X7_isPoint ⟨Nat.le_of_ble_eq_true rfl, Nat.le_of_ble_eq_true rfl⟩ hK hN va_P.nil rfl hl.1 rfl (Nat.le_of_ble_eq_true rfl) dX7_faultOf_62 ⟨Nat.zero_le _, Nat.zero_le _⟩ ?_
                refine nv_ifnz (b := mPt (M 3 i)) (tgt := 70) cx dX7_faultOf_65 (by decide) (fun c_7 => ?_) (fun c_7 => ?_)
                · refine lv_iinc (v := nI ((mSc M i).1 + 1)) (lv' := [(1, .int (nI ((mSc M i).1 + 1))), (4, .int (M 3 i)), (0, .ref (ad 0)), (2, .int (b2i ((mSc M i).2))), (3, .int (nI i))]) cx.1 cx.2.1 dX7_faultOf_70 hl (k := 2) rfl (show nI ((mSc M i).1) + Int32.ofInt 1 = nI ((mSc M i).1 + 1) from nI_add ((mSc M i).1) 1) (by decide) rfl (fun ls hl => ?_)
                  refine lv_iload cx.1 cx.2.1 dX7_faultOf_73 (lv_at hl 1 rfl) ?_
                  refine RO.callS (As := [.int (M 3 i)]) (rest := []) cx (c_X7_isPoint l G (M 3 i)) gX7_faultOf_X7_isPoint rfl hd_X7_isPoint ⟨Nat.le_of_ble_eq_true rfl, Nat.le_of_ble_eq_true rfl⟩ hK hN va_P.nil rfl hl.1 rfl (Nat.le_of_ble_eq_true rfl) dX7_faultOf_75 ⟨Nat.zero_le _, Nat.zero_le _⟩ ?_
                  refine lv_istore_n (lv' := [(2, .int (b2i (mPt (M 3 i)))), (1, .int (nI ((mSc M i).1 + 1))), (4, .int (M 3 i)), (0, .ref (ad 0)), (3, .int (nI i))]) cx.1 cx.2.1 dX7_faultOf_78 rfl hl (by decide) rfl (fun ls hl => ?_)
                  refine lv_iinc (v := nI (i + 1)) (lv' := [(3, .int (nI (i + 1))), (2, .int (b2i (mPt (M 3 i)))), (1, .int (nI ((mSc M i).1 + 1))), (4, .int (M 3 i)), (0, .ref (ad 0))]) cx.1 cx.2.1 dX7_faultOf_79 hl (k := 4) rfl (show nI i + Int32.ofInt 1 = nI (i + 1) from nI_add i 1) (by decide) rfl (fun ls hl => ?_)
                  refine lv_goto (tgt := 6) cx.1 cx.2.1 dX7_faultOf_82 (by decide) ?_
                  have hno2 : ∀ j, j < i + 1 → mBad M j = false := lt_s hno (by unfold mBad; first | (rw [if_pos (by assumption)]; assumption) | (rw [if_neg (by assumption)]; simp [c_1, c_3, c_4, c_5, c_6, c_7]))
                  have e1 : nI ((mSc M (i + 1)).1) = nI ((mSc M i).1 + 1) := by first | (simp only [mSc]; rw [if_pos (by assumption)]; rfl) | (simp only [mSc]; rw [if_neg (by assumption)])
                  have e2 : b2i ((mSc M (i + 1)).2) = b2i (mPt (M 3 i)) := by first | (simp only [mSc]; rw [if_pos (by assumption)]; rfl) | (simp only [mSc]; rw [if_neg (by assumption)])
                  exact ih6 (i + 1) (by omega) (by omega) hno2 ls (lv_sub hl [4, 2, 1, 0] (by rw [e1, e2]; rfl))
                · refine lv_iload_n cx.1 cx.2.1 dX7_faultOf_68 rfl (lv_at hl 4 rfl) ?_
                  exact RO.ret (x := nI i) cx hr hlocks dX7_faultOf_69 (by have hb : mBad M i = true := (by unfold mBad; rw [if_neg (by assumption)]; simp [c_1, c_3, c_4, c_5, c_6, c_7]); have e : mFl M = i := fstN_eq hi hno (fun _ => hb); rw [mFault, e, if_pos (by omega)])
        · refine lv_iload_n cx.1 cx.2.1 dX7_faultOf_29 rfl (lv_at hl 3 rfl) ?_
          refine nv_ifz (b := (mSc M i).2) (tgt := 35) cx dX7_faultOf_30 (by decide) (fun c_8 => ?_) (fun c_8 => ?_)
          · refine lv_iconst (v := nI 0) cx.1 cx.2.1 dX7_faultOf_35 (by decide) ?_
            refine lv_istore_n (lv' := [(1, .int (nI 0)), (4, .int (M 3 i)), (0, .ref (ad 0)), (2, .int (b2i ((mSc M i).2))), (3, .int (nI i))]) cx.1 cx.2.1 dX7_faultOf_36 rfl hl (by decide) rfl (fun ls hl => ?_)
            refine lv_iconst (v := nI 1) cx.1 cx.2.1 dX7_faultOf_37 (by decide) ?_
            refine lv_istore_n (lv' := [(2, .int (nI 1)), (1, .int (nI 0)), (4, .int (M 3 i)), (0, .ref (ad 0)), (3, .int (nI i))]) cx.1 cx.2.1 dX7_faultOf_38 rfl hl (by decide) rfl (fun ls hl => ?_)
            refine lv_goto (tgt := 79) cx.1 cx.2.1 dX7_faultOf_39 (by decide) ?_
            refine lv_iinc (v := nI (i + 1)) (lv' := [(3, .int (nI (i + 1))), (2, .int (nI 1)), (1, .int (nI 0)), (4, .int (M 3 i)), (0, .ref (ad 0))]) cx.1 cx.2.1 dX7_faultOf_79 hl (k := 4) rfl (show nI i + Int32.ofInt 1 = nI (i + 1) from nI_add i 1) (by decide) rfl (fun ls hl => ?_)
            refine lv_goto (tgt := 6) cx.1 cx.2.1 dX7_faultOf_82 (by decide) ?_
            have hno2 : ∀ j, j < i + 1 → mBad M j = false := lt_s hno (by unfold mBad; first | (rw [if_pos (by assumption)]; assumption) | (rw [if_neg (by assumption)]; simp [c_1, c_3, c_8]))
            have e1 : nI ((mSc M (i + 1)).1) = 0 := by first | (simp only [mSc]; rw [if_pos (by assumption)]; rfl) | (simp only [mSc]; rw [if_neg (by assumption)])
            have e2 : b2i ((mSc M (i + 1)).2) = 1 := by first | (simp only [mSc]; rw [if_pos (by assumption)]; rfl) | (simp only [mSc]; rw [if_neg (by assumption)])
            exact ih6 (i + 1) (by omega) (by omega) hno2 ls (lv_sub hl [4, 2, 1, 0] (by rw [e1, e2]; rfl))
          · refine lv_iload_n cx.1 cx.2.1 dX7_faultOf_33 rfl (lv_at hl 4 rfl) ?_
            exact RO.ret (x := nI i) cx hr hlocks dX7_faultOf_34 (by have hb : mBad M i = true := (by unfold mBad; rw [if_pos (by assumption)]; assumption); have e : mFl M = i := fstN_eq hi hno (fun _ => hb); rw [mFault, e, if_pos (by omega)])
  exact lp6 _ 0 (Nat.lt_succ_self _) (by omega) (fun j hj => absurd hj (Nat.not_lt_zero _)) ls (lv_sub hl [3, 2, 1, 0] rfl)

theorem iw_X7_namesInText_X7 : ∀ w ∈ wsX70, w ∈ wsX7_namesInText := fun _ h => List.mem_cons_of_mem _ (List.mem_append_right _ h)
theorem fw_X7_namesInText_f122 : (Cond.fieldLink RX7 122 "NamePlateModel" "typed" "I") ∈ wsX7_namesInText := List.mem_of_getElem? (i := 1) rfl
theorem fw_X7_namesInText_f19 : (Cond.fieldLink RX7 19 "NamePlateModel" "text" "[C") ∈ wsX7_namesInText := List.mem_of_getElem? (i := 2) rfl
set_option maxHeartbeats 4000000 in
set_option maxRecDepth 100000 in
theorem c_X7_namesInText (l : Launch) (G : GG) (ad : Nat → Nat) (M : XS)  (hot : okMT M) : RO l yX7_namesInText wsX7_namesInText 0 0 G (mdC G ad M) [.ref (ad 0)] (nI (mNm M (mt M))) := by
  refine RO.start (cc := cX7_namesInText) (maxL := 3) (ret := (some .int)) (by decide) rfl (Nat.le_of_ble_eq_true rfl) ?_
  intro p e s m below meth c ls cx hr hlocks hK hN hP hl
  have cx : CallFix p m c cX7_namesInText 3 s [.ref (ad 0)].toArray wsX7_namesInText RX7 := cx
  have hl : lv_has ls 3 [(0, .ref (ad 0))] := hl
  have h60 := hot.2.1
  have hle := mNm_le M
  refine lv_iconst (v := nI 1) cx.1 cx.2.1 dX7_namesInText_0 (by decide) ?_
  refine lv_istore_n (lv' := [(1, .int (nI 1)), (0, .ref (ad 0))]) cx.1 cx.2.1 dX7_namesInText_1 rfl hl (by decide) rfl (fun ls hl => ?_)
  refine lv_iconst (v := nI 0) cx.1 cx.2.1 dX7_namesInText_2 (by decide) ?_
  refine lv_istore_n (lv' := [(2, .int (nI 0)), (1, .int (nI 1)), (0, .ref (ad 0))]) cx.1 cx.2.1 dX7_namesInText_3 rfl hl (by decide) rfl (fun ls hl => ?_)
  have lp4 : ∀ (r : Nat) (i : Nat) (hr9 : mt M - i < r) (hi : i ≤ mt M) (ls : Array Slot), lv_has ls 3 [(0, .ref (ad 0)), (1, .int (nI (mNm M i))), (2, .int (nI i))] → W p l e ({ frames := 0, cells := 0, slots := 0, locals := 0 } : Room) s m [.ref (ad 0)].toArray below meth c s.heap [] 0 0 (MQ below (vp_Si (fun r => r = (nI (mNm M (mt M))))) [.ref (ad 0)].toArray s 0 0 (fun _ => False)) (F0 m 4 ls []) := by
    intro r
    induction r with
    | zero => intro i hr9; exact absurd hr9 (Nat.not_lt_zero _)
    | succ r ih4 =>
      intro i hr9 hi ls hl
      have hlei := hle i
      refine lv_iload_n cx.1 cx.2.1 dX7_namesInText_4 rfl (lv_at hl 2 rfl) ?_
      refine lv_aload_n cx.1 cx.2.1 dX7_namesInText_5 rfl (lv_at hl 0 rfl) ?_
      refine va_get (ci := 6) (C := RX7) (T := TX7) (N := 7) (v := .int (M 4 2)) cx.1 cx.2.1 cx.2.2.2.2 iw_X7_namesInText_X7 cx.2.2.2.1 hK hP 0 rfl rfl 5 (by decide) (cx.2.2.2.2 _ fw_X7_namesInText_f122) (fun _ h9 => h9) rfl dX7_namesInText_6 ?_
      refine nv_eqi (y := nI (mt M)) hot.1 ?_
      refine nv_icmp_ge (a := i) (b := mt M) (tgt := 37) cx dX7_namesInText_9 (by decide) (by omega) (by omega) (fun c_1 => ?_) (fun c_1 => ?_)
      · refine lv_iload_n cx.1 cx.2.1 dX7_namesInText_37 rfl (lv_at hl 1 rfl) ?_
        exact RO.ret (x := nI (mNm M i)) cx hr hlocks dX7_namesInText_38 (by have e : i = mt M := (by omega); rw [e])
      · refine lv_iload_n cx.1 cx.2.1 dX7_namesInText_12 rfl (lv_at hl 1 rfl) ?_
        refine lv_aload_n cx.1 cx.2.1 dX7_namesInText_13 rfl (lv_at hl 0 rfl) ?_
        refine va_get (ci := 6) (C := RX7) (T := TX7) (N := 7) (v := .ref (ad 4)) cx.1 cx.2.1 cx.2.2.2.2 iw_X7_namesInText_X7 cx.2.2.2.1 hK hP 0 rfl rfl 6 (by decide) (cx.2.2.2.2 _ fw_X7_namesInText_f19) (fun _ h9 => h9) rfl dX7_namesInText_14 ?_
        refine lv_iload_n cx.1 cx.2.1 dX7_namesInText_17 rfl (lv_at hl 2 rfl) ?_
        refine nv_cald (j := i) cx hK hP 4 0 rfl rfl (by omega) (by decide) dX7_namesInText_18 ?_
        refine lv_bipush (v := nI 59) cx.1 cx.2.1 dX7_namesInText_19 (by decide) ?_
        refine lv_icmp_ne (x := M 3 i) (y := 59) (tgt := 28) cx.1 cx.2.1 dX7_namesInText_21 (by decide) (fun c_2 => ?_) (fun c_2 => ?_)
        · refine lv_iconst (v := nI 0) cx.1 cx.2.1 dX7_namesInText_28 (by decide) ?_
          refine nv_iadd cx (a := mNm M i) (b := 0) dX7_namesInText_29 ?_
          refine lv_istore_n (lv' := [(1, .int (nI (mNm M i + 0))), (0, .ref (ad 0)), (2, .int (nI i))]) cx.1 cx.2.1 dX7_namesInText_30 rfl hl (by decide) rfl (fun ls hl => ?_)
          refine lv_iinc (v := nI (i + 1)) (lv' := [(2, .int (nI (i + 1))), (1, .int (nI (mNm M i + 0))), (0, .ref (ad 0))]) cx.1 cx.2.1 dX7_namesInText_31 hl (k := 2) rfl (show nI i + Int32.ofInt 1 = nI (i + 1) from nI_add i 1) (by decide) rfl (fun ls hl => ?_)
          refine lv_goto (tgt := 4) cx.1 cx.2.1 dX7_namesInText_34 (by decide) ?_
          have e1 : nI (mNm M (i + 1)) = nI (mNm M i + 0) := by simp [mNm, c_1, c_2]
          exact ih4 (i + 1) (by omega) (by omega) ls (lv_sub hl [2, 1, 0] (by rw [e1]; rfl))
        · refine lv_iconst (v := nI 1) cx.1 cx.2.1 dX7_namesInText_24 (by decide) ?_
          refine lv_goto (tgt := 29) cx.1 cx.2.1 dX7_namesInText_25 (by decide) ?_
          refine nv_iadd cx (a := mNm M i) (b := 1) dX7_namesInText_29 ?_
          refine lv_istore_n (lv' := [(1, .int (nI (mNm M i + 1))), (0, .ref (ad 0)), (2, .int (nI i))]) cx.1 cx.2.1 dX7_namesInText_30 rfl hl (by decide) rfl (fun ls hl => ?_)
          refine lv_iinc (v := nI (i + 1)) (lv' := [(2, .int (nI (i + 1))), (1, .int (nI (mNm M i + 1))), (0, .ref (ad 0))]) cx.1 cx.2.1 dX7_namesInText_31 hl (k := 2) rfl (show nI i + Int32.ofInt 1 = nI (i + 1) from nI_add i 1) (by decide) rfl (fun ls hl => ?_)
          refine lv_goto (tgt := 4) cx.1 cx.2.1 dX7_namesInText_34 (by decide) ?_
          have e1 : nI (mNm M (i + 1)) = nI (mNm M i + 1) := by simp [mNm, c_1, c_2]
          exact ih4 (i + 1) (by omega) (by omega) ls (lv_sub hl [2, 1, 0] (by rw [e1]; rfl))
  exact lp4 _ 0 (Nat.lt_succ_self _) (by omega) ls (lv_sub hl [2, 1, 0] rfl)

theorem iw_X7_undo_X7 : ∀ w ∈ wsX70, w ∈ wsX7_undo := fun _ h => List.mem_cons_of_mem _ (List.mem_append_right _ h)
theorem fw_X7_undo_f23 : (Cond.fieldLink RX7 23 "NamePlateModel" "kept" "I") ∈ wsX7_undo := List.mem_of_getElem? (i := 1) rfl
theorem fw_X7_undo_f7 : (Cond.fieldLink RX7 7 "NamePlateModel" "now" "[I") ∈ wsX7_undo := List.mem_of_getElem? (i := 2) rfl
theorem fw_X7_undo_f13 : (Cond.fieldLink RX7 13 "NamePlateModel" "history" "[I") ∈ wsX7_undo := List.mem_of_getElem? (i := 3) rfl
set_option maxHeartbeats 4000000 in
set_option maxRecDepth 100000 in
theorem c_X7_undo (l : Launch) (G : GG) (ad : Nat → Nat) (M : XS)  (hkk : okK M) : WR l yX7_undo wsX7_undo 0 0 G (mdC G ad M) [.ref (ad 0)] (some (.int ((mUndo M).1))) (mdC G ad ((mUndo M).2)) := by
  refine WR.start (cc := cX7_undo) (maxL := 2) (ret := (some .int)) (by decide) rfl (Nat.le_of_ble_eq_true rfl) ?_
  intro p e s m below meth c ls cx hr hlocks hK hN hP hD hS hl
  have cx : CallFix p m c cX7_undo 2 s [.ref (ad 0)].toArray wsX7_undo RX7 := cx
  have hl : lv_has ls 2 [(0, .ref (ad 0))] := hl
  have hk5 := hkk.2
  refine lv_aload_n cx.1 cx.2.1 dX7_undo_0 rfl (lv_at hl 0 rfl) ?_
  refine va_get (ci := 6) (C := RX7) (T := TX7) (N := 7) (v := .int (M 4 0)) cx.1 cx.2.1 cx.2.2.2.2 iw_X7_undo_X7 cx.2.2.2.1 hK hP 0 rfl rfl 2 (by decide) (cx.2.2.2.2 _ fw_X7_undo_f23) (fun _ h9 => h9) rfl dX7_undo_1 ?_
  refine nv_eqi (y := nI (mk M)) hkk.1 ?_
  refine nv_if_ne (a := mk M) (tgt := 11) cx dX7_undo_4 (by decide) (by omega) (fun c_1 => ?_) (fun c_1 => ?_)
  · refine lv_aload_n cx.1 cx.2.1 dX7_undo_11 rfl (lv_at hl 0 rfl) ?_
    refine lv_dup cx.1 cx.2.1 dX7_undo_12 rfl ?_
    refine va_get (ci := 6) (C := RX7) (T := TX7) (N := 7) (v := .int (M 4 0)) cx.1 cx.2.1 cx.2.2.2.2 iw_X7_undo_X7 cx.2.2.2.1 hK hP 0 rfl rfl 2 (by decide) (cx.2.2.2.2 _ fw_X7_undo_f23) (fun _ h9 => h9) rfl dX7_undo_13 ?_
    refine nv_eqi (y := nI (mk M)) hkk.1 ?_
    refine lv_iconst (v := nI 1) cx.1 cx.2.1 dX7_undo_16 (by decide) ?_
    refine nv_isub cx (a := mk M) (b := 1) (by omega) dX7_undo_17 ?_
    refine va_put (ci := 6) (v := .int (nI (mk M - 1))) (ty := .int) (C := RX7) (T := TX7) (N := 7) cx.1 cx.2.1 cx.2.2.2.2 iw_X7_undo_X7 tyX7 tyX7_ok nmX7 cx.2.2.2.1 hK hP hD hS 0 rfl rfl 2 (by decide) (cx.2.2.2.2 _ fw_X7_undo_f23) (fun _ h9 => h9) rfl (by decide +kernel) rfl rfl (Nat.le_of_ble_eq_true rfl) dX7_undo_18 (fun H locs hP hD hS => ?_)
    have hP : va_P G.1 vwCl (mdC G ad (va_up M 4 (upd (M 4) 0 (nI (mk M - 1))))) H := hP
    have hD : va_D (wA (mdC G ad M)) (mdC G ad (va_up M 4 (upd (M 4) 0 (nI (mk M - 1))))) := hD
    refine lv_iconst (v := nI 0) cx.1 cx.2.1 dX7_undo_21 (by decide) ?_
    refine lv_istore_n (lv' := [(1, .int (nI 0)), (0, .ref (ad 0))]) cx.1 cx.2.1 dX7_undo_22 rfl hl (by decide) rfl (fun ls hl => ?_)
    have lp23 : ∀ (r : Nat) (t : Nat) (hr9 : 417 - t < r) (ht : t ≤ 417) (H : Heap) (locs : List Loc) (hP : va_P G.1 vwCl (mdC G ad (va_up (va_up M 4 (upd (M 4) 0 (nI (mk M - 1)))) 0 (cpN (M 0) (fun q => M 1 (417 * (mk M - 1) + q)) 0 t))) H) (hD : va_D (wA (mdC G ad M)) (mdC G ad (va_up (va_up M 4 (upd (M 4) 0 (nI (mk M - 1)))) 0 (cpN (M 0) (fun q => M 1 (417 * (mk M - 1) + q)) 0 t)))) (hS : va_S (wA (mdC G ad M)) s.heap H locs) (ls : Array Slot), lv_has ls 2 [(0, .ref (ad 0)), (1, .int (nI t))] → W p l e ({ frames := 0, cells := 0, slots := 0, locals := 0 } : Room) s m [.ref (ad 0)].toArray below meth c H locs 0 0 (MQ below (QW G (mdC G ad M) (some (.int ((mUndo M).1))) (mdC G ad ((mUndo M).2))) [.ref (ad 0)].toArray s 0 0 (wA (mdC G ad M))) (F0 m 23 ls []) := by
      intro r
      induction r with
      | zero => intro t hr9; exact absurd hr9 (Nat.not_lt_zero _)
      | succ r ih23 =>
        intro t hr9 ht H locs hP hD hS ls hl
        refine lv_iload_n cx.1 cx.2.1 dX7_undo_23 rfl (lv_at hl 1 rfl) ?_
        refine lv_sipush (v := nI 417) cx.1 cx.2.1 dX7_undo_24 (by decide) ?_
        refine nv_icmp_ge (a := t) (b := 417) (tgt := 57) cx dX7_undo_27 (by decide) (by omega) (by omega) (fun c_2 => ?_) (fun c_2 => ?_)
        · have et : t = 417 := by omega
          subst et
          refine lv_aload_n cx.1 cx.2.1 dX7_undo_57 rfl (lv_at hl 0 rfl) ?_
          refine va_get (ci := 6) (C := RX7) (T := TX7) (N := 7) (v := .int ((va_up (va_up M 4 (upd (M 4) 0 (nI (mk M - 1)))) 0 (cpN (M 0) (fun q => M 1 (417 * (mk M - 1) + q)) 0 417)) 4 0)) cx.1 cx.2.1 cx.2.2.2.2 iw_X7_undo_X7 cx.2.2.2.1 hK hP 0 rfl rfl 2 (by decide) (cx.2.2.2.2 _ fw_X7_undo_f23) (fun _ h9 => h9) rfl dX7_undo_58 ?_
          refine nv_eqi (y := nI (mk M - 1)) rfl ?_
          exact WR.ret (x := nI (mk M - 1)) cx hr hlocks dX7_undo_61 (by simp [mUndo, c_1, c_2]) (by simp only [mUndo, c_1, c_2, true_or, or_true, or_self, not_true_eq_false, not_false_eq_true, if_true, if_false, ↓reduceIte, Bool.false_eq_true, Bool.true_eq_false]; exact hP) hS
        · refine lv_aload_n cx.1 cx.2.1 dX7_undo_30 rfl (lv_at hl 0 rfl) ?_
          refine va_get (ci := 6) (C := RX7) (T := TX7) (N := 7) (v := .ref (ad 1)) cx.1 cx.2.1 cx.2.2.2.2 iw_X7_undo_X7 cx.2.2.2.1 hK hP 0 rfl rfl 0 (by decide) (cx.2.2.2.2 _ fw_X7_undo_f7) (fun _ h9 => h9) rfl dX7_undo_31 ?_
          refine lv_iload_n cx.1 cx.2.1 dX7_undo_34 rfl (lv_at hl 1 rfl) ?_
          refine lv_aload_n cx.1 cx.2.1 dX7_undo_35 rfl (lv_at hl 0 rfl) ?_
          refine va_get (ci := 6) (C := RX7) (T := TX7) (N := 7) (v := .ref (ad 2)) cx.1 cx.2.1 cx.2.2.2.2 iw_X7_undo_X7 cx.2.2.2.1 hK hP 0 rfl rfl 1 (by decide) (cx.2.2.2.2 _ fw_X7_undo_f13) (fun _ h9 => h9) rfl dX7_undo_36 ?_
          refine lv_sipush (v := nI 417) cx.1 cx.2.1 dX7_undo_39 (by decide) ?_
          refine lv_aload_n cx.1 cx.2.1 dX7_undo_42 rfl (lv_at hl 0 rfl) ?_
          refine va_get (ci := 6) (C := RX7) (T := TX7) (N := 7) (v := .int ((va_up (va_up M 4 (upd (M 4) 0 (nI (mk M - 1)))) 0 (cpN (M 0) (fun q => M 1 (417 * (mk M - 1) + q)) 0 t)) 4 0)) cx.1 cx.2.1 cx.2.2.2.2 iw_X7_undo_X7 cx.2.2.2.1 hK hP 0 rfl rfl 2 (by decide) (cx.2.2.2.2 _ fw_X7_undo_f23) (fun _ h9 => h9) rfl dX7_undo_43 ?_
          refine nv_eqi (y := nI (mk M - 1)) rfl ?_
          refine nv_imul cx (a := 417) (b := mk M - 1) dX7_undo_46 ?_
          refine lv_iload_n cx.1 cx.2.1 dX7_undo_47 rfl (lv_at hl 1 rfl) ?_
          refine nv_iadd cx (a := 417 * (mk M - 1)) (b := t) dX7_undo_48 ?_
          refine nv_iald (j := 417 * (mk M - 1) + t) cx hK hP 2 1 rfl rfl (by omega) (by decide) dX7_undo_49 ?_
          refine nv_iast (j := t) (x := ((va_up (va_up M 4 (upd (M 4) 0 (nI (mk M - 1)))) 0 (cpN (M 0) (fun q => M 1 (417 * (mk M - 1) + q)) 0 t)) 1) (417 * (mk M - 1) + t)) cx hK hP hD hS 1 1 rfl rfl (by omega) (by decide) dX7_undo_50 (ws1 := mdC G ad (va_up (va_up (va_up M 4 (upd (M 4) 0 (nI (mk M - 1)))) 0 (cpN (M 0) (fun q => M 1 (417 * (mk M - 1) + q)) 0 t)) 0 (upd ((va_up (va_up M 4 (upd (M 4) 0 (nI (mk M - 1)))) 0 (cpN (M 0) (fun q => M 1 (417 * (mk M - 1) + q)) 0 t)) 0) t (((va_up (va_up M 4 (upd (M 4) 0 (nI (mk M - 1)))) 0 (cpN (M 0) (fun q => M 1 (417 * (mk M - 1) + q)) 0 t)) 1) (417 * (mk M - 1) + t))))) rfl (fun H locs hP hD hS => ?_)
          refine lv_iinc (v := nI (t + 1)) (lv' := [(1, .int (nI (t + 1))), (0, .ref (ad 0))]) cx.1 cx.2.1 dX7_undo_51 hl (k := 1) rfl (show nI t + Int32.ofInt 1 = nI (t + 1) from nI_add t 1) (by decide) rfl (fun ls hl => ?_)
          refine lv_goto (tgt := 23) cx.1 cx.2.1 dX7_undo_54 (by decide) ?_
          exact ih23 (t + 1) (by omega) (by omega) _ _ (by rw [cpN_step, Nat.zero_add]; exact hP) (hD.fst rfl) hS ls (lv_sub hl [1, 0] rfl)
    exact lp23 _ 0 (Nat.lt_succ_self _) (by omega) H locs (by rw [cpN_0]; exact hP) (hD.fst rfl) hS ls (lv_sub hl [1, 0] rfl)
  · refine lv_sipush (v := (-1005)) cx.1 cx.2.1 dX7_undo_7 (by decide) ?_
    exact WR.ret (x := (-1005)) cx hr hlocks dX7_undo_10 (by simp [mUndo, c_1]) (by simp only [mUndo, c_1, true_or, or_true, or_self, not_true_eq_false, not_false_eq_true, if_true, if_false, ↓reduceIte, Bool.false_eq_true, Bool.true_eq_false]; exact hP) hS

theorem iw_X7_keep_X7 : ∀ w ∈ wsX70, w ∈ wsX7_keep := fun _ h => List.mem_cons_of_mem _ (List.mem_append_right _ h)
theorem fw_X7_keep_f147 : (Cond.fieldLink RX7 147 "NamePlateModel" "isFilled" "Z") ∈ wsX7_keep := List.mem_of_getElem? (i := 3) rfl
theorem fw_X7_keep_f7 : (Cond.fieldLink RX7 7 "NamePlateModel" "now" "[I") ∈ wsX7_keep := List.mem_of_getElem? (i := 2) rfl
theorem fw_X7_keep_f16 : (Cond.fieldLink RX7 16 "NamePlateModel" "slot" "[I") ∈ wsX7_keep := List.mem_of_getElem? (i := 1) rfl
set_option maxHeartbeats 4000000 in
set_option maxRecDepth 100000 in
theorem c_X7_keep (l : Launch) (G : GG) (ad : Nat → Nat) (M : XS)   : WR l yX7_keep wsX7_keep 0 0 G (mdC G ad M) [.ref (ad 0)] (some (.int ((mKeep M).1))) (mdC G ad ((mKeep M).2)) := by
  refine WR.start (cc := cX7_keep) (maxL := 2) (ret := (some .int)) (by decide) rfl (Nat.le_of_ble_eq_true rfl) ?_
  intro p e s m below meth c ls cx hr hlocks hK hN hP hD hS hl
  have cx : CallFix p m c cX7_keep 2 s [.ref (ad 0)].toArray wsX7_keep RX7 := cx
  have hl : lv_has ls 2 [(0, .ref (ad 0))] := hl
  refine lv_iconst (v := nI 0) cx.1 cx.2.1 dX7_keep_0 (by decide) ?_
  refine lv_istore_n (lv' := [(1, .int (nI 0)), (0, .ref (ad 0))]) cx.1 cx.2.1 dX7_keep_1 rfl hl (by decide) rfl (fun ls hl => ?_)
  have lp2 : ∀ (r : Nat) (t : Nat) (hr9 : 417 - t < r) (ht : t ≤ 417) (H : Heap) (locs : List Loc) (hP : va_P G.1 vwCl (mdC G ad (va_up M 2 (cpN (M 2) (M 0) 0 t))) H) (hD : va_D (wA (mdC G ad M)) (mdC G ad (va_up M 2 (cpN (M 2) (M 0) 0 t)))) (hS : va_S (wA (mdC G ad M)) s.heap H locs) (ls : Array Slot), lv_has ls 2 [(0, .ref (ad 0)), (1, .int (nI t))] → W p l e ({ frames := 0, cells := 0, slots := 0, locals := 0 } : Room) s m [.ref (ad 0)].toArray below meth c H locs 0 0 (MQ below (QW G (mdC G ad M) (some (.int ((mKeep M).1))) (mdC G ad ((mKeep M).2))) [.ref (ad 0)].toArray s 0 0 (wA (mdC G ad M))) (F0 m 2 ls []) := by
    intro r
    induction r with
    | zero => intro t hr9; exact absurd hr9 (Nat.not_lt_zero _)
    | succ r ih2 =>
      intro t hr9 ht H locs hP hD hS ls hl
      refine lv_iload_n cx.1 cx.2.1 dX7_keep_2 rfl (lv_at hl 1 rfl) ?_
      refine lv_sipush (v := nI 417) cx.1 cx.2.1 dX7_keep_3 (by decide) ?_
      refine nv_icmp_ge (a := t) (b := 417) (tgt := 27) cx dX7_keep_6 (by decide) (by omega) (by omega) (fun c_1 => ?_) (fun c_1 => ?_)
      · have et : t = 417 := by omega
        subst et
        refine lv_aload_n cx.1 cx.2.1 dX7_keep_27 rfl (lv_at hl 0 rfl) ?_
        refine lv_iconst (v := nI 1) cx.1 cx.2.1 dX7_keep_28 (by decide) ?_
        refine va_put (ci := 6) (v := .int (nI 1)) (ty := .boolean) (C := RX7) (T := TX7) (N := 7) cx.1 cx.2.1 cx.2.2.2.2 iw_X7_keep_X7 tyX7 tyX7_ok nmX7 cx.2.2.2.1 hK hP hD hS 0 rfl rfl 4 (by decide) (cx.2.2.2.2 _ fw_X7_keep_f147) (fun _ h9 => h9) rfl (by decide +kernel) rfl rfl (Nat.le_of_ble_eq_true rfl) dX7_keep_29 (fun H locs hP hD hS => ?_)
        have hP : va_P G.1 vwCl (mdC G ad (va_up (va_up M 2 (cpN (M 2) (M 0) 0 417)) 4 (upd ((va_up M 2 (cpN (M 2) (M 0) 0 417)) 4) 1 1))) H := hP
        have hD : va_D (wA (mdC G ad M)) (mdC G ad (va_up (va_up M 2 (cpN (M 2) (M 0) 0 417)) 4 (upd ((va_up M 2 (cpN (M 2) (M 0) 0 417)) 4) 1 1))) := hD
        refine lv_aload_n cx.1 cx.2.1 dX7_keep_32 rfl (lv_at hl 0 rfl) ?_
        refine va_get (ci := 6) (C := RX7) (T := TX7) (N := 7) (v := .ref (ad 1)) cx.1 cx.2.1 cx.2.2.2.2 iw_X7_keep_X7 cx.2.2.2.1 hK hP 0 rfl rfl 0 (by decide) (cx.2.2.2.2 _ fw_X7_keep_f7) (fun _ h9 => h9) rfl dX7_keep_33 ?_
        refine lv_iconst (v := nI 4) cx.1 cx.2.1 dX7_keep_36 (by decide) ?_
        refine nv_iald (j := 4) cx hK hP 1 1 rfl rfl (by omega) (by decide) dX7_keep_37 ?_
        exact WR.ret (x := ((va_up (va_up M 2 (cpN (M 2) (M 0) 0 417)) 4 (upd ((va_up M 2 (cpN (M 2) (M 0) 0 417)) 4) 1 1)) 0) 4) cx hr hlocks dX7_keep_38 rfl hP hS
      · refine lv_aload_n cx.1 cx.2.1 dX7_keep_9 rfl (lv_at hl 0 rfl) ?_
        refine va_get (ci := 6) (C := RX7) (T := TX7) (N := 7) (v := .ref (ad 3)) cx.1 cx.2.1 cx.2.2.2.2 iw_X7_keep_X7 cx.2.2.2.1 hK hP 0 rfl rfl 3 (by decide) (cx.2.2.2.2 _ fw_X7_keep_f16) (fun _ h9 => h9) rfl dX7_keep_10 ?_
        refine lv_iload_n cx.1 cx.2.1 dX7_keep_13 rfl (lv_at hl 1 rfl) ?_
        refine lv_aload_n cx.1 cx.2.1 dX7_keep_14 rfl (lv_at hl 0 rfl) ?_
        refine va_get (ci := 6) (C := RX7) (T := TX7) (N := 7) (v := .ref (ad 1)) cx.1 cx.2.1 cx.2.2.2.2 iw_X7_keep_X7 cx.2.2.2.1 hK hP 0 rfl rfl 0 (by decide) (cx.2.2.2.2 _ fw_X7_keep_f7) (fun _ h9 => h9) rfl dX7_keep_15 ?_
        refine lv_iload_n cx.1 cx.2.1 dX7_keep_18 rfl (lv_at hl 1 rfl) ?_
        refine nv_iald (j := t) cx hK hP 1 1 rfl rfl (by omega) (by decide) dX7_keep_19 ?_
        refine nv_iast (j := t) (x := ((va_up M 2 (cpN (M 2) (M 0) 0 t)) 0) t) cx hK hP hD hS 3 1 rfl rfl (by omega) (by decide) dX7_keep_20 (ws1 := mdC G ad (va_up (va_up M 2 (cpN (M 2) (M 0) 0 t)) 2 (upd ((va_up M 2 (cpN (M 2) (M 0) 0 t)) 2) t (((va_up M 2 (cpN (M 2) (M 0) 0 t)) 0) t)))) rfl (fun H locs hP hD hS => ?_)
        refine lv_iinc (v := nI (t + 1)) (lv' := [(1, .int (nI (t + 1))), (0, .ref (ad 0))]) cx.1 cx.2.1 dX7_keep_21 hl (k := 1) rfl (show nI t + Int32.ofInt 1 = nI (t + 1) from nI_add t 1) (by decide) rfl (fun ls hl => ?_)
        refine lv_goto (tgt := 2) cx.1 cx.2.1 dX7_keep_24 (by decide) ?_
        exact ih2 (t + 1) (by omega) (by omega) _ _ (by rw [cpN_step, Nat.zero_add]; exact hP) (hD.fst rfl) hS ls (lv_sub hl [1, 0] rfl)
  exact lp2 _ 0 (Nat.lt_succ_self _) (by omega) s.heap [] (by rw [cpN_0]; exact hP) (hD.fst rfl) hS ls (lv_sub hl [1, 0] rfl)

theorem iw_X7_restore_X7 : ∀ w ∈ wsX70, w ∈ wsX7_restore := fun _ h => List.mem_cons_of_mem _ (List.mem_append_right _ h)
theorem fw_X7_restore_f147 : (Cond.fieldLink RX7 147 "NamePlateModel" "isFilled" "Z") ∈ wsX7_restore := List.mem_of_getElem? (i := 1) rfl
theorem fw_X7_restore_f7 : (Cond.fieldLink RX7 7 "NamePlateModel" "now" "[I") ∈ wsX7_restore := List.mem_of_getElem? (i := 2) rfl
theorem fw_X7_restore_f16 : (Cond.fieldLink RX7 16 "NamePlateModel" "slot" "[I") ∈ wsX7_restore := List.mem_of_getElem? (i := 3) rfl
set_option maxHeartbeats 4000000 in
set_option maxRecDepth 100000 in
theorem c_X7_restore (l : Launch) (G : GG) (ad : Nat → Nat) (M : XS)  (hkk : okK M) : WR l yX7_restore wsX7_restore 1 21 G (mdC G ad M) [.ref (ad 0)] (some (.int ((mRest M).1))) (mdC G ad ((mRest M).2)) := by
  refine WR.start (cc := cX7_restore) (maxL := 2) (ret := (some .int)) (by decide) rfl (Nat.le_of_ble_eq_true rfl) ?_
  intro p e s m below meth c ls cx hr hlocks hK hN hP hD hS hl
  have cx : CallFix p m c cX7_restore 2 s [.ref (ad 0)].toArray wsX7_restore RX7 := cx
  have hl : lv_has ls 2 [(0, .ref (ad 0))] := hl
  refine lv_aload_n cx.1 cx.2.1 dX7_restore_0 rfl (lv_at hl 0 rfl) ?_
  refine va_get (ci := 6) (C := RX7) (T := TX7) (N := 7) (v := .int (M 4 1)) cx.1 cx.2.1 cx.2.2.2.2 iw_X7_restore_X7 cx.2.2.2.1 hK hP 0 rfl rfl 4 (by decide) (cx.2.2.2.2 _ fw_X7_restore_f147) (fun _ h9 => h9) rfl dX7_restore_1 ?_
  refine lv_if_ne (x := M 4 1) (tgt := 11) cx.1 cx.2.1 dX7_restore_4 (by decide) (fun c_1 => ?_) (fun c_1 => ?_)
  · refine lv_aload_n cx.1 cx.2.1 dX7_restore_11 rfl (lv_at hl 0 rfl) ?_
    refine WR.callV (As := []) (rest := []) cx (c_X7_record l G ad M hkk) gX7_restore_X7_record rfl hd_X7_record ⟨Nat.le_of_ble_eq_true rfl, Nat.le_of_ble_eq_true rfl⟩ (va_recv hK hP (ci := 6) (q0 := 0) rfl rfl) hK hN hP hD hS (fun _ h => h) rfl hl.1 rfl (Nat.le_of_ble_eq_true rfl) dX7_restore_12 ⟨Nat.zero_le _, Nat.zero_le _⟩ (fun H1 locs hP1 hk1 hS => ?_)
    have hP : va_P G.1 vwCl (mdC G ad (mRec M)) H1 := hP1
    have hD : va_D (wA (mdC G ad M)) (mdC G ad (mRec M)) := hD.fst rfl
    generalize H1 = H at hP hS ⊢
    clear hP1 hk1
    refine lv_iconst (v := nI 0) cx.1 cx.2.1 dX7_restore_15 (by decide) ?_
    refine lv_istore_n (lv' := [(1, .int (nI 0)), (0, .ref (ad 0))]) cx.1 cx.2.1 dX7_restore_16 rfl hl (by decide) rfl (fun ls hl => ?_)
    have lp17 : ∀ (r : Nat) (t : Nat) (hr9 : 417 - t < r) (ht : t ≤ 417) (H : Heap) (locs : List Loc) (hP : va_P G.1 vwCl (mdC G ad (va_up (mRec M) 0 (cpN (M 0) (M 2) 0 t))) H) (hD : va_D (wA (mdC G ad M)) (mdC G ad (va_up (mRec M) 0 (cpN (M 0) (M 2) 0 t)))) (hS : va_S (wA (mdC G ad M)) s.heap H locs) (ls : Array Slot), lv_has ls 2 [(0, .ref (ad 0)), (1, .int (nI t))] → W p l e ({ frames := 1, cells := 0, slots := 0, locals := 21 } : Room) s m [.ref (ad 0)].toArray below meth c H locs 0 0 (MQ below (QW G (mdC G ad M) (some (.int ((mRest M).1))) (mdC G ad ((mRest M).2))) [.ref (ad 0)].toArray s 0 0 (wA (mdC G ad M))) (F0 m 17 ls []) := by
      intro r
      induction r with
      | zero => intro t hr9; exact absurd hr9 (Nat.not_lt_zero _)
      | succ r ih17 =>
        intro t hr9 ht H locs hP hD hS ls hl
        refine lv_iload_n cx.1 cx.2.1 dX7_restore_17 rfl (lv_at hl 1 rfl) ?_
        refine lv_sipush (v := nI 417) cx.1 cx.2.1 dX7_restore_18 (by decide) ?_
        refine nv_icmp_ge (a := t) (b := 417) (tgt := 42) cx dX7_restore_21 (by decide) (by omega) (by omega) (fun c_2 => ?_) (fun c_2 => ?_)
        · have et : t = 417 := by omega
          subst et
          refine lv_aload_n cx.1 cx.2.1 dX7_restore_42 rfl (lv_at hl 0 rfl) ?_
          refine va_get (ci := 6) (C := RX7) (T := TX7) (N := 7) (v := .ref (ad 1)) cx.1 cx.2.1 cx.2.2.2.2 iw_X7_restore_X7 cx.2.2.2.1 hK hP 0 rfl rfl 0 (by decide) (cx.2.2.2.2 _ fw_X7_restore_f7) (fun _ h9 => h9) rfl dX7_restore_43 ?_
          refine lv_iconst (v := nI 4) cx.1 cx.2.1 dX7_restore_46 (by decide) ?_
          refine nv_iald (j := 4) cx hK hP 1 1 rfl rfl (by omega) (by decide) dX7_restore_47 ?_
          exact WR.ret (x := ((va_up (mRec M) 0 (cpN (M 0) (M 2) 0 417)) 0) 4) cx hr hlocks dX7_restore_48 (by first | (simp [mRest, c_1, c_2]; done) | (simp only [mRest, c_1, c_2, if_false, ↓reduceIte]; rfl)) (by simp only [mRest, c_1, c_2, true_or, or_true, or_self, not_true_eq_false, not_false_eq_true, if_true, if_false, ↓reduceIte, Bool.false_eq_true, Bool.true_eq_false]; exact hP) hS
        · refine lv_aload_n cx.1 cx.2.1 dX7_restore_24 rfl (lv_at hl 0 rfl) ?_
          refine va_get (ci := 6) (C := RX7) (T := TX7) (N := 7) (v := .ref (ad 1)) cx.1 cx.2.1 cx.2.2.2.2 iw_X7_restore_X7 cx.2.2.2.1 hK hP 0 rfl rfl 0 (by decide) (cx.2.2.2.2 _ fw_X7_restore_f7) (fun _ h9 => h9) rfl dX7_restore_25 ?_
          refine lv_iload_n cx.1 cx.2.1 dX7_restore_28 rfl (lv_at hl 1 rfl) ?_
          refine lv_aload_n cx.1 cx.2.1 dX7_restore_29 rfl (lv_at hl 0 rfl) ?_
          refine va_get (ci := 6) (C := RX7) (T := TX7) (N := 7) (v := .ref (ad 3)) cx.1 cx.2.1 cx.2.2.2.2 iw_X7_restore_X7 cx.2.2.2.1 hK hP 0 rfl rfl 3 (by decide) (cx.2.2.2.2 _ fw_X7_restore_f16) (fun _ h9 => h9) rfl dX7_restore_30 ?_
          refine lv_iload_n cx.1 cx.2.1 dX7_restore_33 rfl (lv_at hl 1 rfl) ?_
          refine nv_iald (j := t) cx hK hP 3 1 rfl rfl (by omega) (by decide) dX7_restore_34 ?_
          refine nv_iast (j := t) (x := ((va_up (mRec M) 0 (cpN (M 0) (M 2) 0 t)) 2) t) cx hK hP hD hS 1 1 rfl rfl (by omega) (by decide) dX7_restore_35 (ws1 := mdC G ad (va_up (va_up (mRec M) 0 (cpN (M 0) (M 2) 0 t)) 0 (upd ((va_up (mRec M) 0 (cpN (M 0) (M 2) 0 t)) 0) t (((va_up (mRec M) 0 (cpN (M 0) (M 2) 0 t)) 2) t)))) rfl (fun H locs hP hD hS => ?_)
          refine lv_iinc (v := nI (t + 1)) (lv' := [(1, .int (nI (t + 1))), (0, .ref (ad 0))]) cx.1 cx.2.1 dX7_restore_36 hl (k := 1) rfl (show nI t + Int32.ofInt 1 = nI (t + 1) from nI_add t 1) (by decide) rfl (fun ls hl => ?_)
          refine lv_goto (tgt := 17) cx.1 cx.2.1 dX7_restore_39 (by decide) ?_
          exact ih17 (t + 1) (by omega) (by omega) _ _ (by rw [cpN_step, Nat.zero_add]; exact hP) (hD.fst rfl) hS ls (lv_sub hl [1, 0] rfl)
    exact lp17 _ 0 (Nat.lt_succ_self _) (by omega) H locs (by rw [cpN_0]; exact hP) (hD.fst rfl) hS ls (lv_sub hl [1, 0] rfl)
  · refine lv_sipush (v := (-1005)) cx.1 cx.2.1 dX7_restore_7 (by decide) ?_
    exact WR.ret (x := (-1005)) cx hr hlocks dX7_restore_10 (by first | (simp [mRest, c_1]; done) | (simp only [mRest, c_1, if_false, ↓reduceIte]; rfl)) (by simp only [mRest, c_1, true_or, or_true, or_self, not_true_eq_false, not_false_eq_true, if_true, if_false, ↓reduceIte, Bool.false_eq_true, Bool.true_eq_false]; exact hP) hS

theorem iw_X7_engraves_X7 : ∀ w ∈ wsX70, w ∈ wsX7_engraves := fun _ h => List.mem_cons_of_mem _ (List.mem_append_right _ h)
theorem fw_X7_engraves_f7 : (Cond.fieldLink RX7 7 "NamePlateModel" "now" "[I") ∈ wsX7_engraves := List.mem_of_getElem? (i := 1) rfl
set_option maxHeartbeats 4000000 in
set_option maxRecDepth 100000 in
theorem c_X7_engraves (l : Launch) (G : GG) (ad : Nat → Nat) (M : XS) (k : Nat) (z : Int32) (hk : k < 20) : WR l yX7_engraves wsX7_engraves 0 0 G (mdC G ad M) [.ref (ad 0), .int (nI k), .int z] none (mdC G ad (va_up M 0 (mEg (M 0) k z))) := by
  refine WR.start (cc := cX7_engraves) (maxL := 3) (ret := none) (by decide) rfl (Nat.le_of_ble_eq_true rfl) ?_
  intro p e s m below meth c ls cx hr hlocks hK hN hP hD hS hl
  have cx : CallFix p m c cX7_engraves 3 s [.ref (ad 0), .int (nI k), .int z].toArray wsX7_engraves RX7 := cx
  have hl : lv_has ls 3 [(0, .ref (ad 0)), (1, .int (nI k)), (2, .int z)] := hl
  refine lv_aload_n cx.1 cx.2.1 dX7_engraves_0 rfl (lv_at hl 0 rfl) ?_
  refine va_get (ci := 6) (C := RX7) (T := TX7) (N := 7) (v := .ref (ad 1)) cx.1 cx.2.1 cx.2.2.2.2 iw_X7_engraves_X7 cx.2.2.2.1 hK hP 0 rfl rfl 0 (by decide) (cx.2.2.2.2 _ fw_X7_engraves_f7) (fun _ h9 => h9) rfl dX7_engraves_1 ?_
  refine lv_bipush (v := nI 57) cx.1 cx.2.1 dX7_engraves_4 (by decide) ?_
  refine lv_bipush (v := nI 18) cx.1 cx.2.1 dX7_engraves_6 (by decide) ?_
  refine lv_iload_n cx.1 cx.2.1 dX7_engraves_8 rfl (lv_at hl 1 rfl) ?_
  refine nv_imul cx (a := 18) (b := k) dX7_engraves_9 ?_
  refine nv_iadd cx (a := 57) (b := 18 * k) dX7_engraves_10 ?_
  refine lv_iconst (v := nI 1) cx.1 cx.2.1 dX7_engraves_11 (by decide) ?_
  refine nv_iadd cx (a := 57 + (18 * k)) (b := 1) dX7_engraves_12 ?_
  refine lv_iconst (v := nI 1) cx.1 cx.2.1 dX7_engraves_13 (by decide) ?_
  refine nv_iast (j := 57 + (18 * k) + 1) (x := 1) cx hK hP hD hS 1 1 rfl rfl (by omega) (by decide) dX7_engraves_14 (ws1 := mdC G ad (va_up M 0 (upd (M 0) (57 + (18 * k) + 1) 1))) rfl (fun H locs hP hD hS => ?_)
  refine lv_aload_n cx.1 cx.2.1 dX7_engraves_15 rfl (lv_at hl 0 rfl) ?_
  refine va_get (ci := 6) (C := RX7) (T := TX7) (N := 7) (v := .ref (ad 1)) cx.1 cx.2.1 cx.2.2.2.2 iw_X7_engraves_X7 cx.2.2.2.1 hK hP 0 rfl rfl 0 (by decide) (cx.2.2.2.2 _ fw_X7_engraves_f7) (fun _ h9 => h9) rfl dX7_engraves_16 ?_
  refine lv_iconst (v := nI 5) cx.1 cx.2.1 dX7_engraves_19 (by decide) ?_
  refine lv_iload_n cx.1 cx.2.1 dX7_engraves_20 rfl (lv_at hl 2 rfl) ?_
  refine nv_iast (j := 5) (x := z) cx hK hP hD hS 1 1 rfl rfl (by omega) (by decide) dX7_engraves_21 (ws1 := mdC G ad (va_up (va_up M 0 (upd (M 0) (57 + (18 * k) + 1) 1)) 0 (upd ((va_up M 0 (upd (M 0) (57 + (18 * k) + 1) 1)) 0) 5 z))) rfl (fun H locs hP hD hS => ?_)
  exact WR.retv cx hr hlocks dX7_engraves_22 hP hS
