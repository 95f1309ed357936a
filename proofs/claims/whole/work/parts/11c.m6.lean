/-! ===== m6: laid by program ===== -/
theorem iw_X7_adjust_X7 : ∀ w ∈ wsX70, w ∈ wsX7_adjust := fun _ h => List.mem_cons_of_mem _ (List.mem_append_right _ h)
theorem fw_X7_adjust_f7 : (Cond.fieldLink RX7 7 "NamePlateModel" "now" "[I") ∈ wsX7_adjust := List.mem_of_getElem? (i := 1) rfl
set_option maxHeartbeats 4000000 in
set_option maxRecDepth 100000 in
theorem c_X7_adjust (l : Launch) (G : GG) (ad : Nat → Nat) (M : XS) (a : Int32) (b : Int32) (v : Int32) (hkk : okK M) (hok : okM (M 0)) : WR l yX7_adjust wsX7_adjust 3 68 G (mdC G ad M) [.ref (ad 0), .int a, .int b, .int v] (some (.int ((mAdjT M a b v).1))) (mdC G ad ((mAdjT M a b v).2)) := by
  refine WR.start (cc := cX7_adjust) (maxL := 7) (ret := (some .int)) (by decide) rfl (Nat.le_of_ble_eq_true rfl) ?_
  intro p e s m below meth c ls cx hr hlocks hK hN hP hD hS hl
  have cx : CallFix p m c cX7_adjust 7 s [.ref (ad 0), .int a, .int b, .int v].toArray wsX7_adjust RX7 := cx
  have hl : lv_has ls 7 [(0, .ref (ad 0)), (1, .int a), (2, .int b), (3, .int v)] := hl
  have hp16 := hok.p16
  have hpI := hok.p
  refine lv_iload_n cx.1 cx.2.1 dX7_adjust_0 rfl (lv_at hl 1 rfl) ?_
  refine lv_iload_n cx.1 cx.2.1 dX7_adjust_1 rfl (lv_at hl 2 rfl) ?_
  refine RO.callS (As := [.int a, .int b]) (rest := []) cx (c_X7_areSigns l G a b) gX7_adjust_X7_areSigns rfl hd_X7_areSigns ⟨Nat.le_of_ble_eq_true rfl, Nat.le_of_ble_eq_true rfl⟩ hK hN va_P.nil rfl hl.1 rfl (Nat.le_of_ble_eq_true rfl) dX7_adjust_2 ⟨Nat.zero_le _, Nat.zero_le _⟩ ?_
  refine nv_ifnz (b := (mOk a && mOk b)) (tgt := 12) cx dX7_adjust_5 (by decide) (fun c_1 => ?_) (fun c_1 => ?_)
  · refine lv_iload_n cx.1 cx.2.1 dX7_adjust_12 rfl (lv_at hl 3 rfl) ?_
    refine lv_bipush (v := (-3)) cx.1 cx.2.1 dX7_adjust_13 (by decide) ?_
    refine lv_iconst (v := nI 3) cx.1 cx.2.1 dX7_adjust_15 (by decide) ?_
    refine RO.callS (As := [.int v, .int (-3), .int 3]) (rest := []) cx (c_X7_in l G v (-3) 3) gX7_adjust_X7_in rfl hd_X7_in ⟨Nat.le_of_ble_eq_true rfl, Nat.le_of_ble_eq_true rfl⟩ hK hN va_P.nil rfl hl.1 rfl (Nat.le_of_ble_eq_true rfl) dX7_adjust_16 ⟨Nat.zero_le _, Nat.zero_le _⟩ ?_
    refine nv_ifnz (b := inR v (-3) 3) (tgt := 26) cx dX7_adjust_19 (by decide) (fun c_2 => ?_) (fun c_2 => ?_)
    · refine lv_aload_n cx.1 cx.2.1 dX7_adjust_26 rfl (lv_at hl 0 rfl) ?_
      refine lv_iload_n cx.1 cx.2.1 dX7_adjust_27 rfl (lv_at hl 1 rfl) ?_
      refine lv_iload_n cx.1 cx.2.1 dX7_adjust_28 rfl (lv_at hl 2 rfl) ?_
      refine RO.callV (As := [.int a, .int b]) (rest := []) cx (c_X7_isCut l G ad M a b hok) gX7_adjust_X7_isCut rfl hd_X7_isCut ⟨Nat.le_of_ble_eq_true rfl, Nat.le_of_ble_eq_true rfl⟩ (va_recv hK hP (ci := 6) (q0 := 0) rfl rfl) hK hN hP rfl hl.1 rfl (Nat.le_of_ble_eq_true rfl) dX7_adjust_29 ⟨Nat.zero_le _, Nat.zero_le _⟩ ?_
      refine nv_ifz (b := mCut (M 0) a b) (tgt := 39) cx dX7_adjust_32 (by decide) (fun c_3 => ?_) (fun c_3 => ?_)
      · refine lv_aload_n cx.1 cx.2.1 dX7_adjust_39 rfl (lv_at hl 0 rfl) ?_
        refine lv_iload_n cx.1 cx.2.1 dX7_adjust_40 rfl (lv_at hl 1 rfl) ?_
        refine lv_iload_n cx.1 cx.2.1 dX7_adjust_41 rfl (lv_at hl 2 rfl) ?_
        refine RO.callV (As := [.int a, .int b]) (rest := []) cx (c_X7_adjusted l G ad M a b hok) gX7_adjust_X7_adjusted rfl hd_X7_adjusted ⟨Nat.le_of_ble_eq_true rfl, Nat.le_of_ble_eq_true rfl⟩ (va_recv hK hP (ci := 6) (q0 := 0) rfl rfl) hK hN hP rfl hl.1 rfl (Nat.le_of_ble_eq_true rfl) dX7_adjust_42 ⟨Nat.zero_le _, Nat.zero_le _⟩ ?_
        refine lv_istore (lv' := [(4, .int (mAdj (M 0) a b)), (0, .ref (ad 0)), (1, .int a), (2, .int b), (3, .int v)]) cx.1 cx.2.1 dX7_adjust_45 hl (by decide) rfl (fun ls hl => ?_)
        refine lv_iload cx.1 cx.2.1 dX7_adjust_47 (lv_at hl 0 rfl) ?_
        refine lv_iload_n cx.1 cx.2.1 dX7_adjust_49 rfl (lv_at hl 4 rfl) ?_
        refine lv_icmp_ne (x := mAdj (M 0) a b) (y := v) (tgt := 57) cx.1 cx.2.1 dX7_adjust_50 (by decide) (fun c_4 => ?_) (fun c_4 => ?_)
        · have hnb := c_4
          refine lv_iload cx.1 cx.2.1 dX7_adjust_57 (lv_at hl 0 rfl) ?_
          refine lv_if_ne (x := mAdj (M 0) a b) (tgt := 78) cx.1 cx.2.1 dX7_adjust_59 (by decide) (fun c_5 => ?_) (fun c_5 => ?_)
          · have hz := c_5
            have hpl := mAdj_in hz
            have h5 : ¬ (mAdj (M 0) a b = 0 ∧ mp (M 0) = 16) := fun q => hz q.1
            refine lv_aload_n cx.1 cx.2.1 dX7_adjust_78 rfl (lv_at hl 1 rfl) ?_
            refine WR.callV (As := []) (rest := []) cx (c_X7_record l G ad M hkk) gX7_adjust_X7_record rfl hd_X7_record ⟨Nat.le_of_ble_eq_true rfl, Nat.le_of_ble_eq_true rfl⟩ (va_recv hK hP (ci := 6) (q0 := 0) rfl rfl) hK hN hP hD hS (fun _ h => h) rfl hl.1 rfl (Nat.le_of_ble_eq_true rfl) dX7_adjust_79 ⟨Nat.zero_le _, Nat.zero_le _⟩ (fun H1 locs hP1 hk1 hS => ?_)
            have hP : va_P G.1 vwCl (mdC G ad (mRec M)) H1 := hP1
            have hD : va_D (wA (mdC G ad M)) (mdC G ad (mRec M)) := hD.fst rfl
            generalize H1 = H at hP hS ⊢
            clear hP1 hk1
            refine lv_iload cx.1 cx.2.1 dX7_adjust_82 (lv_at hl 0 rfl) ?_
            refine lv_if_ne (x := mAdj (M 0) a b) (tgt := 97) cx.1 cx.2.1 dX7_adjust_84 (by decide) (fun c_6 => ?_) (fun c_6 => ?_)
            · refine lv_aload_n cx.1 cx.2.1 dX7_adjust_97 rfl (lv_at hl 1 rfl) ?_
              refine lv_iload_n cx.1 cx.2.1 dX7_adjust_98 rfl (lv_at hl 2 rfl) ?_
              refine lv_iload_n cx.1 cx.2.1 dX7_adjust_99 rfl (lv_at hl 3 rfl) ?_
              refine RO.callV (As := [.int a, .int b]) (rest := []) cx (c_X7_placeOf l G ad (mRec M) a b hok) gX7_adjust_X7_placeOf rfl hd_X7_placeOf ⟨Nat.le_of_ble_eq_true rfl, Nat.le_of_ble_eq_true rfl⟩ (va_recv hK hP (ci := 6) (q0 := 0) rfl rfl) hK hN hP rfl hl.1 rfl (Nat.le_of_ble_eq_true rfl) dX7_adjust_100 ⟨Nat.zero_le _, Nat.zero_le _⟩ ?_
              refine nv_eqi (y := nI (mPl (M 0) a b)) (if_pos hpl) ?_
              refine lv_istore (lv' := [(5, .int (nI (mPl (M 0) a b))), (4, .int (mAdj (M 0) a b)), (0, .ref (ad 0)), (1, .int a), (2, .int b), (3, .int v)]) cx.1 cx.2.1 dX7_adjust_103 hl (by decide) rfl (fun ls hl => ?_)
              refine lv_iload_n cx.1 cx.2.1 dX7_adjust_105 rfl (lv_at hl 5 rfl) ?_
              refine lv_if_ne (x := v) (tgt := 171) cx.1 cx.2.1 dX7_adjust_106 (by decide) (fun c_7 => ?_) (fun c_7 => ?_)
              · refine lv_aload_n cx.1 cx.2.1 dX7_adjust_171 rfl (lv_at hl 2 rfl) ?_
                refine va_get (ci := 6) (C := RX7) (T := TX7) (N := 7) (v := .ref (ad 1)) cx.1 cx.2.1 cx.2.2.2.2 iw_X7_adjust_X7 cx.2.2.2.1 hK hP 0 rfl rfl 0 (by decide) (cx.2.2.2.2 _ fw_X7_adjust_f7) (fun _ h9 => h9) rfl dX7_adjust_172 ?_
                refine lv_bipush (v := nI 8) cx.1 cx.2.1 dX7_adjust_175 (by decide) ?_
                refine lv_dup2_11 cx.1 cx.2.1 dX7_adjust_177 rfl rfl ?_
                refine nv_iald (j := 8) cx hK hP 1 1 rfl rfl (by omega) (by decide) dX7_adjust_178 ?_
                refine nv_eqi (y := nI (mp (M 0))) hok.p ?_
                refine lv_iload cx.1 cx.2.1 dX7_adjust_179 (lv_at hl 1 rfl) ?_
                refine lv_if_ne (x := mAdj (M 0) a b) (tgt := 188) cx.1 cx.2.1 dX7_adjust_181 (by decide) (fun c_8 => ?_) (fun c_8 => ?_)
                · refine lv_iconst (v := nI 0) cx.1 cx.2.1 dX7_adjust_188 (by decide) ?_
                  refine nv_iadd cx (a := mp (M 0)) (b := 0) dX7_adjust_189 ?_
                  refine nv_iast (j := 8) (x := nI (mp (M 0) + 0)) cx hK hP hD hS 1 1 rfl rfl (by omega) (by decide) dX7_adjust_190 (ws1 := mdC G ad (va_up (mRec M) 0 (upd ((mRec M) 0) 8 (nI (mp (M 0) + 0))))) rfl (fun H locs hP hD hS => ?_)
                  refine lv_aload_n cx.1 cx.2.1 dX7_adjust_191 rfl (lv_at hl 2 rfl) ?_
                  refine va_get (ci := 6) (C := RX7) (T := TX7) (N := 7) (v := .ref (ad 1)) cx.1 cx.2.1 cx.2.2.2.2 iw_X7_adjust_X7 cx.2.2.2.1 hK hP 0 rfl rfl 0 (by decide) (cx.2.2.2.2 _ fw_X7_adjust_f7) (fun _ h9 => h9) rfl dX7_adjust_192 ?_
                  refine lv_bipush (v := nI 9) cx.1 cx.2.1 dX7_adjust_195 (by decide) ?_
                  refine lv_iconst (v := nI 3) cx.1 cx.2.1 dX7_adjust_197 (by decide) ?_
                  refine lv_iload cx.1 cx.2.1 dX7_adjust_198 (lv_at hl 0 rfl) ?_
                  refine nv_imul cx (a := 3) (b := mPl (M 0) a b) dX7_adjust_200 ?_
                  refine nv_iadd cx (a := 9) (b := 3 * (mPl (M 0) a b)) dX7_adjust_201 ?_
                  refine lv_iload_n cx.1 cx.2.1 dX7_adjust_202 rfl (lv_at hl 3 rfl) ?_
                  refine nv_iast (j := 9 + (3 * (mPl (M 0) a b))) (x := a) cx hK hP hD hS 1 1 rfl rfl (by omega) (by decide) dX7_adjust_203 (ws1 := mdC G ad (va_up (va_up (mRec M) 0 (upd ((mRec M) 0) 8 (nI (mp (M 0) + 0)))) 0 (upd ((va_up (mRec M) 0 (upd ((mRec M) 0) 8 (nI (mp (M 0) + 0)))) 0) (9 + (3 * (mPl (M 0) a b))) a))) rfl (fun H locs hP hD hS => ?_)
                  refine lv_aload_n cx.1 cx.2.1 dX7_adjust_204 rfl (lv_at hl 2 rfl) ?_
                  refine va_get (ci := 6) (C := RX7) (T := TX7) (N := 7) (v := .ref (ad 1)) cx.1 cx.2.1 cx.2.2.2.2 iw_X7_adjust_X7 cx.2.2.2.1 hK hP 0 rfl rfl 0 (by decide) (cx.2.2.2.2 _ fw_X7_adjust_f7) (fun _ h9 => h9) rfl dX7_adjust_205 ?_
                  refine lv_bipush (v := nI 9) cx.1 cx.2.1 dX7_adjust_208 (by decide) ?_
                  refine lv_iconst (v := nI 3) cx.1 cx.2.1 dX7_adjust_210 (by decide) ?_
                  refine lv_iload cx.1 cx.2.1 dX7_adjust_211 (lv_at hl 0 rfl) ?_
                  refine nv_imul cx (a := 3) (b := mPl (M 0) a b) dX7_adjust_213 ?_
                  refine nv_iadd cx (a := 9) (b := 3 * (mPl (M 0) a b)) dX7_adjust_214 ?_
                  refine lv_iconst (v := nI 1) cx.1 cx.2.1 dX7_adjust_215 (by decide) ?_
                  refine nv_iadd cx (a := 9 + (3 * (mPl (M 0) a b))) (b := 1) dX7_adjust_216 ?_
                  refine lv_iload_n cx.1 cx.2.1 dX7_adjust_217 rfl (lv_at hl 4 rfl) ?_
                  refine nv_iast (j := 9 + (3 * (mPl (M 0) a b)) + 1) (x := b) cx hK hP hD hS 1 1 rfl rfl (by omega) (by decide) dX7_adjust_218 (ws1 := mdC G ad (va_up (va_up (va_up (mRec M) 0 (upd ((mRec M) 0) 8 (nI (mp (M 0) + 0)))) 0 (upd ((va_up (mRec M) 0 (upd ((mRec M) 0) 8 (nI (mp (M 0) + 0)))) 0) (9 + (3 * (mPl (M 0) a b))) a)) 0 (upd ((va_up (va_up (mRec M) 0 (upd ((mRec M) 0) 8 (nI (mp (M 0) + 0)))) 0 (upd ((va_up (mRec M) 0 (upd ((mRec M) 0) 8 (nI (mp (M 0) + 0)))) 0) (9 + (3 * (mPl (M 0) a b))) a)) 0) (9 + (3 * (mPl (M 0) a b)) + 1) b))) rfl (fun H locs hP hD hS => ?_)
                  refine lv_aload_n cx.1 cx.2.1 dX7_adjust_219 rfl (lv_at hl 2 rfl) ?_
                  refine va_get (ci := 6) (C := RX7) (T := TX7) (N := 7) (v := .ref (ad 1)) cx.1 cx.2.1 cx.2.2.2.2 iw_X7_adjust_X7 cx.2.2.2.1 hK hP 0 rfl rfl 0 (by decide) (cx.2.2.2.2 _ fw_X7_adjust_f7) (fun _ h9 => h9) rfl dX7_adjust_220 ?_
                  refine lv_bipush (v := nI 9) cx.1 cx.2.1 dX7_adjust_223 (by decide) ?_
                  refine lv_iconst (v := nI 3) cx.1 cx.2.1 dX7_adjust_225 (by decide) ?_
                  refine lv_iload cx.1 cx.2.1 dX7_adjust_226 (lv_at hl 0 rfl) ?_
                  refine nv_imul cx (a := 3) (b := mPl (M 0) a b) dX7_adjust_228 ?_
                  refine nv_iadd cx (a := 9) (b := 3 * (mPl (M 0) a b)) dX7_adjust_229 ?_
                  refine lv_iconst (v := nI 2) cx.1 cx.2.1 dX7_adjust_230 (by decide) ?_
                  refine nv_iadd cx (a := 9 + (3 * (mPl (M 0) a b))) (b := 2) dX7_adjust_231 ?_
                  refine lv_iload_n cx.1 cx.2.1 dX7_adjust_232 rfl (lv_at hl 5 rfl) ?_
                  refine nv_iast (j := 9 + (3 * (mPl (M 0) a b)) + 2) (x := v) cx hK hP hD hS 1 1 rfl rfl (by omega) (by decide) dX7_adjust_233 (ws1 := mdC G ad (va_up (va_up (va_up (va_up (mRec M) 0 (upd ((mRec M) 0) 8 (nI (mp (M 0) + 0)))) 0 (upd ((va_up (mRec M) 0 (upd ((mRec M) 0) 8 (nI (mp (M 0) + 0)))) 0) (9 + (3 * (mPl (M 0) a b))) a)) 0 (upd ((va_up (va_up (mRec M) 0 (upd ((mRec M) 0) 8 (nI (mp (M 0) + 0)))) 0 (upd ((va_up (mRec M) 0 (upd ((mRec M) 0) 8 (nI (mp (M 0) + 0)))) 0) (9 + (3 * (mPl (M 0) a b))) a)) 0) (9 + (3 * (mPl (M 0) a b)) + 1) b)) 0 (upd ((va_up (va_up (va_up (mRec M) 0 (upd ((mRec M) 0) 8 (nI (mp (M 0) + 0)))) 0 (upd ((va_up (mRec M) 0 (upd ((mRec M) 0) 8 (nI (mp (M 0) + 0)))) 0) (9 + (3 * (mPl (M 0) a b))) a)) 0 (upd ((va_up (va_up (mRec M) 0 (upd ((mRec M) 0) 8 (nI (mp (M 0) + 0)))) 0 (upd ((va_up (mRec M) 0 (upd ((mRec M) 0) 8 (nI (mp (M 0) + 0)))) 0) (9 + (3 * (mPl (M 0) a b))) a)) 0) (9 + (3 * (mPl (M 0) a b)) + 1) b)) 0) (9 + (3 * (mPl (M 0) a b)) + 2) v))) rfl (fun H locs hP hD hS => ?_)
                  refine lv_iload cx.1 cx.2.1 dX7_adjust_234 (lv_at hl 1 rfl) ?_
                  exact WR.ret (x := mAdj (M 0) a b) cx hr hlocks dX7_adjust_236 (by exact (congrArg (fun q : mR => q.1) (mAdjT_go (by assumption) (by assumption) (by assumption) hnb h5)).symm) (by rw [mAdjT_go (by assumption) (by assumption) (by assumption) hnb h5]; first | (rw [mPut_n (by assumption) hz]; exact hP) | (rw [mPut_o (by assumption) hz]; exact hP)) hS
                · exact absurd c_8 hz
              · refine lv_aload_n cx.1 cx.2.1 dX7_adjust_109 rfl (lv_at hl 2 rfl) ?_
                refine va_get (ci := 6) (C := RX7) (T := TX7) (N := 7) (v := .ref (ad 1)) cx.1 cx.2.1 cx.2.2.2.2 iw_X7_adjust_X7 cx.2.2.2.1 hK hP 0 rfl rfl 0 (by decide) (cx.2.2.2.2 _ fw_X7_adjust_f7) (fun _ h9 => h9) rfl dX7_adjust_110 ?_
                refine lv_bipush (v := nI 8) cx.1 cx.2.1 dX7_adjust_113 (by decide) ?_
                refine lv_dup2_11 cx.1 cx.2.1 dX7_adjust_115 rfl rfl ?_
                refine nv_iald (j := 8) cx hK hP 1 1 rfl rfl (by omega) (by decide) dX7_adjust_116 ?_
                refine nv_eqi (y := nI (mp (M 0))) hok.p ?_
                refine lv_iconst (v := nI 1) cx.1 cx.2.1 dX7_adjust_117 (by decide) ?_
                refine nv_isub cx (a := mp (M 0)) (b := 1) (by omega) dX7_adjust_118 ?_
                refine nv_iast (j := 8) (x := nI (mp (M 0) - 1)) cx hK hP hD hS 1 1 rfl rfl (by omega) (by decide) dX7_adjust_119 (ws1 := mdC G ad (va_up (mRec M) 0 (upd ((mRec M) 0) 8 (nI (mp (M 0) - 1))))) rfl (fun H locs hP hD hS => ?_)
                refine lv_bipush (v := nI 9) cx.1 cx.2.1 dX7_adjust_120 (by decide) ?_
                refine lv_iconst (v := nI 3) cx.1 cx.2.1 dX7_adjust_122 (by decide) ?_
                refine lv_iload cx.1 cx.2.1 dX7_adjust_123 (lv_at hl 0 rfl) ?_
                refine nv_imul cx (a := 3) (b := mPl (M 0) a b) dX7_adjust_125 ?_
                refine nv_iadd cx (a := 9) (b := 3 * (mPl (M 0) a b)) dX7_adjust_126 ?_
                refine lv_istore (lv' := [(6, .int (nI (9 + (3 * (mPl (M 0) a b))))), (5, .int (nI (mPl (M 0) a b))), (4, .int (mAdj (M 0) a b)), (0, .ref (ad 0)), (1, .int a), (2, .int b), (3, .int v)]) cx.1 cx.2.1 dX7_adjust_127 hl (by decide) rfl (fun ls hl => ?_)
                have lp129 : ∀ (r : Nat) (t : Nat) (hr9 : 3 * mp (M 0) - t < r) (ht : t ≤ 3 * (mp (M 0) - 1 - mPl (M 0) a b)) (H : Heap) (locs : List Loc) (hP : va_P G.1 vwCl (mdC G ad (va_up (mRec M) 0 (mvN (upd (M 0) 8 (nI (mp (M 0) - 1))) 3 (9 + 3 * mPl (M 0) a b) t))) H) (hD : va_D (wA (mdC G ad M)) (mdC G ad (va_up (mRec M) 0 (mvN (upd (M 0) 8 (nI (mp (M 0) - 1))) 3 (9 + 3 * mPl (M 0) a b) t)))) (hS : va_S (wA (mdC G ad M)) s.heap H locs) (ls : Array Slot), lv_has ls 7 [(0, .ref (ad 0)), (1, .int a), (2, .int b), (3, .int v), (4, .int (mAdj (M 0) a b)), (5, .int (nI (mPl (M 0) a b))), (6, .int (nI (9 + 3 * mPl (M 0) a b + t)))] → W p l e ({ frames := 3, cells := 0, slots := 0, locals := 68 } : Room) s m [.ref (ad 0), .int a, .int b, .int v].toArray below meth c H locs 0 0 (MQ below (QW G (mdC G ad M) (some (.int ((mAdjT M a b v).1))) (mdC G ad ((mAdjT M a b v).2))) [.ref (ad 0), .int a, .int b, .int v].toArray s 0 0 (wA (mdC G ad M))) (F0 m 129 ls []) := by
                  intro r
                  induction r with
                  | zero => intro t hr9; exact absurd hr9 (Nat.not_lt_zero _)
                  | succ r ih129 =>
                    intro t hr9 ht H locs hP hD hS ls hl
                    have h8 : mvN (upd (M 0) 8 (nI (mp (M 0) - 1))) 3 (9 + 3 * mPl (M 0) a b) t 8 = nI (mp (M 0) - 1) := by rw [mvN_lo _ (by omega)]; rfl
                    refine lv_iload cx.1 cx.2.1 dX7_adjust_129 (lv_at hl 6 rfl) ?_
                    refine lv_bipush (v := nI 9) cx.1 cx.2.1 dX7_adjust_131 (by decide) ?_
                    refine lv_iconst (v := nI 3) cx.1 cx.2.1 dX7_adjust_133 (by decide) ?_
                    refine lv_aload_n cx.1 cx.2.1 dX7_adjust_134 rfl (lv_at hl 0 rfl) ?_
                    refine va_get (ci := 6) (C := RX7) (T := TX7) (N := 7) (v := .ref (ad 1)) cx.1 cx.2.1 cx.2.2.2.2 iw_X7_adjust_X7 cx.2.2.2.1 hK hP 0 rfl rfl 0 (by decide) (cx.2.2.2.2 _ fw_X7_adjust_f7) (fun _ h9 => h9) rfl dX7_adjust_135 ?_
                    refine lv_bipush (v := nI 8) cx.1 cx.2.1 dX7_adjust_138 (by decide) ?_
                    refine nv_iald (j := 8) cx hK hP 1 1 rfl rfl (by omega) (by decide) dX7_adjust_140 ?_
                    refine nv_eqi (y := nI (mp (M 0) - 1)) h8 ?_
                    refine nv_imul cx (a := 3) (b := mp (M 0) - 1) dX7_adjust_141 ?_
                    refine nv_iadd cx (a := 9) (b := 3 * (mp (M 0) - 1)) dX7_adjust_142 ?_
                    refine nv_icmp_ge (a := 9 + 3 * mPl (M 0) a b + t) (b := 9 + (3 * (mp (M 0) - 1))) (tgt := 168) cx dX7_adjust_143 (by decide) (by omega) (by omega) (fun c_9 => ?_) (fun c_9 => ?_)
                    · have et : t = 3 * (mp (M 0) - 1 - mPl (M 0) a b) := by omega
                      subst et
                      refine lv_iload cx.1 cx.2.1 dX7_adjust_168 (lv_at hl 4 rfl) ?_
                      exact WR.ret (x := mAdj (M 0) a b) cx hr hlocks dX7_adjust_170 (by exact (congrArg (fun q : mR => q.1) (mAdjT_go (by assumption) (by assumption) (by assumption) hnb h5)).symm) (by rw [mAdjT_go (by assumption) (by assumption) (by assumption) hnb h5, mPut_d (by assumption)]; exact hP) hS
                    · refine lv_aload_n cx.1 cx.2.1 dX7_adjust_146 rfl (lv_at hl 0 rfl) ?_
                      refine va_get (ci := 6) (C := RX7) (T := TX7) (N := 7) (v := .ref (ad 1)) cx.1 cx.2.1 cx.2.2.2.2 iw_X7_adjust_X7 cx.2.2.2.1 hK hP 0 rfl rfl 0 (by decide) (cx.2.2.2.2 _ fw_X7_adjust_f7) (fun _ h9 => h9) rfl dX7_adjust_147 ?_
                      refine lv_iload cx.1 cx.2.1 dX7_adjust_150 (lv_at hl 6 rfl) ?_
                      refine lv_aload_n cx.1 cx.2.1 dX7_adjust_152 rfl (lv_at hl 0 rfl) ?_
                      refine va_get (ci := 6) (C := RX7) (T := TX7) (N := 7) (v := .ref (ad 1)) cx.1 cx.2.1 cx.2.2.2.2 iw_X7_adjust_X7 cx.2.2.2.1 hK hP 0 rfl rfl 0 (by decide) (cx.2.2.2.2 _ fw_X7_adjust_f7) (fun _ h9 => h9) rfl dX7_adjust_153 ?_
                      refine lv_iload cx.1 cx.2.1 dX7_adjust_156 (lv_at hl 6 rfl) ?_
                      refine lv_iconst (v := nI 3) cx.1 cx.2.1 dX7_adjust_158 (by decide) ?_
                      refine nv_iadd cx (a := 9 + 3 * mPl (M 0) a b + t) (b := 3) dX7_adjust_159 ?_
                      refine nv_iald (j := 9 + 3 * mPl (M 0) a b + t + 3) cx hK hP 1 1 rfl rfl (by omega) (by decide) dX7_adjust_160 ?_
                      refine nv_iast (j := 9 + 3 * mPl (M 0) a b + t) (x := ((va_up (mRec M) 0 (mvN (upd (M 0) 8 (nI (mp (M 0) - 1))) 3 (9 + 3 * mPl (M 0) a b) t)) 0) (9 + 3 * mPl (M 0) a b + t + 3)) cx hK hP hD hS 1 1 rfl rfl (by omega) (by decide) dX7_adjust_161 (ws1 := mdC G ad (va_up (va_up (mRec M) 0 (mvN (upd (M 0) 8 (nI (mp (M 0) - 1))) 3 (9 + 3 * mPl (M 0) a b) t)) 0 (upd ((va_up (mRec M) 0 (mvN (upd (M 0) 8 (nI (mp (M 0) - 1))) 3 (9 + 3 * mPl (M 0) a b) t)) 0) (9 + 3 * mPl (M 0) a b + t) (((va_up (mRec M) 0 (mvN (upd (M 0) 8 (nI (mp (M 0) - 1))) 3 (9 + 3 * mPl (M 0) a b) t)) 0) (9 + 3 * mPl (M 0) a b + t + 3))))) rfl (fun H locs hP hD hS => ?_)
                      refine lv_iinc (v := nI (9 + 3 * mPl (M 0) a b + t + 1)) (lv' := [(6, .int (nI (9 + 3 * mPl (M 0) a b + t + 1))), (0, .ref (ad 0)), (1, .int a), (2, .int b), (3, .int v), (4, .int (mAdj (M 0) a b)), (5, .int (nI (mPl (M 0) a b)))]) cx.1 cx.2.1 dX7_adjust_162 hl (k := 6) rfl (show nI (9 + 3 * mPl (M 0) a b + t) + Int32.ofInt 1 = nI (9 + 3 * mPl (M 0) a b + t + 1) from nI_add (9 + 3 * mPl (M 0) a b + t) 1) (by decide) rfl (fun ls hl => ?_)
                      refine lv_goto (tgt := 129) cx.1 cx.2.1 dX7_adjust_165 (by decide) ?_
                      exact ih129 (t + 1) (by omega) (by omega) _ _ (by rw [mvN_step _ (by decide)]; exact hP) (hD.fst rfl) hS ls (lv_sub hl [1, 2, 3, 4, 5, 6, 0] rfl)
                exact lp129 _ 0 (Nat.lt_succ_self _) (by omega) H locs (by rw [mvN_0]; exact hP) (hD.fst rfl) hS ls (lv_sub hl [3, 4, 5, 6, 2, 1, 0] rfl)
            · exact absurd c_6 hz
          · have hz := c_5
            refine lv_aload_n cx.1 cx.2.1 dX7_adjust_62 rfl (lv_at hl 1 rfl) ?_
            refine va_get (ci := 6) (C := RX7) (T := TX7) (N := 7) (v := .ref (ad 1)) cx.1 cx.2.1 cx.2.2.2.2 iw_X7_adjust_X7 cx.2.2.2.1 hK hP 0 rfl rfl 0 (by decide) (cx.2.2.2.2 _ fw_X7_adjust_f7) (fun _ h9 => h9) rfl dX7_adjust_63 ?_
            refine lv_bipush (v := nI 8) cx.1 cx.2.1 dX7_adjust_66 (by decide) ?_
            refine nv_iald (j := 8) cx hK hP 1 1 rfl rfl (by omega) (by decide) dX7_adjust_68 ?_
            refine nv_eqi (y := nI (mp (M 0))) hok.p ?_
            refine lv_bipush (v := nI 16) cx.1 cx.2.1 dX7_adjust_69 (by decide) ?_
            refine nv_icmp_ne (a := mp (M 0)) (b := 16) (tgt := 78) cx dX7_adjust_71 (by decide) (by omega) (by omega) (fun c_10 => ?_) (fun c_10 => ?_)
            · have h16 : mp (M 0) < 16 := by omega
              have h5 : ¬ (mAdj (M 0) a b = 0 ∧ mp (M 0) = 16) := fun q => absurd q.2 c_10
              refine lv_aload_n cx.1 cx.2.1 dX7_adjust_78 rfl (lv_at hl 1 rfl) ?_
              refine WR.callV (As := []) (rest := []) cx (c_X7_record l G ad M hkk) gX7_adjust_X7_record rfl hd_X7_record ⟨Nat.le_of_ble_eq_true rfl, Nat.le_of_ble_eq_true rfl⟩ (va_recv hK hP (ci := 6) (q0 := 0) rfl rfl) hK hN hP hD hS (fun _ h => h) rfl hl.1 rfl (Nat.le_of_ble_eq_true rfl) dX7_adjust_79 ⟨Nat.zero_le _, Nat.zero_le _⟩ (fun H1 locs hP1 hk1 hS => ?_)
              have hP : va_P G.1 vwCl (mdC G ad (mRec M)) H1 := hP1
              have hD : va_D (wA (mdC G ad M)) (mdC G ad (mRec M)) := hD.fst rfl
              generalize H1 = H at hP hS ⊢
              clear hP1 hk1
              refine lv_iload cx.1 cx.2.1 dX7_adjust_82 (lv_at hl 0 rfl) ?_
              refine lv_if_ne (x := mAdj (M 0) a b) (tgt := 97) cx.1 cx.2.1 dX7_adjust_84 (by decide) (fun c_11 => ?_) (fun c_11 => ?_)
              · exact absurd hz c_11
              · refine lv_aload_n cx.1 cx.2.1 dX7_adjust_87 rfl (lv_at hl 1 rfl) ?_
                refine va_get (ci := 6) (C := RX7) (T := TX7) (N := 7) (v := .ref (ad 1)) cx.1 cx.2.1 cx.2.2.2.2 iw_X7_adjust_X7 cx.2.2.2.1 hK hP 0 rfl rfl 0 (by decide) (cx.2.2.2.2 _ fw_X7_adjust_f7) (fun _ h9 => h9) rfl dX7_adjust_88 ?_
                refine lv_bipush (v := nI 8) cx.1 cx.2.1 dX7_adjust_91 (by decide) ?_
                refine nv_iald (j := 8) cx hK hP 1 1 rfl rfl (by omega) (by decide) dX7_adjust_93 ?_
                refine nv_eqi (y := nI (mp (M 0))) hok.p ?_
                refine lv_goto (tgt := 103) cx.1 cx.2.1 dX7_adjust_94 (by decide) ?_
                refine lv_istore (lv' := [(5, .int (nI (mp (M 0)))), (4, .int (mAdj (M 0) a b)), (0, .ref (ad 0)), (1, .int a), (2, .int b), (3, .int v)]) cx.1 cx.2.1 dX7_adjust_103 hl (by decide) rfl (fun ls hl => ?_)
                refine lv_iload_n cx.1 cx.2.1 dX7_adjust_105 rfl (lv_at hl 5 rfl) ?_
                refine lv_if_ne (x := v) (tgt := 171) cx.1 cx.2.1 dX7_adjust_106 (by decide) (fun c_12 => ?_) (fun c_12 => ?_)
                · refine lv_aload_n cx.1 cx.2.1 dX7_adjust_171 rfl (lv_at hl 2 rfl) ?_
                  refine va_get (ci := 6) (C := RX7) (T := TX7) (N := 7) (v := .ref (ad 1)) cx.1 cx.2.1 cx.2.2.2.2 iw_X7_adjust_X7 cx.2.2.2.1 hK hP 0 rfl rfl 0 (by decide) (cx.2.2.2.2 _ fw_X7_adjust_f7) (fun _ h9 => h9) rfl dX7_adjust_172 ?_
                  refine lv_bipush (v := nI 8) cx.1 cx.2.1 dX7_adjust_175 (by decide) ?_
                  refine lv_dup2_11 cx.1 cx.2.1 dX7_adjust_177 rfl rfl ?_
                  refine nv_iald (j := 8) cx hK hP 1 1 rfl rfl (by omega) (by decide) dX7_adjust_178 ?_
                  refine nv_eqi (y := nI (mp (M 0))) hok.p ?_
                  refine lv_iload cx.1 cx.2.1 dX7_adjust_179 (lv_at hl 1 rfl) ?_
                  refine lv_if_ne (x := mAdj (M 0) a b) (tgt := 188) cx.1 cx.2.1 dX7_adjust_181 (by decide) (fun c_13 => ?_) (fun c_13 => ?_)
                  · exact absurd hz c_13
                  · refine lv_iconst (v := nI 1) cx.1 cx.2.1 dX7_adjust_184 (by decide) ?_
                    refine lv_goto (tgt := 189) cx.1 cx.2.1 dX7_adjust_185 (by decide) ?_
                    refine nv_iadd cx (a := mp (M 0)) (b := 1) dX7_adjust_189 ?_
                    refine nv_iast (j := 8) (x := nI (mp (M 0) + 1)) cx hK hP hD hS 1 1 rfl rfl (by omega) (by decide) dX7_adjust_190 (ws1 := mdC G ad (va_up (mRec M) 0 (upd ((mRec M) 0) 8 (nI (mp (M 0) + 1))))) rfl (fun H locs hP hD hS => ?_)
                    refine lv_aload_n cx.1 cx.2.1 dX7_adjust_191 rfl (lv_at hl 2 rfl) ?_
                    refine va_get (ci := 6) (C := RX7) (T := TX7) (N := 7) (v := .ref (ad 1)) cx.1 cx.2.1 cx.2.2.2.2 iw_X7_adjust_X7 cx.2.2.2.1 hK hP 0 rfl rfl 0 (by decide) (cx.2.2.2.2 _ fw_X7_adjust_f7) (fun _ h9 => h9) rfl dX7_adjust_192 ?_
                    refine lv_bipush (v := nI 9) cx.1 cx.2.1 dX7_adjust_195 (by decide) ?_
                    refine lv_iconst (v := nI 3) cx.1 cx.2.1 dX7_adjust_197 (by decide) ?_
                    refine lv_iload cx.1 cx.2.1 dX7_adjust_198 (lv_at hl 0 rfl) ?_
                    refine nv_imul cx (a := 3) (b := mp (M 0)) dX7_adjust_200 ?_
                    refine nv_iadd cx (a := 9) (b := 3 * (mp (M 0))) dX7_adjust_201 ?_
                    refine lv_iload_n cx.1 cx.2.1 dX7_adjust_202 rfl (lv_at hl 3 rfl) ?_
                    refine nv_iast (j := 9 + (3 * (mp (M 0)))) (x := a) cx hK hP hD hS 1 1 rfl rfl (by omega) (by decide) dX7_adjust_203 (ws1 := mdC G ad (va_up (va_up (mRec M) 0 (upd ((mRec M) 0) 8 (nI (mp (M 0) + 1)))) 0 (upd ((va_up (mRec M) 0 (upd ((mRec M) 0) 8 (nI (mp (M 0) + 1)))) 0) (9 + (3 * (mp (M 0)))) a))) rfl (fun H locs hP hD hS => ?_)
                    refine lv_aload_n cx.1 cx.2.1 dX7_adjust_204 rfl (lv_at hl 2 rfl) ?_
                    refine va_get (ci := 6) (C := RX7) (T := TX7) (N := 7) (v := .ref (ad 1)) cx.1 cx.2.1 cx.2.2.2.2 iw_X7_adjust_X7 cx.2.2.2.1 hK hP 0 rfl rfl 0 (by decide) (cx.2.2.2.2 _ fw_X7_adjust_f7) (fun _ h9 => h9) rfl dX7_adjust_205 ?_
                    refine lv_bipush (v := nI 9) cx.1 cx.2.1 dX7_adjust_208 (by decide) ?_
                    refine lv_iconst (v := nI 3) cx.1 cx.2.1 dX7_adjust_210 (by decide) ?_
                    refine lv_iload cx.1 cx.2.1 dX7_adjust_211 (lv_at hl 0 rfl) ?_
                    refine nv_imul cx (a := 3) (b := mp (M 0)) dX7_adjust_213 ?_
                    refine nv_iadd cx (a := 9) (b := 3 * (mp (M 0))) dX7_adjust_214 ?_
                    refine lv_iconst (v := nI 1) cx.1 cx.2.1 dX7_adjust_215 (by decide) ?_
                    refine nv_iadd cx (a := 9 + (3 * (mp (M 0)))) (b := 1) dX7_adjust_216 ?_
                    refine lv_iload_n cx.1 cx.2.1 dX7_adjust_217 rfl (lv_at hl 4 rfl) ?_
                    refine nv_iast (j := 9 + (3 * (mp (M 0))) + 1) (x := b) cx hK hP hD hS 1 1 rfl rfl (by omega) (by decide) dX7_adjust_218 (ws1 := mdC G ad (va_up (va_up (va_up (mRec M) 0 (upd ((mRec M) 0) 8 (nI (mp (M 0) + 1)))) 0 (upd ((va_up (mRec M) 0 (upd ((mRec M) 0) 8 (nI (mp (M 0) + 1)))) 0) (9 + (3 * (mp (M 0)))) a)) 0 (upd ((va_up (va_up (mRec M) 0 (upd ((mRec M) 0) 8 (nI (mp (M 0) + 1)))) 0 (upd ((va_up (mRec M) 0 (upd ((mRec M) 0) 8 (nI (mp (M 0) + 1)))) 0) (9 + (3 * (mp (M 0)))) a)) 0) (9 + (3 * (mp (M 0))) + 1) b))) rfl (fun H locs hP hD hS => ?_)
                    refine lv_aload_n cx.1 cx.2.1 dX7_adjust_219 rfl (lv_at hl 2 rfl) ?_
                    refine va_get (ci := 6) (C := RX7) (T := TX7) (N := 7) (v := .ref (ad 1)) cx.1 cx.2.1 cx.2.2.2.2 iw_X7_adjust_X7 cx.2.2.2.1 hK hP 0 rfl rfl 0 (by decide) (cx.2.2.2.2 _ fw_X7_adjust_f7) (fun _ h9 => h9) rfl dX7_adjust_220 ?_
                    refine lv_bipush (v := nI 9) cx.1 cx.2.1 dX7_adjust_223 (by decide) ?_
                    refine lv_iconst (v := nI 3) cx.1 cx.2.1 dX7_adjust_225 (by decide) ?_
                    refine lv_iload cx.1 cx.2.1 dX7_adjust_226 (lv_at hl 0 rfl) ?_
                    refine nv_imul cx (a := 3) (b := mp (M 0)) dX7_adjust_228 ?_
                    refine nv_iadd cx (a := 9) (b := 3 * (mp (M 0))) dX7_adjust_229 ?_
                    refine lv_iconst (v := nI 2) cx.1 cx.2.1 dX7_adjust_230 (by decide) ?_
                    refine nv_iadd cx (a := 9 + (3 * (mp (M 0)))) (b := 2) dX7_adjust_231 ?_
                    refine lv_iload_n cx.1 cx.2.1 dX7_adjust_232 rfl (lv_at hl 5 rfl) ?_
                    refine nv_iast (j := 9 + (3 * (mp (M 0))) + 2) (x := v) cx hK hP hD hS 1 1 rfl rfl (by omega) (by decide) dX7_adjust_233 (ws1 := mdC G ad (va_up (va_up (va_up (va_up (mRec M) 0 (upd ((mRec M) 0) 8 (nI (mp (M 0) + 1)))) 0 (upd ((va_up (mRec M) 0 (upd ((mRec M) 0) 8 (nI (mp (M 0) + 1)))) 0) (9 + (3 * (mp (M 0)))) a)) 0 (upd ((va_up (va_up (mRec M) 0 (upd ((mRec M) 0) 8 (nI (mp (M 0) + 1)))) 0 (upd ((va_up (mRec M) 0 (upd ((mRec M) 0) 8 (nI (mp (M 0) + 1)))) 0) (9 + (3 * (mp (M 0)))) a)) 0) (9 + (3 * (mp (M 0))) + 1) b)) 0 (upd ((va_up (va_up (va_up (mRec M) 0 (upd ((mRec M) 0) 8 (nI (mp (M 0) + 1)))) 0 (upd ((va_up (mRec M) 0 (upd ((mRec M) 0) 8 (nI (mp (M 0) + 1)))) 0) (9 + (3 * (mp (M 0)))) a)) 0 (upd ((va_up (va_up (mRec M) 0 (upd ((mRec M) 0) 8 (nI (mp (M 0) + 1)))) 0 (upd ((va_up (mRec M) 0 (upd ((mRec M) 0) 8 (nI (mp (M 0) + 1)))) 0) (9 + (3 * (mp (M 0)))) a)) 0) (9 + (3 * (mp (M 0))) + 1) b)) 0) (9 + (3 * (mp (M 0))) + 2) v))) rfl (fun H locs hP hD hS => ?_)
                    refine lv_iload cx.1 cx.2.1 dX7_adjust_234 (lv_at hl 1 rfl) ?_
                    exact WR.ret (x := mAdj (M 0) a b) cx hr hlocks dX7_adjust_236 (by exact (congrArg (fun q : mR => q.1) (mAdjT_go (by assumption) (by assumption) (by assumption) hnb h5)).symm) (by rw [mAdjT_go (by assumption) (by assumption) (by assumption) hnb h5]; first | (rw [mPut_n (by assumption) hz]; exact hP) | (rw [mPut_o (by assumption) hz]; exact hP)) hS
                · exact absurd (hz.trans c_12.symm) hnb
            · refine lv_sipush (v := (-1003)) cx.1 cx.2.1 dX7_adjust_74 (by decide) ?_
              exact WR.ret (x := (-1003)) cx hr hlocks dX7_adjust_77 (by exact (congrArg (fun q : mR => q.1) (mAdjT_16 (by assumption) (by assumption) (by assumption) hnb ⟨hz, by assumption⟩)).symm) (by rw [mAdjT_16 (by assumption) (by assumption) (by assumption) hnb ⟨hz, by assumption⟩]; exact hP) hS
        · refine lv_sipush (v := (-1005)) cx.1 cx.2.1 dX7_adjust_53 (by decide) ?_
          exact WR.ret (x := (-1005)) cx hr hlocks dX7_adjust_56 (by first | (simp [mAdjT, c_1, c_2, c_3, c_4]; done)) (by simp only [mAdjT, c_1, c_2, c_3, c_4, true_or, or_true, or_self, or_false, false_or, true_and, and_true, false_and, and_false, and_self, not_true_eq_false, not_false_eq_true, if_true, if_false, ↓reduceIte, Bool.false_eq_true, Bool.true_eq_false]; exact hP) hS
      · refine lv_sipush (v := (-1004)) cx.1 cx.2.1 dX7_adjust_35 (by decide) ?_
        exact WR.ret (x := (-1004)) cx hr hlocks dX7_adjust_38 (by first | (simp [mAdjT, c_1, c_2, c_3]; done)) (by simp only [mAdjT, c_1, c_2, c_3, true_or, or_true, or_self, or_false, false_or, true_and, and_true, false_and, and_false, and_self, not_true_eq_false, not_false_eq_true, if_true, if_false, ↓reduceIte, Bool.false_eq_true, Bool.true_eq_false]; exact hP) hS
    · refine lv_sipush (v := (-1002)) cx.1 cx.2.1 dX7_adjust_22 (by decide) ?_
      exact WR.ret (x := (-1002)) cx hr hlocks dX7_adjust_25 (by first | (simp [mAdjT, c_1, c_2]; done)) (by simp only [mAdjT, c_1, c_2, true_or, or_true, or_self, or_false, false_or, true_and, and_true, false_and, and_false, and_self, not_true_eq_false, not_false_eq_true, if_true, if_false, ↓reduceIte, Bool.false_eq_true, Bool.true_eq_false]; exact hP) hS
  · refine lv_sipush (v := (-1001)) cx.1 cx.2.1 dX7_adjust_8 (by decide) ?_
    exact WR.ret (x := (-1001)) cx hr hlocks dX7_adjust_11 (by first | (simp [mAdjT, c_1]; done)) (by simp only [mAdjT, c_1, true_or, or_true, or_self, or_false, false_or, true_and, and_true, false_and, and_false, and_self, not_true_eq_false, not_false_eq_true, if_true, if_false, ↓reduceIte, Bool.false_eq_true, Bool.true_eq_false]; exact hP) hS

theorem iw_X7_readNames_X7 : ∀ w ∈ wsX70, w ∈ wsX7_readNames := fun _ h => List.mem_cons_of_mem _ (List.mem_append_right _ h)
theorem fw_X7_readNames_f7 : (Cond.fieldLink RX7 7 "NamePlateModel" "now" "[I") ∈ wsX7_readNames := List.mem_of_getElem? (i := 1) rfl
theorem fw_X7_readNames_f122 : (Cond.fieldLink RX7 122 "NamePlateModel" "typed" "I") ∈ wsX7_readNames := List.mem_of_getElem? (i := 2) rfl
theorem fw_X7_readNames_f19 : (Cond.fieldLink RX7 19 "NamePlateModel" "text" "[C") ∈ wsX7_readNames := List.mem_of_getElem? (i := 3) rfl
set_option maxHeartbeats 4000000 in
set_option maxRecDepth 100000 in
theorem c_X7_readNames (l : Launch) (G : GG) (ad : Nat → Nat) (M : XS)  (hkk : okK M) (hok : okM (M 0)) (hot : okMT M) : WR l yX7_readNames wsX7_readNames 3 66 G (mdC G ad M) [.ref (ad 0)] (some (.int ((mReadN M).1))) (mdC G ad ((mReadN M).2)) := by
  refine WR.start (cc := cX7_readNames) (maxL := 5) (ret := (some .int)) (by decide) rfl (Nat.le_of_ble_eq_true rfl) ?_
  intro p e s m below meth c ls cx hr hlocks hK hN hP hD hS hl
  have cx : CallFix p m c cX7_readNames 5 s [.ref (ad 0)].toArray wsX7_readNames RX7 := cx
  have hl : lv_has ls 5 [(0, .ref (ad 0))] := hl
  have hn20 := hok.n20
  have h60 := hot.2.1
  have hnl := mNm_le M (mt M)
  have hn1 : 1 ≤ mNm M (mt M) := mNm_mono M (Nat.zero_le _)
  refine lv_aload_n cx.1 cx.2.1 dX7_readNames_0 rfl (lv_at hl 0 rfl) ?_
  refine RO.callV (As := []) (rest := []) cx (c_X7_faultOf l G ad M hot) gX7_readNames_X7_faultOf rfl hd_X7_faultOf ⟨Nat.le_of_ble_eq_true rfl, Nat.le_of_ble_eq_true rfl⟩ (va_recv hK hP (ci := 6) (q0 := 0) rfl rfl) hK hN hP rfl hl.1 rfl (Nat.le_of_ble_eq_true rfl) dX7_readNames_1 ⟨Nat.zero_le _, Nat.zero_le _⟩ ?_
  refine lv_istore_n (lv' := [(1, .int (mFault M)), (0, .ref (ad 0))]) cx.1 cx.2.1 dX7_readNames_4 rfl hl (by decide) rfl (fun ls hl => ?_)
  refine lv_iload_n cx.1 cx.2.1 dX7_readNames_5 rfl (lv_at hl 0 rfl) ?_
  refine lv_sipush (v := (-1005)) cx.1 cx.2.1 dX7_readNames_6 (by decide) ?_
  refine lv_icmp_eq (x := mFault M) (y := (-1005)) (tgt := 17) cx.1 cx.2.1 dX7_readNames_9 (by decide) (fun c_1 => ?_) (fun c_1 => ?_)
  · have hfl := c_1
    have hbad := mFault_no hot.2.1 c_1
    refine lv_aload_n cx.1 cx.2.1 dX7_readNames_17 rfl (lv_at hl 1 rfl) ?_
    refine RO.callV (As := []) (rest := []) cx (c_X7_namesInText l G ad M hot) gX7_readNames_X7_namesInText rfl hd_X7_namesInText ⟨Nat.le_of_ble_eq_true rfl, Nat.le_of_ble_eq_true rfl⟩ (va_recv hK hP (ci := 6) (q0 := 0) rfl rfl) hK hN hP rfl hl.1 rfl (Nat.le_of_ble_eq_true rfl) dX7_readNames_18 ⟨Nat.zero_le _, Nat.zero_le _⟩ ?_
    refine lv_istore_n (lv' := [(2, .int (nI (mNm M (mt M)))), (1, .int (mFault M)), (0, .ref (ad 0))]) cx.1 cx.2.1 dX7_readNames_21 rfl hl (by decide) rfl (fun ls hl => ?_)
    refine lv_aload_n cx.1 cx.2.1 dX7_readNames_22 rfl (lv_at hl 2 rfl) ?_
    refine va_get (ci := 6) (C := RX7) (T := TX7) (N := 7) (v := .ref (ad 1)) cx.1 cx.2.1 cx.2.2.2.2 iw_X7_readNames_X7 cx.2.2.2.1 hK hP 0 rfl rfl 0 (by decide) (cx.2.2.2.2 _ fw_X7_readNames_f7) (fun _ h9 => h9) rfl dX7_readNames_23 ?_
    refine lv_iconst (v := nI 4) cx.1 cx.2.1 dX7_readNames_26 (by decide) ?_
    refine nv_iald (j := 4) cx hK hP 1 1 rfl rfl (by omega) (by decide) dX7_readNames_27 ?_
    refine nv_eqi (y := nI (mn (M 0))) hok.n ?_
    refine lv_iload_n cx.1 cx.2.1 dX7_readNames_28 rfl (lv_at hl 0 rfl) ?_
    refine nv_iadd cx (a := mn (M 0)) (b := mNm M (mt M)) dX7_readNames_29 ?_
    refine lv_bipush (v := nI 20) cx.1 cx.2.1 dX7_readNames_30 (by decide) ?_
    refine nv_icmp_le (a := mn (M 0) + (mNm M (mt M))) (b := 20) (tgt := 39) cx dX7_readNames_32 (by decide) (by omega) (by omega) (fun c_2 => ?_) (fun c_2 => ?_)
    · have h20 := c_2
      refine lv_aload_n cx.1 cx.2.1 dX7_readNames_39 rfl (lv_at hl 2 rfl) ?_
      refine WR.callV (As := []) (rest := []) cx (c_X7_record l G ad M hkk) gX7_readNames_X7_record rfl hd_X7_record ⟨Nat.le_of_ble_eq_true rfl, Nat.le_of_ble_eq_true rfl⟩ (va_recv hK hP (ci := 6) (q0 := 0) rfl rfl) hK hN hP hD hS (fun _ h => h) rfl hl.1 rfl (Nat.le_of_ble_eq_true rfl) dX7_readNames_40 ⟨Nat.zero_le _, Nat.zero_le _⟩ (fun H1 locs hP1 hk1 hS => ?_)
      have hP : va_P G.1 vwCl (mdC G ad (mRec M)) H1 := hP1
      have hD : va_D (wA (mdC G ad M)) (mdC G ad (mRec M)) := hD.fst rfl
      generalize H1 = H at hP hS ⊢
      clear hP1 hk1
      refine lv_bipush (v := nI 57) cx.1 cx.2.1 dX7_readNames_43 (by decide) ?_
      refine lv_bipush (v := nI 18) cx.1 cx.2.1 dX7_readNames_45 (by decide) ?_
      refine lv_aload_n cx.1 cx.2.1 dX7_readNames_47 rfl (lv_at hl 2 rfl) ?_
      refine va_get (ci := 6) (C := RX7) (T := TX7) (N := 7) (v := .ref (ad 1)) cx.1 cx.2.1 cx.2.2.2.2 iw_X7_readNames_X7 cx.2.2.2.1 hK hP 0 rfl rfl 0 (by decide) (cx.2.2.2.2 _ fw_X7_readNames_f7) (fun _ h9 => h9) rfl dX7_readNames_48 ?_
      refine lv_iconst (v := nI 4) cx.1 cx.2.1 dX7_readNames_51 (by decide) ?_
      refine nv_iald (j := 4) cx hK hP 1 1 rfl rfl (by omega) (by decide) dX7_readNames_52 ?_
      refine nv_eqi (y := nI (mn (M 0))) hok.n ?_
      refine nv_imul cx (a := 18) (b := mn (M 0)) dX7_readNames_53 ?_
      refine nv_iadd cx (a := 57) (b := 18 * (mn (M 0))) dX7_readNames_54 ?_
      refine lv_istore_n (lv' := [(3, .int (nI (57 + (18 * (mn (M 0)))))), (2, .int (nI (mNm M (mt M)))), (1, .int (mFault M)), (0, .ref (ad 0))]) cx.1 cx.2.1 dX7_readNames_55 rfl hl (by decide) rfl (fun ls hl => ?_)
      refine lv_aload_n cx.1 cx.2.1 dX7_readNames_56 rfl (lv_at hl 3 rfl) ?_
      refine va_get (ci := 6) (C := RX7) (T := TX7) (N := 7) (v := .ref (ad 1)) cx.1 cx.2.1 cx.2.2.2.2 iw_X7_readNames_X7 cx.2.2.2.1 hK hP 0 rfl rfl 0 (by decide) (cx.2.2.2.2 _ fw_X7_readNames_f7) (fun _ h9 => h9) rfl dX7_readNames_57 ?_
      refine lv_iload_n cx.1 cx.2.1 dX7_readNames_60 rfl (lv_at hl 0 rfl) ?_
      refine lv_iconst (v := nI 0) cx.1 cx.2.1 dX7_readNames_61 (by decide) ?_
      refine nv_iadd cx (a := 57 + (18 * (mn (M 0)))) (b := 0) dX7_readNames_62 ?_
      refine lv_iconst (v := nI 0) cx.1 cx.2.1 dX7_readNames_63 (by decide) ?_
      refine nv_iast (j := 57 + (18 * (mn (M 0))) + 0) (x := 0) cx hK hP hD hS 1 1 rfl rfl (by omega) (by decide) dX7_readNames_64 (ws1 := mdC G ad (va_up (mRec M) 0 (upd ((mRec M) 0) (57 + (18 * (mn (M 0))) + 0) 0))) rfl (fun H locs hP hD hS => ?_)
      refine lv_aload_n cx.1 cx.2.1 dX7_readNames_65 rfl (lv_at hl 3 rfl) ?_
      refine va_get (ci := 6) (C := RX7) (T := TX7) (N := 7) (v := .ref (ad 1)) cx.1 cx.2.1 cx.2.2.2.2 iw_X7_readNames_X7 cx.2.2.2.1 hK hP 0 rfl rfl 0 (by decide) (cx.2.2.2.2 _ fw_X7_readNames_f7) (fun _ h9 => h9) rfl dX7_readNames_66 ?_
      refine lv_iload_n cx.1 cx.2.1 dX7_readNames_69 rfl (lv_at hl 0 rfl) ?_
      refine lv_iconst (v := nI 1) cx.1 cx.2.1 dX7_readNames_70 (by decide) ?_
      refine nv_iadd cx (a := 57 + (18 * (mn (M 0)))) (b := 1) dX7_readNames_71 ?_
      refine lv_iconst (v := nI 0) cx.1 cx.2.1 dX7_readNames_72 (by decide) ?_
      refine nv_iast (j := 57 + (18 * (mn (M 0))) + 1) (x := 0) cx hK hP hD hS 1 1 rfl rfl (by omega) (by decide) dX7_readNames_73 (ws1 := mdC G ad (va_up (va_up (mRec M) 0 (upd ((mRec M) 0) (57 + (18 * (mn (M 0))) + 0) 0)) 0 (upd ((va_up (mRec M) 0 (upd ((mRec M) 0) (57 + (18 * (mn (M 0))) + 0) 0)) 0) (57 + (18 * (mn (M 0))) + 1) 0))) rfl (fun H locs hP hD hS => ?_)
      refine lv_iconst (v := nI 0) cx.1 cx.2.1 dX7_readNames_74 (by decide) ?_
      refine lv_istore (lv' := [(4, .int (nI 0)), (3, .int (nI (57 + (18 * (mn (M 0)))))), (2, .int (nI (mNm M (mt M)))), (1, .int (mFault M)), (0, .ref (ad 0))]) cx.1 cx.2.1 dX7_readNames_75 hl (by decide) rfl (fun ls hl => ?_)
      have lp77 : ∀ (r : Nat) (i : Nat) (hr9 : mt M - i < r) (hi : i ≤ mt M) (H : Heap) (locs : List Loc) (hP : va_P G.1 vwCl (mdC G ad (va_up (mRec M) 0 (mRw M i))) H) (hD : va_D (wA (mdC G ad M)) (mdC G ad (va_up (mRec M) 0 (mRw M i)))) (hS : va_S (wA (mdC G ad M)) s.heap H locs) (ls : Array Slot), lv_has ls 5 [(0, .ref (ad 0)), (1, .int (mFault M)), (2, .int (nI (mNm M (mt M)))), (3, .int (nI (mCe M i))), (4, .int (nI i))] → W p l e ({ frames := 3, cells := 0, slots := 0, locals := 66 } : Room) s m [.ref (ad 0)].toArray below meth c H locs 0 0 (MQ below (QW G (mdC G ad M) (some (.int ((mReadN M).1))) (mdC G ad ((mReadN M).2))) [.ref (ad 0)].toArray s 0 0 (wA (mdC G ad M))) (F0 m 77 ls []) := by
        intro r
        induction r with
        | zero => intro i hr9; exact absurd hr9 (Nat.not_lt_zero _)
        | succ r ih77 =>
          intro i hr9 hi H locs hP hD hS ls hl
          have hce := mCe_eq M i
          have hm1 := mNm_mono M hi
          refine lv_iload cx.1 cx.2.1 dX7_readNames_77 (lv_at hl 4 rfl) ?_
          refine lv_aload_n cx.1 cx.2.1 dX7_readNames_79 rfl (lv_at hl 0 rfl) ?_
          refine va_get (ci := 6) (C := RX7) (T := TX7) (N := 7) (v := .int ((va_up (mRec M) 0 (mRw M i)) 4 2)) cx.1 cx.2.1 cx.2.2.2.2 iw_X7_readNames_X7 cx.2.2.2.1 hK hP 0 rfl rfl 5 (by decide) (cx.2.2.2.2 _ fw_X7_readNames_f122) (fun _ h9 => h9) rfl dX7_readNames_80 ?_
          refine nv_eqi (y := nI (mt M)) hot.1 ?_
          refine nv_icmp_ge (a := i) (b := mt M) (tgt := 164) cx dX7_readNames_83 (by decide) (by omega) (by omega) (fun c_3 => ?_) (fun c_3 => ?_)
          · have et : i = mt M := by omega
            subst et
            refine lv_aload_n cx.1 cx.2.1 dX7_readNames_164 rfl (lv_at hl 0 rfl) ?_
            refine va_get (ci := 6) (C := RX7) (T := TX7) (N := 7) (v := .ref (ad 1)) cx.1 cx.2.1 cx.2.2.2.2 iw_X7_readNames_X7 cx.2.2.2.1 hK hP 0 rfl rfl 0 (by decide) (cx.2.2.2.2 _ fw_X7_readNames_f7) (fun _ h9 => h9) rfl dX7_readNames_165 ?_
            refine lv_iconst (v := nI 4) cx.1 cx.2.1 dX7_readNames_168 (by decide) ?_
            refine lv_dup2_11 cx.1 cx.2.1 dX7_readNames_169 rfl rfl ?_
            refine nv_iald (j := 4) cx hK hP 1 1 rfl rfl (by omega) (by decide) dX7_readNames_170 ?_
            refine nv_eqi (y := nI (mn (M 0))) ((mRw_lo M (by decide) _).trans hok.n) ?_
            refine lv_iload_n cx.1 cx.2.1 dX7_readNames_171 rfl (lv_at hl 2 rfl) ?_
            refine nv_iadd cx (a := mn (M 0)) (b := mNm M (mt M)) dX7_readNames_172 ?_
            refine nv_iast (j := 4) (x := nI (mn (M 0) + (mNm M (mt M)))) cx hK hP hD hS 1 1 rfl rfl (by omega) (by decide) dX7_readNames_173 (ws1 := mdC G ad (va_up (va_up (mRec M) 0 (mRw M (mt M))) 0 (upd ((va_up (mRec M) 0 (mRw M (mt M))) 0) 4 (nI (mn (M 0) + (mNm M (mt M))))))) rfl (fun H locs hP hD hS => ?_)
            refine lv_iload_n cx.1 cx.2.1 dX7_readNames_174 rfl (lv_at hl 2 rfl) ?_
            exact WR.ret (x := nI (mNm M (mt M))) cx hr hlocks dX7_readNames_175 (by exact (congrArg (fun q : mR => q.1) (mReadN_go hfl h20)).symm) (by rw [mReadN_go hfl h20]; exact hP) hS
          · refine lv_aload_n cx.1 cx.2.1 dX7_readNames_86 rfl (lv_at hl 0 rfl) ?_
            refine va_get (ci := 6) (C := RX7) (T := TX7) (N := 7) (v := .ref (ad 4)) cx.1 cx.2.1 cx.2.2.2.2 iw_X7_readNames_X7 cx.2.2.2.1 hK hP 0 rfl rfl 6 (by decide) (cx.2.2.2.2 _ fw_X7_readNames_f19) (fun _ h9 => h9) rfl dX7_readNames_87 ?_
            refine lv_iload cx.1 cx.2.1 dX7_readNames_90 (lv_at hl 4 rfl) ?_
            refine nv_cald (j := i) cx hK hP 4 0 rfl rfl (by omega) (by decide) dX7_readNames_92 ?_
            refine lv_bipush (v := nI 59) cx.1 cx.2.1 dX7_readNames_93 (by decide) ?_
            refine lv_icmp_ne (x := ((va_up (mRec M) 0 (mRw M i)) 3) i) (y := 59) (tgt := 122) cx.1 cx.2.1 dX7_readNames_95 (by decide) (fun c_4 => ?_) (fun c_4 => ?_)
            · have h59 : ¬ M 3 i = 59 := c_4
              have hs16 : (mSc M i).1 + 1 ≤ 16 := by have q := mSc16 M (i := i + 1) (fun j hj => hbad j (by omega)); rw [mSc_n h59] at q; exact q
              refine lv_aload_n cx.1 cx.2.1 dX7_readNames_122 rfl (lv_at hl 0 rfl) ?_
              refine va_get (ci := 6) (C := RX7) (T := TX7) (N := 7) (v := .ref (ad 1)) cx.1 cx.2.1 cx.2.2.2.2 iw_X7_readNames_X7 cx.2.2.2.1 hK hP 0 rfl rfl 0 (by decide) (cx.2.2.2.2 _ fw_X7_readNames_f7) (fun _ h9 => h9) rfl dX7_readNames_123 ?_
              refine lv_iload_n cx.1 cx.2.1 dX7_readNames_126 rfl (lv_at hl 3 rfl) ?_
              refine lv_iconst (v := nI 2) cx.1 cx.2.1 dX7_readNames_127 (by decide) ?_
              refine nv_iadd cx (a := mCe M i) (b := 2) dX7_readNames_128 ?_
              refine lv_aload_n cx.1 cx.2.1 dX7_readNames_129 rfl (lv_at hl 0 rfl) ?_
              refine va_get (ci := 6) (C := RX7) (T := TX7) (N := 7) (v := .ref (ad 1)) cx.1 cx.2.1 cx.2.2.2.2 iw_X7_readNames_X7 cx.2.2.2.1 hK hP 0 rfl rfl 0 (by decide) (cx.2.2.2.2 _ fw_X7_readNames_f7) (fun _ h9 => h9) rfl dX7_readNames_130 ?_
              refine lv_iload_n cx.1 cx.2.1 dX7_readNames_133 rfl (lv_at hl 3 rfl) ?_
              refine lv_iconst (v := nI 0) cx.1 cx.2.1 dX7_readNames_134 (by decide) ?_
              refine nv_iadd cx (a := mCe M i) (b := 0) dX7_readNames_135 ?_
              refine nv_iald (j := mCe M i + 0) cx hK hP 1 1 rfl rfl (by omega) (by decide) dX7_readNames_136 ?_
              refine nv_eqi (y := nI ((mSc M i).1)) (mRw_L M i) ?_
              refine nv_iadd cx (a := mCe M i + 2) (b := (mSc M i).1) dX7_readNames_137 ?_
              refine lv_aload_n cx.1 cx.2.1 dX7_readNames_138 rfl (lv_at hl 0 rfl) ?_
              refine va_get (ci := 6) (C := RX7) (T := TX7) (N := 7) (v := .ref (ad 4)) cx.1 cx.2.1 cx.2.2.2.2 iw_X7_readNames_X7 cx.2.2.2.1 hK hP 0 rfl rfl 6 (by decide) (cx.2.2.2.2 _ fw_X7_readNames_f19) (fun _ h9 => h9) rfl dX7_readNames_139 ?_
              refine lv_iload cx.1 cx.2.1 dX7_readNames_142 (lv_at hl 4 rfl) ?_
              refine nv_cald (j := i) cx hK hP 4 0 rfl rfl (by omega) (by decide) dX7_readNames_144 ?_
              refine nv_iast (j := mCe M i + 2 + ((mSc M i).1)) (x := ((va_up (mRec M) 0 (mRw M i)) 3) i) cx hK hP hD hS 1 1 rfl rfl (by omega) (by decide) dX7_readNames_145 (ws1 := mdC G ad (va_up (va_up (mRec M) 0 (mRw M i)) 0 (upd ((va_up (mRec M) 0 (mRw M i)) 0) (mCe M i + 2 + ((mSc M i).1)) (((va_up (mRec M) 0 (mRw M i)) 3) i)))) rfl (fun H locs hP hD hS => ?_)
              refine lv_aload_n cx.1 cx.2.1 dX7_readNames_146 rfl (lv_at hl 0 rfl) ?_
              refine va_get (ci := 6) (C := RX7) (T := TX7) (N := 7) (v := .ref (ad 1)) cx.1 cx.2.1 cx.2.2.2.2 iw_X7_readNames_X7 cx.2.2.2.1 hK hP 0 rfl rfl 0 (by decide) (cx.2.2.2.2 _ fw_X7_readNames_f7) (fun _ h9 => h9) rfl dX7_readNames_147 ?_
              refine lv_iload_n cx.1 cx.2.1 dX7_readNames_150 rfl (lv_at hl 3 rfl) ?_
              refine lv_iconst (v := nI 0) cx.1 cx.2.1 dX7_readNames_151 (by decide) ?_
              refine nv_iadd cx (a := mCe M i) (b := 0) dX7_readNames_152 ?_
              refine lv_dup2_11 cx.1 cx.2.1 dX7_readNames_153 rfl rfl ?_
              refine nv_iald (j := mCe M i + 0) cx hK hP 1 1 rfl rfl (by omega) (by decide) dX7_readNames_154 ?_
              refine nv_eqi (y := nI ((mSc M i).1)) (by show upd _ _ _ _ = _; unfold upd; rw [if_neg (by omega)]; exact mRw_L M i) ?_
              refine lv_iconst (v := nI 1) cx.1 cx.2.1 dX7_readNames_155 (by decide) ?_
              refine nv_iadd cx (a := (mSc M i).1) (b := 1) dX7_readNames_156 ?_
              refine nv_iast (j := mCe M i + 0) (x := nI ((mSc M i).1 + 1)) cx hK hP hD hS 1 1 rfl rfl (by omega) (by decide) dX7_readNames_157 (ws1 := mdC G ad (va_up (va_up (va_up (mRec M) 0 (mRw M i)) 0 (upd ((va_up (mRec M) 0 (mRw M i)) 0) (mCe M i + 2 + ((mSc M i).1)) (((va_up (mRec M) 0 (mRw M i)) 3) i))) 0 (upd ((va_up (va_up (mRec M) 0 (mRw M i)) 0 (upd ((va_up (mRec M) 0 (mRw M i)) 0) (mCe M i + 2 + ((mSc M i).1)) (((va_up (mRec M) 0 (mRw M i)) 3) i))) 0) (mCe M i + 0) (nI ((mSc M i).1 + 1))))) rfl (fun H locs hP hD hS => ?_)
              refine lv_iinc (v := nI (i + 1)) (lv' := [(4, .int (nI (i + 1))), (0, .ref (ad 0)), (1, .int (mFault M)), (2, .int (nI (mNm M (mt M)))), (3, .int (nI (mCe M i)))]) cx.1 cx.2.1 dX7_readNames_158 hl (k := 4) rfl (show nI i + Int32.ofInt 1 = nI (i + 1) from nI_add i 1) (by decide) rfl (fun ls hl => ?_)
              refine lv_goto (tgt := 77) cx.1 cx.2.1 dX7_readNames_161 (by decide) ?_
              have e3 : nI (mCe M (i + 1)) = nI (mCe M i) := by first | rw [mCe_p h59] | rw [mCe_n h59]
              exact ih77 (i + 1) (by omega) (by omega) _ _ (by rw [mRw_s]; first | (rw [if_pos h59]; exact hP) | (rw [if_neg h59]; exact hP)) (hD.fst rfl) hS ls (lv_sub hl [1, 2, 3, 4, 0] (by rw [e3]; rfl))
            · have h59 : M 3 i = 59 := c_4
              have hce2 := mCe_eq M (i + 1)
              rw [mCe_p h59] at hce2
              have hm2 := mNm_mono M (show i + 1 ≤ mt M by omega)
              refine lv_iinc (v := nI (mCe M i + 18)) (lv' := [(3, .int (nI (mCe M i + 18))), (0, .ref (ad 0)), (1, .int (mFault M)), (2, .int (nI (mNm M (mt M)))), (4, .int (nI i))]) cx.1 cx.2.1 dX7_readNames_98 hl (k := 3) rfl (show nI (mCe M i) + Int32.ofInt 18 = nI (mCe M i + 18) from nI_add (mCe M i) 18) (by decide) rfl (fun ls hl => ?_)
              refine lv_aload_n cx.1 cx.2.1 dX7_readNames_101 rfl (lv_at hl 1 rfl) ?_
              refine va_get (ci := 6) (C := RX7) (T := TX7) (N := 7) (v := .ref (ad 1)) cx.1 cx.2.1 cx.2.2.2.2 iw_X7_readNames_X7 cx.2.2.2.1 hK hP 0 rfl rfl 0 (by decide) (cx.2.2.2.2 _ fw_X7_readNames_f7) (fun _ h9 => h9) rfl dX7_readNames_102 ?_
              refine lv_iload_n cx.1 cx.2.1 dX7_readNames_105 rfl (lv_at hl 0 rfl) ?_
              refine lv_iconst (v := nI 0) cx.1 cx.2.1 dX7_readNames_106 (by decide) ?_
              refine nv_iadd cx (a := mCe M i + 18) (b := 0) dX7_readNames_107 ?_
              refine lv_iconst (v := nI 0) cx.1 cx.2.1 dX7_readNames_108 (by decide) ?_
              refine nv_iast (j := mCe M i + 18 + 0) (x := 0) cx hK hP hD hS 1 1 rfl rfl (by omega) (by decide) dX7_readNames_109 (ws1 := mdC G ad (va_up (va_up (mRec M) 0 (mRw M i)) 0 (upd ((va_up (mRec M) 0 (mRw M i)) 0) (mCe M i + 18 + 0) 0))) rfl (fun H locs hP hD hS => ?_)
              refine lv_aload_n cx.1 cx.2.1 dX7_readNames_110 rfl (lv_at hl 1 rfl) ?_
              refine va_get (ci := 6) (C := RX7) (T := TX7) (N := 7) (v := .ref (ad 1)) cx.1 cx.2.1 cx.2.2.2.2 iw_X7_readNames_X7 cx.2.2.2.1 hK hP 0 rfl rfl 0 (by decide) (cx.2.2.2.2 _ fw_X7_readNames_f7) (fun _ h9 => h9) rfl dX7_readNames_111 ?_
              refine lv_iload_n cx.1 cx.2.1 dX7_readNames_114 rfl (lv_at hl 0 rfl) ?_
              refine lv_iconst (v := nI 1) cx.1 cx.2.1 dX7_readNames_115 (by decide) ?_
              refine nv_iadd cx (a := mCe M i + 18) (b := 1) dX7_readNames_116 ?_
              refine lv_iconst (v := nI 0) cx.1 cx.2.1 dX7_readNames_117 (by decide) ?_
              refine nv_iast (j := mCe M i + 18 + 1) (x := 0) cx hK hP hD hS 1 1 rfl rfl (by omega) (by decide) dX7_readNames_118 (ws1 := mdC G ad (va_up (va_up (va_up (mRec M) 0 (mRw M i)) 0 (upd ((va_up (mRec M) 0 (mRw M i)) 0) (mCe M i + 18 + 0) 0)) 0 (upd ((va_up (va_up (mRec M) 0 (mRw M i)) 0 (upd ((va_up (mRec M) 0 (mRw M i)) 0) (mCe M i + 18 + 0) 0)) 0) (mCe M i + 18 + 1) 0))) rfl (fun H locs hP hD hS => ?_)
              refine lv_goto (tgt := 158) cx.1 cx.2.1 dX7_readNames_119 (by decide) ?_
              refine lv_iinc (v := nI (i + 1)) (lv' := [(4, .int (nI (i + 1))), (3, .int (nI (mCe M i + 18))), (0, .ref (ad 0)), (1, .int (mFault M)), (2, .int (nI (mNm M (mt M))))]) cx.1 cx.2.1 dX7_readNames_158 hl (k := 4) rfl (show nI i + Int32.ofInt 1 = nI (i + 1) from nI_add i 1) (by decide) rfl (fun ls hl => ?_)
              refine lv_goto (tgt := 77) cx.1 cx.2.1 dX7_readNames_161 (by decide) ?_
              have e3 : nI (mCe M (i + 1)) = nI (mCe M i + 18) := by first | rw [mCe_p h59] | rw [mCe_n h59]
              exact ih77 (i + 1) (by omega) (by omega) _ _ (by rw [mRw_s]; first | (rw [if_pos h59]; exact hP) | (rw [if_neg h59]; exact hP)) (hD.fst rfl) hS ls (lv_sub hl [2, 3, 4, 1, 0] (by rw [e3]; rfl))
      exact lp77 _ 0 (Nat.lt_succ_self _) (by omega) H locs hP (hD.fst rfl) hS ls (lv_sub hl [4, 3, 2, 1, 0] rfl)
    · have h20 : ¬ mn (M 0) + mNm M (mt M) ≤ 20 := by omega
      refine lv_sipush (v := (-1003)) cx.1 cx.2.1 dX7_readNames_35 (by decide) ?_
      exact WR.ret (x := (-1003)) cx hr hlocks dX7_readNames_38 (by exact (congrArg (fun q : mR => q.1) (mReadN_n hfl h20)).symm) (by rw [mReadN_n hfl h20]; exact hP) hS
  · have hfl := c_1
    refine lv_bipush (v := (-100)) cx.1 cx.2.1 dX7_readNames_12 (by decide) ?_
    refine lv_iload_n cx.1 cx.2.1 dX7_readNames_14 rfl (lv_at hl 0 rfl) ?_
    refine lv_isub (x := (-100)) (y := mFault M) cx.1 cx.2.1 dX7_readNames_15 ?_
    exact WR.ret (x := (-100) - (mFault M)) cx hr hlocks dX7_readNames_16 (by exact (congrArg (fun q : mR => q.1) (mReadN_f hfl)).symm) (by rw [mReadN_f hfl]; exact hP) hS
